-- THE LAW: a part of its code is the class file's
set_option maxRecDepth 100000 in
theorem ckL_18 : ckR 8 4 1 code cdL 18 20 = true := by decide +kernel
set_option maxRecDepth 100000 in
theorem ckL_38 : ckR 8 4 1 code cdL 38 20 = true := by decide +kernel
set_option maxRecDepth 100000 in
theorem ckL_58 : ckR 8 4 1 code cdL 58 20 = true := by decide +kernel
set_option maxRecDepth 100000 in
theorem ckL_78 : ckR 8 4 1 code cdL 78 20 = true := by decide +kernel
set_option maxRecDepth 100000 in
theorem ckL_98 : ckR 8 4 1 code cdL 98 20 = true := by decide +kernel
