-- THE LAW: a part of its code is the class file's
set_option maxRecDepth 100000 in
theorem ckL_118 : ckR 8 4 1 code cdL 118 20 = true := by decide +kernel
set_option maxRecDepth 100000 in
theorem ckL_138 : ckR 8 4 1 code cdL 138 20 = true := by decide +kernel
set_option maxRecDepth 100000 in
theorem ckL_158 : ckR 8 4 1 code cdL 158 20 = true := by decide +kernel
set_option maxRecDepth 100000 in
theorem ckL_178 : ckR 8 4 1 code cdL 178 20 = true := by decide +kernel
set_option maxRecDepth 100000 in
theorem ckL_198 : ckR 8 4 1 code cdL 198 20 = true := by decide +kernel
