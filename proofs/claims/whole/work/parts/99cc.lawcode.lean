-- THE LAW: a part of its code is the class file's
set_option maxRecDepth 100000 in
theorem ckL_218 : ckR 8 4 1 code cdL 218 20 = true := by decide +kernel
set_option maxRecDepth 100000 in
theorem ckL_238 : ckR 8 4 1 code cdL 238 20 = true := by decide +kernel
set_option maxRecDepth 100000 in
theorem ckL_258 : ckR 8 4 1 code cdL 258 20 = true := by decide +kernel
set_option maxRecDepth 100000 in
theorem ckL_278 : ckR 8 4 1 code cdL 278 20 = true := by decide +kernel
set_option maxRecDepth 100000 in
theorem ckL_298 : ckR 8 4 1 code cdL 298 20 = true := by decide +kernel
