-- THE LAW: a part of its code is the class file's
set_option maxRecDepth 100000 in
theorem ckL_418 : ckR 8 4 1 code cdL 418 20 = true := by decide +kernel
set_option maxRecDepth 100000 in
theorem ckL_438 : ckR 8 4 1 code cdL 438 20 = true := by decide +kernel
set_option maxRecDepth 100000 in
theorem ckL_458 : ckR 8 4 1 code cdL 458 20 = true := by decide +kernel
set_option maxRecDepth 100000 in
theorem ckL_478 : ckR 8 4 1 code cdL 478 20 = true := by decide +kernel
set_option maxRecDepth 100000 in
theorem ckL_498 : ckR 8 4 1 code cdL 498 20 = true := by decide +kernel
