-- THE LAW: a part of its code is the class file's
set_option maxRecDepth 100000 in
theorem ckL_318 : ckR 8 4 1 code cdL 318 20 = true := by decide +kernel
set_option maxRecDepth 100000 in
theorem ckL_338 : ckR 8 4 1 code cdL 338 20 = true := by decide +kernel
set_option maxRecDepth 100000 in
theorem ckL_358 : ckR 8 4 1 code cdL 358 20 = true := by decide +kernel
set_option maxRecDepth 100000 in
theorem ckL_378 : ckR 8 4 1 code cdL 378 20 = true := by decide +kernel
set_option maxRecDepth 100000 in
theorem ckL_398 : ckR 8 4 1 code cdL 398 20 = true := by decide +kernel
