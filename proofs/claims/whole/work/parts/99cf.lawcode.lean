-- THE LAW: a part of its code is the class file's
set_option maxRecDepth 100000 in
theorem ckL_518 : ckR 8 4 1 code cdL 518 20 = true := by decide +kernel
set_option maxRecDepth 100000 in
theorem ckL_538 : ckR 8 4 1 code cdL 538 20 = true := by decide +kernel
set_option maxRecDepth 100000 in
theorem ckL_558 : ckR 8 4 1 code cdL 558 20 = true := by decide +kernel
set_option maxRecDepth 100000 in
theorem ckL_578 : ckR 8 4 1 code cdL 578 20 = true := by decide +kernel
set_option maxRecDepth 100000 in
theorem ckL_598 : ckR 8 4 1 code cdL 598 20 = true := by decide +kernel
