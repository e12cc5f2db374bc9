-- THE LAW: a part of its code is the class file's
set_option maxRecDepth 100000 in
theorem ckL_718 : ckR 8 4 1 code cdL 718 20 = true := by decide +kernel
set_option maxRecDepth 100000 in
theorem ckL_738 : ckR 8 4 1 code cdL 738 20 = true := by decide +kernel
set_option maxRecDepth 100000 in
theorem ckL_758 : ckR 8 4 1 code cdL 758 2 = true := by decide +kernel
