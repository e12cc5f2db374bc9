-- THE LAW: a part of its code is the class file's
set_option maxRecDepth 100000 in
theorem ckL_18 : ckR 8 4 1 code cdL 18 20 = true := by decide +kernel
