-- THE LAW: a part of its code is the class file's
set_option maxRecDepth 100000 in
theorem ckL_618 : ckR 8 4 1 code cdL 618 20 = true := by decide +kernel
set_option maxRecDepth 100000 in
theorem ckL_638 : ckR 8 4 1 code cdL 638 20 = true := by decide +kernel
set_option maxRecDepth 100000 in
theorem ckL_658 : ckR 8 4 1 code cdL 658 20 = true := by decide +kernel
set_option maxRecDepth 100000 in
theorem ckL_678 : ckR 8 4 1 code cdL 678 20 = true := by decide +kernel
set_option maxRecDepth 100000 in
theorem ckL_698 : ckR 8 4 1 code cdL 698 20 = true := by decide +kernel
