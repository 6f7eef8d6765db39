/-! the rows of methods 0 to 80 are the program's -/
set_option maxRecDepth 100000 in
theorem ok_0 : okR 0 40 = true := by decide +kernel
set_option maxRecDepth 100000 in
theorem ok_40 : okR 40 60 = true := by decide +kernel
set_option maxRecDepth 100000 in
theorem ok_60 : okR 60 81 = true := by decide +kernel
