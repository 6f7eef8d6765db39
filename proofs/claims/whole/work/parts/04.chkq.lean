/-! the rows of methods 81 to 135 are the program's -/
set_option maxRecDepth 100000 in
theorem ok_81 : okR 81 95 = true := by decide +kernel
set_option maxRecDepth 100000 in
theorem ok_95 : okR 95 110 = true := by decide +kernel
set_option maxRecDepth 100000 in
theorem ok_110 : okR 110 123 = true := by decide +kernel
set_option maxRecDepth 100000 in
theorem ok_123 : okR 123 136 = true := by decide +kernel
