/-! the rows of methods 190 to 231 are the program's -/
set_option maxRecDepth 100000 in
theorem ok_190 : okR 190 200 = true := by decide +kernel
set_option maxRecDepth 100000 in
theorem ok_200 : okR 200 215 = true := by decide +kernel
set_option maxRecDepth 100000 in
theorem ok_215 : okR 215 232 = true := by decide +kernel
