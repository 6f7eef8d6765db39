/-! the rows of methods 136 to 189 are the program's -/
set_option maxRecDepth 100000 in
theorem ok_136 : okR 136 158 = true := by decide +kernel
set_option maxRecDepth 100000 in
theorem ok_158 : okR 158 180 = true := by decide +kernel
set_option maxRecDepth 100000 in
theorem ok_180 : okR 180 190 = true := by decide +kernel
