/-! the law's own rows -/
def okS (a n : Nat) : Bool := (List.range n).all fun k => okE 232 (a + k)
set_option maxRecDepth 100000 in
theorem okS_0 : okS 0 90 = true := by decide +kernel
set_option maxRecDepth 100000 in
theorem okS_90 : okS 90 90 = true := by decide +kernel
set_option maxRecDepth 100000 in
theorem okS_180 : okS 180 90 = true := by decide +kernel
set_option maxRecDepth 100000 in
theorem okS_270 : okS 270 90 = true := by decide +kernel
set_option maxRecDepth 100000 in
theorem okS_360 : okS 360 90 = true := by decide +kernel
set_option maxRecDepth 100000 in
theorem okS_450 : okS 450 90 = true := by decide +kernel
set_option maxRecDepth 100000 in
theorem okS_540 : okS 540 90 = true := by decide +kernel
set_option maxRecDepth 100000 in
theorem okS_630 : okS 630 90 = true := by decide +kernel
set_option maxRecDepth 100000 in
theorem okS_720 : okS 720 90 = true := by decide +kernel
set_option maxRecDepth 100000 in
theorem okS_810 : okS 810 90 = true := by decide +kernel
set_option maxRecDepth 100000 in
theorem okS_900 : okS 900 90 = true := by decide +kernel
set_option maxRecDepth 100000 in
theorem okS_990 : okS 990 82 = true := by decide +kernel
