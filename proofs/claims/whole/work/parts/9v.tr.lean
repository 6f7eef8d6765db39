/-! SEARCHES: no way need be long. What refusals can make of a memory, they make in six -/
def fO (o : Nat) (a : Nat × Nat) : Nat × Nat := if 12 ≤ o then a else if letB 0 (o / 3 + 1) 0 a.1 a.2 (o % 3) = true then a else stK (o / 3 + 1) a (o % 3)
def f3O (o1 o2 o3 : Nat) (a : Nat × Nat) (j : Nat) : Nat × Nat := fO (if j = 0 then o1 else if j = 1 then o2 else o3) a
def clO (o1 : Nat) : Bool := (List.range 13).all fun o2 => if o2 < o1 then true else (List.range 13).all fun o3 => if o3 < o2 then true else (List.range 16).all fun a => (rS (f3O o1 o2 o3) 3 6 (2 ^ a) ||| bhT (f3O o1 o2 o3) 3 (rS (f3O o1 o2 o3) 3 6 (2 ^ a)) 16 0 0) == rS (f3O o1 o2 o3) 3 6 (2 ^ a)
set_option maxRecDepth 100000 in
theorem clO_0 : clO 0 = true := by decide +kernel
set_option maxRecDepth 100000 in
theorem clO_1 : clO 1 = true := by decide +kernel
set_option maxRecDepth 100000 in
theorem clO_2 : clO 2 = true := by decide +kernel
set_option maxRecDepth 100000 in
theorem clO_3 : clO 3 = true := by decide +kernel
set_option maxRecDepth 100000 in
theorem clO_4 : clO 4 = true := by decide +kernel
set_option maxRecDepth 100000 in
theorem clO_5 : clO 5 = true := by decide +kernel
set_option maxRecDepth 100000 in
theorem clO_6 : clO 6 = true := by decide +kernel
set_option maxRecDepth 100000 in
theorem clO_7 : clO 7 = true := by decide +kernel
set_option maxRecDepth 100000 in
theorem clO_8 : clO 8 = true := by decide +kernel
set_option maxRecDepth 100000 in
theorem clO_9 : clO 9 = true := by decide +kernel
set_option maxRecDepth 100000 in
theorem clO_10 : clO 10 = true := by decide +kernel
set_option maxRecDepth 100000 in
theorem clO_11 : clO 11 = true := by decide +kernel
set_option maxRecDepth 100000 in
theorem clO_12 : clO 12 = true := by decide +kernel
theorem clO_t {o : Nat} (h : o < 13) : clO o = true := by
  have : o = 0 ∨ o = 1 ∨ o = 2 ∨ o = 3 ∨ o = 4 ∨ o = 5 ∨ o = 6 ∨ o = 7 ∨ o = 8 ∨ o = 9 ∨ o = 10 ∨ o = 11 ∨ o = 12 := by omega
  rcases this with rfl | rfl | rfl | rfl | rfl | rfl | rfl | rfl | rfl | rfl | rfl | rfl | rfl
  · exact clO_0
  · exact clO_1
  · exact clO_2
  · exact clO_3
  · exact clO_4
  · exact clO_5
  · exact clO_6
  · exact clO_7
  · exact clO_8
  · exact clO_9
  · exact clO_10
  · exact clO_11
  · exact clO_12
theorem clO_a {o1 o2 o3 a : Nat} (h1 : o1 ≤ o2) (h2 : o2 ≤ o3) (h3 : o3 < 13) (ha : a < 16) : rS (f3O o1 o2 o3) 3 6 (2 ^ a) ||| bhT (f3O o1 o2 o3) 3 (rS (f3O o1 o2 o3) 3 6 (2 ^ a)) 16 0 0 = rS (f3O o1 o2 o3) 3 6 (2 ^ a) := by
  have h := clO_t (show o1 < 13 by omega)
  unfold clO at h
  rw [List.all_eq_true] at h
  have h4 := h o2 (List.mem_range.mpr (by omega))
  rw [if_neg (by omega), List.all_eq_true] at h4
  have h5 := h4 o3 (List.mem_range.mpr h3)
  rw [if_neg (by omega), List.all_eq_true] at h5
  exact beq_iff_eq.mp (h5 a (List.mem_range.mpr ha))
