/-! REFUSALS of calls -/
def rN (k : Nat) : Int32 := -nI k
theorem rN_def (k : Nat) : -nI k = rN k := rfl
theorem r26 {k : Nat} (h : 2 ≤ k) (h' : k ≤ 6) : k = 2 ∨ k = 3 ∨ k = 4 ∨ k = 5 ∨ k = 6 := by omega
theorem x131 (d : Nat) {h : AH} {B rb : Nat} (z0 : hS h B = some (104, 0)) (r0 : hR h B 7 = some rb) (z1 : hS h rb = some (0, 5)) {k : Nat} (h2 : 2 ≤ k) (h6 : k ≤ 6) : E d 131 0 [some (.ref B), some (.int (rN k))] [] h = some (some (.int (rN k)), stI h rb (k - 2) (hI h rb (k - 2) + nI 1)) := by
  have l1 : (rN k ≤ -2) = True := by rcases r26 h2 h6 with rfl | rfl | rfl | rfl | rfl <;> decide
  have l2 : (-6 ≤ rN k) = True := by rcases r26 h2 h6 with rfl | rfl | rfl | rfl | rfl <;> decide
  have l3 : (-2 < rN k) = False := by rcases r26 h2 h6 with rfl | rfl | rfl | rfl | rfl <;> decide
  have l4 : (rN k < -6) = False := by rcases r26 h2 h6 with rfl | rfl | rfl | rfl | rfl <;> decide
  have l5 : -2 - rN k = nI (k - 2) := by rcases r26 h2 h6 with rfl | rfl | rfl | rfl | rfl <;> decide
  have hk : k - 2 < 5 := by omega
  simp (disch := omega) only [s131_0, s131_1, s131_2, s131_3, s131_4, s131_5, s131_6, s131_7, s131_8, s131_9, s131_10, s131_11, s131_12, s131_13, s131_14, s131_15, s131_16, s131_17, ↓reduceIte, Option.bind_some, Option.toList_some, Option.toList_none, List.cons_append, List.nil_append, if_true, if_false, true_or, or_true, true_and, and_true, not_true_eq_false, not_false_eq_true, Nat.reduceLT, Nat.reduceLeDiff, Nat.reduceEqDiff, Nat.reduceAdd, Nat.reduceMul, Nat.reduceSub, Nat.reducePow, Nat.reduceMod, Nat.reduceDiv, l1, l2, l3, l4, l5, z0, r0, rf_some, nI_clamps, gI z1, gA z1, zz_l1]
theorem m136 (d : Nat) {h : AH} {a : Nat} (z0 : hS h a = some (105, 0)) (r0 : hR h a 8 = some (a + 16)) (z1 : hS h (a + 16) = some (0, 8)) {k : Nat} (h2 : 2 ≤ k) (h6 : k ≤ 6) : E d 136 0 [some (.ref a), some (.int (rN k))] [] h = some (some (.int (rN k)), stI h (a + 16) k (hI h (a + 16) k + nI 1)) := by
  have l5 : -rN k = nI k := by rcases r26 h2 h6 with rfl | rfl | rfl | rfl | rfl <;> decide
  simp (disch := omega) only [s136_0, s136_1, s136_2, s136_3, s136_4, s136_5, s136_6, s136_7, s136_8, s136_9, s136_10, ↓reduceIte, Option.bind_some, Option.toList_some, Option.toList_none, List.cons_append, List.nil_append, if_true, if_false, true_or, or_true, true_and, and_true, not_true_eq_false, not_false_eq_true, Nat.reduceLT, Nat.reduceLeDiff, Nat.reduceEqDiff, Nat.reduceAdd, Nat.reduceMul, Nat.reduceSub, Nat.reducePow, Nat.reduceMod, Nat.reduceDiv, l5, z0, r0, rf_some, nI_clamps, gI z1, gA z1, zz_l1]
