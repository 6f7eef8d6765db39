/-! THE TAPE'S TOKENS, the reference: look -/
def fgT (n : Nat) (b : Nat → Nat) (t : Nat × Nat × Nat) : Nat := if t.1 = 2 then fgs b t.2.1 (n - t.2.1) t.2.1 0 else 0
theorem fgT_no (n : Nat) (b : Nat → Nat) {k f e : Nat} (h : k ≠ 2) : fgT n b (k, f, e) = 0 := if_neg h
theorem fgT_yes (n : Nat) (b : Nat → Nat) (f e : Nat) : fgT n b (2, f, e) = fgs b f (n - f) f 0 := if_pos rfl
def ATk (h : AH) (A n : Nat) (b : Nat → Nat) (t : Nat × Nat × Nat) : Prop := hI h A 25 = nI t.1 ∧ hI h A 26 = nI t.2.1 ∧ hI h A 24 = nI t.2.2 ∧ hI h A 27 = nI (fgT n b t)
theorem n167e (d : Nat) {H : AH} {A n f : Nat} {b : Nat → Nat} (qB : AP H A n b) (fl : f ≤ n) (g4 : hI H A 24 = nI f) (g6 : hI H A 26 = nI f) (g7 : hI H A 27 = nI 0) (z' : f = n) : ∃ h', E (d + 1) 167 26 [some (.ref A)] [] H = some (none, h') ∧ AF A H h' ∧ ATk h' A n b (0, f, f) := by
  have n5 := qB.2.2.2.2.1
  obtain ⟨c1, c2, c3, c4, c5, c6⟩ := id qB
  refine ⟨stI H A 25 (nI 0), ?_, AF.st _ (by decide) _, ?_, ?_, ?_, ?_⟩
  · simp (disch := omega) only [s167_26, s167_27, s167_28, s167_29, s167_30, s167_31, s167_32, s167_33, s167_34, s167_134, ↓reduceIte, Option.bind_some, Option.toList_some, Option.toList_none, List.cons_append, List.nil_append, if_true, if_false, true_or, or_true, true_and, and_true, not_true_eq_false, not_false_eq_true, Nat.reduceLT, Nat.reduceLeDiff, Nat.reduceEqDiff, Nat.reduceAdd, Nat.reduceMul, Nat.reduceSub, Nat.reducePow, Nat.reduceMod, Nat.reduceDiv, l0, l1, l2, l3, l4, l5, l6, l7, l8, l9, l10, l11, l12, l13, l14, l15, l16, l20, l31, l32, l36, l40, l48, l57, l59, l63, l64, l97, l99, l100, l101, l122, l127, l128, l250, l255, l262143, l262144, l30000, l100000, l12345, l1024, l4095, nI_eqs, nI_les, nI_lts, qI_eq, qI_eqn, nI_eqq, qI_lts, nI_ltp, nI_lep, qI_les, nI_add, nI_mul, qI_add, qI_s, qI_def, nI_clamps, bI_z, bI_o, bI_01, n01, n11, rf_some, rf_none, m1, m1n, bft, c1, c4, g4, z']
  · rw [hI_stI, if_pos ⟨rfl, rfl⟩]
  · rw [hI_stI, if_neg (fun w => by omega)]; exact g6
  · rw [hI_stI, if_neg (fun w => by omega)]; exact g4
  · rw [fgT_no n b (by decide), hI_stI, if_neg (fun w => by omega)]; exact g7
theorem n167o (d : Nat) {H : AH} {A n f : Nat} {b : Nat → Nat} (qB : AP H A n b) (fl : f ≤ n) (g4 : hI H A 24 = nI f) (g6 : hI H A 26 = nI f) (g7 : hI H A 27 = nI 0) (z2 : f < n) (cl : isL (b f) = false) (cd : isD (b f) = false) : ∃ h', E (d + 1) 167 26 [some (.ref A)] [] H = some (none, h') ∧ AF A H h' ∧ ATk h' A n b (if b f = 59 then 3 else 4, f, f + 1) := by
  have n5 := qB.2.2.2.2.1
  obtain ⟨c1, c2, c3, c4, c5, c6⟩ := id qB
  have z' : ¬ f = n := by omega
  obtain ⟨b1, b2⟩ := c6 f z2
  have e165 := m165 d H b2
  have e166 := m166 d H b2
  rw [cl] at e165
  rw [cd] at e166
  by_cases s59 : b f = 59
  · rw [if_pos s59]
    rw [s59] at e165 e166 b1
    refine ⟨stI (stI H A 25 (nI 3)) A 24 (nI (f + 1)), ?_, (AF.st _ (by decide) _).trans (AF.st _ (by decide) _), ?_, ?_, ?_, ?_⟩
    · simp (disch := omega) only [s167_26, s167_27, s167_28, s167_29, s167_30, s167_35, s167_36, s167_37, s167_38, s167_39, s167_40, s167_41, s167_64, s167_65, s167_66, s167_67, s167_68, s167_69, s167_70, s167_116, s167_117, s167_118, s167_119, s167_120, s167_121, s167_122, s167_123, s167_124, s167_125, s167_126, s167_127, s167_128, s167_129, s167_130, s167_131, s167_132, s167_133, s167_134, ↓reduceIte, Option.bind_some, Option.toList_some, Option.toList_none, List.cons_append, List.nil_append, if_true, if_false, true_or, or_true, true_and, and_true, not_true_eq_false, not_false_eq_true, Nat.reduceLT, Nat.reduceLeDiff, Nat.reduceEqDiff, Nat.reduceAdd, Nat.reduceMul, Nat.reduceSub, Nat.reducePow, Nat.reduceMod, Nat.reduceDiv, l0, l1, l2, l3, l4, l5, l6, l7, l8, l9, l10, l11, l12, l13, l14, l15, l16, l20, l31, l32, l36, l40, l48, l57, l59, l63, l64, l97, l99, l100, l101, l122, l127, l128, l250, l255, l262143, l262144, l30000, l100000, l12345, l1024, l4095, nI_eqs, nI_les, nI_lts, qI_eq, qI_eqn, nI_eqq, qI_lts, nI_ltp, nI_lep, qI_les, nI_add, nI_mul, qI_add, qI_s, qI_def, nI_clamps, bI_z, bI_o, bI_01, n01, n11, rf_some, rf_none, m1, m1n, bft, ad1, ad2, hI_stI, hS_stI, hR_stI, hL_stI, alen_stI, hI_stL, hL_stL, hS_stL, hR_stL, alen_stL, false_and, and_false, and_self, eq_self, c1, c2, gI c3, c4, g4, z', b1, e165, e166, bI_f]
    · rw [hI_stI, if_neg (fun w => by omega), hI_stI, if_pos ⟨rfl, rfl⟩]
    · rw [hI_stI, if_neg (fun w => by omega), hI_stI, if_neg (fun w => by omega)]; exact g6
    · rw [hI_stI, if_pos ⟨rfl, rfl⟩]
    · rw [fgT_no n b (by decide), hI_stI, if_neg (fun w => by omega), hI_stI, if_neg (fun w => by omega)]; exact g7
  · rw [if_neg s59]
    refine ⟨stI (stI H A 25 (nI 4)) A 24 (nI (f + 1)), ?_, (AF.st _ (by decide) _).trans (AF.st _ (by decide) _), ?_, ?_, ?_, ?_⟩
    · simp (disch := omega) only [s167_26, s167_27, s167_28, s167_29, s167_30, s167_35, s167_36, s167_37, s167_38, s167_39, s167_40, s167_41, s167_64, s167_65, s167_66, s167_67, s167_68, s167_69, s167_70, s167_116, s167_117, s167_118, s167_119, s167_120, s167_121, s167_122, s167_123, s167_124, s167_125, s167_126, s167_127, s167_128, s167_129, s167_130, s167_131, s167_132, s167_133, s167_134, ↓reduceIte, Option.bind_some, Option.toList_some, Option.toList_none, List.cons_append, List.nil_append, if_true, if_false, true_or, or_true, true_and, and_true, not_true_eq_false, not_false_eq_true, Nat.reduceLT, Nat.reduceLeDiff, Nat.reduceEqDiff, Nat.reduceAdd, Nat.reduceMul, Nat.reduceSub, Nat.reducePow, Nat.reduceMod, Nat.reduceDiv, l0, l1, l2, l3, l4, l5, l6, l7, l8, l9, l10, l11, l12, l13, l14, l15, l16, l20, l31, l32, l36, l40, l48, l57, l59, l63, l64, l97, l99, l100, l101, l122, l127, l128, l250, l255, l262143, l262144, l30000, l100000, l12345, l1024, l4095, nI_eqs, nI_les, nI_lts, qI_eq, qI_eqn, nI_eqq, qI_lts, nI_ltp, nI_lep, qI_les, nI_add, nI_mul, qI_add, qI_s, qI_def, nI_clamps, bI_z, bI_o, bI_01, n01, n11, rf_some, rf_none, m1, m1n, bft, ad1, ad2, hI_stI, hS_stI, hR_stI, hL_stI, alen_stI, hI_stL, hL_stL, hS_stL, hR_stL, alen_stL, false_and, and_false, and_self, eq_self, c1, c2, gI c3, c4, g4, z', b1, e165, e166, bI_f, s59]
    · rw [hI_stI, if_neg (fun w => by omega), hI_stI, if_pos ⟨rfl, rfl⟩]
    · rw [hI_stI, if_neg (fun w => by omega), hI_stI, if_neg (fun w => by omega)]; exact g6
    · rw [hI_stI, if_pos ⟨rfl, rfl⟩]
    · rw [fgT_no n b (by decide), hI_stI, if_neg (fun w => by omega), hI_stI, if_neg (fun w => by omega)]; exact g7
theorem n167w (d : Nat) {H : AH} {A n f : Nat} {b : Nat → Nat} (qB : AP H A n b) (fl : f ≤ n) (g4 : hI H A 24 = nI f) (g6 : hI H A 26 = nI f) (g7 : hI H A 27 = nI 0) (z2 : f < n) (cl : isL (b f) = true) : ∃ h', E (d + 1) 167 26 [some (.ref A)] [] H = some (none, h') ∧ AF A H h' ∧ ATk h' A n b (1, f, spn isL b (n - f) f) := by
  have n5 := qB.2.2.2.2.1
  obtain ⟨c1, c2, c3, c4, c5, c6⟩ := id qB
  have z' : ¬ f = n := by omega
  obtain ⟨b1, b2⟩ := c6 f z2
  have e165 := m165 d H b2
  have e166 := m166 d H b2
  rw [cl] at e165
  have g4' : hI (stI H A 25 (nI 1)) A 24 = nI f := by rw [hI_stI, if_neg (fun w => by omega)]; exact g4
  have eC := n167b d (n - f) f (stI H A 25 (nI 1)) (by omega) (qB.st (by decide) _) g4'
  refine ⟨stI (stI H A 25 (nI 1)) A 24 (nI (spn isL b (n - f) f)), ?_, (AF.st _ (by decide) _).trans (AF.st _ (by decide) _), ?_, ?_, ?_, ?_⟩
  · simp (disch := omega) only [s167_26, s167_27, s167_28, s167_29, s167_30, s167_35, s167_36, s167_37, s167_38, s167_39, s167_40, s167_41, s167_42, s167_43, s167_44, ↓reduceIte, Option.bind_some, Option.toList_some, Option.toList_none, List.cons_append, List.nil_append, if_true, if_false, true_or, or_true, true_and, and_true, not_true_eq_false, not_false_eq_true, Nat.reduceLT, Nat.reduceLeDiff, Nat.reduceEqDiff, Nat.reduceAdd, Nat.reduceMul, Nat.reduceSub, Nat.reducePow, Nat.reduceMod, Nat.reduceDiv, l0, l1, l2, l3, l4, l5, l6, l7, l8, l9, l10, l11, l12, l13, l14, l15, l16, l20, l31, l32, l36, l40, l48, l57, l59, l63, l64, l97, l99, l100, l101, l122, l127, l128, l250, l255, l262143, l262144, l30000, l100000, l12345, l1024, l4095, nI_eqs, nI_les, nI_lts, qI_eq, qI_eqn, nI_eqq, qI_lts, nI_ltp, nI_lep, qI_les, nI_add, nI_mul, qI_add, qI_s, qI_def, nI_clamps, bI_z, bI_o, bI_01, n01, n11, rf_some, rf_none, m1, m1n, bft, c1, c2, gI c3, c4, g4, z', b1, e165, bI_t, Bool.true_eq_false]
    rw [eC, s167_134]
  · rw [hI_stI, if_neg (fun w => by omega), hI_stI, if_pos ⟨rfl, rfl⟩]
  · rw [hI_stI, if_neg (fun w => by omega), hI_stI, if_neg (fun w => by omega)]; exact g6
  · rw [hI_stI, if_pos ⟨rfl, rfl⟩]
  · rw [fgT_no n b (by decide), hI_stI, if_neg (fun w => by omega), hI_stI, if_neg (fun w => by omega)]; exact g7
