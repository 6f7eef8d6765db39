/-! THE TAPE'S TOKENS, the reference -/
def fgs (b : Nat → Nat) (fr : Nat) (m i f : Nat) : Nat := match m with
  | 0 => f
  | m + 1 => if isD (b i) = true then fgs b fr m (i + 1) (if i - fr < 2 then f * 10 + b i - 48 else 100000) else f
def AP (h : AH) (A n : Nat) (b : Nat → Nat) : Prop := hS h A = some (105, 0) ∧ hR h A 6 = some (A + 15) ∧ hS h (A + 15) = some (0, 250) ∧ hI h A 7 = nI n ∧ n ≤ 250 ∧ ∀ i, i < n → hI h (A + 15) i = nI (b i) ∧ b i < 256
def AF (A : Nat) (h h' : AH) : Prop := Fr0 (fun a => a = A) h h' ∧ ∀ j, j < 24 ∨ j = 30 → hI h' A j = hI h A j
theorem AF.refl (A : Nat) (h : AH) : AF A h h := ⟨Fr0.refl _ _, fun _ _ => rfl⟩
theorem AF.trans {A : Nat} {h h1 h2 : AH} (f : AF A h h1) (g : AF A h1 h2) : AF A h h2 := ⟨f.1.trans g.1, fun j hj => (g.2 j hj).trans (f.2 j hj)⟩
theorem AF.st {A : Nat} (h : AH) {k : Nat} (hk : 24 ≤ k ∧ k ≠ 30) (v : Int32) : AF A h (stI h A k v) := ⟨Fr0.stI (A := fun a => a = A) _ rfl _ _, fun j hj => by rw [hI_stI, if_neg (fun w => by omega)]⟩
theorem AP.af {h h' : AH} {A n : Nat} {b : Nat → Nat} (q : AP h A n b) (f : AF A h h') : AP h' A n b := by
  obtain ⟨a1, a2, a3, a4, a5, a6⟩ := q
  obtain ⟨⟨f1, f2, f3, f4, f5, f6, f7⟩, g⟩ := f
  exact ⟨by rw [f5]; exact a1, by rw [f6]; exact a2, by rw [f5]; exact a3, by rw [g 7 (by decide)]; exact a4, a5, fun i hi => by rw [(f7 (A + 15) (fun w => by omega) i).1]; exact a6 i hi⟩
theorem AP.st {h : AH} {A n : Nat} {b : Nat → Nat} (q : AP h A n b) {k : Nat} (hk : 24 ≤ k ∧ k ≠ 30) (v : Int32) : AP (stI h A k v) A n b := q.af (AF.st h hk v)
theorem m165 (d : Nat) (h : AH) {c : Nat} (hc : c < 256) : E d 165 0 [some (.int (nI c))] [] h = some (some (.int (bI (isL c))), h) := by
  unfold isL
  by_cases a : 97 ≤ c
  · have a' : ¬ c < 97 := by omega
    by_cases b : c ≤ 122
    · have b' : ¬ 122 < c := by omega
      rw [decide_eq_true ⟨a, b⟩]
      simp (disch := omega) only [s165_0, s165_1, s165_2, s165_3, s165_4, s165_5, s165_6, s165_7, s165_8, s165_9, ↓reduceIte, Option.bind_some, Option.toList_some, Option.toList_none, List.cons_append, List.nil_append, if_true, if_false, true_or, or_true, true_and, and_true, not_true_eq_false, not_false_eq_true, Nat.reduceLT, Nat.reduceLeDiff, Nat.reduceEqDiff, Nat.reduceAdd, Nat.reduceMul, Nat.reduceSub, Nat.reducePow, Nat.reduceMod, Nat.reduceDiv, l0, l1, l2, l3, l4, l5, l6, l7, l8, l9, l10, l11, l12, l13, l14, l15, l16, l20, l31, l32, l36, l40, l48, l57, l59, l63, l64, l97, l99, l100, l101, l122, l127, l128, l250, l255, l262143, l262144, l30000, l100000, l12345, l1024, l4095, nI_eqs, nI_les, nI_lts, qI_eq, qI_eqn, nI_eqq, qI_lts, nI_ltp, nI_lep, qI_les, nI_add, nI_mul, qI_add, qI_s, qI_def, nI_clamps, bI_z, bI_o, bI_01, n01, n11, rf_some, rf_none, m1, m1n, bft, a', b', bI_t]
    · have b' : 122 < c := by omega
      rw [decide_eq_false (fun w => b w.2)]
      simp (disch := omega) only [s165_0, s165_1, s165_2, s165_3, s165_4, s165_5, s165_6, s165_7, s165_8, s165_9, ↓reduceIte, Option.bind_some, Option.toList_some, Option.toList_none, List.cons_append, List.nil_append, if_true, if_false, true_or, or_true, true_and, and_true, not_true_eq_false, not_false_eq_true, Nat.reduceLT, Nat.reduceLeDiff, Nat.reduceEqDiff, Nat.reduceAdd, Nat.reduceMul, Nat.reduceSub, Nat.reducePow, Nat.reduceMod, Nat.reduceDiv, l0, l1, l2, l3, l4, l5, l6, l7, l8, l9, l10, l11, l12, l13, l14, l15, l16, l20, l31, l32, l36, l40, l48, l57, l59, l63, l64, l97, l99, l100, l101, l122, l127, l128, l250, l255, l262143, l262144, l30000, l100000, l12345, l1024, l4095, nI_eqs, nI_les, nI_lts, qI_eq, qI_eqn, nI_eqq, qI_lts, nI_ltp, nI_lep, qI_les, nI_add, nI_mul, qI_add, qI_s, qI_def, nI_clamps, bI_z, bI_o, bI_01, n01, n11, rf_some, rf_none, m1, m1n, bft, a', b', bI_f]
  · have a' : c < 97 := by omega
    rw [decide_eq_false (fun w => a w.1)]
    simp (disch := omega) only [s165_0, s165_1, s165_2, s165_3, s165_4, s165_5, s165_6, s165_7, s165_8, s165_9, ↓reduceIte, Option.bind_some, Option.toList_some, Option.toList_none, List.cons_append, List.nil_append, if_true, if_false, true_or, or_true, true_and, and_true, not_true_eq_false, not_false_eq_true, Nat.reduceLT, Nat.reduceLeDiff, Nat.reduceEqDiff, Nat.reduceAdd, Nat.reduceMul, Nat.reduceSub, Nat.reducePow, Nat.reduceMod, Nat.reduceDiv, l0, l1, l2, l3, l4, l5, l6, l7, l8, l9, l10, l11, l12, l13, l14, l15, l16, l20, l31, l32, l36, l40, l48, l57, l59, l63, l64, l97, l99, l100, l101, l122, l127, l128, l250, l255, l262143, l262144, l30000, l100000, l12345, l1024, l4095, nI_eqs, nI_les, nI_lts, qI_eq, qI_eqn, nI_eqq, qI_lts, nI_ltp, nI_lep, qI_les, nI_add, nI_mul, qI_add, qI_s, qI_def, nI_clamps, bI_z, bI_o, bI_01, n01, n11, rf_some, rf_none, m1, m1n, bft, a', bI_f]
theorem m166 (d : Nat) (h : AH) {c : Nat} (hc : c < 256) : E d 166 0 [some (.int (nI c))] [] h = some (some (.int (bI (isD c))), h) := by
  unfold isD
  by_cases a : 48 ≤ c
  · have a' : ¬ c < 48 := by omega
    by_cases b : c ≤ 57
    · have b' : ¬ 57 < c := by omega
      rw [decide_eq_true ⟨a, b⟩]
      simp (disch := omega) only [s166_0, s166_1, s166_2, s166_3, s166_4, s166_5, s166_6, s166_7, s166_8, s166_9, ↓reduceIte, Option.bind_some, Option.toList_some, Option.toList_none, List.cons_append, List.nil_append, if_true, if_false, true_or, or_true, true_and, and_true, not_true_eq_false, not_false_eq_true, Nat.reduceLT, Nat.reduceLeDiff, Nat.reduceEqDiff, Nat.reduceAdd, Nat.reduceMul, Nat.reduceSub, Nat.reducePow, Nat.reduceMod, Nat.reduceDiv, l0, l1, l2, l3, l4, l5, l6, l7, l8, l9, l10, l11, l12, l13, l14, l15, l16, l20, l31, l32, l36, l40, l48, l57, l59, l63, l64, l97, l99, l100, l101, l122, l127, l128, l250, l255, l262143, l262144, l30000, l100000, l12345, l1024, l4095, nI_eqs, nI_les, nI_lts, qI_eq, qI_eqn, nI_eqq, qI_lts, nI_ltp, nI_lep, qI_les, nI_add, nI_mul, qI_add, qI_s, qI_def, nI_clamps, bI_z, bI_o, bI_01, n01, n11, rf_some, rf_none, m1, m1n, bft, a', b', bI_t]
    · have b' : 57 < c := by omega
      rw [decide_eq_false (fun w => b w.2)]
      simp (disch := omega) only [s166_0, s166_1, s166_2, s166_3, s166_4, s166_5, s166_6, s166_7, s166_8, s166_9, ↓reduceIte, Option.bind_some, Option.toList_some, Option.toList_none, List.cons_append, List.nil_append, if_true, if_false, true_or, or_true, true_and, and_true, not_true_eq_false, not_false_eq_true, Nat.reduceLT, Nat.reduceLeDiff, Nat.reduceEqDiff, Nat.reduceAdd, Nat.reduceMul, Nat.reduceSub, Nat.reducePow, Nat.reduceMod, Nat.reduceDiv, l0, l1, l2, l3, l4, l5, l6, l7, l8, l9, l10, l11, l12, l13, l14, l15, l16, l20, l31, l32, l36, l40, l48, l57, l59, l63, l64, l97, l99, l100, l101, l122, l127, l128, l250, l255, l262143, l262144, l30000, l100000, l12345, l1024, l4095, nI_eqs, nI_les, nI_lts, qI_eq, qI_eqn, nI_eqq, qI_lts, nI_ltp, nI_lep, qI_les, nI_add, nI_mul, qI_add, qI_s, qI_def, nI_clamps, bI_z, bI_o, bI_01, n01, n11, rf_some, rf_none, m1, m1n, bft, a', b', bI_f]
  · have a' : c < 48 := by omega
    rw [decide_eq_false (fun w => a w.1)]
    simp (disch := omega) only [s166_0, s166_1, s166_2, s166_3, s166_4, s166_5, s166_6, s166_7, s166_8, s166_9, ↓reduceIte, Option.bind_some, Option.toList_some, Option.toList_none, List.cons_append, List.nil_append, if_true, if_false, true_or, or_true, true_and, and_true, not_true_eq_false, not_false_eq_true, Nat.reduceLT, Nat.reduceLeDiff, Nat.reduceEqDiff, Nat.reduceAdd, Nat.reduceMul, Nat.reduceSub, Nat.reducePow, Nat.reduceMod, Nat.reduceDiv, l0, l1, l2, l3, l4, l5, l6, l7, l8, l9, l10, l11, l12, l13, l14, l15, l16, l20, l31, l32, l36, l40, l48, l57, l59, l63, l64, l97, l99, l100, l101, l122, l127, l128, l250, l255, l262143, l262144, l30000, l100000, l12345, l1024, l4095, nI_eqs, nI_les, nI_lts, qI_eq, qI_eqn, nI_eqq, qI_lts, nI_ltp, nI_lep, qI_les, nI_add, nI_mul, qI_add, qI_s, qI_def, nI_clamps, bI_z, bI_o, bI_01, n01, n11, rf_some, rf_none, m1, m1n, bft, a', bI_f]
theorem n167a (d : Nat) {A n : Nat} {b : Nat → Nat} : ∀ m i h1, i + m = n → AP h1 A n b → hI h1 A 24 = nI i → E (d + 1) 167 0 [some (.ref A)] [] h1 = E (d + 1) 167 19 [some (.ref A)] [] (stI h1 A 24 (nI (spn isS b m i))) := by
  intro m
  induction m with
  | zero =>
    intro i h1 hi q h3
    have hi' : i = n := hi
    obtain ⟨a1, a2, a3, a4, a5, a6⟩ := q
    show _ = E (d + 1) 167 19 [some (.ref A)] [] (stI h1 A 24 (nI i))
    rw [stI_same h3, s167_0]
    simp (disch := omega) only [s167_1, s167_2, s167_3, s167_4, ↓reduceIte, Option.bind_some, Option.toList_some, Option.toList_none, List.cons_append, List.nil_append, if_true, if_false, true_or, or_true, true_and, and_true, not_true_eq_false, not_false_eq_true, Nat.reduceLT, Nat.reduceLeDiff, Nat.reduceEqDiff, Nat.reduceAdd, Nat.reduceMul, Nat.reduceSub, Nat.reducePow, Nat.reduceMod, Nat.reduceDiv, l0, l1, l2, l3, l4, l5, l6, l7, l8, l9, l10, l11, l12, l13, l14, l15, l16, l20, l31, l32, l36, l40, l48, l57, l59, l63, l64, l97, l99, l100, l101, l122, l127, l128, l250, l255, l262143, l262144, l30000, l100000, l12345, l1024, l4095, nI_eqs, nI_les, nI_lts, qI_eq, qI_eqn, nI_eqq, qI_lts, nI_ltp, nI_lep, qI_les, nI_add, nI_mul, qI_add, qI_s, qI_def, nI_clamps, bI_z, bI_o, bI_01, n01, n11, rf_some, rf_none, m1, m1n, bft, a1, a4, h3, hi', Nat.le_refl]
  | succ m ih =>
    intro i h1 hi q h3
    have h1' : ¬ n ≤ i := by omega
    obtain ⟨a1, a2, a3, a4, a5, a6⟩ := id q
    obtain ⟨b1, b2⟩ := a6 i (by omega)
    have S : spn isS b (m + 1) i = if isS (b i) = true then spn isS b m (i + 1) else i := rfl
    rw [S, s167_0]
    by_cases c : b i = 32
    · have c' : isS (b i) = true := decide_eq_true c
      rw [if_pos c']
      have i1 := ih (i + 1) (stI h1 A 24 (nI (i + 1))) (by omega) (q.st (by decide) _) (by rw [hI_stI, if_pos ⟨rfl, rfl⟩])
      rw [stI_stI] at i1
      rw [← i1]
      simp (disch := omega) only [s167_1, s167_2, s167_3, s167_4, s167_5, s167_6, s167_7, s167_8, s167_9, s167_10, s167_11, s167_12, s167_13, s167_14, s167_15, s167_16, s167_17, s167_18, ↓reduceIte, Option.bind_some, Option.toList_some, Option.toList_none, List.cons_append, List.nil_append, if_true, if_false, true_or, or_true, true_and, and_true, not_true_eq_false, not_false_eq_true, Nat.reduceLT, Nat.reduceLeDiff, Nat.reduceEqDiff, Nat.reduceAdd, Nat.reduceMul, Nat.reduceSub, Nat.reducePow, Nat.reduceMod, Nat.reduceDiv, l0, l1, l2, l3, l4, l5, l6, l7, l8, l9, l10, l11, l12, l13, l14, l15, l16, l20, l31, l32, l36, l40, l48, l57, l59, l63, l64, l97, l99, l100, l101, l122, l127, l128, l250, l255, l262143, l262144, l30000, l100000, l12345, l1024, l4095, nI_eqs, nI_les, nI_lts, qI_eq, qI_eqn, nI_eqq, qI_lts, nI_ltp, nI_lep, qI_les, nI_add, nI_mul, qI_add, qI_s, qI_def, nI_clamps, bI_z, bI_o, bI_01, n01, n11, rf_some, rf_none, m1, m1n, bft, a1, a2, gI a3, a4, h3, h1', b1, c]
    · have c' : ¬ isS (b i) = true := fun w => c (of_decide_eq_true w)
      rw [if_neg c', stI_same h3]
      simp (disch := omega) only [s167_1, s167_2, s167_3, s167_4, s167_5, s167_6, s167_7, s167_8, s167_9, s167_10, s167_11, ↓reduceIte, Option.bind_some, Option.toList_some, Option.toList_none, List.cons_append, List.nil_append, if_true, if_false, true_or, or_true, true_and, and_true, not_true_eq_false, not_false_eq_true, Nat.reduceLT, Nat.reduceLeDiff, Nat.reduceEqDiff, Nat.reduceAdd, Nat.reduceMul, Nat.reduceSub, Nat.reducePow, Nat.reduceMod, Nat.reduceDiv, l0, l1, l2, l3, l4, l5, l6, l7, l8, l9, l10, l11, l12, l13, l14, l15, l16, l20, l31, l32, l36, l40, l48, l57, l59, l63, l64, l97, l99, l100, l101, l122, l127, l128, l250, l255, l262143, l262144, l30000, l100000, l12345, l1024, l4095, nI_eqs, nI_les, nI_lts, qI_eq, qI_eqn, nI_eqq, qI_lts, nI_ltp, nI_lep, qI_les, nI_add, nI_mul, qI_add, qI_s, qI_def, nI_clamps, bI_z, bI_o, bI_01, n01, n11, rf_some, rf_none, m1, m1n, bft, a1, a2, gI a3, a4, h3, h1', b1, c]
theorem n167b (d : Nat) {A n : Nat} {b : Nat → Nat} : ∀ m i h1, i + m = n → AP h1 A n b → hI h1 A 24 = nI i → E (d + 1) 167 45 [some (.ref A)] [] h1 = E (d + 1) 167 134 [some (.ref A)] [] (stI h1 A 24 (nI (spn isL b m i))) := by
  intro m
  induction m with
  | zero =>
    intro i h1 hi q h3
    have hi' : i = n := hi
    obtain ⟨a1, a2, a3, a4, a5, a6⟩ := q
    show _ = E (d + 1) 167 134 [some (.ref A)] [] (stI h1 A 24 (nI i))
    rw [stI_same h3, s167_45]
    simp (disch := omega) only [s167_46, s167_47, s167_48, s167_49, ↓reduceIte, Option.bind_some, Option.toList_some, Option.toList_none, List.cons_append, List.nil_append, if_true, if_false, true_or, or_true, true_and, and_true, not_true_eq_false, not_false_eq_true, Nat.reduceLT, Nat.reduceLeDiff, Nat.reduceEqDiff, Nat.reduceAdd, Nat.reduceMul, Nat.reduceSub, Nat.reducePow, Nat.reduceMod, Nat.reduceDiv, l0, l1, l2, l3, l4, l5, l6, l7, l8, l9, l10, l11, l12, l13, l14, l15, l16, l20, l31, l32, l36, l40, l48, l57, l59, l63, l64, l97, l99, l100, l101, l122, l127, l128, l250, l255, l262143, l262144, l30000, l100000, l12345, l1024, l4095, nI_eqs, nI_les, nI_lts, qI_eq, qI_eqn, nI_eqq, qI_lts, nI_ltp, nI_lep, qI_les, nI_add, nI_mul, qI_add, qI_s, qI_def, nI_clamps, bI_z, bI_o, bI_01, n01, n11, rf_some, rf_none, m1, m1n, bft, a1, a4, h3, hi', Nat.le_refl]
  | succ m ih =>
    intro i h1 hi q h3
    have h1' : ¬ n ≤ i := by omega
    obtain ⟨a1, a2, a3, a4, a5, a6⟩ := id q
    obtain ⟨b1, b2⟩ := a6 i (by omega)
    have e165 := fun d => m165 d h1 b2
    have S : spn isL b (m + 1) i = if isL (b i) = true then spn isL b m (i + 1) else i := rfl
    rw [S, s167_45]
    cases c : isL (b i) <;> rw [c] at e165
    · rw [if_neg (by decide), stI_same h3]
      simp (disch := omega) only [s167_46, s167_47, s167_48, s167_49, s167_50, s167_51, s167_52, s167_53, s167_54, s167_55, s167_56, ↓reduceIte, Option.bind_some, Option.toList_some, Option.toList_none, List.cons_append, List.nil_append, if_true, if_false, true_or, or_true, true_and, and_true, not_true_eq_false, not_false_eq_true, Nat.reduceLT, Nat.reduceLeDiff, Nat.reduceEqDiff, Nat.reduceAdd, Nat.reduceMul, Nat.reduceSub, Nat.reducePow, Nat.reduceMod, Nat.reduceDiv, l0, l1, l2, l3, l4, l5, l6, l7, l8, l9, l10, l11, l12, l13, l14, l15, l16, l20, l31, l32, l36, l40, l48, l57, l59, l63, l64, l97, l99, l100, l101, l122, l127, l128, l250, l255, l262143, l262144, l30000, l100000, l12345, l1024, l4095, nI_eqs, nI_les, nI_lts, qI_eq, qI_eqn, nI_eqq, qI_lts, nI_ltp, nI_lep, qI_les, nI_add, nI_mul, qI_add, qI_s, qI_def, nI_clamps, bI_z, bI_o, bI_01, n01, n11, rf_some, rf_none, m1, m1n, bft, a1, a2, gI a3, a4, h3, h1', b1, e165, bI_f]
    · rw [if_pos rfl]
      have i1 := ih (i + 1) (stI h1 A 24 (nI (i + 1))) (by omega) (q.st (by decide) _) (by rw [hI_stI, if_pos ⟨rfl, rfl⟩])
      rw [stI_stI] at i1
      rw [← i1]
      simp (disch := omega) only [s167_46, s167_47, s167_48, s167_49, s167_50, s167_51, s167_52, s167_53, s167_54, s167_55, s167_56, s167_57, s167_58, s167_59, s167_60, s167_61, s167_62, s167_63, ↓reduceIte, Option.bind_some, Option.toList_some, Option.toList_none, List.cons_append, List.nil_append, if_true, if_false, true_or, or_true, true_and, and_true, not_true_eq_false, not_false_eq_true, Nat.reduceLT, Nat.reduceLeDiff, Nat.reduceEqDiff, Nat.reduceAdd, Nat.reduceMul, Nat.reduceSub, Nat.reducePow, Nat.reduceMod, Nat.reduceDiv, l0, l1, l2, l3, l4, l5, l6, l7, l8, l9, l10, l11, l12, l13, l14, l15, l16, l20, l31, l32, l36, l40, l48, l57, l59, l63, l64, l97, l99, l100, l101, l122, l127, l128, l250, l255, l262143, l262144, l30000, l100000, l12345, l1024, l4095, nI_eqs, nI_les, nI_lts, qI_eq, qI_eqn, nI_eqq, qI_lts, nI_ltp, nI_lep, qI_les, nI_add, nI_mul, qI_add, qI_s, qI_def, nI_clamps, bI_z, bI_o, bI_01, n01, n11, rf_some, rf_none, m1, m1n, bft, a1, a2, gI a3, a4, h3, h1', b1, e165, bI_t, Bool.true_eq_false]
theorem n167c (d : Nat) {A n fr : Nat} {b : Nat → Nat} : ∀ m i f h1, i + m = n → fr ≤ i → (f ≤ 100000 ∧ (i = fr → f = 0) ∧ (i = fr + 1 → f ≤ 9)) → AP h1 A n b → hI h1 A 24 = nI i → hI h1 A 26 = nI fr → hI h1 A 27 = nI f → ∃ h2, E (d + 1) 167 74 [some (.ref A)] [] h1 = E (d + 1) 167 134 [some (.ref A)] [] h2 ∧ AF A h1 h2 ∧ hI h2 A 24 = nI (spn isD b m i) ∧ hI h2 A 25 = hI h1 A 25 ∧ hI h2 A 26 = nI fr ∧ hI h2 A 27 = nI (fgs b fr m i f) := by
  intro m
  induction m with
  | zero =>
    intro i f h1 hi hfr hf q h3 h6 h7
    have hi' : i = n := hi
    obtain ⟨a1, a2, a3, a4, a5, a6⟩ := q
    refine ⟨h1, ?_, AF.refl _ _, h3, rfl, h6, h7⟩
    rw [s167_74]
    simp (disch := omega) only [s167_75, s167_76, s167_77, s167_78, ↓reduceIte, Option.bind_some, Option.toList_some, Option.toList_none, List.cons_append, List.nil_append, if_true, if_false, true_or, or_true, true_and, and_true, not_true_eq_false, not_false_eq_true, Nat.reduceLT, Nat.reduceLeDiff, Nat.reduceEqDiff, Nat.reduceAdd, Nat.reduceMul, Nat.reduceSub, Nat.reducePow, Nat.reduceMod, Nat.reduceDiv, l0, l1, l2, l3, l4, l5, l6, l7, l8, l9, l10, l11, l12, l13, l14, l15, l16, l20, l31, l32, l36, l40, l48, l57, l59, l63, l64, l97, l99, l100, l101, l122, l127, l128, l250, l255, l262143, l262144, l30000, l100000, l12345, l1024, l4095, nI_eqs, nI_les, nI_lts, qI_eq, qI_eqn, nI_eqq, qI_lts, nI_ltp, nI_lep, qI_les, nI_add, nI_mul, qI_add, qI_s, qI_def, nI_clamps, bI_z, bI_o, bI_01, n01, n11, rf_some, rf_none, m1, m1n, bft, a1, a4, h3, hi', Nat.le_refl]
  | succ m ih =>
    intro i f h1 hi hfr hf q h3 h6 h7
    have h1' : ¬ n ≤ i := by omega
    obtain ⟨a1, a2, a3, a4, a5, a6⟩ := id q
    obtain ⟨b1, b2⟩ := a6 i (by omega)
    have e166 := fun d => m166 d h1 b2
    have S : spn isD b (m + 1) i = if isD (b i) = true then spn isD b m (i + 1) else i := rfl
    have T : fgs b fr (m + 1) i f = if isD (b i) = true then fgs b fr m (i + 1) (if i - fr < 2 then f * 10 + b i - 48 else 100000) else f := rfl
    rw [S, T, s167_74]
    cases c : isD (b i) <;> rw [c] at e166
    · rw [if_neg (by decide), if_neg (by decide)]
      refine ⟨h1, ?_, AF.refl _ _, h3, rfl, h6, h7⟩
      simp (disch := omega) only [s167_75, s167_76, s167_77, s167_78, s167_79, s167_80, s167_81, s167_82, s167_83, s167_84, s167_85, ↓reduceIte, Option.bind_some, Option.toList_some, Option.toList_none, List.cons_append, List.nil_append, if_true, if_false, true_or, or_true, true_and, and_true, not_true_eq_false, not_false_eq_true, Nat.reduceLT, Nat.reduceLeDiff, Nat.reduceEqDiff, Nat.reduceAdd, Nat.reduceMul, Nat.reduceSub, Nat.reducePow, Nat.reduceMod, Nat.reduceDiv, l0, l1, l2, l3, l4, l5, l6, l7, l8, l9, l10, l11, l12, l13, l14, l15, l16, l20, l31, l32, l36, l40, l48, l57, l59, l63, l64, l97, l99, l100, l101, l122, l127, l128, l250, l255, l262143, l262144, l30000, l100000, l12345, l1024, l4095, nI_eqs, nI_les, nI_lts, qI_eq, qI_eqn, nI_eqq, qI_lts, nI_ltp, nI_lep, qI_les, nI_add, nI_mul, qI_add, qI_s, qI_def, nI_clamps, bI_z, bI_o, bI_01, n01, n11, rf_some, rf_none, m1, m1n, bft, a1, a2, gI a3, a4, h3, h1', b1, e166, bI_f]
    · rw [if_pos rfl, if_pos rfl]
      have cc : 48 ≤ b i ∧ b i ≤ 57 := of_decide_eq_true c
      have sb : nI i - nI fr = nI (i - fr) := nI_sub hfr
      have vl : hI h1 A 24 = nI i := h3
      by_cases z : i - fr < 2
      · rw [if_pos z]
        have fz : f ≤ 9 := by
          obtain ⟨u1, u2, u3⟩ := hf
          by_cases e : i = fr
          · have := u2 e; omega
          · exact u3 (by omega)
        have u2 := hf.2.1
        · have sc : nI (f * 10 + b i) - nI 48 = nI (f * 10 + b i - 48) := nI_sub (by omega)
          have z' : ¬ 2 ≤ i - fr := by omega
          obtain ⟨h2, e2, F2, g4, g5, g6, g7⟩ := ih (i + 1) (f * 10 + b i - 48) (stI (stI h1 A 27 (nI (f * 10 + b i - 48))) A 24 (nI (i + 1))) (by omega) (by omega) ⟨by omega, fun w => by omega, fun w => by first | omega | (have := u2 (by omega); omega)⟩ ((q.st (by decide) _).st (by decide) _) (by rw [hI_stI, if_pos ⟨rfl, rfl⟩]) (by rw [hI_stI, if_neg (fun w => by omega), hI_stI, if_neg (fun w => by omega)]; exact h6) (by rw [hI_stI, if_neg (fun w => by omega), hI_stI, if_pos ⟨rfl, rfl⟩])
          refine ⟨h2, ?_, ((AF.st h1 (by decide) _).trans (AF.st _ (by decide) _)).trans F2, g4, ?_, g6, g7⟩
          · rw [← e2]
            simp (disch := omega) only [s167_75, s167_76, s167_77, s167_78, s167_79, s167_80, s167_81, s167_82, s167_83, s167_84, s167_85, s167_86, s167_87, s167_88, s167_89, s167_90, s167_91, s167_92, s167_93, s167_94, s167_95, s167_96, s167_97, s167_98, s167_99, s167_100, s167_101, s167_102, s167_103, s167_104, s167_105, s167_106, s167_107, s167_108, s167_109, s167_110, s167_111, s167_112, s167_113, s167_114, s167_115, ↓reduceIte, Option.bind_some, Option.toList_some, Option.toList_none, List.cons_append, List.nil_append, if_true, if_false, true_or, or_true, true_and, and_true, not_true_eq_false, not_false_eq_true, Nat.reduceLT, Nat.reduceLeDiff, Nat.reduceEqDiff, Nat.reduceAdd, Nat.reduceMul, Nat.reduceSub, Nat.reducePow, Nat.reduceMod, Nat.reduceDiv, l0, l1, l2, l3, l4, l5, l6, l7, l8, l9, l10, l11, l12, l13, l14, l15, l16, l20, l31, l32, l36, l40, l48, l57, l59, l63, l64, l97, l99, l100, l101, l122, l127, l128, l250, l255, l262143, l262144, l30000, l100000, l12345, l1024, l4095, nI_eqs, nI_les, nI_lts, qI_eq, qI_eqn, nI_eqq, qI_lts, nI_ltp, nI_lep, qI_les, nI_add, nI_mul, qI_add, qI_s, qI_def, nI_clamps, bI_z, bI_o, bI_01, n01, n11, rf_some, rf_none, m1, m1n, bft, ad1, ad2, hI_stI, hS_stI, hR_stI, hL_stI, alen_stI, hI_stL, hL_stL, hS_stL, hR_stL, alen_stL, false_and, and_false, and_self, eq_self, a1, a2, gI a3, a4, h3, h6, h7, h1', b1, e166, bI_t, sb, z, z', sc, Bool.true_eq_false]
          · rw [g5, hI_stI, if_neg (fun w => by omega), hI_stI, if_neg (fun w => by omega)]
      · rw [if_neg z]
        have z' : 2 ≤ i - fr := by omega
        obtain ⟨h2, e2, F2, g4, g5, g6, g7⟩ := ih (i + 1) 100000 (stI (stI h1 A 27 (nI 100000)) A 24 (nI (i + 1))) (by omega) (by omega) ⟨by omega, fun w => by omega, fun w => by first | omega | (have := u2 (by omega); omega)⟩ ((q.st (by decide) _).st (by decide) _) (by rw [hI_stI, if_pos ⟨rfl, rfl⟩]) (by rw [hI_stI, if_neg (fun w => by omega), hI_stI, if_neg (fun w => by omega)]; exact h6) (by rw [hI_stI, if_neg (fun w => by omega), hI_stI, if_pos ⟨rfl, rfl⟩])
        refine ⟨h2, ?_, ((AF.st h1 (by decide) _).trans (AF.st _ (by decide) _)).trans F2, g4, ?_, g6, g7⟩
        · rw [← e2]
          simp (disch := omega) only [s167_75, s167_76, s167_77, s167_78, s167_79, s167_80, s167_81, s167_82, s167_83, s167_84, s167_85, s167_86, s167_87, s167_88, s167_89, s167_90, s167_91, s167_92, s167_93, s167_94, s167_95, s167_96, s167_97, s167_98, s167_99, s167_100, s167_101, s167_102, s167_103, s167_104, s167_105, s167_106, s167_107, s167_108, s167_109, s167_110, s167_111, s167_112, s167_113, s167_114, s167_115, ↓reduceIte, Option.bind_some, Option.toList_some, Option.toList_none, List.cons_append, List.nil_append, if_true, if_false, true_or, or_true, true_and, and_true, not_true_eq_false, not_false_eq_true, Nat.reduceLT, Nat.reduceLeDiff, Nat.reduceEqDiff, Nat.reduceAdd, Nat.reduceMul, Nat.reduceSub, Nat.reducePow, Nat.reduceMod, Nat.reduceDiv, l0, l1, l2, l3, l4, l5, l6, l7, l8, l9, l10, l11, l12, l13, l14, l15, l16, l20, l31, l32, l36, l40, l48, l57, l59, l63, l64, l97, l99, l100, l101, l122, l127, l128, l250, l255, l262143, l262144, l30000, l100000, l12345, l1024, l4095, nI_eqs, nI_les, nI_lts, qI_eq, qI_eqn, nI_eqq, qI_lts, nI_ltp, nI_lep, qI_les, nI_add, nI_mul, qI_add, qI_s, qI_def, nI_clamps, bI_z, bI_o, bI_01, n01, n11, rf_some, rf_none, m1, m1n, bft, ad1, ad2, hI_stI, hS_stI, hR_stI, hL_stI, alen_stI, hI_stL, hL_stL, hS_stL, hR_stL, alen_stL, false_and, and_false, and_self, eq_self, a1, a2, gI a3, a4, h3, h6, h7, h1', b1, e166, bI_t, sb, z, z', Bool.true_eq_false]
        · rw [g5, hI_stI, if_neg (fun w => by omega), hI_stI, if_neg (fun w => by omega)]
