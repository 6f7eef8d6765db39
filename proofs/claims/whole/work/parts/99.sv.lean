/-! THE TAPE'S TOKENS, the developers -/
def spn (p : Nat → Bool) (b : Nat → Nat) (m i : Nat) : Nat := match m with
  | 0 => i
  | m + 1 => if p (b i) = true then spn p b m (i + 1) else i
def isS (c : Nat) : Bool := decide (c = 32)
def isL (c : Nat) : Bool := decide (97 ≤ c ∧ c ≤ 122)
def isD (c : Nat) : Bool := decide (48 ≤ c ∧ c ≤ 57)
theorem spn_le (p : Nat → Bool) (b : Nat → Nat) : ∀ m i, i ≤ spn p b m i ∧ spn p b m i ≤ i + m := by
  intro m
  induction m with
  | zero => intro i; exact ⟨Nat.le_refl _, Nat.le_refl _⟩
  | succ m ih =>
    intro i
    show i ≤ (if p (b i) = true then spn p b m (i + 1) else i) ∧ (if p (b i) = true then spn p b m (i + 1) else i) ≤ i + (m + 1)
    have := ih (i + 1)
    split <;> omega
/-- sort, first byte, byte behind -/
def tkL (n : Nat) (b : Nat → Nat) (e : Nat) : Nat × Nat × Nat := if n ≤ spn isS b (n - e) e then (0, spn isS b (n - e) e, spn isS b (n - e) e) else if isL (b (spn isS b (n - e) e)) = true then (1, spn isS b (n - e) e, spn isL b (n - spn isS b (n - e) e) (spn isS b (n - e) e)) else if isD (b (spn isS b (n - e) e)) = true then (2, spn isS b (n - e) e, spn isD b (n - spn isS b (n - e) e) (spn isS b (n - e) e)) else (if b (spn isS b (n - e) e) = 59 then 3 else 4, spn isS b (n - e) e, spn isS b (n - e) e + 1)
def TP (h : AH) (T n : Nat) (b : Nat → Nat) : Prop := hS h T = some (102, 0) ∧ hR h T 0 = some (T + 1) ∧ hS h (T + 1) = some (0, 250) ∧ hI h T 1 = nI n ∧ n ≤ 250 ∧ ∀ i, i < n → hI h (T + 1) i = nI (b i) ∧ b i < 256
def TT (h : AH) (T : Nat) (t : Nat × Nat × Nat) : Prop := hI h T 2 = nI t.1 ∧ hI h T 3 = nI t.2.1 ∧ hI h T 4 = nI t.2.2
theorem TP.st {h : AH} {T n : Nat} {b : Nat → Nat} (q : TP h T n b) {k : Nat} (hk : 2 ≤ k) (v : Int32) : TP (stI h T k v) T n b := by
  obtain ⟨a1, a2, a3, a4, a5, a6⟩ := q
  refine ⟨a1, a2, a3, by rw [hI_stI, if_neg (fun w => by omega)]; exact a4, a5, fun i hi => by rw [hI_stI, if_neg (fun w => by omega)]; exact a6 i hi⟩
theorem stI_stI (h : AH) (a k : Nat) (v w : Int32) : stI (stI h a k v) a k w = stI h a k w := by
  have e : up2 (up2 (hI h) a k v) a k w = up2 (hI h) a k w := by
    funext c j
    show (if c = a ∧ j = k then w else if c = a ∧ j = k then v else hI h c j) = if c = a ∧ j = k then w else hI h c j
    split <;> rfl
  show (hN h, hU h, hS h, up2 (up2 (hI h) a k v) a k w, hL h, hR h, hK h, hX h) = (hN h, hU h, hS h, up2 (hI h) a k w, hL h, hR h, hK h, hX h)
  rw [e]
theorem stI_same {h : AH} {a k : Nat} {v : Int32} (e : hI h a k = v) : stI h a k v = h := by
  have e2 : up2 (hI h) a k v = hI h := by
    funext c j
    show (if c = a ∧ j = k then v else hI h c j) = hI h c j
    split
    · rename_i w; rw [w.1, w.2]; exact e.symm
    · rfl
  show (hN h, hU h, hS h, up2 (hI h) a k v, hL h, hR h, hK h, hX h) = h
  rw [e2]; rfl
theorem x44 (d : Nat) (h : AH) {c : Nat} (hc : c < 256) : E d 44 0 [some (.int (nI c))] [] h = some (some (.int (bI (isL c))), h) := by
  unfold isL
  by_cases a : 97 ≤ c
  · have a' : ¬ c < 97 := by omega
    by_cases b : c ≤ 122
    · have b' : ¬ 122 < c := by omega
      rw [decide_eq_true ⟨a, b⟩]
      simp (disch := omega) only [s44_0, s44_1, s44_2, s44_3, s44_4, s44_5, s44_6, s44_7, s44_8, s44_9, ↓reduceIte, Option.bind_some, Option.toList_some, Option.toList_none, List.cons_append, List.nil_append, if_true, if_false, true_or, or_true, true_and, and_true, not_true_eq_false, not_false_eq_true, Nat.reduceLT, Nat.reduceLeDiff, Nat.reduceEqDiff, Nat.reduceAdd, Nat.reduceMul, Nat.reduceSub, Nat.reducePow, Nat.reduceMod, Nat.reduceDiv, l0, l1, l2, l3, l4, l5, l6, l7, l8, l9, l10, l11, l12, l13, l14, l15, l16, l20, l31, l32, l36, l40, l48, l57, l59, l63, l64, l97, l99, l100, l101, l122, l127, l128, l250, l255, l262143, l262144, l30000, l100000, l12345, l1024, l4095, nI_eqs, nI_les, nI_lts, qI_eq, qI_eqn, nI_eqq, qI_lts, nI_ltp, nI_lep, qI_les, nI_add, nI_mul, qI_add, qI_s, qI_def, nI_clamps, bI_z, bI_o, bI_01, n01, n11, rf_some, rf_none, m1, m1n, bft, a', b', bI_t]
    · have b' : 122 < c := by omega
      rw [decide_eq_false (fun w => b w.2)]
      simp (disch := omega) only [s44_0, s44_1, s44_2, s44_3, s44_4, s44_5, s44_6, s44_7, s44_8, s44_9, ↓reduceIte, Option.bind_some, Option.toList_some, Option.toList_none, List.cons_append, List.nil_append, if_true, if_false, true_or, or_true, true_and, and_true, not_true_eq_false, not_false_eq_true, Nat.reduceLT, Nat.reduceLeDiff, Nat.reduceEqDiff, Nat.reduceAdd, Nat.reduceMul, Nat.reduceSub, Nat.reducePow, Nat.reduceMod, Nat.reduceDiv, l0, l1, l2, l3, l4, l5, l6, l7, l8, l9, l10, l11, l12, l13, l14, l15, l16, l20, l31, l32, l36, l40, l48, l57, l59, l63, l64, l97, l99, l100, l101, l122, l127, l128, l250, l255, l262143, l262144, l30000, l100000, l12345, l1024, l4095, nI_eqs, nI_les, nI_lts, qI_eq, qI_eqn, nI_eqq, qI_lts, nI_ltp, nI_lep, qI_les, nI_add, nI_mul, qI_add, qI_s, qI_def, nI_clamps, bI_z, bI_o, bI_01, n01, n11, rf_some, rf_none, m1, m1n, bft, a', b', bI_f]
  · have a' : c < 97 := by omega
    rw [decide_eq_false (fun w => a w.1)]
    simp (disch := omega) only [s44_0, s44_1, s44_2, s44_3, s44_4, s44_5, s44_6, s44_7, s44_8, s44_9, ↓reduceIte, Option.bind_some, Option.toList_some, Option.toList_none, List.cons_append, List.nil_append, if_true, if_false, true_or, or_true, true_and, and_true, not_true_eq_false, not_false_eq_true, Nat.reduceLT, Nat.reduceLeDiff, Nat.reduceEqDiff, Nat.reduceAdd, Nat.reduceMul, Nat.reduceSub, Nat.reducePow, Nat.reduceMod, Nat.reduceDiv, l0, l1, l2, l3, l4, l5, l6, l7, l8, l9, l10, l11, l12, l13, l14, l15, l16, l20, l31, l32, l36, l40, l48, l57, l59, l63, l64, l97, l99, l100, l101, l122, l127, l128, l250, l255, l262143, l262144, l30000, l100000, l12345, l1024, l4095, nI_eqs, nI_les, nI_lts, qI_eq, qI_eqn, nI_eqq, qI_lts, nI_ltp, nI_lep, qI_les, nI_add, nI_mul, qI_add, qI_s, qI_def, nI_clamps, bI_z, bI_o, bI_01, n01, n11, rf_some, rf_none, m1, m1n, bft, a', bI_f]
theorem x45 (d : Nat) (h : AH) {c : Nat} (hc : c < 256) : E d 45 0 [some (.int (nI c))] [] h = some (some (.int (bI (isD c))), h) := by
  unfold isD
  by_cases a : 48 ≤ c
  · have a' : ¬ c < 48 := by omega
    by_cases b : c ≤ 57
    · have b' : ¬ 57 < c := by omega
      rw [decide_eq_true ⟨a, b⟩]
      simp (disch := omega) only [s45_0, s45_1, s45_2, s45_3, s45_4, s45_5, s45_6, s45_7, s45_8, s45_9, ↓reduceIte, Option.bind_some, Option.toList_some, Option.toList_none, List.cons_append, List.nil_append, if_true, if_false, true_or, or_true, true_and, and_true, not_true_eq_false, not_false_eq_true, Nat.reduceLT, Nat.reduceLeDiff, Nat.reduceEqDiff, Nat.reduceAdd, Nat.reduceMul, Nat.reduceSub, Nat.reducePow, Nat.reduceMod, Nat.reduceDiv, l0, l1, l2, l3, l4, l5, l6, l7, l8, l9, l10, l11, l12, l13, l14, l15, l16, l20, l31, l32, l36, l40, l48, l57, l59, l63, l64, l97, l99, l100, l101, l122, l127, l128, l250, l255, l262143, l262144, l30000, l100000, l12345, l1024, l4095, nI_eqs, nI_les, nI_lts, qI_eq, qI_eqn, nI_eqq, qI_lts, nI_ltp, nI_lep, qI_les, nI_add, nI_mul, qI_add, qI_s, qI_def, nI_clamps, bI_z, bI_o, bI_01, n01, n11, rf_some, rf_none, m1, m1n, bft, a', b', bI_t]
    · have b' : 57 < c := by omega
      rw [decide_eq_false (fun w => b w.2)]
      simp (disch := omega) only [s45_0, s45_1, s45_2, s45_3, s45_4, s45_5, s45_6, s45_7, s45_8, s45_9, ↓reduceIte, Option.bind_some, Option.toList_some, Option.toList_none, List.cons_append, List.nil_append, if_true, if_false, true_or, or_true, true_and, and_true, not_true_eq_false, not_false_eq_true, Nat.reduceLT, Nat.reduceLeDiff, Nat.reduceEqDiff, Nat.reduceAdd, Nat.reduceMul, Nat.reduceSub, Nat.reducePow, Nat.reduceMod, Nat.reduceDiv, l0, l1, l2, l3, l4, l5, l6, l7, l8, l9, l10, l11, l12, l13, l14, l15, l16, l20, l31, l32, l36, l40, l48, l57, l59, l63, l64, l97, l99, l100, l101, l122, l127, l128, l250, l255, l262143, l262144, l30000, l100000, l12345, l1024, l4095, nI_eqs, nI_les, nI_lts, qI_eq, qI_eqn, nI_eqq, qI_lts, nI_ltp, nI_lep, qI_les, nI_add, nI_mul, qI_add, qI_s, qI_def, nI_clamps, bI_z, bI_o, bI_01, n01, n11, rf_some, rf_none, m1, m1n, bft, a', b', bI_f]
  · have a' : c < 48 := by omega
    rw [decide_eq_false (fun w => a w.1)]
    simp (disch := omega) only [s45_0, s45_1, s45_2, s45_3, s45_4, s45_5, s45_6, s45_7, s45_8, s45_9, ↓reduceIte, Option.bind_some, Option.toList_some, Option.toList_none, List.cons_append, List.nil_append, if_true, if_false, true_or, or_true, true_and, and_true, not_true_eq_false, not_false_eq_true, Nat.reduceLT, Nat.reduceLeDiff, Nat.reduceEqDiff, Nat.reduceAdd, Nat.reduceMul, Nat.reduceSub, Nat.reducePow, Nat.reduceMod, Nat.reduceDiv, l0, l1, l2, l3, l4, l5, l6, l7, l8, l9, l10, l11, l12, l13, l14, l15, l16, l20, l31, l32, l36, l40, l48, l57, l59, l63, l64, l97, l99, l100, l101, l122, l127, l128, l250, l255, l262143, l262144, l30000, l100000, l12345, l1024, l4095, nI_eqs, nI_les, nI_lts, qI_eq, qI_eqn, nI_eqq, qI_lts, nI_ltp, nI_lep, qI_les, nI_add, nI_mul, qI_add, qI_s, qI_def, nI_clamps, bI_z, bI_o, bI_01, n01, n11, rf_some, rf_none, m1, m1n, bft, a', bI_f]
theorem x43 (d : Nat) {h : AH} {T n e : Nat} {b : Nat → Nat} (q : TP h T n b) (he : e ≤ n) (h4 : hI h T 4 = nI e) : ∃ h', E (d + 1) 43 0 [some (.ref T)] [] h = some (none, h') ∧ TP h' T n b ∧ TT h' T (tkL n b e) ∧ Fr0 (fun a => a = T) h h' := by
  have n5 := q.2.2.2.2.1
  have la : ∀ m i h1, i + m = n → TP h1 T n b → hI h1 T 3 = nI i → E (d + 1) 43 4 [some (.ref T)] [] h1 = E (d + 1) 43 23 [some (.ref T)] [] (stI h1 T 3 (nI (spn isS b m i))) := by
    intro m
    induction m with
    | zero =>
      intro i h1 hi q h3
      have hi' : i = n := hi
      obtain ⟨a1, a2, a3, a4, a5, a6⟩ := q
      show _ = E (d + 1) 43 23 [some (.ref T)] [] (stI h1 T 3 (nI i))
      rw [stI_same h3, s43_4]
      simp (disch := omega) only [s43_5, s43_6, s43_7, s43_8, ↓reduceIte, Option.bind_some, Option.toList_some, Option.toList_none, List.cons_append, List.nil_append, if_true, if_false, true_or, or_true, true_and, and_true, not_true_eq_false, not_false_eq_true, Nat.reduceLT, Nat.reduceLeDiff, Nat.reduceEqDiff, Nat.reduceAdd, Nat.reduceMul, Nat.reduceSub, Nat.reducePow, Nat.reduceMod, Nat.reduceDiv, l0, l1, l2, l3, l4, l5, l6, l7, l8, l9, l10, l11, l12, l13, l14, l15, l16, l20, l31, l32, l36, l40, l48, l57, l59, l63, l64, l97, l99, l100, l101, l122, l127, l128, l250, l255, l262143, l262144, l30000, l100000, l12345, l1024, l4095, nI_eqs, nI_les, nI_lts, qI_eq, qI_eqn, nI_eqq, qI_lts, nI_ltp, nI_lep, qI_les, nI_add, nI_mul, qI_add, qI_s, qI_def, nI_clamps, bI_z, bI_o, bI_01, n01, n11, rf_some, rf_none, m1, m1n, bft, a1, a4, h3, hi', Nat.le_refl]
    | succ m ih =>
      intro i h1 hi q h3
      have h1' : ¬ n ≤ i := by omega
      obtain ⟨a1, a2, a3, a4, a5, a6⟩ := id q
      obtain ⟨b1, b2⟩ := a6 i (by omega)
      have S : spn isS b (m + 1) i = if isS (b i) = true then spn isS b m (i + 1) else i := rfl
      rw [S, s43_4]
      by_cases c : b i = 32
      · have c' : isS (b i) = true := decide_eq_true c
        rw [if_pos c']
        have i1 := ih (i + 1) (stI h1 T 3 (nI (i + 1))) (by omega) (q.st (by decide) _) (by rw [hI_stI, if_pos ⟨rfl, rfl⟩])
        rw [stI_stI] at i1
        rw [← i1]
        simp (disch := omega) only [s43_5, s43_6, s43_7, s43_8, s43_9, s43_10, s43_11, s43_12, s43_13, s43_14, s43_15, s43_16, s43_17, s43_18, s43_19, s43_20, s43_21, s43_22, ↓reduceIte, Option.bind_some, Option.toList_some, Option.toList_none, List.cons_append, List.nil_append, if_true, if_false, true_or, or_true, true_and, and_true, not_true_eq_false, not_false_eq_true, Nat.reduceLT, Nat.reduceLeDiff, Nat.reduceEqDiff, Nat.reduceAdd, Nat.reduceMul, Nat.reduceSub, Nat.reducePow, Nat.reduceMod, Nat.reduceDiv, l0, l1, l2, l3, l4, l5, l6, l7, l8, l9, l10, l11, l12, l13, l14, l15, l16, l20, l31, l32, l36, l40, l48, l57, l59, l63, l64, l97, l99, l100, l101, l122, l127, l128, l250, l255, l262143, l262144, l30000, l100000, l12345, l1024, l4095, nI_eqs, nI_les, nI_lts, qI_eq, qI_eqn, nI_eqq, qI_lts, nI_ltp, nI_lep, qI_les, nI_add, nI_mul, qI_add, qI_s, qI_def, nI_clamps, bI_z, bI_o, bI_01, n01, n11, rf_some, rf_none, m1, m1n, bft, a1, a2, gI a3, a4, h3, h1', b1, c]
      · have c' : ¬ isS (b i) = true := fun w => c (of_decide_eq_true w)
        rw [if_neg c', stI_same h3]
        simp (disch := omega) only [s43_5, s43_6, s43_7, s43_8, s43_9, s43_10, s43_11, s43_12, s43_13, s43_14, s43_15, ↓reduceIte, Option.bind_some, Option.toList_some, Option.toList_none, List.cons_append, List.nil_append, if_true, if_false, true_or, or_true, true_and, and_true, not_true_eq_false, not_false_eq_true, Nat.reduceLT, Nat.reduceLeDiff, Nat.reduceEqDiff, Nat.reduceAdd, Nat.reduceMul, Nat.reduceSub, Nat.reducePow, Nat.reduceMod, Nat.reduceDiv, l0, l1, l2, l3, l4, l5, l6, l7, l8, l9, l10, l11, l12, l13, l14, l15, l16, l20, l31, l32, l36, l40, l48, l57, l59, l63, l64, l97, l99, l100, l101, l122, l127, l128, l250, l255, l262143, l262144, l30000, l100000, l12345, l1024, l4095, nI_eqs, nI_les, nI_lts, qI_eq, qI_eqn, nI_eqq, qI_lts, nI_ltp, nI_lep, qI_les, nI_add, nI_mul, qI_add, qI_s, qI_def, nI_clamps, bI_z, bI_o, bI_01, n01, n11, rf_some, rf_none, m1, m1n, bft, a1, a2, gI a3, a4, h3, h1', b1, c]
  have lb : ∀ m i h1, i + m = n → TP h1 T n b → hI h1 T 4 = nI i → E (d + 1) 43 46 [some (.ref T)] [] h1 = E (d + 1) 43 112 [some (.ref T)] [] (stI h1 T 4 (nI (spn isL b m i))) := by
    intro m
    induction m with
    | zero =>
      intro i h1 hi q h3
      have hi' : i = n := hi
      obtain ⟨a1, a2, a3, a4, a5, a6⟩ := q
      show _ = E (d + 1) 43 112 [some (.ref T)] [] (stI h1 T 4 (nI i))
      rw [stI_same h3, s43_46]
      simp (disch := omega) only [s43_47, s43_48, s43_49, s43_50, ↓reduceIte, Option.bind_some, Option.toList_some, Option.toList_none, List.cons_append, List.nil_append, if_true, if_false, true_or, or_true, true_and, and_true, not_true_eq_false, not_false_eq_true, Nat.reduceLT, Nat.reduceLeDiff, Nat.reduceEqDiff, Nat.reduceAdd, Nat.reduceMul, Nat.reduceSub, Nat.reducePow, Nat.reduceMod, Nat.reduceDiv, l0, l1, l2, l3, l4, l5, l6, l7, l8, l9, l10, l11, l12, l13, l14, l15, l16, l20, l31, l32, l36, l40, l48, l57, l59, l63, l64, l97, l99, l100, l101, l122, l127, l128, l250, l255, l262143, l262144, l30000, l100000, l12345, l1024, l4095, nI_eqs, nI_les, nI_lts, qI_eq, qI_eqn, nI_eqq, qI_lts, nI_ltp, nI_lep, qI_les, nI_add, nI_mul, qI_add, qI_s, qI_def, nI_clamps, bI_z, bI_o, bI_01, n01, n11, rf_some, rf_none, m1, m1n, bft, a1, a4, h3, hi', Nat.le_refl]
    | succ m ih =>
      intro i h1 hi q h3
      have h1' : ¬ n ≤ i := by omega
      obtain ⟨a1, a2, a3, a4, a5, a6⟩ := id q
      obtain ⟨b1, b2⟩ := a6 i (by omega)
      have e44 := fun d => x44 d h1 b2
      have S : spn isL b (m + 1) i = if isL (b i) = true then spn isL b m (i + 1) else i := rfl
      rw [S, s43_46]
      cases c : isL (b i) <;> rw [c] at e44
      · rw [if_neg (by decide), stI_same h3]
        simp (disch := omega) only [s43_47, s43_48, s43_49, s43_50, s43_51, s43_52, s43_53, s43_54, s43_55, s43_56, s43_57, ↓reduceIte, Option.bind_some, Option.toList_some, Option.toList_none, List.cons_append, List.nil_append, if_true, if_false, true_or, or_true, true_and, and_true, not_true_eq_false, not_false_eq_true, Nat.reduceLT, Nat.reduceLeDiff, Nat.reduceEqDiff, Nat.reduceAdd, Nat.reduceMul, Nat.reduceSub, Nat.reducePow, Nat.reduceMod, Nat.reduceDiv, l0, l1, l2, l3, l4, l5, l6, l7, l8, l9, l10, l11, l12, l13, l14, l15, l16, l20, l31, l32, l36, l40, l48, l57, l59, l63, l64, l97, l99, l100, l101, l122, l127, l128, l250, l255, l262143, l262144, l30000, l100000, l12345, l1024, l4095, nI_eqs, nI_les, nI_lts, qI_eq, qI_eqn, nI_eqq, qI_lts, nI_ltp, nI_lep, qI_les, nI_add, nI_mul, qI_add, qI_s, qI_def, nI_clamps, bI_z, bI_o, bI_01, n01, n11, rf_some, rf_none, m1, m1n, bft, a1, a2, gI a3, a4, h3, h1', b1, e44, bI_f]
      · rw [if_pos rfl]
        have i1 := ih (i + 1) (stI h1 T 4 (nI (i + 1))) (by omega) (q.st (by decide) _) (by rw [hI_stI, if_pos ⟨rfl, rfl⟩])
        rw [stI_stI] at i1
        rw [← i1]
        simp (disch := omega) only [s43_47, s43_48, s43_49, s43_50, s43_51, s43_52, s43_53, s43_54, s43_55, s43_56, s43_57, s43_58, s43_59, s43_60, s43_61, s43_62, s43_63, s43_64, ↓reduceIte, Option.bind_some, Option.toList_some, Option.toList_none, List.cons_append, List.nil_append, if_true, if_false, true_or, or_true, true_and, and_true, not_true_eq_false, not_false_eq_true, Nat.reduceLT, Nat.reduceLeDiff, Nat.reduceEqDiff, Nat.reduceAdd, Nat.reduceMul, Nat.reduceSub, Nat.reducePow, Nat.reduceMod, Nat.reduceDiv, l0, l1, l2, l3, l4, l5, l6, l7, l8, l9, l10, l11, l12, l13, l14, l15, l16, l20, l31, l32, l36, l40, l48, l57, l59, l63, l64, l97, l99, l100, l101, l122, l127, l128, l250, l255, l262143, l262144, l30000, l100000, l12345, l1024, l4095, nI_eqs, nI_les, nI_lts, qI_eq, qI_eqn, nI_eqq, qI_lts, nI_ltp, nI_lep, qI_les, nI_add, nI_mul, qI_add, qI_s, qI_def, nI_clamps, bI_z, bI_o, bI_01, n01, n11, rf_some, rf_none, m1, m1n, bft, a1, a2, gI a3, a4, h3, h1', b1, e44, bI_t, Bool.true_eq_false]
  have lc : ∀ m i h1, i + m = n → TP h1 T n b → hI h1 T 4 = nI i → E (d + 1) 43 75 [some (.ref T)] [] h1 = E (d + 1) 43 112 [some (.ref T)] [] (stI h1 T 4 (nI (spn isD b m i))) := by
    intro m
    induction m with
    | zero =>
      intro i h1 hi q h3
      have hi' : i = n := hi
      obtain ⟨a1, a2, a3, a4, a5, a6⟩ := q
      show _ = E (d + 1) 43 112 [some (.ref T)] [] (stI h1 T 4 (nI i))
      rw [stI_same h3, s43_75]
      simp (disch := omega) only [s43_76, s43_77, s43_78, s43_79, ↓reduceIte, Option.bind_some, Option.toList_some, Option.toList_none, List.cons_append, List.nil_append, if_true, if_false, true_or, or_true, true_and, and_true, not_true_eq_false, not_false_eq_true, Nat.reduceLT, Nat.reduceLeDiff, Nat.reduceEqDiff, Nat.reduceAdd, Nat.reduceMul, Nat.reduceSub, Nat.reducePow, Nat.reduceMod, Nat.reduceDiv, l0, l1, l2, l3, l4, l5, l6, l7, l8, l9, l10, l11, l12, l13, l14, l15, l16, l20, l31, l32, l36, l40, l48, l57, l59, l63, l64, l97, l99, l100, l101, l122, l127, l128, l250, l255, l262143, l262144, l30000, l100000, l12345, l1024, l4095, nI_eqs, nI_les, nI_lts, qI_eq, qI_eqn, nI_eqq, qI_lts, nI_ltp, nI_lep, qI_les, nI_add, nI_mul, qI_add, qI_s, qI_def, nI_clamps, bI_z, bI_o, bI_01, n01, n11, rf_some, rf_none, m1, m1n, bft, a1, a4, h3, hi', Nat.le_refl]
    | succ m ih =>
      intro i h1 hi q h3
      have h1' : ¬ n ≤ i := by omega
      obtain ⟨a1, a2, a3, a4, a5, a6⟩ := id q
      obtain ⟨b1, b2⟩ := a6 i (by omega)
      have e45 := fun d => x45 d h1 b2
      have S : spn isD b (m + 1) i = if isD (b i) = true then spn isD b m (i + 1) else i := rfl
      rw [S, s43_75]
      cases c : isD (b i) <;> rw [c] at e45
      · rw [if_neg (by decide), stI_same h3]
        simp (disch := omega) only [s43_76, s43_77, s43_78, s43_79, s43_80, s43_81, s43_82, s43_83, s43_84, s43_85, s43_86, ↓reduceIte, Option.bind_some, Option.toList_some, Option.toList_none, List.cons_append, List.nil_append, if_true, if_false, true_or, or_true, true_and, and_true, not_true_eq_false, not_false_eq_true, Nat.reduceLT, Nat.reduceLeDiff, Nat.reduceEqDiff, Nat.reduceAdd, Nat.reduceMul, Nat.reduceSub, Nat.reducePow, Nat.reduceMod, Nat.reduceDiv, l0, l1, l2, l3, l4, l5, l6, l7, l8, l9, l10, l11, l12, l13, l14, l15, l16, l20, l31, l32, l36, l40, l48, l57, l59, l63, l64, l97, l99, l100, l101, l122, l127, l128, l250, l255, l262143, l262144, l30000, l100000, l12345, l1024, l4095, nI_eqs, nI_les, nI_lts, qI_eq, qI_eqn, nI_eqq, qI_lts, nI_ltp, nI_lep, qI_les, nI_add, nI_mul, qI_add, qI_s, qI_def, nI_clamps, bI_z, bI_o, bI_01, n01, n11, rf_some, rf_none, m1, m1n, bft, a1, a2, gI a3, a4, h3, h1', b1, e45, bI_f]
      · rw [if_pos rfl]
        have i1 := ih (i + 1) (stI h1 T 4 (nI (i + 1))) (by omega) (q.st (by decide) _) (by rw [hI_stI, if_pos ⟨rfl, rfl⟩])
        rw [stI_stI] at i1
        rw [← i1]
        simp (disch := omega) only [s43_76, s43_77, s43_78, s43_79, s43_80, s43_81, s43_82, s43_83, s43_84, s43_85, s43_86, s43_87, s43_88, s43_89, s43_90, s43_91, s43_92, s43_93, ↓reduceIte, Option.bind_some, Option.toList_some, Option.toList_none, List.cons_append, List.nil_append, if_true, if_false, true_or, or_true, true_and, and_true, not_true_eq_false, not_false_eq_true, Nat.reduceLT, Nat.reduceLeDiff, Nat.reduceEqDiff, Nat.reduceAdd, Nat.reduceMul, Nat.reduceSub, Nat.reducePow, Nat.reduceMod, Nat.reduceDiv, l0, l1, l2, l3, l4, l5, l6, l7, l8, l9, l10, l11, l12, l13, l14, l15, l16, l20, l31, l32, l36, l40, l48, l57, l59, l63, l64, l97, l99, l100, l101, l122, l127, l128, l250, l255, l262143, l262144, l30000, l100000, l12345, l1024, l4095, nI_eqs, nI_les, nI_lts, qI_eq, qI_eqn, nI_eqq, qI_lts, nI_ltp, nI_lep, qI_les, nI_add, nI_mul, qI_add, qI_s, qI_def, nI_clamps, bI_z, bI_o, bI_01, n01, n11, rf_some, rf_none, m1, m1n, bft, a1, a2, gI a3, a4, h3, h1', b1, e45, bI_t, Bool.true_eq_false]
  have fl := (spn_le isS b (n - e) e)
  have q3 := q.st (k := 3) (by decide) (nI e)
  have eA := la (n - e) e (stI h T 3 (nI e)) (by omega) q3 (by rw [hI_stI, if_pos ⟨rfl, rfl⟩])
  rw [stI_stI] at eA
  unfold tkL
  generalize spn isS b (n - e) e = f at *
  have qB := (q.st (k := 3) (by decide) (nI f)).st (k := 4) (by decide) (nI f)
  obtain ⟨a1, a2, a3, a4, a5, a6⟩ := id q
  have hd : E (d + 1) 43 0 [some (.ref T)] [] h = E (d + 1) 43 27 [some (.ref T)] [] (stI (stI h T 3 (nI f)) T 4 (nI f)) := by
    simp (disch := omega) only [s43_0, s43_1, s43_2, s43_3, ↓reduceIte, Option.bind_some, Option.toList_some, Option.toList_none, List.cons_append, List.nil_append, if_true, if_false, true_or, or_true, true_and, and_true, not_true_eq_false, not_false_eq_true, Nat.reduceLT, Nat.reduceLeDiff, Nat.reduceEqDiff, Nat.reduceAdd, Nat.reduceMul, Nat.reduceSub, Nat.reducePow, Nat.reduceMod, Nat.reduceDiv, l0, l1, l2, l3, l4, l5, l6, l7, l8, l9, l10, l11, l12, l13, l14, l15, l16, l20, l31, l32, l36, l40, l48, l57, l59, l63, l64, l97, l99, l100, l101, l122, l127, l128, l250, l255, l262143, l262144, l30000, l100000, l12345, l1024, l4095, nI_eqs, nI_les, nI_lts, qI_eq, qI_eqn, nI_eqq, qI_lts, nI_ltp, nI_lep, qI_les, nI_add, nI_mul, qI_add, qI_s, qI_def, nI_clamps, bI_z, bI_o, bI_01, n01, n11, rf_some, rf_none, m1, m1n, bft, a1, h4]
    rw [eA]
    simp (disch := omega) only [s43_23, s43_24, s43_25, s43_26, ↓reduceIte, Option.bind_some, Option.toList_some, Option.toList_none, List.cons_append, List.nil_append, if_true, if_false, true_or, or_true, true_and, and_true, not_true_eq_false, not_false_eq_true, Nat.reduceLT, Nat.reduceLeDiff, Nat.reduceEqDiff, Nat.reduceAdd, Nat.reduceMul, Nat.reduceSub, Nat.reducePow, Nat.reduceMod, Nat.reduceDiv, l0, l1, l2, l3, l4, l5, l6, l7, l8, l9, l10, l11, l12, l13, l14, l15, l16, l20, l31, l32, l36, l40, l48, l57, l59, l63, l64, l97, l99, l100, l101, l122, l127, l128, l250, l255, l262143, l262144, l30000, l100000, l12345, l1024, l4095, nI_eqs, nI_les, nI_lts, qI_eq, qI_eqn, nI_eqq, qI_lts, nI_ltp, nI_lep, qI_les, nI_add, nI_mul, qI_add, qI_s, qI_def, nI_clamps, bI_z, bI_o, bI_01, n01, n11, rf_some, rf_none, m1, m1n, bft, ad1, ad2, hI_stI, hS_stI, hR_stI, hL_stI, alen_stI, hI_stL, hL_stL, hS_stL, hR_stL, alen_stL, false_and, and_false, and_self, eq_self, a1]
  obtain ⟨c1, c2, c3, c4, c5, c6⟩ := id qB
  have g3 : hI (stI (stI h T 3 (nI f)) T 4 (nI f)) T 3 = nI f := by rw [hI_stI, if_neg (fun w => by omega), hI_stI, if_pos ⟨rfl, rfl⟩]
  have g4 : hI (stI (stI h T 3 (nI f)) T 4 (nI f)) T 4 = nI f := by rw [hI_stI, if_pos ⟨rfl, rfl⟩]
  have fB : Fr0 (fun a => a = T) h (stI (stI h T 3 (nI f)) T 4 (nI f)) := (Fr0.stI (A := fun a => a = T) h rfl _ _).trans (Fr0.stI (A := fun a => a = T) _ rfl _ _)
  rw [hd]
  generalize stI (stI h T 3 (nI f)) T 4 (nI f) = H at *
  have fS : ∀ (H' : AH) k v, Fr0 (fun a => a = T) h H' → Fr0 (fun a => a = T) h (stI H' T k v) := fun H' k v w => w.trans (Fr0.stI (A := fun a => a = T) _ rfl _ _)
  by_cases z : n ≤ f
  · rw [if_pos z]
    have z' : ¬ f < n := by omega
    refine ⟨stI H T 2 (nI 0), ?_, qB.st (by decide) _, ⟨?_, ?_, ?_⟩, fS _ _ _ fB⟩
    · simp (disch := omega) only [s43_27, s43_28, s43_29, s43_30, s43_31, s43_32, s43_33, s43_34, s43_35, ↓reduceIte, Option.bind_some, Option.toList_some, Option.toList_none, List.cons_append, List.nil_append, if_true, if_false, true_or, or_true, true_and, and_true, not_true_eq_false, not_false_eq_true, Nat.reduceLT, Nat.reduceLeDiff, Nat.reduceEqDiff, Nat.reduceAdd, Nat.reduceMul, Nat.reduceSub, Nat.reducePow, Nat.reduceMod, Nat.reduceDiv, l0, l1, l2, l3, l4, l5, l6, l7, l8, l9, l10, l11, l12, l13, l14, l15, l16, l20, l31, l32, l36, l40, l48, l57, l59, l63, l64, l97, l99, l100, l101, l122, l127, l128, l250, l255, l262143, l262144, l30000, l100000, l12345, l1024, l4095, nI_eqs, nI_les, nI_lts, qI_eq, qI_eqn, nI_eqq, qI_lts, nI_ltp, nI_lep, qI_les, nI_add, nI_mul, qI_add, qI_s, qI_def, nI_clamps, bI_z, bI_o, bI_01, n01, n11, rf_some, rf_none, m1, m1n, bft, c1, c4, g3, z']
    · rw [hI_stI, if_pos ⟨rfl, rfl⟩]
    · rw [hI_stI, if_neg (fun w => by omega)]; exact g3
    · rw [hI_stI, if_neg (fun w => by omega)]; exact g4
  · rw [if_neg z]
    have z' : f < n := by omega
    obtain ⟨b1, b2⟩ := c6 f z'
    have e44 := fun d => x44 d H b2
    have e45 := fun d => x45 d H b2
    cases cl : isL (b f) <;> rw [cl] at e44
    · rw [if_neg (by decide)]
      cases cd : isD (b f) <;> rw [cd] at e45
      · rw [if_neg (by decide)]
        by_cases s59 : b f = 59
        · rw [if_pos s59]
          rw [s59] at e44 e45 b1
          refine ⟨stI (stI H T 2 (nI 3)) T 4 (nI (f + 1)), ?_, (qB.st (by decide) _).st (by decide) _, ⟨?_, ?_, ?_⟩, fS _ _ _ (fS _ _ _ fB)⟩
          · simp (disch := omega) only [s43_27, s43_28, s43_29, s43_30, s43_31, s43_36, s43_37, s43_38, s43_39, s43_40, s43_41, s43_42, s43_65, s43_66, s43_67, s43_68, s43_69, s43_70, s43_71, s43_94, s43_95, s43_96, s43_97, s43_98, s43_99, s43_100, s43_101, s43_102, s43_103, s43_104, s43_105, s43_106, s43_107, s43_108, s43_109, s43_110, s43_111, s43_112, ↓reduceIte, Option.bind_some, Option.toList_some, Option.toList_none, List.cons_append, List.nil_append, if_true, if_false, true_or, or_true, true_and, and_true, not_true_eq_false, not_false_eq_true, Nat.reduceLT, Nat.reduceLeDiff, Nat.reduceEqDiff, Nat.reduceAdd, Nat.reduceMul, Nat.reduceSub, Nat.reducePow, Nat.reduceMod, Nat.reduceDiv, l0, l1, l2, l3, l4, l5, l6, l7, l8, l9, l10, l11, l12, l13, l14, l15, l16, l20, l31, l32, l36, l40, l48, l57, l59, l63, l64, l97, l99, l100, l101, l122, l127, l128, l250, l255, l262143, l262144, l30000, l100000, l12345, l1024, l4095, nI_eqs, nI_les, nI_lts, qI_eq, qI_eqn, nI_eqq, qI_lts, nI_ltp, nI_lep, qI_les, nI_add, nI_mul, qI_add, qI_s, qI_def, nI_clamps, bI_z, bI_o, bI_01, n01, n11, rf_some, rf_none, m1, m1n, bft, ad1, ad2, hI_stI, hS_stI, hR_stI, hL_stI, alen_stI, hI_stL, hL_stL, hS_stL, hR_stL, alen_stL, false_and, and_false, and_self, eq_self, c1, c2, gI c3, c4, g3, g4, z', b1, e44, e45, bI_f, s59]
          · rw [hI_stI, if_neg (fun w => by omega), hI_stI, if_pos ⟨rfl, rfl⟩]
          · rw [hI_stI, if_neg (fun w => by omega), hI_stI, if_neg (fun w => by omega)]; exact g3
          · rw [hI_stI, if_pos ⟨rfl, rfl⟩]
        · rw [if_neg s59]
          refine ⟨stI (stI H T 2 (nI 4)) T 4 (nI (f + 1)), ?_, (qB.st (by decide) _).st (by decide) _, ⟨?_, ?_, ?_⟩, fS _ _ _ (fS _ _ _ fB)⟩
          · simp (disch := omega) only [s43_27, s43_28, s43_29, s43_30, s43_31, s43_36, s43_37, s43_38, s43_39, s43_40, s43_41, s43_42, s43_65, s43_66, s43_67, s43_68, s43_69, s43_70, s43_71, s43_94, s43_95, s43_96, s43_97, s43_98, s43_99, s43_100, s43_101, s43_102, s43_103, s43_104, s43_105, s43_106, s43_107, s43_108, s43_109, s43_110, s43_111, s43_112, ↓reduceIte, Option.bind_some, Option.toList_some, Option.toList_none, List.cons_append, List.nil_append, if_true, if_false, true_or, or_true, true_and, and_true, not_true_eq_false, not_false_eq_true, Nat.reduceLT, Nat.reduceLeDiff, Nat.reduceEqDiff, Nat.reduceAdd, Nat.reduceMul, Nat.reduceSub, Nat.reducePow, Nat.reduceMod, Nat.reduceDiv, l0, l1, l2, l3, l4, l5, l6, l7, l8, l9, l10, l11, l12, l13, l14, l15, l16, l20, l31, l32, l36, l40, l48, l57, l59, l63, l64, l97, l99, l100, l101, l122, l127, l128, l250, l255, l262143, l262144, l30000, l100000, l12345, l1024, l4095, nI_eqs, nI_les, nI_lts, qI_eq, qI_eqn, nI_eqq, qI_lts, nI_ltp, nI_lep, qI_les, nI_add, nI_mul, qI_add, qI_s, qI_def, nI_clamps, bI_z, bI_o, bI_01, n01, n11, rf_some, rf_none, m1, m1n, bft, ad1, ad2, hI_stI, hS_stI, hR_stI, hL_stI, alen_stI, hI_stL, hL_stL, hS_stL, hR_stL, alen_stL, false_and, and_false, and_self, eq_self, c1, c2, gI c3, c4, g3, g4, z', b1, e44, e45, bI_f, s59]
          · rw [hI_stI, if_neg (fun w => by omega), hI_stI, if_pos ⟨rfl, rfl⟩]
          · rw [hI_stI, if_neg (fun w => by omega), hI_stI, if_neg (fun w => by omega)]; exact g3
          · rw [hI_stI, if_pos ⟨rfl, rfl⟩]
      · rw [if_pos rfl]
        have g4' : hI (stI H T 2 (nI 2)) T 4 = nI f := by rw [hI_stI, if_neg (fun w => by omega)]; exact g4
        have eC := lc (n - f) f (stI H T 2 (nI 2)) (by omega) (qB.st (by decide) _) g4'
        refine ⟨stI (stI H T 2 (nI 2)) T 4 (nI (spn isD b (n - f) f)), ?_, (qB.st (by decide) _).st (by decide) _, ⟨?_, ?_, ?_⟩, fS _ _ _ (fS _ _ _ fB)⟩
        · simp (disch := omega) only [s43_27, s43_28, s43_29, s43_30, s43_31, s43_36, s43_37, s43_38, s43_39, s43_40, s43_41, s43_42, s43_65, s43_66, s43_67, s43_68, s43_69, s43_70, s43_71, s43_72, s43_73, s43_74, ↓reduceIte, Option.bind_some, Option.toList_some, Option.toList_none, List.cons_append, List.nil_append, if_true, if_false, true_or, or_true, true_and, and_true, not_true_eq_false, not_false_eq_true, Nat.reduceLT, Nat.reduceLeDiff, Nat.reduceEqDiff, Nat.reduceAdd, Nat.reduceMul, Nat.reduceSub, Nat.reducePow, Nat.reduceMod, Nat.reduceDiv, l0, l1, l2, l3, l4, l5, l6, l7, l8, l9, l10, l11, l12, l13, l14, l15, l16, l20, l31, l32, l36, l40, l48, l57, l59, l63, l64, l97, l99, l100, l101, l122, l127, l128, l250, l255, l262143, l262144, l30000, l100000, l12345, l1024, l4095, nI_eqs, nI_les, nI_lts, qI_eq, qI_eqn, nI_eqq, qI_lts, nI_ltp, nI_lep, qI_les, nI_add, nI_mul, qI_add, qI_s, qI_def, nI_clamps, bI_z, bI_o, bI_01, n01, n11, rf_some, rf_none, m1, m1n, bft, c1, c2, gI c3, c4, g3, z', b1, e44, e45, bI_f, bI_t, Bool.true_eq_false]
          rw [eC, s43_112]
        · rw [hI_stI, if_neg (fun w => by omega), hI_stI, if_pos ⟨rfl, rfl⟩]
        · rw [hI_stI, if_neg (fun w => by omega), hI_stI, if_neg (fun w => by omega)]; exact g3
        · rw [hI_stI, if_pos ⟨rfl, rfl⟩]
    · rw [if_pos rfl]
      have g4' : hI (stI H T 2 (nI 1)) T 4 = nI f := by rw [hI_stI, if_neg (fun w => by omega)]; exact g4
      have eC := lb (n - f) f (stI H T 2 (nI 1)) (by omega) (qB.st (by decide) _) g4'
      refine ⟨stI (stI H T 2 (nI 1)) T 4 (nI (spn isL b (n - f) f)), ?_, (qB.st (by decide) _).st (by decide) _, ⟨?_, ?_, ?_⟩, fS _ _ _ (fS _ _ _ fB)⟩
      · simp (disch := omega) only [s43_27, s43_28, s43_29, s43_30, s43_31, s43_36, s43_37, s43_38, s43_39, s43_40, s43_41, s43_42, s43_43, s43_44, s43_45, ↓reduceIte, Option.bind_some, Option.toList_some, Option.toList_none, List.cons_append, List.nil_append, if_true, if_false, true_or, or_true, true_and, and_true, not_true_eq_false, not_false_eq_true, Nat.reduceLT, Nat.reduceLeDiff, Nat.reduceEqDiff, Nat.reduceAdd, Nat.reduceMul, Nat.reduceSub, Nat.reducePow, Nat.reduceMod, Nat.reduceDiv, l0, l1, l2, l3, l4, l5, l6, l7, l8, l9, l10, l11, l12, l13, l14, l15, l16, l20, l31, l32, l36, l40, l48, l57, l59, l63, l64, l97, l99, l100, l101, l122, l127, l128, l250, l255, l262143, l262144, l30000, l100000, l12345, l1024, l4095, nI_eqs, nI_les, nI_lts, qI_eq, qI_eqn, nI_eqq, qI_lts, nI_ltp, nI_lep, qI_les, nI_add, nI_mul, qI_add, qI_s, qI_def, nI_clamps, bI_z, bI_o, bI_01, n01, n11, rf_some, rf_none, m1, m1n, bft, c1, c2, gI c3, c4, g3, z', b1, e44, bI_t, Bool.true_eq_false]
        rw [eC, s43_112]
      · rw [hI_stI, if_neg (fun w => by omega), hI_stI, if_pos ⟨rfl, rfl⟩]
      · rw [hI_stI, if_neg (fun w => by omega), hI_stI, if_neg (fun w => by omega)]; exact g3
      · rw [hI_stI, if_pos ⟨rfl, rfl⟩]
