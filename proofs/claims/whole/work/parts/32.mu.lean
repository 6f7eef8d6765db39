/-! THE REFERENCE'S YARD: loops, new gates and carts, draws, takeFrom -/
theorem m161 (d : Nat) {h : AH} {a : Nat} {y : YS} (hx : MY h a y) {g : Nat} (hg : g < Yg y) (p : Option Value) : E d 161 0 [some (.ref a), some (.int (nI g)), p] [] h = some (some (.int (bI (usdB y g))), h) := by
  obtain ⟨⟨z0, z1, z2, z3, z4, z5, z6, z7, z8, r1, r2, r3, r4, r5, r6, r7, r8⟩, ⟨vc, vg, vn, vt, vz, vK, vA, vU, vF, vM, vW, vC, vP⟩, ok⟩ := hx
  obtain ⟨⟨o2, o3⟩, o6, on, og, oc⟩ := id ok
  have lp : ∀ m i, i + m = Yg y → E d 161 2 [some (.ref a), some (.int (nI g)), some (.int (nI i))] [] h = some (some (.int (bI (anyB (fun k => !decide (k = g) && decide (YU y k = g)) m i))), h) := by
    intro m
    induction m with
    | zero =>
      intro i hi
      have hi' : i = Yg y := hi
      simp (disch := omega) only [s161_0, s161_1, s161_2, s161_3, s161_4, s161_5, s161_6, s161_7, s161_8, s161_9, s161_10, s161_11, s161_12, s161_13, s161_14, s161_15, s161_16, s161_17, s161_18, s161_19, s161_20, ↓reduceIte, Option.bind_some, Option.toList_some, Option.toList_none, List.cons_append, List.nil_append, if_true, if_false, true_or, or_true, true_and, and_true, not_true_eq_false, not_false_eq_true, Nat.reduceLT, Nat.reduceLeDiff, Nat.reduceEqDiff, Nat.reduceAdd, Nat.reduceMul, Nat.reduceSub, Nat.reducePow, Nat.reduceMod, Nat.reduceDiv, l0, l1, l2, l3, l4, l5, l6, l7, l8, l9, l10, l11, l12, l13, l14, l15, l16, l20, l31, l32, l36, l40, l48, l57, l59, l63, l64, l97, l99, l100, l101, l122, l127, l128, l250, l255, l262143, l262144, l30000, l100000, l12345, l1024, l4095, nI_eqs, nI_les, nI_lts, qI_eq, qI_eqn, nI_eqq, qI_lts, nI_ltp, nI_lep, qI_les, nI_add, nI_mul, qI_add, qI_s, qI_def, nI_clamps, bI_z, bI_o, bI_01, n01, n11, rf_some, rf_none, m1, m1n, bft, z0, r1, r2, r3, r4, r5, r6, r7, r8, vc, vg, vn, vt, vz, gI z1, gI z2, gI z3, gI z4, gI z5, gI z6, gI z7, gI z8, gA z1, gA z2, gA z3, gA z4, gA z5, gA z6, gA z7, gA z8, vK, vA, vU, vF, vM, vW, vC, vP, hi', Nat.le_refl, anyB_0, bI_f]
    | succ m ih =>
      intro i hi
      have h1 : ¬ Yg y ≤ i := by omega
      have u := (og i (by omega)).2.2.1
      rw [s161_2, anyB_s]
      by_cases p : i = g
      · subst p
        simp (disch := omega) only [s161_0, s161_1, s161_3, s161_4, s161_5, s161_6, s161_7, s161_8, s161_9, s161_10, s161_11, s161_12, s161_13, s161_14, s161_15, s161_16, s161_17, s161_18, s161_19, s161_20, ↓reduceIte, Option.bind_some, Option.toList_some, Option.toList_none, List.cons_append, List.nil_append, if_true, if_false, true_or, or_true, true_and, and_true, not_true_eq_false, not_false_eq_true, Nat.reduceLT, Nat.reduceLeDiff, Nat.reduceEqDiff, Nat.reduceAdd, Nat.reduceMul, Nat.reduceSub, Nat.reducePow, Nat.reduceMod, Nat.reduceDiv, l0, l1, l2, l3, l4, l5, l6, l7, l8, l9, l10, l11, l12, l13, l14, l15, l16, l20, l31, l32, l36, l40, l48, l57, l59, l63, l64, l97, l99, l100, l101, l122, l127, l128, l250, l255, l262143, l262144, l30000, l100000, l12345, l1024, l4095, nI_eqs, nI_les, nI_lts, qI_eq, qI_eqn, nI_eqq, qI_lts, nI_ltp, nI_lep, qI_les, nI_add, nI_mul, qI_add, qI_s, qI_def, nI_clamps, bI_z, bI_o, bI_01, n01, n11, rf_some, rf_none, m1, m1n, bft, z0, r1, r2, r3, r4, r5, r6, r7, r8, vc, vg, vn, vt, vz, gI z1, gI z2, gI z3, gI z4, gI z5, gI z6, gI z7, gI z8, gA z1, gA z2, gA z3, gA z4, gA z5, gA z6, gA z7, gA z8, vK, vA, vU, vF, vM, vW, vC, vP, h1, eq_self, decide_true, Bool.not_true, Bool.false_and, Bool.false_or]
        exact ih _ (by omega)
      · by_cases q : YU y i = g
        · simp (disch := omega) only [s161_0, s161_1, s161_3, s161_4, s161_5, s161_6, s161_7, s161_8, s161_9, s161_10, s161_11, s161_12, s161_13, s161_14, s161_15, s161_16, s161_17, s161_18, s161_19, s161_20, ↓reduceIte, Option.bind_some, Option.toList_some, Option.toList_none, List.cons_append, List.nil_append, if_true, if_false, true_or, or_true, true_and, and_true, not_true_eq_false, not_false_eq_true, Nat.reduceLT, Nat.reduceLeDiff, Nat.reduceEqDiff, Nat.reduceAdd, Nat.reduceMul, Nat.reduceSub, Nat.reducePow, Nat.reduceMod, Nat.reduceDiv, l0, l1, l2, l3, l4, l5, l6, l7, l8, l9, l10, l11, l12, l13, l14, l15, l16, l20, l31, l32, l36, l40, l48, l57, l59, l63, l64, l97, l99, l100, l101, l122, l127, l128, l250, l255, l262143, l262144, l30000, l100000, l12345, l1024, l4095, nI_eqs, nI_les, nI_lts, qI_eq, qI_eqn, nI_eqq, qI_lts, nI_ltp, nI_lep, qI_les, nI_add, nI_mul, qI_add, qI_s, qI_def, nI_clamps, bI_z, bI_o, bI_01, n01, n11, rf_some, rf_none, m1, m1n, bft, z0, r1, r2, r3, r4, r5, r6, r7, r8, vc, vg, vn, vt, vz, gI z1, gI z2, gI z3, gI z4, gI z5, gI z6, gI z7, gI z8, gA z1, gA z2, gA z3, gA z4, gA z5, gA z6, gA z7, gA z8, vK, vA, vU, vF, vM, vW, vC, vP, h1, p, q, decide_false, Bool.not_false, decide_true, Bool.true_and, Bool.true_or, bI_t]
        · simp (disch := omega) only [s161_0, s161_1, s161_3, s161_4, s161_5, s161_6, s161_7, s161_8, s161_9, s161_10, s161_11, s161_12, s161_13, s161_14, s161_15, s161_16, s161_17, s161_18, s161_19, s161_20, ↓reduceIte, Option.bind_some, Option.toList_some, Option.toList_none, List.cons_append, List.nil_append, if_true, if_false, true_or, or_true, true_and, and_true, not_true_eq_false, not_false_eq_true, Nat.reduceLT, Nat.reduceLeDiff, Nat.reduceEqDiff, Nat.reduceAdd, Nat.reduceMul, Nat.reduceSub, Nat.reducePow, Nat.reduceMod, Nat.reduceDiv, l0, l1, l2, l3, l4, l5, l6, l7, l8, l9, l10, l11, l12, l13, l14, l15, l16, l20, l31, l32, l36, l40, l48, l57, l59, l63, l64, l97, l99, l100, l101, l122, l127, l128, l250, l255, l262143, l262144, l30000, l100000, l12345, l1024, l4095, nI_eqs, nI_les, nI_lts, qI_eq, qI_eqn, nI_eqq, qI_lts, nI_ltp, nI_lep, qI_les, nI_add, nI_mul, qI_add, qI_s, qI_def, nI_clamps, bI_z, bI_o, bI_01, n01, n11, rf_some, rf_none, m1, m1n, bft, z0, r1, r2, r3, r4, r5, r6, r7, r8, vc, vg, vn, vt, vz, gI z1, gI z2, gI z3, gI z4, gI z5, gI z6, gI z7, gI z8, gA z1, gA z2, gA z3, gA z4, gA z5, gA z6, gA z7, gA z8, vK, vA, vU, vF, vM, vW, vC, vP, h1, p, q, decide_false, Bool.not_false, Bool.and_false, Bool.false_or]
          exact ih _ (by omega)
  rw [s161_0, s161_1]
  exact lp (Yg y) 0 (by omega)
theorem m191 (d : Nat) {h : AH} {a : Nat} {y : YS} (hx : MY h a y) (p1 p2 : Option Value) : E d 191 0 [some (.ref a), p1, p2] [] h = some (some (.int (scrN y)), h) := by
  obtain ⟨⟨z0, z1, z2, z3, z4, z5, z6, z7, z8, r1, r2, r3, r4, r5, r6, r7, r8⟩, ⟨vc, vg, vn, vt, vz, vK, vA, vU, vF, vM, vW, vC, vP⟩, ok⟩ := hx
  obtain ⟨⟨o2, o3⟩, o6, on, og, oc⟩ := id ok
  have lp : ∀ m i s, i + m = Yg y → E d 191 4 [some (.ref a), some (.int s), some (.int (nI i))] [] h = some (some (.int (itr (fun g s => s + YW y g) m i s)), h) := by
    intro m
    induction m with
    | zero =>
      intro i s hi
      have hi' : i = Yg y := hi
      simp (disch := omega) only [s191_0, s191_1, s191_2, s191_3, s191_4, s191_5, s191_6, s191_7, s191_8, s191_9, s191_10, s191_11, s191_12, s191_13, s191_14, s191_15, s191_16, s191_17, s191_18, ↓reduceIte, Option.bind_some, Option.toList_some, Option.toList_none, List.cons_append, List.nil_append, if_true, if_false, true_or, or_true, true_and, and_true, not_true_eq_false, not_false_eq_true, Nat.reduceLT, Nat.reduceLeDiff, Nat.reduceEqDiff, Nat.reduceAdd, Nat.reduceMul, Nat.reduceSub, Nat.reducePow, Nat.reduceMod, Nat.reduceDiv, l0, l1, l2, l3, l4, l5, l6, l7, l8, l9, l10, l11, l12, l13, l14, l15, l16, l20, l31, l32, l36, l40, l48, l57, l59, l63, l64, l97, l99, l100, l101, l122, l127, l128, l250, l255, l262143, l262144, l30000, l100000, l12345, l1024, l4095, nI_eqs, nI_les, nI_lts, qI_eq, qI_eqn, nI_eqq, qI_lts, nI_ltp, nI_lep, qI_les, nI_add, nI_mul, qI_add, qI_s, qI_def, nI_clamps, bI_z, bI_o, bI_01, n01, n11, rf_some, rf_none, m1, m1n, bft, z0, r1, r2, r3, r4, r5, r6, r7, r8, vc, vg, vn, vt, vz, gI z1, gI z2, gI z3, gI z4, gI z5, gI z6, gI z7, gI z8, gA z1, gA z2, gA z3, gA z4, gA z5, gA z6, gA z7, gA z8, vK, vA, vU, vF, vM, vW, vC, vP, hi', Nat.le_refl, itr_0]
    | succ m ih =>
      intro i s hi
      have h1 : ¬ Yg y ≤ i := by omega
      rw [s191_4, itr_s]
      simp (disch := omega) only [s191_0, s191_1, s191_2, s191_3, s191_5, s191_6, s191_7, s191_8, s191_9, s191_10, s191_11, s191_12, s191_13, s191_14, s191_15, s191_16, s191_17, s191_18, ↓reduceIte, Option.bind_some, Option.toList_some, Option.toList_none, List.cons_append, List.nil_append, if_true, if_false, true_or, or_true, true_and, and_true, not_true_eq_false, not_false_eq_true, Nat.reduceLT, Nat.reduceLeDiff, Nat.reduceEqDiff, Nat.reduceAdd, Nat.reduceMul, Nat.reduceSub, Nat.reducePow, Nat.reduceMod, Nat.reduceDiv, l0, l1, l2, l3, l4, l5, l6, l7, l8, l9, l10, l11, l12, l13, l14, l15, l16, l20, l31, l32, l36, l40, l48, l57, l59, l63, l64, l97, l99, l100, l101, l122, l127, l128, l250, l255, l262143, l262144, l30000, l100000, l12345, l1024, l4095, nI_eqs, nI_les, nI_lts, qI_eq, qI_eqn, nI_eqq, qI_lts, nI_ltp, nI_lep, qI_les, nI_add, nI_mul, qI_add, qI_s, qI_def, nI_clamps, bI_z, bI_o, bI_01, n01, n11, rf_some, rf_none, m1, m1n, bft, z0, r1, r2, r3, r4, r5, r6, r7, r8, vc, vg, vn, vt, vz, gI z1, gI z2, gI z3, gI z4, gI z5, gI z6, gI z7, gI z8, gA z1, gA z2, gA z3, gA z4, gA z5, gA z6, gA z7, gA z8, vK, vA, vU, vF, vM, vW, vC, vP, h1]
      exact ih _ _ (by omega)
  rw [s191_0, s191_1, s191_2, s191_3]
  exact lp (Yg y) 0 (nI 0) (by omega)
def allOut (y : YS) : Bool := itr (fun k s => s && decide (Yg y ≤ YP y k)) (Yn y) 0 true
theorem bI_and (a b : Bool) : bI a &&& bI b = bI (a && b) := by cases a <;> cases b <;> decide
theorem m198 (d : Nat) {h : AH} {a : Nat} {y : YS} (hx : MY h a y) (p1 p2 : Option Value) : E (d + 1) 198 0 [some (.ref a), p1, p2] [] h = some (some (.int (bI (allOut y))), h) := by
  have e141 := fun k (hk : k < Yn y) => m141 d hx hk
  obtain ⟨⟨z0, z1, z2, z3, z4, z5, z6, z7, z8, r1, r2, r3, r4, r5, r6, r7, r8⟩, ⟨vc, vg, vn, vt, vz, vK, vA, vU, vF, vM, vW, vC, vP⟩, ok⟩ := hx
  obtain ⟨⟨o2, o3⟩, o6, on, og, oc⟩ := id ok
  have lp : ∀ m i s, i + m = Yn y → E (d + 1) 198 4 [some (.ref a), some (.int (bI s)), some (.int (nI i))] [] h = some (some (.int (bI (itr (fun k s => s && decide (Yg y ≤ YP y k)) m i s))), h) := by
    intro m
    induction m with
    | zero =>
      intro i s hi
      have hi' : i = Yn y := hi
      simp (disch := omega) only [s198_0, s198_1, s198_2, s198_3, s198_4, s198_5, s198_6, s198_7, s198_8, s198_9, s198_10, s198_11, s198_12, s198_13, s198_14, s198_15, s198_16, s198_17, ↓reduceIte, Option.bind_some, Option.toList_some, Option.toList_none, List.cons_append, List.nil_append, if_true, if_false, true_or, or_true, true_and, and_true, not_true_eq_false, not_false_eq_true, Nat.reduceLT, Nat.reduceLeDiff, Nat.reduceEqDiff, Nat.reduceAdd, Nat.reduceMul, Nat.reduceSub, Nat.reducePow, Nat.reduceMod, Nat.reduceDiv, l0, l1, l2, l3, l4, l5, l6, l7, l8, l9, l10, l11, l12, l13, l14, l15, l16, l20, l31, l32, l36, l40, l48, l57, l59, l63, l64, l97, l99, l100, l101, l122, l127, l128, l250, l255, l262143, l262144, l30000, l100000, l12345, l1024, l4095, nI_eqs, nI_les, nI_lts, qI_eq, qI_eqn, nI_eqq, qI_lts, nI_ltp, nI_lep, qI_les, nI_add, nI_mul, qI_add, qI_s, qI_def, nI_clamps, bI_z, bI_o, bI_01, n01, n11, rf_some, rf_none, m1, m1n, bft, z0, r1, r2, r3, r4, r5, r6, r7, r8, vc, vg, vn, vt, vz, gI z1, gI z2, gI z3, gI z4, gI z5, gI z6, gI z7, gI z8, gA z1, gA z2, gA z3, gA z4, gA z5, gA z6, gA z7, gA z8, vK, vA, vU, vF, vM, vW, vC, vP, hi', Nat.le_refl, itr_0]
    | succ m ih =>
      intro i s hi
      have h1 : ¬ Yn y ≤ i := by omega
      rw [s198_4, itr_s]
      simp (disch := omega) only [s198_0, s198_1, s198_2, s198_3, s198_5, s198_6, s198_7, s198_8, s198_9, s198_10, s198_11, s198_12, s198_13, s198_14, s198_15, s198_16, s198_17, ↓reduceIte, Option.bind_some, Option.toList_some, Option.toList_none, List.cons_append, List.nil_append, if_true, if_false, true_or, or_true, true_and, and_true, not_true_eq_false, not_false_eq_true, Nat.reduceLT, Nat.reduceLeDiff, Nat.reduceEqDiff, Nat.reduceAdd, Nat.reduceMul, Nat.reduceSub, Nat.reducePow, Nat.reduceMod, Nat.reduceDiv, l0, l1, l2, l3, l4, l5, l6, l7, l8, l9, l10, l11, l12, l13, l14, l15, l16, l20, l31, l32, l36, l40, l48, l57, l59, l63, l64, l97, l99, l100, l101, l122, l127, l128, l250, l255, l262143, l262144, l30000, l100000, l12345, l1024, l4095, nI_eqs, nI_les, nI_lts, qI_eq, qI_eqn, nI_eqq, qI_lts, nI_ltp, nI_lep, qI_les, nI_add, nI_mul, qI_add, qI_s, qI_def, nI_clamps, bI_z, bI_o, bI_01, n01, n11, rf_some, rf_none, m1, m1n, bft, z0, r1, r2, r3, r4, r5, r6, r7, r8, vc, vg, vn, vt, vz, gI z1, gI z2, gI z3, gI z4, gI z5, gI z6, gI z7, gI z8, gA z1, gA z2, gA z3, gA z4, gA z5, gA z6, gA z7, gA z8, vK, vA, vU, vF, vM, vW, vC, vP, h1, e141, bI_and]
      exact ih _ _ (by omega)
  rw [s198_0, s198_1, s198_2, s198_3]
  exact lp (Yn y) 0 true (by omega)
theorem lenA_of {h : AH} {a t n : Nat} (hs : hS h a = some (t, n)) (ht : t ≤ 8) : lenA h a = some n := by unfold lenA; rw [hs]; exact if_pos ht
theorem lenA_cpI (h : AH) (a sp b dp n : Nat) : lenA (cpI h a sp b dp n) = lenA h := rfl
theorem lenA_stI (h : AH) (a k : Nat) (v : Int32) : lenA (stI h a k v) = lenA h := rfl
theorem cpI_0 (h : AH) (p q : Nat) : cpI h p 0 q 0 0 = h := by
  have : (fun c j => if c = q then va_cpy (hI h p) (hI h q) 0 0 0 j else hI h c j) = hI h := by
    funext c j
    unfold va_cpy
    split
    · rename_i e; subst e; rw [if_neg (by omega)]
    · rfl
  unfold cpI
  rw [this]; rfl
theorem cpI_s (h : AH) {p q : Nat} (i : Nat) (hpq : p ≠ q) : stI (cpI h p 0 q 0 i) q i (hI h p i) = cpI h p 0 q 0 (i + 1) := by
  have : up2 (hI (cpI h p 0 q 0 i)) q i (hI h p i) = (fun c j => if c = q then va_cpy (hI h p) (hI h q) 0 0 (i + 1) j else hI h c j) := by
    funext c j
    show (if c = q ∧ j = i then hI h p i else if c = q then va_cpy (hI h p) (hI h q) 0 0 i j else hI h c j) = _
    unfold va_cpy
    by_cases e : c = q
    · by_cases e' : j = i
      · subst e'; rw [if_pos ⟨e, rfl⟩, if_pos e, if_pos (by omega)]; congr 1; omega
      · rw [if_neg (fun w => e' w.2), if_pos e, if_pos e]
        by_cases e2 : j < i
        · rw [if_pos (by omega), if_pos (by omega)]
        · rw [if_neg (by omega), if_neg (by omega)]
    · rw [if_neg (fun w => e w.1), if_neg e, if_neg e]
  unfold stI
  rw [this]; rfl
theorem m226 (d : Nat) {h : AH} {p q : Nat} (hp : hS h p = some (0, 6)) (hq : hS h q = some (0, 6)) (hpq : p ≠ q) (p2 : Option Value) : E d 226 0 [some (.ref p), some (.ref q), p2] [] h = some (none, cpI h p 0 q 0 6) := by
  have la := lenA_of hp (by decide)
  have lp : ∀ m i, i + m = 6 → E d 226 2 [some (.ref p), some (.ref q), some (.int (nI i))] [] (cpI h p 0 q 0 i) = some (none, cpI h p 0 q 0 6) := by
    intro m
    induction m with
    | zero =>
      intro i hi
      have hi' : i = 6 := hi
      subst hi'
      rw [s226_2]
      simp (disch := omega) only [s226_0, s226_1, s226_3, s226_4, s226_5, s226_6, s226_7, s226_8, s226_9, s226_10, s226_11, s226_12, s226_13, s226_14, ↓reduceIte, Option.bind_some, Option.toList_some, Option.toList_none, List.cons_append, List.nil_append, if_true, if_false, true_or, or_true, true_and, and_true, not_true_eq_false, not_false_eq_true, Nat.reduceLT, Nat.reduceLeDiff, Nat.reduceEqDiff, Nat.reduceAdd, Nat.reduceMul, Nat.reduceSub, Nat.reducePow, Nat.reduceMod, Nat.reduceDiv, l0, l1, l2, l3, l4, l5, l6, l7, l8, l9, l10, l11, l12, l13, l14, l15, l16, l20, l31, l32, l36, l40, l48, l57, l59, l63, l64, l97, l99, l100, l101, l122, l127, l128, l250, l255, l262143, l262144, l30000, l100000, l12345, l1024, l4095, nI_eqs, nI_les, nI_lts, qI_eq, qI_eqn, nI_eqq, qI_lts, nI_ltp, nI_lep, qI_les, nI_add, nI_mul, qI_add, qI_s, qI_def, nI_clamps, bI_z, bI_o, bI_01, n01, n11, rf_some, rf_none, m1, m1n, bft, lenA_cpI, la, Nat.le_refl]
    | succ m ih =>
      intro i hi
      have h1 : ¬ 6 ≤ i := by omega
      have hr : hI (cpI h p 0 q 0 i) p i = hI h p i := by rw [hI_cpI, if_neg hpq]
      have g1 := gI (h := cpI h p 0 q 0 i) hp (i := i)
      have g2 := gA (h := cpI h p 0 q 0 i) hq (i := i)
      rw [s226_2]
      simp (disch := omega) only [s226_0, s226_1, s226_3, s226_4, s226_5, s226_6, s226_7, s226_8, s226_9, s226_10, s226_11, s226_12, s226_13, s226_14, ↓reduceIte, Option.bind_some, Option.toList_some, Option.toList_none, List.cons_append, List.nil_append, if_true, if_false, true_or, or_true, true_and, and_true, not_true_eq_false, not_false_eq_true, Nat.reduceLT, Nat.reduceLeDiff, Nat.reduceEqDiff, Nat.reduceAdd, Nat.reduceMul, Nat.reduceSub, Nat.reducePow, Nat.reduceMod, Nat.reduceDiv, l0, l1, l2, l3, l4, l5, l6, l7, l8, l9, l10, l11, l12, l13, l14, l15, l16, l20, l31, l32, l36, l40, l48, l57, l59, l63, l64, l97, l99, l100, l101, l122, l127, l128, l250, l255, l262143, l262144, l30000, l100000, l12345, l1024, l4095, nI_eqs, nI_les, nI_lts, qI_eq, qI_eqn, nI_eqq, qI_lts, nI_ltp, nI_lep, qI_les, nI_add, nI_mul, qI_add, qI_s, qI_def, nI_clamps, bI_z, bI_o, bI_01, n01, n11, rf_some, rf_none, m1, m1n, bft, lenA_cpI, la, h1, g1, g2, hr, cpI_s h i hpq]
      exact ih _ (by omega)
  have := lp 6 0 (by omega)
  rw [cpI_0] at this
  rw [s226_0, s226_1]
  exact this
def tkH (h : AH) (a b : Nat) (y : YS) : AH := stI (stI (cpI (cpI (stI (cpI (cpI (cpI (cpI (cpI (cpI (stI (stI h a 9 (nI (Yc y))) a 10 (nI (Yg y))) (b + 17) 0 (a + 17) 0 6) (b + 18) 0 (a + 18) 0 6) (b + 19) 0 (a + 19) 0 6) (b + 20) 0 (a + 20) 0 6) (b + 21) 0 (a + 21) 0 6) (b + 22) 0 (a + 22) 0 6) a 17 (nI (Yn y))) (b + 23) 0 (a + 23) 0 6) (b + 24) 0 (a + 24) 0 6) a 20 (Yt y)) a 21 (Yz y)
theorem MS.of {h h' : AH} {a : Nat} {A : Nat → Prop} (s : MS h a) (f : Fr0 A h h') : MS h' a := by
  unfold MS; rw [f.2.2.2.2.1, f.2.2.2.2.2.1]; exact s
theorem m227 (d : Nat) {h : AH} {a b : Nat} {y : YS} (ha : MS h a) (hx : MY h b y) (hd : b + 25 ≤ a ∨ a + 25 ≤ b) : ∃ h', E (d + 1) 227 0 [some (.ref a), some (.ref b)] [] h = some (none, h') ∧ MY h' a y ∧ FY a h h' := by
  have xs := ha
  obtain ⟨w0, w1, w2, w3, w4, w5, w6, w7, w8, t1, t2, t3, t4, t5, t6, t7, t8⟩ := ha
  obtain ⟨⟨z0, z1, z2, z3, z4, z5, z6, z7, z8, r1, r2, r3, r4, r5, r6, r7, r8⟩, ⟨vc, vg, vn, vt, vz, vK, vA, vU, vF, vM, vW, vC, vP⟩, ok⟩ := hx
  obtain ⟨⟨o2, o3⟩, o6, on, og, oc⟩ := id ok
  have f : FY a h (tkH h a b y) := by
    unfold tkH
    have s := fun h k (hk : yFl k = true) v => FY.fld (a := a) h hk v
    have c := fun (j : Nat) (hj : 17 ≤ j ∧ j < 25) h b => FY.cp (a := a) h hj b 0 0 6
    exact ((((((((((((s _ _ (by decide) _).trans (s _ _ (by decide) _)).trans (c 17 (by decide) _ _)).trans (c 18 (by decide) _ _)).trans (c 19 (by decide) _ _)).trans (c 20 (by decide) _ _)).trans (c 21 (by decide) _ _)).trans (c 22 (by decide) _ _)).trans (s _ _ (by decide) _)).trans (c 23 (by decide) _ _)).trans (c 24 (by decide) _ _)).trans (s _ _ (by decide) _)).trans (s _ _ (by decide) _)
  refine ⟨tkH h a b y, ?_, ⟨xs.of f.1, ?_, ok⟩, f⟩
  · have n1 : ¬ b = a := by omega
    have e1 := fun (d : Nat) (h' : AH) (q1 : hS h' (b + 17) = some (0, 6)) (q2 : hS h' (a + 17) = some (0, 6)) => m226 d (h := h') q1 q2 (by omega)
    have e2 := fun (d : Nat) (h' : AH) (q1 : hS h' (b + 18) = some (0, 6)) (q2 : hS h' (a + 18) = some (0, 6)) => m226 d (h := h') q1 q2 (by omega)
    have e3 := fun (d : Nat) (h' : AH) (q1 : hS h' (b + 19) = some (0, 6)) (q2 : hS h' (a + 19) = some (0, 6)) => m226 d (h := h') q1 q2 (by omega)
    have e4 := fun (d : Nat) (h' : AH) (q1 : hS h' (b + 20) = some (0, 6)) (q2 : hS h' (a + 20) = some (0, 6)) => m226 d (h := h') q1 q2 (by omega)
    have e5 := fun (d : Nat) (h' : AH) (q1 : hS h' (b + 21) = some (0, 6)) (q2 : hS h' (a + 21) = some (0, 6)) => m226 d (h := h') q1 q2 (by omega)
    have e6 := fun (d : Nat) (h' : AH) (q1 : hS h' (b + 22) = some (0, 6)) (q2 : hS h' (a + 22) = some (0, 6)) => m226 d (h := h') q1 q2 (by omega)
    have e7 := fun (d : Nat) (h' : AH) (q1 : hS h' (b + 23) = some (0, 6)) (q2 : hS h' (a + 23) = some (0, 6)) => m226 d (h := h') q1 q2 (by omega)
    have e8 := fun (d : Nat) (h' : AH) (q1 : hS h' (b + 24) = some (0, 6)) (q2 : hS h' (a + 24) = some (0, 6)) => m226 d (h := h') q1 q2 (by omega)
    unfold tkH
    simp (disch := first | omega | assumption | (simp only [hS_stI, hS_cpI]; assumption)) only [s227_0, s227_1, s227_2, s227_3, s227_4, s227_5, s227_6, s227_7, s227_8, s227_9, s227_10, s227_11, s227_12, s227_13, s227_14, s227_15, s227_16, s227_17, s227_18, s227_19, s227_20, s227_21, s227_22, s227_23, s227_24, s227_25, s227_26, s227_27, s227_28, s227_29, s227_30, s227_31, s227_32, s227_33, s227_34, s227_35, s227_36, s227_37, s227_38, s227_39, s227_40, s227_41, s227_42, s227_43, s227_44, s227_45, s227_46, s227_47, s227_48, s227_49, s227_50, s227_51, s227_52, s227_53, s227_54, s227_55, s227_56, s227_57, s227_58, s227_59, s227_60, ↓reduceIte, Option.bind_some, Option.toList_some, Option.toList_none, List.cons_append, List.nil_append, if_true, if_false, true_or, or_true, true_and, and_true, not_true_eq_false, not_false_eq_true, Nat.reduceLT, Nat.reduceLeDiff, Nat.reduceEqDiff, Nat.reduceAdd, Nat.reduceMul, Nat.reduceSub, Nat.reducePow, Nat.reduceMod, Nat.reduceDiv, rf_some, w0, z0, t1, t2, t3, t4, t5, t6, t7, t8, r1, r2, r3, r4, r5, r6, r7, r8, e1, e2, e3, e4, e5, e6, e7, e8, vc, vg, vn, vt, vz, ad1, ad2, hI_stI, hS_stI, hR_stI, hL_stI, alen_stI, hI_stL, hL_stL, hS_stL, hR_stL, alen_stL, false_and, and_false, and_self, eq_self, ad3, hI_cpI, hS_cpI, hR_cpI, n1]
  · refine ⟨?_, ?_, ?_, ?_, ?_, ?_, ?_, ?_, ?_, ?_, ?_, ?_, ?_⟩
    all_goals simp (disch := omega) only [tkH, hI_cpI, hI_stI, ad1, ad2, ad3, false_and, and_false, and_self, ↓reduceIte, Option.bind_some, Option.toList_some, Option.toList_none, List.cons_append, List.nil_append, if_true, if_false, true_or, or_true, true_and, and_true, not_true_eq_false, not_false_eq_true, Nat.reduceLT, Nat.reduceLeDiff, Nat.reduceEqDiff, Nat.reduceAdd, Nat.reduceMul, Nat.reduceSub, Nat.reducePow, Nat.reduceMod, Nat.reduceDiv]
    · intro g hg; rw [cpy6 (by omega)]; simp (disch := omega) only [hI_cpI, hI_stI, ad3, false_and, ↓reduceIte, Option.bind_some, Option.toList_some, Option.toList_none, List.cons_append, List.nil_append, if_true, if_false, true_or, or_true, true_and, and_true, not_true_eq_false, not_false_eq_true, Nat.reduceLT, Nat.reduceLeDiff, Nat.reduceEqDiff, Nat.reduceAdd, Nat.reduceMul, Nat.reduceSub, Nat.reducePow, Nat.reduceMod, Nat.reduceDiv]; exact vK g hg
    · intro g hg; rw [cpy6 (by omega)]; simp (disch := omega) only [hI_cpI, hI_stI, ad3, false_and, ↓reduceIte, Option.bind_some, Option.toList_some, Option.toList_none, List.cons_append, List.nil_append, if_true, if_false, true_or, or_true, true_and, and_true, not_true_eq_false, not_false_eq_true, Nat.reduceLT, Nat.reduceLeDiff, Nat.reduceEqDiff, Nat.reduceAdd, Nat.reduceMul, Nat.reduceSub, Nat.reducePow, Nat.reduceMod, Nat.reduceDiv]; exact vA g hg
    · intro g hg; rw [cpy6 (by omega)]; simp (disch := omega) only [hI_cpI, hI_stI, ad3, false_and, ↓reduceIte, Option.bind_some, Option.toList_some, Option.toList_none, List.cons_append, List.nil_append, if_true, if_false, true_or, or_true, true_and, and_true, not_true_eq_false, not_false_eq_true, Nat.reduceLT, Nat.reduceLeDiff, Nat.reduceEqDiff, Nat.reduceAdd, Nat.reduceMul, Nat.reduceSub, Nat.reducePow, Nat.reduceMod, Nat.reduceDiv]; exact vU g hg
    · intro g hg; rw [cpy6 (by omega)]; simp (disch := omega) only [hI_cpI, hI_stI, ad3, false_and, ↓reduceIte, Option.bind_some, Option.toList_some, Option.toList_none, List.cons_append, List.nil_append, if_true, if_false, true_or, or_true, true_and, and_true, not_true_eq_false, not_false_eq_true, Nat.reduceLT, Nat.reduceLeDiff, Nat.reduceEqDiff, Nat.reduceAdd, Nat.reduceMul, Nat.reduceSub, Nat.reducePow, Nat.reduceMod, Nat.reduceDiv]; exact vF g hg
    · intro g hg; rw [cpy6 (by omega)]; simp (disch := omega) only [hI_cpI, hI_stI, ad3, false_and, ↓reduceIte, Option.bind_some, Option.toList_some, Option.toList_none, List.cons_append, List.nil_append, if_true, if_false, true_or, or_true, true_and, and_true, not_true_eq_false, not_false_eq_true, Nat.reduceLT, Nat.reduceLeDiff, Nat.reduceEqDiff, Nat.reduceAdd, Nat.reduceMul, Nat.reduceSub, Nat.reducePow, Nat.reduceMod, Nat.reduceDiv]; exact vM g hg
    · intro g hg; rw [cpy6 (by omega)]; simp (disch := omega) only [hI_cpI, hI_stI, ad3, false_and, ↓reduceIte, Option.bind_some, Option.toList_some, Option.toList_none, List.cons_append, List.nil_append, if_true, if_false, true_or, or_true, true_and, and_true, not_true_eq_false, not_false_eq_true, Nat.reduceLT, Nat.reduceLeDiff, Nat.reduceEqDiff, Nat.reduceAdd, Nat.reduceMul, Nat.reduceSub, Nat.reducePow, Nat.reduceMod, Nat.reduceDiv]; exact vW g hg
    · intro g hg; rw [cpy6 (by omega)]; simp (disch := omega) only [hI_cpI, hI_stI, ad3, false_and, ↓reduceIte, Option.bind_some, Option.toList_some, Option.toList_none, List.cons_append, List.nil_append, if_true, if_false, true_or, or_true, true_and, and_true, not_true_eq_false, not_false_eq_true, Nat.reduceLT, Nat.reduceLeDiff, Nat.reduceEqDiff, Nat.reduceAdd, Nat.reduceMul, Nat.reduceSub, Nat.reducePow, Nat.reduceMod, Nat.reduceDiv]; exact vC g hg
    · intro g hg; rw [cpy6 (by omega)]; simp (disch := omega) only [hI_cpI, hI_stI, ad3, false_and, ↓reduceIte, Option.bind_some, Option.toList_some, Option.toList_none, List.cons_append, List.nil_append, if_true, if_false, true_or, or_true, true_and, and_true, not_true_eq_false, not_false_eq_true, Nat.reduceLT, Nat.reduceLeDiff, Nat.reduceEqDiff, Nat.reduceAdd, Nat.reduceMul, Nat.reduceSub, Nat.reducePow, Nat.reduceMod, Nat.reduceDiv]; exact vP g hg
theorem m153 (d : Nat) {h : AH} {b : Nat} {y : YS} (hx : MY h b y) (hg : Yg y < 6) {k a : Nat} (hk : k < 6) (ha : a < 10) : ∃ h', E d 153 0 [some (.ref b), some (.int (nI k)), some (.int (nI a))] [] h = some (none, h') ∧ MY h' b (addG y k a) ∧ FY b h h' := by
  have okn := hx.2.2.addG hg hk ha
  have xs := hx.1
  have v := hx.2.1
  obtain ⟨⟨z0, z1, z2, z3, z4, z5, z6, z7, z8, r1, r2, r3, r4, r5, r6, r7, r8⟩, ⟨vc, vg, vn, vt, vz, vK, vA, vU, vF, vM, vW, vC, vP⟩, ok⟩ := hx
  refine ⟨stI (stI (stI (stI (stI (stI (stI h (b + 17) (Yg y) (nI k)) (b + 18) (Yg y) (nI a)) (b + 19) (Yg y) (qI 0)) (b + 20) (Yg y) (qI 0)) (b + 21) (Yg y) (nI (Yg y))) (b + 22) (Yg y) (nI 0)) b 10 (nI (Yg y + 1)), ?_, ⟨xs, ?_, okn⟩, ?_⟩
  · simp (disch := omega) only [s153_0, s153_1, s153_2, s153_3, s153_4, s153_5, s153_6, s153_7, s153_8, s153_9, s153_10, s153_11, s153_12, s153_13, s153_14, s153_15, s153_16, s153_17, s153_18, s153_19, s153_20, s153_21, s153_22, s153_23, s153_24, s153_25, s153_26, s153_27, s153_28, s153_29, s153_30, s153_31, s153_32, s153_33, s153_34, s153_35, s153_36, s153_37, s153_38, s153_39, s153_40, s153_41, s153_42, s153_43, ↓reduceIte, Option.bind_some, Option.toList_some, Option.toList_none, List.cons_append, List.nil_append, if_true, if_false, true_or, or_true, true_and, and_true, not_true_eq_false, not_false_eq_true, Nat.reduceLT, Nat.reduceLeDiff, Nat.reduceEqDiff, Nat.reduceAdd, Nat.reduceMul, Nat.reduceSub, Nat.reducePow, Nat.reduceMod, Nat.reduceDiv, l0, l1, l2, l3, l4, l5, l6, l7, l8, l9, l10, l11, l12, l13, l14, l15, l16, l20, l31, l32, l36, l40, l48, l57, l59, l63, l64, l97, l99, l100, l101, l122, l127, l128, l250, l255, l262143, l262144, l30000, l100000, l12345, l1024, l4095, nI_eqs, nI_les, nI_lts, qI_eq, qI_eqn, nI_eqq, qI_lts, nI_ltp, nI_lep, qI_les, nI_add, nI_mul, qI_add, qI_s, qI_def, nI_clamps, bI_z, bI_o, bI_01, n01, n11, rf_some, rf_none, m1, m1n, bft, z0, r1, r2, r3, r4, r5, r6, r7, r8, vc, vg, vn, vt, vz, gI z1, gI z2, gI z3, gI z4, gI z5, gI z6, gI z7, gI z8, gA z1, gA z2, gA z3, gA z4, gA z5, gA z6, gA z7, gA z8, ad1, ad2, hI_stI, hS_stI, hR_stI, hL_stI, alen_stI, hI_stL, hL_stL, hS_stL, hR_stL, alen_stL, false_and, and_false, and_self, eq_self, hg]
  · clear okn xs
    obtain ⟨vc, vg, vn, vt, vz, vK, vA, vU, vF, vM, vW, vC, vP⟩ := v
    refine ⟨?_, ?_, ?_, ?_, ?_, ?_, ?_, ?_, ?_, ?_, ?_, ?_, ?_⟩
    all_goals simp only [hI_stI, addG, fup, Yc_mk, Yg_mk, Yn_mk, Yt_mk, Yz_mk, YK_mk, YA_mk, YU_mk, YF_mk, YM_mk, YW_mk, YC_mk, YP_mk, sc, sg, sn, sT, sZ, sK, sA, sU, sM, sW, sC, sP]
    all_goals simp (disch := omega) only [ad1, ad2, false_and, and_false, and_self, ↓reduceIte, Option.bind_some, Option.toList_some, Option.toList_none, List.cons_append, List.nil_append, if_true, if_false, true_or, or_true, true_and, and_true, not_true_eq_false, not_false_eq_true, Nat.reduceLT, Nat.reduceLeDiff, Nat.reduceEqDiff, Nat.reduceAdd, Nat.reduceMul, Nat.reduceSub, Nat.reducePow, Nat.reduceMod, Nat.reduceDiv, vc, vg, vn, vt, vz, true_and, eq_self]
    · intro j hj; by_cases q : j = Yg y
      · simp [q]
      · simp [q, vK j (by omega)]
    · intro j hj; by_cases q : j = Yg y
      · simp [q]
      · simp [q, vA j (by omega)]
    · intro j hj; by_cases q : j = Yg y
      · simp [q]
      · simp [q, vU j (by omega)]
    · intro j hj; by_cases q : j = Yg y
      · simp [q]
      · simp [q, vF j (by omega)]
    · intro j hj; by_cases q : j = Yg y
      · simp [q]
      · simp [q, vM j (by omega)]
    · intro j hj; by_cases q : j = Yg y
      · simp [q]
      · simp [q, vW j (by omega)]
    · exact vC
    · exact vP
  · exact ((((((FY.arr _ (by decide) _ _).trans (FY.arr _ (by decide) _ _)).trans (FY.arr _ (by decide) _ _)).trans (FY.arr _ (by decide) _ _)).trans (FY.arr _ (by decide) _ _)).trans (FY.arr _ (by decide) _ _)).trans (FY.fld _ (by decide) _)
theorem m155 (d : Nat) {h : AH} {b : Nat} {y : YS} (hx : MY h b y) (hg : Yn y < 6) {c : Nat} (hc : c < Yc y) : ∃ h', E d 155 0 [some (.ref b), some (.int (nI c))] [] h = some (none, h') ∧ MY h' b (addC y c) ∧ FY b h h' := by
  have okn := hx.2.2.addC hg hc
  have xs := hx.1
  have v := hx.2.1
  obtain ⟨⟨z0, z1, z2, z3, z4, z5, z6, z7, z8, r1, r2, r3, r4, r5, r6, r7, r8⟩, ⟨vc, vg, vn, vt, vz, vK, vA, vU, vF, vM, vW, vC, vP⟩, ok⟩ := hx
  refine ⟨stI (stI (stI h (b + 23) (Yn y) (nI c)) (b + 24) (Yn y) (nI 0)) b 17 (nI (Yn y + 1)), ?_, ⟨xs, ?_, okn⟩, ?_⟩
  · simp (disch := omega) only [s155_0, s155_1, s155_2, s155_3, s155_4, s155_5, s155_6, s155_7, s155_8, s155_9, s155_10, s155_11, s155_12, s155_13, s155_14, s155_15, s155_16, s155_17, s155_18, ↓reduceIte, Option.bind_some, Option.toList_some, Option.toList_none, List.cons_append, List.nil_append, if_true, if_false, true_or, or_true, true_and, and_true, not_true_eq_false, not_false_eq_true, Nat.reduceLT, Nat.reduceLeDiff, Nat.reduceEqDiff, Nat.reduceAdd, Nat.reduceMul, Nat.reduceSub, Nat.reducePow, Nat.reduceMod, Nat.reduceDiv, l0, l1, l2, l3, l4, l5, l6, l7, l8, l9, l10, l11, l12, l13, l14, l15, l16, l20, l31, l32, l36, l40, l48, l57, l59, l63, l64, l97, l99, l100, l101, l122, l127, l128, l250, l255, l262143, l262144, l30000, l100000, l12345, l1024, l4095, nI_eqs, nI_les, nI_lts, qI_eq, qI_eqn, nI_eqq, qI_lts, nI_ltp, nI_lep, qI_les, nI_add, nI_mul, qI_add, qI_s, qI_def, nI_clamps, bI_z, bI_o, bI_01, n01, n11, rf_some, rf_none, m1, m1n, bft, z0, r1, r2, r3, r4, r5, r6, r7, r8, vc, vg, vn, vt, vz, gI z1, gI z2, gI z3, gI z4, gI z5, gI z6, gI z7, gI z8, gA z1, gA z2, gA z3, gA z4, gA z5, gA z6, gA z7, gA z8, ad1, ad2, hI_stI, hS_stI, hR_stI, hL_stI, alen_stI, hI_stL, hL_stL, hS_stL, hR_stL, alen_stL, false_and, and_false, and_self, eq_self, hg]
  · clear okn xs
    obtain ⟨vc, vg, vn, vt, vz, vK, vA, vU, vF, vM, vW, vC, vP⟩ := v
    refine ⟨?_, ?_, ?_, ?_, ?_, ?_, ?_, ?_, ?_, ?_, ?_, ?_, ?_⟩
    all_goals simp only [hI_stI, addC, fup, Yc_mk, Yg_mk, Yn_mk, Yt_mk, Yz_mk, YK_mk, YA_mk, YU_mk, YF_mk, YM_mk, YW_mk, YC_mk, YP_mk, sc, sg, sn, sT, sZ, sK, sA, sU, sM, sW, sC, sP]
    all_goals simp (disch := omega) only [ad1, ad2, false_and, and_false, and_self, ↓reduceIte, Option.bind_some, Option.toList_some, Option.toList_none, List.cons_append, List.nil_append, if_true, if_false, true_or, or_true, true_and, and_true, not_true_eq_false, not_false_eq_true, Nat.reduceLT, Nat.reduceLeDiff, Nat.reduceEqDiff, Nat.reduceAdd, Nat.reduceMul, Nat.reduceSub, Nat.reducePow, Nat.reduceMod, Nat.reduceDiv, vc, vg, vn, vt, vz, true_and, eq_self]
    · exact vK
    · exact vA
    · exact vU
    · exact vF
    · exact vM
    · exact vW
    · intro j hj; by_cases q : j = Yn y
      · simp [q]
      · simp [q, vC j (by omega)]
    · intro j hj; by_cases q : j = Yn y
      · simp [q]
      · simp [q, vP j (by omega)]
  · exact ((FY.arr _ (by decide) _ _).trans (FY.arr _ (by decide) _ _)).trans (FY.fld _ (by decide) _)
theorem m221 (d : Nat) {h : AH} {b : Nat} {y : YS} (hx : MY h b y) {n : Nat} (hn : 0 < n) (hn' : n < 100) : E d 221 0 [some (.ref b), some (.int (nI n))] [] h = some (some (.int (nI (rnd (nextZ (Yz y)) % n))), stI h b 21 (nextZ (Yz y))) := by
  obtain ⟨⟨z0, z1, z2, z3, z4, z5, z6, z7, z8, r1, r2, r3, r4, r5, r6, r7, r8⟩, ⟨vc, vg, vn, vt, vz, vK, vA, vU, vF, vM, vW, vC, vP⟩, ok⟩ := hx
  have h1 : ¬ n = 0 := by omega
  have e := nI_rem (a := rnd (nextZ (Yz y))) (b := n) (by have := rnd_lt (nextZ (Yz y)); omega) (by omega)
  have f : Yz y * 1103515245 + nI 12345 = nextZ (Yz y) := rfl
  simp (disch := omega) only [s221_0, s221_1, s221_2, s221_3, s221_4, s221_5, s221_6, s221_7, s221_8, s221_9, s221_10, s221_11, s221_12, s221_13, s221_14, ↓reduceIte, Option.bind_some, Option.toList_some, Option.toList_none, List.cons_append, List.nil_append, if_true, if_false, true_or, or_true, true_and, and_true, not_true_eq_false, not_false_eq_true, Nat.reduceLT, Nat.reduceLeDiff, Nat.reduceEqDiff, Nat.reduceAdd, Nat.reduceMul, Nat.reduceSub, Nat.reducePow, Nat.reduceMod, Nat.reduceDiv, l0, l1, l2, l3, l4, l5, l6, l7, l8, l9, l10, l11, l12, l13, l14, l15, l16, l20, l31, l32, l36, l40, l48, l57, l59, l63, l64, l97, l99, l100, l101, l122, l127, l128, l250, l255, l262143, l262144, l30000, l100000, l12345, l1024, l4095, nI_eqs, nI_les, nI_lts, qI_eq, qI_eqn, nI_eqq, qI_lts, nI_ltp, nI_lep, qI_les, nI_add, nI_mul, qI_add, qI_s, qI_def, nI_clamps, bI_z, bI_o, bI_01, n01, n11, rf_some, rf_none, m1, m1n, bft, l12345, z0, r1, r2, r3, r4, r5, r6, r7, r8, vc, vg, vn, vt, vz, gI z1, gI z2, gI z3, gI z4, gI z5, gI z6, gI z7, gI z8, gA z1, gA z2, gA z3, gA z4, gA z5, gA z6, gA z7, gA z8, ad1, ad2, hI_stI, hS_stI, hR_stI, hL_stI, alen_stI, hI_stL, hL_stL, hS_stL, hR_stL, alen_stL, false_and, and_false, and_self, eq_self, f, rnd_eq, h1, e]
