/-! THE REFERENCE'S CALLS on the yard: opens, ready, tries, home, seed, image, back, status -/
theorem c185 (d : Nat) {h : AH} {A : Nat} {s : GS} {W : Nat → Prop} (hx : MX h A s W) (g : Int32) (p2 p3 : Option Value) : MC0 (d + 3) 185 [some (.ref A), some (.int g), p2, p3] h A W (s_opens s g) := by
  obtain ⟨my, mh, ⟨t1, t2, t3, t4, t5⟩, mr, mz, mg, mw, mn, mwn⟩ := id hx; have e136 := c136e hx; have b0 := my.1.1; obtain ⟨⟨z0, z1, z2, z3, z4, z5, z6, z7, z8, r1, r2, r3, r4, r5, r6, r7, r8⟩, ⟨vc, vg, vn, vt, vz, vK, vA, vU, vF, vM, vW, vC, vP⟩, ok⟩ := id my; obtain ⟨⟨o2, o3⟩, o6, on, og, oc⟩ := id ok
  have e138 := fun d => m138 d my g
  unfold s_opens
  cases a : inR g (Yg (gY s))
  · rw [if_neg (by decide)]
    rw [a] at e138
    refine MC0.rf hx (by decide) (by decide) ?_
    simp (disch := omega) only [s185_0, s185_1, s185_2, s185_3, s185_4, s185_5, s185_6, s185_7, s185_8, s185_9, s185_10, s185_11, s185_13, s185_14, s185_15, s185_16, s185_17, s185_18, s185_19, s185_20, s185_21, s185_22, s185_23, s185_24, s185_25, s185_26, s185_27, s185_28, s185_29, s185_30, s185_31, s185_32, ↓reduceIte, Option.bind_some, Option.toList_some, Option.toList_none, List.cons_append, List.nil_append, if_true, if_false, true_or, or_true, true_and, and_true, not_true_eq_false, not_false_eq_true, Nat.reduceLT, Nat.reduceLeDiff, Nat.reduceEqDiff, Nat.reduceAdd, Nat.reduceMul, Nat.reduceSub, Nat.reducePow, Nat.reduceMod, Nat.reduceDiv, l0, l1, l2, l3, l4, l5, l6, l7, l8, l9, l10, l11, l12, l13, l14, l15, l16, l20, l31, l32, l36, l40, l48, l57, l59, l63, l64, l97, l99, l100, l101, l122, l127, l128, l250, l255, l262143, l262144, l30000, l100000, l12345, l1024, l4095, nI_eqs, nI_les, nI_lts, qI_eq, qI_eqn, nI_eqq, qI_lts, nI_ltp, nI_lep, qI_les, nI_add, nI_mul, qI_add, qI_s, qI_def, nI_clamps, bI_z, bI_o, bI_01, n01, n11, rf_some, rf_none, m1, m1n, bft, z0, r1, r2, r3, r4, r5, r6, r7, r8, vc, vg, vn, vt, vz, gI z1, gI z2, gI z3, gI z4, gI z5, gI z6, gI z7, gI z8, gA z1, gA z2, gA z3, gA z4, gA z5, gA z6, gA z7, gA z8, e138, rN_d, e136]
  · rw [if_pos rfl]
    rw [a] at e138
    obtain ⟨j, hj, rfl⟩ := inR_of (by omega) a
    rw [nI_clamp (show j < 2 ^ 31 by omega)]
    have e181 := fun d c (hc : c < Yc (gY s)) => m181 d my hj hc
    have lp : ∀ m i t, i + m = Yc (gY s) → E (d + 3) 185 12 [some (.ref A), some (.int (nI j)), some (.int (nI t)), some (.int (nI i))] [] h = some (some (.int (nI (itr (fun c s' => if letY (gY s) j c = true then s' ||| 2 ^ c else s') m i t))), h) := by
      intro m
      induction m with
      | zero =>
        intro i t hi
        have hi' : i = Yc (gY s) := hi
        rw [s185_12]
        simp (disch := omega) only [s185_0, s185_1, s185_2, s185_3, s185_4, s185_5, s185_6, s185_7, s185_8, s185_9, s185_10, s185_11, s185_13, s185_14, s185_15, s185_16, s185_17, s185_18, s185_19, s185_20, s185_21, s185_22, s185_23, s185_24, s185_25, s185_26, s185_27, s185_28, s185_29, s185_30, s185_31, s185_32, ↓reduceIte, Option.bind_some, Option.toList_some, Option.toList_none, List.cons_append, List.nil_append, if_true, if_false, true_or, or_true, true_and, and_true, not_true_eq_false, not_false_eq_true, Nat.reduceLT, Nat.reduceLeDiff, Nat.reduceEqDiff, Nat.reduceAdd, Nat.reduceMul, Nat.reduceSub, Nat.reducePow, Nat.reduceMod, Nat.reduceDiv, l0, l1, l2, l3, l4, l5, l6, l7, l8, l9, l10, l11, l12, l13, l14, l15, l16, l20, l31, l32, l36, l40, l48, l57, l59, l63, l64, l97, l99, l100, l101, l122, l127, l128, l250, l255, l262143, l262144, l30000, l100000, l12345, l1024, l4095, nI_eqs, nI_les, nI_lts, qI_eq, qI_eqn, nI_eqq, qI_lts, nI_ltp, nI_lep, qI_les, nI_add, nI_mul, qI_add, qI_s, qI_def, nI_clamps, bI_z, bI_o, bI_01, n01, n11, rf_some, rf_none, m1, m1n, bft, z0, r1, r2, r3, r4, r5, r6, r7, r8, vc, vg, vn, vt, vz, gI z1, gI z2, gI z3, gI z4, gI z5, gI z6, gI z7, gI z8, gA z1, gA z2, gA z3, gA z4, gA z5, gA z6, gA z7, gA z8, hi', Nat.le_refl, itr_0]
      | succ m ih =>
        intro i t hi
        have h1 : ¬ Yc (gY s) ≤ i := by omega
        rw [s185_12, itr_s]
        cases q : letY (gY s) j i
        · simp (disch := omega) only [s185_0, s185_1, s185_2, s185_3, s185_4, s185_5, s185_6, s185_7, s185_8, s185_9, s185_10, s185_11, s185_13, s185_14, s185_15, s185_16, s185_17, s185_18, s185_19, s185_20, s185_21, s185_22, s185_23, s185_24, s185_25, s185_26, s185_27, s185_28, s185_29, s185_30, s185_31, s185_32, ↓reduceIte, Option.bind_some, Option.toList_some, Option.toList_none, List.cons_append, List.nil_append, if_true, if_false, true_or, or_true, true_and, and_true, not_true_eq_false, not_false_eq_true, Nat.reduceLT, Nat.reduceLeDiff, Nat.reduceEqDiff, Nat.reduceAdd, Nat.reduceMul, Nat.reduceSub, Nat.reducePow, Nat.reduceMod, Nat.reduceDiv, l0, l1, l2, l3, l4, l5, l6, l7, l8, l9, l10, l11, l12, l13, l14, l15, l16, l20, l31, l32, l36, l40, l48, l57, l59, l63, l64, l97, l99, l100, l101, l122, l127, l128, l250, l255, l262143, l262144, l30000, l100000, l12345, l1024, l4095, nI_eqs, nI_les, nI_lts, qI_eq, qI_eqn, nI_eqq, qI_lts, nI_ltp, nI_lep, qI_les, nI_add, nI_mul, qI_add, qI_s, qI_def, nI_clamps, bI_z, bI_o, bI_01, n01, n11, rf_some, rf_none, m1, m1n, bft, z0, r1, r2, r3, r4, r5, r6, r7, r8, vc, vg, vn, vt, vz, gI z1, gI z2, gI z3, gI z4, gI z5, gI z6, gI z7, gI z8, gA z1, gA z2, gA z3, gA z4, gA z5, gA z6, gA z7, gA z8, nI_and, nI_or, nI_shl', nI_shr', a31, h1, q, e181, Nat.or_zero, Bool.false_eq_true]
          exact ih _ _ (by omega)
        · simp (disch := omega) only [s185_0, s185_1, s185_2, s185_3, s185_4, s185_5, s185_6, s185_7, s185_8, s185_9, s185_10, s185_11, s185_13, s185_14, s185_15, s185_16, s185_17, s185_18, s185_19, s185_20, s185_21, s185_22, s185_23, s185_24, s185_25, s185_26, s185_27, s185_28, s185_29, s185_30, s185_31, s185_32, ↓reduceIte, Option.bind_some, Option.toList_some, Option.toList_none, List.cons_append, List.nil_append, if_true, if_false, true_or, or_true, true_and, and_true, not_true_eq_false, not_false_eq_true, Nat.reduceLT, Nat.reduceLeDiff, Nat.reduceEqDiff, Nat.reduceAdd, Nat.reduceMul, Nat.reduceSub, Nat.reducePow, Nat.reduceMod, Nat.reduceDiv, l0, l1, l2, l3, l4, l5, l6, l7, l8, l9, l10, l11, l12, l13, l14, l15, l16, l20, l31, l32, l36, l40, l48, l57, l59, l63, l64, l97, l99, l100, l101, l122, l127, l128, l250, l255, l262143, l262144, l30000, l100000, l12345, l1024, l4095, nI_eqs, nI_les, nI_lts, qI_eq, qI_eqn, nI_eqq, qI_lts, nI_ltp, nI_lep, qI_les, nI_add, nI_mul, qI_add, qI_s, qI_def, nI_clamps, bI_z, bI_o, bI_01, n01, n11, rf_some, rf_none, m1, m1n, bft, z0, r1, r2, r3, r4, r5, r6, r7, r8, vc, vg, vn, vt, vz, gI z1, gI z2, gI z3, gI z4, gI z5, gI z6, gI z7, gI z8, gA z1, gA z2, gA z3, gA z4, gA z5, gA z6, gA z7, gA z8, nI_and, nI_or, nI_shl', nI_shr', a31, h1, q, e181, Nat.one_mul, Bool.true_eq_false]
          exact ih _ _ (by omega)
    refine MC0.same hx ?_
    simp (disch := omega) only [s185_0, s185_1, s185_2, s185_3, s185_4, s185_5, s185_6, s185_7, s185_8, s185_9, s185_10, s185_11, s185_13, s185_14, s185_15, s185_16, s185_17, s185_18, s185_19, s185_20, s185_21, s185_22, s185_23, s185_24, s185_25, s185_26, s185_27, s185_28, s185_29, s185_30, s185_31, s185_32, ↓reduceIte, Option.bind_some, Option.toList_some, Option.toList_none, List.cons_append, List.nil_append, if_true, if_false, true_or, or_true, true_and, and_true, not_true_eq_false, not_false_eq_true, Nat.reduceLT, Nat.reduceLeDiff, Nat.reduceEqDiff, Nat.reduceAdd, Nat.reduceMul, Nat.reduceSub, Nat.reducePow, Nat.reduceMod, Nat.reduceDiv, l0, l1, l2, l3, l4, l5, l6, l7, l8, l9, l10, l11, l12, l13, l14, l15, l16, l20, l31, l32, l36, l40, l48, l57, l59, l63, l64, l97, l99, l100, l101, l122, l127, l128, l250, l255, l262143, l262144, l30000, l100000, l12345, l1024, l4095, nI_eqs, nI_les, nI_lts, qI_eq, qI_eqn, nI_eqq, qI_lts, nI_ltp, nI_lep, qI_les, nI_add, nI_mul, qI_add, qI_s, qI_def, nI_clamps, bI_z, bI_o, bI_01, n01, n11, rf_some, rf_none, m1, m1n, bft, z0, r1, r2, r3, r4, r5, r6, r7, r8, vc, vg, vn, vt, vz, gI z1, gI z2, gI z3, gI z4, gI z5, gI z6, gI z7, gI z8, gA z1, gA z2, gA z3, gA z4, gA z5, gA z6, gA z7, gA z8, e138, Bool.true_eq_false]
    exact lp (Yc (gY s)) 0 0 (by omega)
theorem c186 (d : Nat) {h : AH} {A : Nat} {s : GS} {W : Nat → Prop} (hx : MX h A s W) (p1 p2 : Option Value) : MC0 (d + 3) 186 [some (.ref A), p1, p2] h A W (nI (rdN (gY s)), s) := by
  obtain ⟨my, mh, ⟨t1, t2, t3, t4, t5⟩, mr, mz, mg, mw, mn, mwn⟩ := id hx; have e136 := c136e hx; have b0 := my.1.1; obtain ⟨⟨z0, z1, z2, z3, z4, z5, z6, z7, z8, r1, r2, r3, r4, r5, r6, r7, r8⟩, ⟨vc, vg, vn, vt, vz, vK, vA, vU, vF, vM, vW, vC, vP⟩, ok⟩ := id my; obtain ⟨⟨o2, o3⟩, o6, on, og, oc⟩ := id ok
  have e141 := fun d k (hk : k < Yn (gY s)) => m141 d my hk
  have e181 := fun d g c (hg : g < Yg (gY s)) (hc : c < Yc (gY s)) => m181 d my hg hc
  have lp : ∀ m i t, i + m = Yn (gY s) → E (d + 3) 186 4 [some (.ref A), some (.int (nI t)), some (.int (nI i))] [] h = some (some (.int (nI (itr (fun k s' => if YP (gY s) k < Yg (gY s) ∧ letY (gY s) (YP (gY s) k) (YC (gY s) k) = true then s' ||| 2 ^ k else s') m i t))), h) := by
    intro m
    induction m with
    | zero =>
      intro i t hi
      have hi' : i = Yn (gY s) := hi
      rw [s186_4]
      simp (disch := omega) only [s186_0, s186_1, s186_2, s186_3, s186_5, s186_6, s186_7, s186_8, s186_9, s186_10, s186_11, s186_12, s186_13, s186_14, s186_15, s186_16, s186_17, s186_18, s186_19, s186_20, s186_21, s186_22, s186_23, s186_24, s186_25, s186_26, s186_27, s186_28, s186_29, s186_30, s186_31, s186_32, s186_33, s186_34, ↓reduceIte, Option.bind_some, Option.toList_some, Option.toList_none, List.cons_append, List.nil_append, if_true, if_false, true_or, or_true, true_and, and_true, not_true_eq_false, not_false_eq_true, Nat.reduceLT, Nat.reduceLeDiff, Nat.reduceEqDiff, Nat.reduceAdd, Nat.reduceMul, Nat.reduceSub, Nat.reducePow, Nat.reduceMod, Nat.reduceDiv, l0, l1, l2, l3, l4, l5, l6, l7, l8, l9, l10, l11, l12, l13, l14, l15, l16, l20, l31, l32, l36, l40, l48, l57, l59, l63, l64, l97, l99, l100, l101, l122, l127, l128, l250, l255, l262143, l262144, l30000, l100000, l12345, l1024, l4095, nI_eqs, nI_les, nI_lts, qI_eq, qI_eqn, nI_eqq, qI_lts, nI_ltp, nI_lep, qI_les, nI_add, nI_mul, qI_add, qI_s, qI_def, nI_clamps, bI_z, bI_o, bI_01, n01, n11, rf_some, rf_none, m1, m1n, bft, z0, r1, r2, r3, r4, r5, r6, r7, r8, vc, vg, vn, vt, vz, gI z1, gI z2, gI z3, gI z4, gI z5, gI z6, gI z7, gI z8, gA z1, gA z2, gA z3, gA z4, gA z5, gA z6, gA z7, gA z8, hi', Nat.le_refl, itr_0]
    | succ m ih =>
      intro i t hi
      have h1 : ¬ Yn (gY s) ≤ i := by omega
      have oo := oc i (by omega)
      rw [s186_4, itr_s]
      by_cases w : YP (gY s) i < Yg (gY s)
      · have w' : ¬ Yg (gY s) ≤ YP (gY s) i := by omega
        cases q : letY (gY s) (YP (gY s) i) (YC (gY s) i)
        · simp (disch := omega) only [s186_0, s186_1, s186_2, s186_3, s186_5, s186_6, s186_7, s186_8, s186_9, s186_10, s186_11, s186_12, s186_13, s186_14, s186_15, s186_16, s186_17, s186_18, s186_19, s186_20, s186_21, s186_22, s186_23, s186_24, s186_25, s186_26, s186_27, s186_28, s186_29, s186_30, s186_31, s186_32, s186_33, s186_34, ↓reduceIte, Option.bind_some, Option.toList_some, Option.toList_none, List.cons_append, List.nil_append, if_true, if_false, true_or, or_true, true_and, and_true, not_true_eq_false, not_false_eq_true, Nat.reduceLT, Nat.reduceLeDiff, Nat.reduceEqDiff, Nat.reduceAdd, Nat.reduceMul, Nat.reduceSub, Nat.reducePow, Nat.reduceMod, Nat.reduceDiv, l0, l1, l2, l3, l4, l5, l6, l7, l8, l9, l10, l11, l12, l13, l14, l15, l16, l20, l31, l32, l36, l40, l48, l57, l59, l63, l64, l97, l99, l100, l101, l122, l127, l128, l250, l255, l262143, l262144, l30000, l100000, l12345, l1024, l4095, nI_eqs, nI_les, nI_lts, qI_eq, qI_eqn, nI_eqq, qI_lts, nI_ltp, nI_lep, qI_les, nI_add, nI_mul, qI_add, qI_s, qI_def, nI_clamps, bI_z, bI_o, bI_01, n01, n11, rf_some, rf_none, m1, m1n, bft, z0, r1, r2, r3, r4, r5, r6, r7, r8, vc, vg, vn, vt, vz, gI z1, gI z2, gI z3, gI z4, gI z5, gI z6, gI z7, gI z8, gA z1, gA z2, gA z3, gA z4, gA z5, gA z6, gA z7, gA z8, vK, vA, vU, vF, vM, vW, vC, vP, nI_and, nI_or, nI_shl', nI_shr', a31, h1, w, w', q, e141, e181, Nat.or_zero, Bool.false_eq_true, and_false, decide_false]
          exact ih _ _ (by omega)
        · simp (disch := omega) only [s186_0, s186_1, s186_2, s186_3, s186_5, s186_6, s186_7, s186_8, s186_9, s186_10, s186_11, s186_12, s186_13, s186_14, s186_15, s186_16, s186_17, s186_18, s186_19, s186_20, s186_21, s186_22, s186_23, s186_24, s186_25, s186_26, s186_27, s186_28, s186_29, s186_30, s186_31, s186_32, s186_33, s186_34, ↓reduceIte, Option.bind_some, Option.toList_some, Option.toList_none, List.cons_append, List.nil_append, if_true, if_false, true_or, or_true, true_and, and_true, not_true_eq_false, not_false_eq_true, Nat.reduceLT, Nat.reduceLeDiff, Nat.reduceEqDiff, Nat.reduceAdd, Nat.reduceMul, Nat.reduceSub, Nat.reducePow, Nat.reduceMod, Nat.reduceDiv, l0, l1, l2, l3, l4, l5, l6, l7, l8, l9, l10, l11, l12, l13, l14, l15, l16, l20, l31, l32, l36, l40, l48, l57, l59, l63, l64, l97, l99, l100, l101, l122, l127, l128, l250, l255, l262143, l262144, l30000, l100000, l12345, l1024, l4095, nI_eqs, nI_les, nI_lts, qI_eq, qI_eqn, nI_eqq, qI_lts, nI_ltp, nI_lep, qI_les, nI_add, nI_mul, qI_add, qI_s, qI_def, nI_clamps, bI_z, bI_o, bI_01, n01, n11, rf_some, rf_none, m1, m1n, bft, z0, r1, r2, r3, r4, r5, r6, r7, r8, vc, vg, vn, vt, vz, gI z1, gI z2, gI z3, gI z4, gI z5, gI z6, gI z7, gI z8, gA z1, gA z2, gA z3, gA z4, gA z5, gA z6, gA z7, gA z8, vK, vA, vU, vF, vM, vW, vC, vP, nI_and, nI_or, nI_shl', nI_shr', a31, h1, w, w', q, e141, e181, Nat.one_mul, Bool.true_eq_false, and_true, and_self, decide_false]
          exact ih _ _ (by omega)
      · have w' : Yg (gY s) ≤ YP (gY s) i := by omega
        simp (disch := omega) only [s186_0, s186_1, s186_2, s186_3, s186_5, s186_6, s186_7, s186_8, s186_9, s186_10, s186_11, s186_12, s186_13, s186_14, s186_15, s186_16, s186_17, s186_18, s186_19, s186_20, s186_21, s186_22, s186_23, s186_24, s186_25, s186_26, s186_27, s186_28, s186_29, s186_30, s186_31, s186_32, s186_33, s186_34, ↓reduceIte, Option.bind_some, Option.toList_some, Option.toList_none, List.cons_append, List.nil_append, if_true, if_false, true_or, or_true, true_and, and_true, not_true_eq_false, not_false_eq_true, Nat.reduceLT, Nat.reduceLeDiff, Nat.reduceEqDiff, Nat.reduceAdd, Nat.reduceMul, Nat.reduceSub, Nat.reducePow, Nat.reduceMod, Nat.reduceDiv, l0, l1, l2, l3, l4, l5, l6, l7, l8, l9, l10, l11, l12, l13, l14, l15, l16, l20, l31, l32, l36, l40, l48, l57, l59, l63, l64, l97, l99, l100, l101, l122, l127, l128, l250, l255, l262143, l262144, l30000, l100000, l12345, l1024, l4095, nI_eqs, nI_les, nI_lts, qI_eq, qI_eqn, nI_eqq, qI_lts, nI_ltp, nI_lep, qI_les, nI_add, nI_mul, qI_add, qI_s, qI_def, nI_clamps, bI_z, bI_o, bI_01, n01, n11, rf_some, rf_none, m1, m1n, bft, z0, r1, r2, r3, r4, r5, r6, r7, r8, vc, vg, vn, vt, vz, gI z1, gI z2, gI z3, gI z4, gI z5, gI z6, gI z7, gI z8, gA z1, gA z2, gA z3, gA z4, gA z5, gA z6, gA z7, gA z8, vK, vA, vU, vF, vM, vW, vC, vP, nI_and, nI_or, nI_shl', nI_shr', a31, h1, w, w', e141, Nat.or_zero, false_and, decide_true, Bool.true_eq_false]
        exact ih _ _ (by omega)
  refine MC0.same hx ?_
  rw [s186_0, s186_1, s186_2, s186_3]
  exact lp (Yn (gY s)) 0 0 (by omega)
theorem c187 (d : Nat) {h : AH} {A : Nat} {s : GS} {W : Nat → Prop} (hx : MX h A s W) (k : Int32) : MC0 (d + 4) 187 [some (.ref A), some (.int k)] h A W (s_tries s k) := by
  obtain ⟨my, mh, ⟨t1, t2, t3, t4, t5⟩, mr, mz, mg, mw, mn, mwn⟩ := id hx; have e136 := c136e hx; have b0 := my.1.1; obtain ⟨⟨z0, z1, z2, z3, z4, z5, z6, z7, z8, r1, r2, r3, r4, r5, r6, r7, r8⟩, ⟨vc, vg, vn, vt, vz, vK, vA, vU, vF, vM, vW, vC, vP⟩, ok⟩ := id my; obtain ⟨⟨o2, o3⟩, o6, on, og, oc⟩ := id ok
  have e139 := fun d => m139 d my k
  unfold s_tries
  cases a : inR k (Yn (gY s))
  · rw [if_neg (by decide)]
    rw [a] at e139
    refine MC0.rf hx (by decide) (by decide) ?_
    simp (disch := omega) only [s187_0, s187_1, s187_2, s187_3, s187_4, s187_5, s187_6, s187_7, s187_8, s187_9, s187_10, s187_11, s187_12, s187_13, s187_14, s187_15, s187_16, s187_17, s187_18, s187_19, s187_20, s187_21, s187_22, s187_23, ↓reduceIte, Option.bind_some, Option.toList_some, Option.toList_none, List.cons_append, List.nil_append, if_true, if_false, true_or, or_true, true_and, and_true, not_true_eq_false, not_false_eq_true, Nat.reduceLT, Nat.reduceLeDiff, Nat.reduceEqDiff, Nat.reduceAdd, Nat.reduceMul, Nat.reduceSub, Nat.reducePow, Nat.reduceMod, Nat.reduceDiv, l0, l1, l2, l3, l4, l5, l6, l7, l8, l9, l10, l11, l12, l13, l14, l15, l16, l20, l31, l32, l36, l40, l48, l57, l59, l63, l64, l97, l99, l100, l101, l122, l127, l128, l250, l255, l262143, l262144, l30000, l100000, l12345, l1024, l4095, nI_eqs, nI_les, nI_lts, qI_eq, qI_eqn, nI_eqq, qI_lts, nI_ltp, nI_lep, qI_les, nI_add, nI_mul, qI_add, qI_s, qI_def, nI_clamps, bI_z, bI_o, bI_01, n01, n11, rf_some, rf_none, m1, m1n, bft, z0, r1, r2, r3, r4, r5, r6, r7, r8, vc, vg, vn, vt, vz, gI z1, gI z2, gI z3, gI z4, gI z5, gI z6, gI z7, gI z8, gA z1, gA z2, gA z3, gA z4, gA z5, gA z6, gA z7, gA z8, e139, rN_d, e136]
  · rw [if_pos rfl]
    rw [a] at e139
    obtain ⟨j, hj, rfl⟩ := inR_of (by omega) a
    rw [nI_clamp (show j < 2 ^ 31 by omega)]
    have e141 := fun d => m141 d my hj
    by_cases w : YP (gY s) j < Yg (gY s)
    · rw [if_pos w]
      have w' : ¬ Yg (gY s) ≤ YP (gY s) j := by omega
      rw [decide_eq_false w'] at e141
      obtain ⟨h', e, q, f⟩ := m184 d my hj w none none
      refine MC0.y hx q f ?_
      cases q : letY (gY s) (YP (gY s) j) (YC (gY s) j)
      · rw [q] at e
        simp (disch := omega) only [s187_0, s187_1, s187_2, s187_3, s187_4, s187_5, s187_6, s187_7, s187_8, s187_9, s187_10, s187_11, s187_12, s187_13, s187_14, s187_15, s187_16, s187_17, s187_18, s187_19, s187_20, s187_21, s187_22, s187_23, ↓reduceIte, Option.bind_some, Option.toList_some, Option.toList_none, List.cons_append, List.nil_append, if_true, if_false, true_or, or_true, true_and, and_true, not_true_eq_false, not_false_eq_true, Nat.reduceLT, Nat.reduceLeDiff, Nat.reduceEqDiff, Nat.reduceAdd, Nat.reduceMul, Nat.reduceSub, Nat.reducePow, Nat.reduceMod, Nat.reduceDiv, l0, l1, l2, l3, l4, l5, l6, l7, l8, l9, l10, l11, l12, l13, l14, l15, l16, l20, l31, l32, l36, l40, l48, l57, l59, l63, l64, l97, l99, l100, l101, l122, l127, l128, l250, l255, l262143, l262144, l30000, l100000, l12345, l1024, l4095, nI_eqs, nI_les, nI_lts, qI_eq, qI_eqn, nI_eqq, qI_lts, nI_ltp, nI_lep, qI_les, nI_add, nI_mul, qI_add, qI_s, qI_def, nI_clamps, bI_z, bI_o, bI_01, n01, n11, rf_some, rf_none, m1, m1n, bft, z0, r1, r2, r3, r4, r5, r6, r7, r8, vc, vg, vn, vt, vz, gI z1, gI z2, gI z3, gI z4, gI z5, gI z6, gI z7, gI z8, gA z1, gA z2, gA z3, gA z4, gA z5, gA z6, gA z7, gA z8, e139, e141, e, bI_f, Bool.true_eq_false, Bool.false_eq_true]
      · rw [q] at e
        simp (disch := omega) only [s187_0, s187_1, s187_2, s187_3, s187_4, s187_5, s187_6, s187_7, s187_8, s187_9, s187_10, s187_11, s187_12, s187_13, s187_14, s187_15, s187_16, s187_17, s187_18, s187_19, s187_20, s187_21, s187_22, s187_23, ↓reduceIte, Option.bind_some, Option.toList_some, Option.toList_none, List.cons_append, List.nil_append, if_true, if_false, true_or, or_true, true_and, and_true, not_true_eq_false, not_false_eq_true, Nat.reduceLT, Nat.reduceLeDiff, Nat.reduceEqDiff, Nat.reduceAdd, Nat.reduceMul, Nat.reduceSub, Nat.reducePow, Nat.reduceMod, Nat.reduceDiv, l0, l1, l2, l3, l4, l5, l6, l7, l8, l9, l10, l11, l12, l13, l14, l15, l16, l20, l31, l32, l36, l40, l48, l57, l59, l63, l64, l97, l99, l100, l101, l122, l127, l128, l250, l255, l262143, l262144, l30000, l100000, l12345, l1024, l4095, nI_eqs, nI_les, nI_lts, qI_eq, qI_eqn, nI_eqq, qI_lts, nI_ltp, nI_lep, qI_les, nI_add, nI_mul, qI_add, qI_s, qI_def, nI_clamps, bI_z, bI_o, bI_01, n01, n11, rf_some, rf_none, m1, m1n, bft, z0, r1, r2, r3, r4, r5, r6, r7, r8, vc, vg, vn, vt, vz, gI z1, gI z2, gI z3, gI z4, gI z5, gI z6, gI z7, gI z8, gA z1, gA z2, gA z3, gA z4, gA z5, gA z6, gA z7, gA z8, e139, e141, e, bI_t, Bool.true_eq_false, Bool.false_eq_true]
    · rw [if_neg w]
      have w' : Yg (gY s) ≤ YP (gY s) j := by omega
      rw [decide_eq_true w'] at e141
      refine MC0.rf hx (by decide) (by decide) ?_
      simp (disch := omega) only [s187_0, s187_1, s187_2, s187_3, s187_4, s187_5, s187_6, s187_7, s187_8, s187_9, s187_10, s187_11, s187_12, s187_13, s187_14, s187_15, s187_16, s187_17, s187_18, s187_19, s187_20, s187_21, s187_22, s187_23, ↓reduceIte, Option.bind_some, Option.toList_some, Option.toList_none, List.cons_append, List.nil_append, if_true, if_false, true_or, or_true, true_and, and_true, not_true_eq_false, not_false_eq_true, Nat.reduceLT, Nat.reduceLeDiff, Nat.reduceEqDiff, Nat.reduceAdd, Nat.reduceMul, Nat.reduceSub, Nat.reducePow, Nat.reduceMod, Nat.reduceDiv, l0, l1, l2, l3, l4, l5, l6, l7, l8, l9, l10, l11, l12, l13, l14, l15, l16, l20, l31, l32, l36, l40, l48, l57, l59, l63, l64, l97, l99, l100, l101, l122, l127, l128, l250, l255, l262143, l262144, l30000, l100000, l12345, l1024, l4095, nI_eqs, nI_les, nI_lts, qI_eq, qI_eqn, nI_eqq, qI_lts, nI_ltp, nI_lep, qI_les, nI_add, nI_mul, qI_add, qI_s, qI_def, nI_clamps, bI_z, bI_o, bI_01, n01, n11, rf_some, rf_none, m1, m1n, bft, z0, r1, r2, r3, r4, r5, r6, r7, r8, vc, vg, vn, vt, vz, gI z1, gI z2, gI z3, gI z4, gI z5, gI z6, gI z7, gI z8, gA z1, gA z2, gA z3, gA z4, gA z5, gA z6, gA z7, gA z8, e139, e141, rN_d, e136, Bool.true_eq_false]
/-- how many bits: counted one by one -/
theorem bc_itr (p : Nat → Bool) {n : Nat} (hn : n ≤ 6) : bc (itr (fun k s => if p k = true then s ||| 2 ^ k else s) n 0 0) = itr (fun k t => if p k = true then t + 1 else t) n 0 0 := by
  have q : n = 0 ∨ n = 1 ∨ n = 2 ∨ n = 3 ∨ n = 4 ∨ n = 5 ∨ n = 6 := by omega
  rcases q with rfl | rfl | rfl | rfl | rfl | rfl | rfl <;> simp only [itr_s, itr_0, Nat.zero_add, Nat.reduceAdd] <;> generalize p 0 = b0 <;> generalize p 1 = b1 <;> generalize p 2 = b2 <;> generalize p 3 = b3 <;> generalize p 4 = b4 <;> generalize p 5 = b5 <;> revert b0 b1 b2 b3 b4 b5 <;> decide
def cOI (y : YS) : Nat := itr (fun k t => if Yg y ≤ YP y k then t + 1 else t) (Yn y) 0 0
theorem bc_outs {y : YS} (hn : Yn y ≤ 6) : bc (outsN y) = cOI y := by
  have := bc_itr (fun k => decide (Yg y ≤ YP y k)) hn
  simp only [decide_eq_true_eq] at this
  exact this
theorem c223 (d : Nat) {h : AH} {A : Nat} {s : GS} {W : Nat → Prop} (hx : MX h A s W) (p1 p2 : Option Value) : MC0 (d + 2) 223 [some (.ref A), p1, p2] h A W (s_home s) := by
  obtain ⟨my, mh, ⟨t1, t2, t3, t4, t5⟩, mr, mz, mg, mw, mn, mwn⟩ := id hx; have e136 := c136e hx; have b0 := my.1.1; obtain ⟨⟨z0, z1, z2, z3, z4, z5, z6, z7, z8, r1, r2, r3, r4, r5, r6, r7, r8⟩, ⟨vc, vg, vn, vt, vz, vK, vA, vU, vF, vM, vW, vC, vP⟩, ok⟩ := id my; obtain ⟨⟨o2, o3⟩, o6, on, og, oc⟩ := id ok
  have lp : ∀ m i t h1, i + m = Yn (gY s) → MY h1 A (sPi (gY s) i) → FY A h h1 → ∃ h2, E (d + 2) 223 4 [some (.ref A), some (.int (nI t)), some (.int (nI i))] [] h1 = some (some (.int (nI (itr (fun k t => if Yg (gY s) ≤ YP (gY s) k then t + 1 else t) m i t))), h2) ∧ MY h2 A (sPi (gY s) (Yn (gY s))) ∧ FY A h h2 := by
    intro m
    induction m with
    | zero =>
      intro i t h1 hi q f
      have hi' : i = Yn (gY s) := hi
      subst hi'
      refine ⟨h1, ?_, q, f⟩
      have c0 := q.1.1
      have c3 : hI h1 A 17 = nI (Yn (gY s)) := q.2.1.2.2.1
      rw [s223_4]
      simp (disch := omega) only [s223_0, s223_1, s223_2, s223_3, s223_5, s223_6, s223_7, s223_8, s223_9, s223_10, s223_11, s223_12, s223_13, s223_14, s223_15, s223_16, s223_17, s223_18, s223_19, s223_20, s223_21, s223_22, s223_23, s223_24, s223_25, s223_26, ↓reduceIte, Option.bind_some, Option.toList_some, Option.toList_none, List.cons_append, List.nil_append, if_true, if_false, true_or, or_true, true_and, and_true, not_true_eq_false, not_false_eq_true, Nat.reduceLT, Nat.reduceLeDiff, Nat.reduceEqDiff, Nat.reduceAdd, Nat.reduceMul, Nat.reduceSub, Nat.reducePow, Nat.reduceMod, Nat.reduceDiv, l0, l1, l2, l3, l4, l5, l6, l7, l8, l9, l10, l11, l12, l13, l14, l15, l16, l20, l31, l32, l36, l40, l48, l57, l59, l63, l64, l97, l99, l100, l101, l122, l127, l128, l250, l255, l262143, l262144, l30000, l100000, l12345, l1024, l4095, nI_eqs, nI_les, nI_lts, qI_eq, qI_eqn, nI_eqq, qI_lts, nI_ltp, nI_lep, qI_les, nI_add, nI_mul, qI_add, qI_s, qI_def, nI_clamps, bI_z, bI_o, bI_01, n01, n11, rf_some, rf_none, m1, m1n, bft, c0, c3, Nat.le_refl, itr_0]
    | succ m ih =>
      intro i t h1 hi q f
      have h1' : ¬ Yn (gY s) ≤ i := by omega
      have c0 := q.1.1
      have c3 : hI h1 A 17 = nI (Yn (gY s)) := q.2.1.2.2.1
      have c4 : hR h1 A 19 = some (A + 24) := q.1.2.2.2.2.2.2.2.2.2.2.2.2.2.2.2.2
      have c5 : hS h1 (A + 24) = some (0, 6) := q.1.2.2.2.2.2.2.2.2.1
      have q' : MY (stI h1 (A + 24) i (nI 0)) A (sPi (gY s) (i + 1)) := by
        rw [← sPi_s]
        exact ⟨q.1, q.2.1.P i 0, q.2.2.sP (Nat.zero_le _)⟩
      have e141 := fun d => m141 d q (k := i) (show i < Yn (gY s) by omega)
      have pi : YP (sPi (gY s) i) i = YP (gY s) i := if_neg (Nat.lt_irrefl i)
      have pg : Yg (sPi (gY s) i) = Yg (gY s) := rfl
      rw [pi, pg] at e141
      rw [s223_4, itr_s]
      by_cases w : Yg (gY s) ≤ YP (gY s) i
      · rw [if_pos w]
        rw [decide_eq_true w] at e141
        obtain ⟨h2, e, r, f2⟩ := ih (i + 1) (t + 1) _ (by omega) q' (f.trans (FY.arr _ (by decide) _ _))
        refine ⟨h2, ?_, r, f2⟩
        simp (disch := omega) only [s223_0, s223_1, s223_2, s223_3, s223_5, s223_6, s223_7, s223_8, s223_9, s223_10, s223_11, s223_12, s223_13, s223_14, s223_15, s223_16, s223_17, s223_18, s223_19, s223_20, s223_21, s223_22, s223_23, s223_24, s223_25, s223_26, ↓reduceIte, Option.bind_some, Option.toList_some, Option.toList_none, List.cons_append, List.nil_append, if_true, if_false, true_or, or_true, true_and, and_true, not_true_eq_false, not_false_eq_true, Nat.reduceLT, Nat.reduceLeDiff, Nat.reduceEqDiff, Nat.reduceAdd, Nat.reduceMul, Nat.reduceSub, Nat.reducePow, Nat.reduceMod, Nat.reduceDiv, l0, l1, l2, l3, l4, l5, l6, l7, l8, l9, l10, l11, l12, l13, l14, l15, l16, l20, l31, l32, l36, l40, l48, l57, l59, l63, l64, l97, l99, l100, l101, l122, l127, l128, l250, l255, l262143, l262144, l30000, l100000, l12345, l1024, l4095, nI_eqs, nI_les, nI_lts, qI_eq, qI_eqn, nI_eqq, qI_lts, nI_ltp, nI_lep, qI_les, nI_add, nI_mul, qI_add, qI_s, qI_def, nI_clamps, bI_z, bI_o, bI_01, n01, n11, rf_some, rf_none, m1, m1n, bft, c0, c3, c4, gA c5, h1', e141, Bool.true_eq_false]
        exact e
      · rw [if_neg w]
        rw [decide_eq_false w] at e141
        obtain ⟨h2, e, r, f2⟩ := ih (i + 1) t _ (by omega) q' (f.trans (FY.arr _ (by decide) _ _))
        refine ⟨h2, ?_, r, f2⟩
        simp (disch := omega) only [s223_0, s223_1, s223_2, s223_3, s223_5, s223_6, s223_7, s223_8, s223_9, s223_10, s223_11, s223_12, s223_13, s223_14, s223_15, s223_16, s223_17, s223_18, s223_19, s223_20, s223_21, s223_22, s223_23, s223_24, s223_25, s223_26, ↓reduceIte, Option.bind_some, Option.toList_some, Option.toList_none, List.cons_append, List.nil_append, if_true, if_false, true_or, or_true, true_and, and_true, not_true_eq_false, not_false_eq_true, Nat.reduceLT, Nat.reduceLeDiff, Nat.reduceEqDiff, Nat.reduceAdd, Nat.reduceMul, Nat.reduceSub, Nat.reducePow, Nat.reduceMod, Nat.reduceDiv, l0, l1, l2, l3, l4, l5, l6, l7, l8, l9, l10, l11, l12, l13, l14, l15, l16, l20, l31, l32, l36, l40, l48, l57, l59, l63, l64, l97, l99, l100, l101, l122, l127, l128, l250, l255, l262143, l262144, l30000, l100000, l12345, l1024, l4095, nI_eqs, nI_les, nI_lts, qI_eq, qI_eqn, nI_eqq, qI_lts, nI_ltp, nI_lep, qI_les, nI_add, nI_mul, qI_add, qI_s, qI_def, nI_clamps, bI_z, bI_o, bI_01, n01, n11, rf_some, rf_none, m1, m1n, bft, c0, c3, c4, gA c5, h1', e141, Nat.add_zero]
        exact e
  obtain ⟨h2, e, q, f⟩ := lp (Yn (gY s)) 0 0 h (by omega) (by rw [sPi_0]; exact my) (FY.refl _ _)
  unfold s_home
  rw [bc_outs on]
  refine MC0.y hx q f ?_
  rw [s223_0, s223_1, s223_2, s223_3]
  exact e
theorem c224 (d : Nat) {h : AH} {A : Nat} {s : GS} {W : Nat → Prop} (hx : MX h A s W) (v : Int32) (p : Option Value) : MC0 d 224 [some (.ref A), some (.int v), p] h A W (s_seed s v) := by
  obtain ⟨my, mh, ⟨t1, t2, t3, t4, t5⟩, mr, mz, mg, mw, mn, mwn⟩ := id hx; have e136 := c136e hx; have b0 := my.1.1; obtain ⟨⟨z0, z1, z2, z3, z4, z5, z6, z7, z8, r1, r2, r3, r4, r5, r6, r7, r8⟩, ⟨vc, vg, vn, vt, vz, vK, vA, vU, vF, vM, vW, vC, vP⟩, ok⟩ := id my; obtain ⟨⟨o2, o3⟩, o6, on, og, oc⟩ := id ok
  refine MC0.y hx (h' := stI h A 21 v) ⟨my.1, my.2.1.z v, my.2.2⟩ (FY.fld _ (by decide) _) ?_
  simp (disch := omega) only [s224_0, s224_1, s224_2, s224_3, s224_4, s224_5, s224_6, s224_7, ↓reduceIte, Option.bind_some, Option.toList_some, Option.toList_none, List.cons_append, List.nil_append, if_true, if_false, true_or, or_true, true_and, and_true, not_true_eq_false, not_false_eq_true, Nat.reduceLT, Nat.reduceLeDiff, Nat.reduceEqDiff, Nat.reduceAdd, Nat.reduceMul, Nat.reduceSub, Nat.reducePow, Nat.reduceMod, Nat.reduceDiv, l0, l1, l2, l3, l4, l5, l6, l7, l8, l9, l10, l11, l12, l13, l14, l15, l16, l20, l31, l32, l36, l40, l48, l57, l59, l63, l64, l97, l99, l100, l101, l122, l127, l128, l250, l255, l262143, l262144, l30000, l100000, l12345, l1024, l4095, nI_eqs, nI_les, nI_lts, qI_eq, qI_eqn, nI_eqq, qI_lts, nI_ltp, nI_lep, qI_les, nI_add, nI_mul, qI_add, qI_s, qI_def, nI_clamps, bI_z, bI_o, bI_01, n01, n11, rf_some, rf_none, m1, m1n, bft, z0, r1, r2, r3, r4, r5, r6, r7, r8, vc, vg, vn, vt, vz, gI z1, gI z2, gI z3, gI z4, gI z5, gI z6, gI z7, gI z8, gA z1, gA z2, gA z3, gA z4, gA z5, gA z6, gA z7, gA z8]
theorem c229 (d : Nat) {h : AH} {A : Nat} {s : GS} {W : Nat → Prop} (hx : MX h A s W) (p : Option Value) : MC0 (d + 2) 229 [some (.ref A), p] h A W (s_back s) := by
  obtain ⟨my, mh, ⟨t1, t2, t3, t4, t5⟩, mr, mz, mg, mw, mn, mwn⟩ := id hx; have e136 := c136e hx; have b0 := my.1.1
  unfold s_back
  cases w : gK s with
  | none =>
    have k0 := mg.2.1 w
    refine MC0.rf hx (by decide) (by decide) ?_
    simp (disch := omega) only [s229_0, s229_1, s229_2n, s229_2, s229_3, s229_4, s229_5, s229_6, s229_7, s229_8, s229_9, s229_10, s229_11, s229_12, s229_14, s229_15, s229_16, s229_17, s229_18, s229_19, s229_20, s229_21, s229_22, s229_23, s229_24, s229_25, s229_26, s229_27, s229_28, s229_29, s229_30, s229_31, s229_32, s229_33, s229_34, s229_35, s229_36, s229_37, ↓reduceIte, Option.bind_some, Option.toList_some, Option.toList_none, List.cons_append, List.nil_append, if_true, if_false, true_or, or_true, true_and, and_true, not_true_eq_false, not_false_eq_true, Nat.reduceLT, Nat.reduceLeDiff, Nat.reduceEqDiff, Nat.reduceAdd, Nat.reduceMul, Nat.reduceSub, Nat.reducePow, Nat.reduceMod, Nat.reduceDiv, l0, l1, l2, l3, l4, l5, l6, l7, l8, l9, l10, l11, l12, l13, l14, l15, l16, l20, l31, l32, l36, l40, l48, l57, l59, l63, l64, l97, l99, l100, l101, l122, l127, l128, l250, l255, l262143, l262144, l30000, l100000, l12345, l1024, l4095, nI_eqs, nI_les, nI_lts, qI_eq, qI_eqn, nI_eqq, qI_lts, nI_ltp, nI_lep, qI_les, nI_add, nI_mul, qI_add, qI_s, qI_def, nI_clamps, bI_z, bI_o, bI_01, n01, n11, rf_some, rf_none, m1, m1n, bft, b0, k0, rN_d, e136]
  | some k =>
    obtain ⟨p, k0, k1, k2, k3, k4⟩ := mg.2.2.1 k w
    obtain ⟨h1, e, q, f⟩ := m227 d my.1 k1 (Or.inr (by omega))
    have z := hx.y q f
    have lp : ∀ m i h1 H, i + m = 8 → MH h1 A H → hI h1 A 10 = nI (Yg k) → ∃ h2, E (d + 2) 229 13 [some (.ref A), some (.int (nI i))] [] h1 = some (some (.int (nI 1)), h2) ∧ MH h2 A (bkH k m i H) ∧ Fr0 (blk (A + 1) 14) h1 h2 := by
      intro m
      induction m with
      | zero =>
        intro i h1 H hi xh c1
        have hi' : i = 8 := hi
        subst hi'
        refine ⟨h1, ?_, xh, Fr0.refl _ _⟩
        rw [s229_13]
        simp (disch := omega) only [s229_0, s229_1, s229_2n, s229_2, s229_3, s229_4, s229_5, s229_6, s229_7, s229_8, s229_9, s229_10, s229_11, s229_12, s229_14, s229_15, s229_16, s229_17, s229_18, s229_19, s229_20, s229_21, s229_22, s229_23, s229_24, s229_25, s229_26, s229_27, s229_28, s229_29, s229_30, s229_31, s229_32, s229_33, s229_34, s229_35, s229_36, s229_37, ↓reduceIte, Option.bind_some, Option.toList_some, Option.toList_none, List.cons_append, List.nil_append, if_true, if_false, true_or, or_true, true_and, and_true, not_true_eq_false, not_false_eq_true, Nat.reduceLT, Nat.reduceLeDiff, Nat.reduceEqDiff, Nat.reduceAdd, Nat.reduceMul, Nat.reduceSub, Nat.reducePow, Nat.reduceMod, Nat.reduceDiv, l0, l1, l2, l3, l4, l5, l6, l7, l8, l9, l10, l11, l12, l13, l14, l15, l16, l20, l31, l32, l36, l40, l48, l57, l59, l63, l64, l97, l99, l100, l101, l122, l127, l128, l250, l255, l262143, l262144, l30000, l100000, l12345, l1024, l4095, nI_eqs, nI_les, nI_lts, qI_eq, qI_eqn, nI_eqq, qI_lts, nI_ltp, nI_lep, qI_les, nI_add, nI_mul, qI_add, qI_s, qI_def, nI_clamps, bI_z, bI_o, bI_01, n01, n11, rf_some, rf_none, m1, m1n, bft, Nat.le_refl]
      | succ m ih =>
        intro i h1 H hi xh c1
        have h1' : ¬ 8 ≤ i := by omega
        have xh' := xh
        obtain ⟨⟨z0, z1, z2, z3, z4, z5, z6, r0, r1, r2, r3, r4, r5⟩, hs⟩ := xh'
        obtain ⟨rs, ze, vk, v1, v2, ve, ok⟩ := hs i (by omega)
        have k3 := ok.1
        have gk := q.2.2.2.1
        rw [s229_13]
        unfold bkH
        rw [itr_s]
        by_cases a : Hk (H i) = 2
        · have v3 := v2 a
          have g6 := ok.2.2.2.2 a
          rw [a] at vk
          by_cases b : Yg k ≤ Hg (H i)
          · rw [if_pos ⟨a, b⟩]
            have ff : Fr0 (blk (A + 1) 14) h1 (stI h1 (A + 1) i (nI 0)) := blkI _ (by omega) (by omega) _ _
            have xh3 : MH (stI h1 (A + 1) i (nI 0)) A (fup H i (sMk 0 0 0 0 (He (H i)))) := xh.up ff (fun s' hs' => ⟨fun b' => by simp only [hI_stI, hs', and_false, if_false], fun i => rfl⟩) ⟨by rw [hI_stI, if_pos ⟨rfl, rfl⟩]; rfl, fun w => absurd (show (0 : Nat) = 1 from w) (by decide), fun w => absurd (show (0 : Nat) = 2 from w) (by decide), fun i hi => absurd hi (Nat.not_lt_zero i), ⟨show (0 : Nat) < 3 by decide, fun w => absurd (show (0 : Nat) = 1 from w) (by decide), fun w => absurd (show (0 : Nat) = 1 from w) (by decide), fun _ => rfl, fun w => absurd (show (0 : Nat) = 2 from w) (by decide)⟩⟩
            obtain ⟨h2, e, q, f⟩ := ih (i + 1) _ _ (by omega) xh3 (by rw [hI_stI, if_neg (fun w => by omega)]; exact c1)
            refine ⟨h2, ?_, q, ff.trans f⟩
            have b' : ¬ Hg (H i) < Yg k := by omega
            simp (disch := omega) only [s229_0, s229_1, s229_2n, s229_2, s229_3, s229_4, s229_5, s229_6, s229_7, s229_8, s229_9, s229_10, s229_11, s229_12, s229_14, s229_15, s229_16, s229_17, s229_18, s229_19, s229_20, s229_21, s229_22, s229_23, s229_24, s229_25, s229_26, s229_27, s229_28, s229_29, s229_30, s229_31, s229_32, s229_33, s229_34, s229_35, s229_36, s229_37, ↓reduceIte, Option.bind_some, Option.toList_some, Option.toList_none, List.cons_append, List.nil_append, if_true, if_false, true_or, or_true, true_and, and_true, not_true_eq_false, not_false_eq_true, Nat.reduceLT, Nat.reduceLeDiff, Nat.reduceEqDiff, Nat.reduceAdd, Nat.reduceMul, Nat.reduceSub, Nat.reducePow, Nat.reduceMod, Nat.reduceDiv, l0, l1, l2, l3, l4, l5, l6, l7, l8, l9, l10, l11, l12, l13, l14, l15, l16, l20, l31, l32, l36, l40, l48, l57, l59, l63, l64, l97, l99, l100, l101, l122, l127, l128, l250, l255, l262143, l262144, l30000, l100000, l12345, l1024, l4095, nI_eqs, nI_les, nI_lts, qI_eq, qI_eqn, nI_eqq, qI_lts, nI_ltp, nI_lep, qI_les, nI_add, nI_mul, qI_add, qI_s, qI_def, nI_clamps, bI_z, bI_o, bI_01, n01, n11, rf_some, rf_none, m1, m1n, bft, h1', z0, r0, r5, gI z1, gI z6, gA z1, vk, v3, c1, b, b']
            exact e
          · rw [if_neg (fun w => b w.2)]
            obtain ⟨h2, e, q, f⟩ := ih (i + 1) h1 H (by omega) xh c1
            refine ⟨h2, ?_, q, f⟩
            have b' : Hg (H i) < Yg k := by omega
            simp (disch := omega) only [s229_0, s229_1, s229_2n, s229_2, s229_3, s229_4, s229_5, s229_6, s229_7, s229_8, s229_9, s229_10, s229_11, s229_12, s229_14, s229_15, s229_16, s229_17, s229_18, s229_19, s229_20, s229_21, s229_22, s229_23, s229_24, s229_25, s229_26, s229_27, s229_28, s229_29, s229_30, s229_31, s229_32, s229_33, s229_34, s229_35, s229_36, s229_37, ↓reduceIte, Option.bind_some, Option.toList_some, Option.toList_none, List.cons_append, List.nil_append, if_true, if_false, true_or, or_true, true_and, and_true, not_true_eq_false, not_false_eq_true, Nat.reduceLT, Nat.reduceLeDiff, Nat.reduceEqDiff, Nat.reduceAdd, Nat.reduceMul, Nat.reduceSub, Nat.reducePow, Nat.reduceMod, Nat.reduceDiv, l0, l1, l2, l3, l4, l5, l6, l7, l8, l9, l10, l11, l12, l13, l14, l15, l16, l20, l31, l32, l36, l40, l48, l57, l59, l63, l64, l97, l99, l100, l101, l122, l127, l128, l250, l255, l262143, l262144, l30000, l100000, l12345, l1024, l4095, nI_eqs, nI_les, nI_lts, qI_eq, qI_eqn, nI_eqq, qI_lts, nI_ltp, nI_lep, qI_les, nI_add, nI_mul, qI_add, qI_s, qI_def, nI_clamps, bI_z, bI_o, bI_01, n01, n11, rf_some, rf_none, m1, m1n, bft, h1', z0, r0, r5, gI z1, gI z6, gA z1, vk, v3, c1, b, b']
            exact e
        · rw [if_neg (fun w => a w.1)]
          obtain ⟨h2, e, q, f⟩ := ih (i + 1) h1 H (by omega) xh c1
          refine ⟨h2, ?_, q, f⟩
          simp (disch := omega) only [s229_0, s229_1, s229_2n, s229_2, s229_3, s229_4, s229_5, s229_6, s229_7, s229_8, s229_9, s229_10, s229_11, s229_12, s229_14, s229_15, s229_16, s229_17, s229_18, s229_19, s229_20, s229_21, s229_22, s229_23, s229_24, s229_25, s229_26, s229_27, s229_28, s229_29, s229_30, s229_31, s229_32, s229_33, s229_34, s229_35, s229_36, s229_37, ↓reduceIte, Option.bind_some, Option.toList_some, Option.toList_none, List.cons_append, List.nil_append, if_true, if_false, true_or, or_true, true_and, and_true, not_true_eq_false, not_false_eq_true, Nat.reduceLT, Nat.reduceLeDiff, Nat.reduceEqDiff, Nat.reduceAdd, Nat.reduceMul, Nat.reduceSub, Nat.reducePow, Nat.reduceMod, Nat.reduceDiv, l0, l1, l2, l3, l4, l5, l6, l7, l8, l9, l10, l11, l12, l13, l14, l15, l16, l20, l31, l32, l36, l40, l48, l57, l59, l63, l64, l97, l99, l100, l101, l122, l127, l128, l250, l255, l262143, l262144, l30000, l100000, l12345, l1024, l4095, nI_eqs, nI_les, nI_lts, qI_eq, qI_eqn, nI_eqq, qI_lts, nI_ltp, nI_lep, qI_les, nI_add, nI_mul, qI_add, qI_s, qI_def, nI_clamps, bI_z, bI_o, bI_01, n01, n11, rf_some, rf_none, m1, m1n, bft, h1', z0, r0, gI z1, vk, a]
          exact e
    obtain ⟨h2, e2, q2, f2⟩ := lp 8 0 h1 (gH s) (by omega) z.1.2.1 q.2.1.2.1
    have z2 := z.1.h q2 f2
    refine ⟨h2, ?_, z2.1, z.2.trans z2.2⟩
    simp (disch := omega) only [s229_0, s229_1, s229_2n, s229_2, s229_3, s229_4, s229_5, s229_6, s229_7, s229_8, s229_9, s229_10, s229_11, s229_12, ↓reduceIte, Option.bind_some, Option.toList_some, Option.toList_none, List.cons_append, List.nil_append, if_true, if_false, true_or, or_true, true_and, and_true, not_true_eq_false, not_false_eq_true, Nat.reduceLT, Nat.reduceLeDiff, Nat.reduceEqDiff, Nat.reduceAdd, Nat.reduceMul, Nat.reduceSub, Nat.reducePow, Nat.reduceMod, Nat.reduceDiv, l0, l1, l2, l3, l4, l5, l6, l7, l8, l9, l10, l11, l12, l13, l14, l15, l16, l20, l31, l32, l36, l40, l48, l57, l59, l63, l64, l97, l99, l100, l101, l122, l127, l128, l250, l255, l262143, l262144, l30000, l100000, l12345, l1024, l4095, nI_eqs, nI_les, nI_lts, qI_eq, qI_eqn, nI_eqq, qI_lts, nI_ltp, nI_lep, qI_les, nI_add, nI_mul, qI_add, qI_s, qI_def, nI_clamps, bI_z, bI_o, bI_01, n01, n11, rf_some, rf_none, m1, m1n, bft, b0, k0, e]
    exact e2
theorem in_1216 {x : Int32} (h : inR x 17 = false) : (decide (lN 12 ≤ x.toInt64) && decide (x.toInt64 ≤ lN 16)) = false := by
  rw [Bool.eq_false_iff] at h ⊢
  intro w
  apply h
  rw [inR_iff (by decide)]
  rw [Bool.and_eq_true, decide_eq_true_iff, decide_eq_true_iff, Int64.le_iff_toInt_le, Int64.le_iff_toInt_le, Int32.toInt_toInt64, lN_toInt (by decide), lN_toInt (by decide)] at w
  omega
theorem c230 (d : Nat) {h : AH} {A : Nat} {s : GS} {W : Nat → Prop} (hx : MX h A s W) (w : Int32) (p2 p3 : Option Value) : MC0 (d + 2) 230 [some (.ref A), some (.int w), p2, p3] h A W (s_status s w) := by
  have e141 := fun d k (hk : k < Yn (gY s)) => m141 d hx.1 hk
  have e191 := fun d => m191 d hx.1 none none
  have lp1 : ∀ m i t p1, i + m = Yn (gY s) → E (d + 2) 230 15 [some (.ref A), p1, some (.int (nI t)), some (.int (nI i))] [] h = some (some (.int (nI (itr (fun k s' => if Yg (gY s) ≤ YP (gY s) k then s' ||| 2 ^ k else s') m i t))), h) := by
    obtain ⟨my, mh, ⟨t1, t2, t3, t4, t5⟩, mr, mz, mg, mw, mn, mwn⟩ := id hx; have e136 := c136e hx; have b0 := my.1.1; obtain ⟨⟨z0, z1, z2, z3, z4, z5, z6, z7, z8, r1, r2, r3, r4, r5, r6, r7, r8⟩, ⟨vc, vg, vn, vt, vz, vK, vA, vU, vF, vM, vW, vC, vP⟩, ok⟩ := id my; obtain ⟨⟨o2, o3⟩, o6, on, og, oc⟩ := id ok
    intro m
    induction m with
    | zero =>
      intro i t p1 hi
      have hi' : i = Yn (gY s) := hi
      rw [s230_15]
      simp (disch := omega) only [s230_0, s230_1, s230_2, s230_3, s230_4, s230_5, s230_6, s230_7, s230_8, s230_9, s230_10, s230_11, s230_12, s230_13, s230_14, s230_16, s230_17, s230_18, s230_19, s230_20, s230_21, s230_22, s230_23, s230_24, s230_25, s230_26, s230_27, s230_28, s230_29, s230_30, s230_31, s230_32, s230_33, s230_34, s230_35, s230_36, s230_37, s230_38, s230_39, s230_40, s230_41, s230_42, s230_43, s230_44, s230_45, s230_46, s230_47, s230_48, s230_49, s230_50, s230_51, s230_52, s230_53, s230_54, s230_55, s230_56, s230_57, s230_58, s230_59, s230_60, s230_61, s230_62, s230_63, s230_64, s230_65, s230_66, s230_67, s230_68, s230_69, s230_70, s230_71, s230_72, s230_73, s230_74, s230_75, s230_76, s230_77, s230_78, s230_79, s230_80, s230_81, ↓reduceIte, Option.bind_some, Option.toList_some, Option.toList_none, List.cons_append, List.nil_append, if_true, if_false, true_or, or_true, true_and, and_true, not_true_eq_false, not_false_eq_true, Nat.reduceLT, Nat.reduceLeDiff, Nat.reduceEqDiff, Nat.reduceAdd, Nat.reduceMul, Nat.reduceSub, Nat.reducePow, Nat.reduceMod, Nat.reduceDiv, l0, l1, l2, l3, l4, l5, l6, l7, l8, l9, l10, l11, l12, l13, l14, l15, l16, l20, l31, l32, l36, l40, l48, l57, l59, l63, l64, l97, l99, l100, l101, l122, l127, l128, l250, l255, l262143, l262144, l30000, l100000, l12345, l1024, l4095, nI_eqs, nI_les, nI_lts, qI_eq, qI_eqn, nI_eqq, qI_lts, nI_ltp, nI_lep, qI_les, nI_add, nI_mul, qI_add, qI_s, qI_def, nI_clamps, bI_z, bI_o, bI_01, n01, n11, rf_some, rf_none, m1, m1n, bft, z0, r1, r2, r3, r4, r5, r6, r7, r8, vc, vg, vn, vt, vz, gI z1, gI z2, gI z3, gI z4, gI z5, gI z6, gI z7, gI z8, gA z1, gA z2, gA z3, gA z4, gA z5, gA z6, gA z7, gA z8, hi', Nat.le_refl, itr_0]
    | succ m ih =>
      intro i t p1 hi
      have h1 : ¬ Yn (gY s) ≤ i := by omega
      rw [s230_15, itr_s]
      by_cases q : Yg (gY s) ≤ YP (gY s) i
      · simp (disch := omega) only [s230_0, s230_1, s230_2, s230_3, s230_4, s230_5, s230_6, s230_7, s230_8, s230_9, s230_10, s230_11, s230_12, s230_13, s230_14, s230_16, s230_17, s230_18, s230_19, s230_20, s230_21, s230_22, s230_23, s230_24, s230_25, s230_26, s230_27, s230_28, s230_29, s230_30, s230_31, s230_32, s230_33, s230_34, s230_35, s230_36, s230_37, s230_38, s230_39, s230_40, s230_41, s230_42, s230_43, s230_44, s230_45, s230_46, s230_47, s230_48, s230_49, s230_50, s230_51, s230_52, s230_53, s230_54, s230_55, s230_56, s230_57, s230_58, s230_59, s230_60, s230_61, s230_62, s230_63, s230_64, s230_65, s230_66, s230_67, s230_68, s230_69, s230_70, s230_71, s230_72, s230_73, s230_74, s230_75, s230_76, s230_77, s230_78, s230_79, s230_80, s230_81, ↓reduceIte, Option.bind_some, Option.toList_some, Option.toList_none, List.cons_append, List.nil_append, if_true, if_false, true_or, or_true, true_and, and_true, not_true_eq_false, not_false_eq_true, Nat.reduceLT, Nat.reduceLeDiff, Nat.reduceEqDiff, Nat.reduceAdd, Nat.reduceMul, Nat.reduceSub, Nat.reducePow, Nat.reduceMod, Nat.reduceDiv, l0, l1, l2, l3, l4, l5, l6, l7, l8, l9, l10, l11, l12, l13, l14, l15, l16, l20, l31, l32, l36, l40, l48, l57, l59, l63, l64, l97, l99, l100, l101, l122, l127, l128, l250, l255, l262143, l262144, l30000, l100000, l12345, l1024, l4095, nI_eqs, nI_les, nI_lts, qI_eq, qI_eqn, nI_eqq, qI_lts, nI_ltp, nI_lep, qI_les, nI_add, nI_mul, qI_add, qI_s, qI_def, nI_clamps, bI_z, bI_o, bI_01, n01, n11, rf_some, rf_none, m1, m1n, bft, z0, r1, r2, r3, r4, r5, r6, r7, r8, vc, vg, vn, vt, vz, gI z1, gI z2, gI z3, gI z4, gI z5, gI z6, gI z7, gI z8, gA z1, gA z2, gA z3, gA z4, gA z5, gA z6, gA z7, gA z8, vK, vA, vU, vF, vM, vW, vC, vP, nI_and, nI_or, nI_shl', nI_shr', a31, h1, q, e141, Nat.one_mul, decide_true, Bool.true_eq_false]
        exact ih _ _ _ (by omega)
      · simp (disch := omega) only [s230_0, s230_1, s230_2, s230_3, s230_4, s230_5, s230_6, s230_7, s230_8, s230_9, s230_10, s230_11, s230_12, s230_13, s230_14, s230_16, s230_17, s230_18, s230_19, s230_20, s230_21, s230_22, s230_23, s230_24, s230_25, s230_26, s230_27, s230_28, s230_29, s230_30, s230_31, s230_32, s230_33, s230_34, s230_35, s230_36, s230_37, s230_38, s230_39, s230_40, s230_41, s230_42, s230_43, s230_44, s230_45, s230_46, s230_47, s230_48, s230_49, s230_50, s230_51, s230_52, s230_53, s230_54, s230_55, s230_56, s230_57, s230_58, s230_59, s230_60, s230_61, s230_62, s230_63, s230_64, s230_65, s230_66, s230_67, s230_68, s230_69, s230_70, s230_71, s230_72, s230_73, s230_74, s230_75, s230_76, s230_77, s230_78, s230_79, s230_80, s230_81, ↓reduceIte, Option.bind_some, Option.toList_some, Option.toList_none, List.cons_append, List.nil_append, if_true, if_false, true_or, or_true, true_and, and_true, not_true_eq_false, not_false_eq_true, Nat.reduceLT, Nat.reduceLeDiff, Nat.reduceEqDiff, Nat.reduceAdd, Nat.reduceMul, Nat.reduceSub, Nat.reducePow, Nat.reduceMod, Nat.reduceDiv, l0, l1, l2, l3, l4, l5, l6, l7, l8, l9, l10, l11, l12, l13, l14, l15, l16, l20, l31, l32, l36, l40, l48, l57, l59, l63, l64, l97, l99, l100, l101, l122, l127, l128, l250, l255, l262143, l262144, l30000, l100000, l12345, l1024, l4095, nI_eqs, nI_les, nI_lts, qI_eq, qI_eqn, nI_eqq, qI_lts, nI_ltp, nI_lep, qI_les, nI_add, nI_mul, qI_add, qI_s, qI_def, nI_clamps, bI_z, bI_o, bI_01, n01, n11, rf_some, rf_none, m1, m1n, bft, z0, r1, r2, r3, r4, r5, r6, r7, r8, vc, vg, vn, vt, vz, gI z1, gI z2, gI z3, gI z4, gI z5, gI z6, gI z7, gI z8, gA z1, gA z2, gA z3, gA z4, gA z5, gA z6, gA z7, gA z8, vK, vA, vU, vF, vM, vW, vC, vP, nI_and, nI_or, nI_shl', nI_shr', a31, h1, q, e141, Nat.or_zero, decide_false]
        exact ih _ _ _ (by omega)
  have lp2 : ∀ m i t p1, i + m = 8 → E (d + 2) 230 49 [some (.ref A), p1, some (.int (nI t)), some (.int (nI i))] [] h = some (some (.int (nI (itr (fun x n => if Hk (gH s x) = 0 then n else n + 1) m i t))), h) := by
    obtain ⟨my, mh, ⟨t1, t2, t3, t4, t5⟩, mr, mz, mg, mw, mn, mwn⟩ := id hx; have e136 := c136e hx; have b0 := my.1.1
    obtain ⟨⟨z0, z1, z2, z3, z4, z5, z6, r0, r1, r2, r3, r4, r5⟩, hs⟩ := id mh
    intro m
    induction m with
    | zero =>
      intro i t p1 hi
      have hi' : i = 8 := hi
      subst hi'
      rw [s230_49]
      simp (disch := omega) only [s230_0, s230_1, s230_2, s230_3, s230_4, s230_5, s230_6, s230_7, s230_8, s230_9, s230_10, s230_11, s230_12, s230_13, s230_14, s230_15, s230_16, s230_17, s230_18, s230_19, s230_20, s230_21, s230_22, s230_23, s230_24, s230_25, s230_26, s230_27, s230_28, s230_29, s230_30, s230_31, s230_32, s230_33, s230_34, s230_35, s230_36, s230_37, s230_38, s230_39, s230_40, s230_41, s230_42, s230_43, s230_44, s230_45, s230_46, s230_47, s230_48, s230_50, s230_51, s230_52, s230_53, s230_54, s230_55, s230_56, s230_57, s230_58, s230_59, s230_60, s230_61, s230_62, s230_63, s230_64, s230_65, s230_66, s230_67, s230_68, s230_69, s230_70, s230_71, s230_72, s230_73, s230_74, s230_75, s230_76, s230_77, s230_78, s230_79, s230_80, s230_81, ↓reduceIte, Option.bind_some, Option.toList_some, Option.toList_none, List.cons_append, List.nil_append, if_true, if_false, true_or, or_true, true_and, and_true, not_true_eq_false, not_false_eq_true, Nat.reduceLT, Nat.reduceLeDiff, Nat.reduceEqDiff, Nat.reduceAdd, Nat.reduceMul, Nat.reduceSub, Nat.reducePow, Nat.reduceMod, Nat.reduceDiv, l0, l1, l2, l3, l4, l5, l6, l7, l8, l9, l10, l11, l12, l13, l14, l15, l16, l20, l31, l32, l36, l40, l48, l57, l59, l63, l64, l97, l99, l100, l101, l122, l127, l128, l250, l255, l262143, l262144, l30000, l100000, l12345, l1024, l4095, nI_eqs, nI_les, nI_lts, qI_eq, qI_eqn, nI_eqq, qI_lts, nI_ltp, nI_lep, qI_les, nI_add, nI_mul, qI_add, qI_s, qI_def, nI_clamps, bI_z, bI_o, bI_01, n01, n11, rf_some, rf_none, m1, m1n, bft, Nat.le_refl, itr_0]
    | succ m ih =>
      intro i t p1 hi
      have h1' : ¬ 8 ≤ i := by omega
      obtain ⟨rs, ze, vk, v1, v2, ve, ok⟩ := hs i (by omega)
      have k3 := ok.1
      rw [s230_49, itr_s]
      by_cases q : Hk (gH s i) = 0
      · simp (disch := omega) only [s230_0, s230_1, s230_2, s230_3, s230_4, s230_5, s230_6, s230_7, s230_8, s230_9, s230_10, s230_11, s230_12, s230_13, s230_14, s230_15, s230_16, s230_17, s230_18, s230_19, s230_20, s230_21, s230_22, s230_23, s230_24, s230_25, s230_26, s230_27, s230_28, s230_29, s230_30, s230_31, s230_32, s230_33, s230_34, s230_35, s230_36, s230_37, s230_38, s230_39, s230_40, s230_41, s230_42, s230_43, s230_44, s230_45, s230_46, s230_47, s230_48, s230_50, s230_51, s230_52, s230_53, s230_54, s230_55, s230_56, s230_57, s230_58, s230_59, s230_60, s230_61, s230_62, s230_63, s230_64, s230_65, s230_66, s230_67, s230_68, s230_69, s230_70, s230_71, s230_72, s230_73, s230_74, s230_75, s230_76, s230_77, s230_78, s230_79, s230_80, s230_81, ↓reduceIte, Option.bind_some, Option.toList_some, Option.toList_none, List.cons_append, List.nil_append, if_true, if_false, true_or, or_true, true_and, and_true, not_true_eq_false, not_false_eq_true, Nat.reduceLT, Nat.reduceLeDiff, Nat.reduceEqDiff, Nat.reduceAdd, Nat.reduceMul, Nat.reduceSub, Nat.reducePow, Nat.reduceMod, Nat.reduceDiv, l0, l1, l2, l3, l4, l5, l6, l7, l8, l9, l10, l11, l12, l13, l14, l15, l16, l20, l31, l32, l36, l40, l48, l57, l59, l63, l64, l97, l99, l100, l101, l122, l127, l128, l250, l255, l262143, l262144, l30000, l100000, l12345, l1024, l4095, nI_eqs, nI_les, nI_lts, qI_eq, qI_eqn, nI_eqq, qI_lts, nI_ltp, nI_lep, qI_les, nI_add, nI_mul, qI_add, qI_s, qI_def, nI_clamps, bI_z, bI_o, bI_01, n01, n11, rf_some, rf_none, m1, m1n, bft, h1', z0, r0, gI z1, vk, q, Nat.add_zero]
        exact ih _ _ _ (by omega)
      · simp (disch := omega) only [s230_0, s230_1, s230_2, s230_3, s230_4, s230_5, s230_6, s230_7, s230_8, s230_9, s230_10, s230_11, s230_12, s230_13, s230_14, s230_15, s230_16, s230_17, s230_18, s230_19, s230_20, s230_21, s230_22, s230_23, s230_24, s230_25, s230_26, s230_27, s230_28, s230_29, s230_30, s230_31, s230_32, s230_33, s230_34, s230_35, s230_36, s230_37, s230_38, s230_39, s230_40, s230_41, s230_42, s230_43, s230_44, s230_45, s230_46, s230_47, s230_48, s230_50, s230_51, s230_52, s230_53, s230_54, s230_55, s230_56, s230_57, s230_58, s230_59, s230_60, s230_61, s230_62, s230_63, s230_64, s230_65, s230_66, s230_67, s230_68, s230_69, s230_70, s230_71, s230_72, s230_73, s230_74, s230_75, s230_76, s230_77, s230_78, s230_79, s230_80, s230_81, ↓reduceIte, Option.bind_some, Option.toList_some, Option.toList_none, List.cons_append, List.nil_append, if_true, if_false, true_or, or_true, true_and, and_true, not_true_eq_false, not_false_eq_true, Nat.reduceLT, Nat.reduceLeDiff, Nat.reduceEqDiff, Nat.reduceAdd, Nat.reduceMul, Nat.reduceSub, Nat.reducePow, Nat.reduceMod, Nat.reduceDiv, l0, l1, l2, l3, l4, l5, l6, l7, l8, l9, l10, l11, l12, l13, l14, l15, l16, l20, l31, l32, l36, l40, l48, l57, l59, l63, l64, l97, l99, l100, l101, l122, l127, l128, l250, l255, l262143, l262144, l30000, l100000, l12345, l1024, l4095, nI_eqs, nI_les, nI_lts, qI_eq, qI_eqn, nI_eqq, qI_lts, nI_ltp, nI_lep, qI_les, nI_add, nI_mul, qI_add, qI_s, qI_def, nI_clamps, bI_z, bI_o, bI_01, n01, n11, rf_some, rf_none, m1, m1n, bft, h1', z0, r0, gI z1, vk, q]
        exact ih _ _ _ (by omega)
  obtain ⟨my, mh, ⟨t1, t2, t3, t4, t5⟩, mr, mz, mg, mw, mn, mwn⟩ := id hx; have e136 := c136e hx; have b0 := my.1.1; obtain ⟨⟨z0, z1, z2, z3, z4, z5, z6, z7, z8, r1, r2, r3, r4, r5, r6, r7, r8⟩, ⟨vc, vg, vn, vt, vz, vK, vA, vU, vF, vM, vW, vC, vP⟩, ok⟩ := id my; obtain ⟨⟨o2, o3⟩, o6, on, og, oc⟩ := id ok
  unfold s_status
  cases f : inR w 17
  · rw [if_neg (by decide)]
    refine MC0.same hx ?_
    simp (disch := omega) only [s230_0, s230_1, s230_2, s230_3, s230_4, s230_5, s230_6, s230_7, s230_8, s230_9, s230_10, s230_11, s230_12, s230_13, s230_14, s230_16, s230_17, s230_18, s230_19, s230_20, s230_21, s230_22, s230_23, s230_24, s230_25, s230_26, s230_27, s230_28, s230_29, s230_30, s230_31, s230_32, s230_33, s230_34, s230_35, s230_36, s230_37, s230_38, s230_39, s230_40, s230_41, s230_42, s230_43, s230_44, s230_45, s230_46, s230_47, s230_48, s230_50, s230_51, s230_52, s230_53, s230_54, s230_55, s230_56, s230_57, s230_58, s230_59, s230_60, s230_61, s230_62, s230_63, s230_64, s230_65, s230_66, s230_67, s230_68, s230_69, s230_70, s230_71, s230_72, s230_73, s230_74, s230_75, s230_76, s230_77, s230_78, s230_79, s230_80, s230_81, ↓reduceIte, Option.bind_some, Option.toList_some, Option.toList_none, List.cons_append, List.nil_append, if_true, if_false, true_or, or_true, true_and, and_true, not_true_eq_false, not_false_eq_true, Nat.reduceLT, Nat.reduceLeDiff, Nat.reduceEqDiff, Nat.reduceAdd, Nat.reduceMul, Nat.reduceSub, Nat.reducePow, Nat.reduceMod, Nat.reduceDiv, l0, l1, l2, l3, l4, l5, l6, l7, l8, l9, l10, l11, l12, l13, l14, l15, l16, l20, l31, l32, l36, l40, l48, l57, l59, l63, l64, l97, l99, l100, l101, l122, l127, l128, l250, l255, l262143, l262144, l30000, l100000, l12345, l1024, l4095, nI_eqs, nI_les, nI_lts, qI_eq, qI_eqn, nI_eqq, qI_lts, nI_ltp, nI_lep, qI_les, nI_add, nI_mul, qI_add, qI_s, qI_def, nI_clamps, bI_z, bI_o, bI_01, n01, n11, rf_some, rf_none, m1, m1n, bft, j12, j16, m137, in_1216 f, ninR f (show 0 < 17 by decide), ninR f (show 1 < 17 by decide), ninR f (show 2 < 17 by decide), ninR f (show 3 < 17 by decide), ninR f (show 4 < 17 by decide), ninR f (show 5 < 17 by decide), ninR f (show 6 < 17 by decide), ninR f (show 7 < 17 by decide), ninR f (show 8 < 17 by decide)]
  · rw [if_pos rfl]
    obtain ⟨g, hg, rfl⟩ := inR_of (by decide) f
    rw [nI_clamp (show g < 2 ^ 31 by omega)]
    refine MC0.same hx ?_
    unfold stA1
    obtain ⟨y1, y2, y3⟩ := mr
    have v0 := y3 0 (by decide)
    have v1 := y3 1 (by decide)
    have v2 := y3 2 (by decide)
    have v3 := y3 3 (by decide)
    have v4 := y3 4 (by decide)
    simp only [Nat.reduceAdd] at v0 v1 v2 v3 v4
    have o1 : ∀ p1, E (d + 2) 230 15 [some (.ref A), p1, some (.int (nI 0)), some (.int (nI 0))] [] h = some (some (.int (nI (outsN (gY s)))), h) := fun p1 => lp1 (Yn (gY s)) 0 0 p1 (by omega)
    have o2 : ∀ p1, E (d + 2) 230 49 [some (.ref A), p1, some (.int (nI 0)), some (.int (nI 0))] [] h = some (some (.int (nI (fuN (gH s)))), h) := fun p1 => lp2 8 0 0 p1 (by omega)
    rcases k17 hg with e | e | e | e | e | e | e | e | e | e | e | e | e | e | e | e | e <;> subst e <;> simp (disch := omega) only [s230_0, s230_1, s230_2, s230_3, s230_4, s230_5, s230_6, s230_7, s230_8, s230_9, s230_10, s230_11, s230_12, s230_13, s230_14, s230_16, s230_17, s230_18, s230_19, s230_20, s230_21, s230_22, s230_23, s230_24, s230_25, s230_26, s230_27, s230_28, s230_29, s230_30, s230_31, s230_32, s230_33, s230_34, s230_35, s230_36, s230_37, s230_38, s230_39, s230_40, s230_41, s230_42, s230_43, s230_44, s230_45, s230_46, s230_47, s230_48, s230_50, s230_51, s230_52, s230_53, s230_54, s230_55, s230_56, s230_57, s230_58, s230_59, s230_60, s230_61, s230_62, s230_63, s230_64, s230_65, s230_66, s230_67, s230_68, s230_69, s230_70, s230_71, s230_72, s230_73, s230_74, s230_75, s230_76, s230_77, s230_78, s230_79, s230_80, s230_81, ↓reduceIte, Option.bind_some, Option.toList_some, Option.toList_none, List.cons_append, List.nil_append, if_true, if_false, true_or, or_true, true_and, and_true, not_true_eq_false, not_false_eq_true, Nat.reduceLT, Nat.reduceLeDiff, Nat.reduceEqDiff, Nat.reduceAdd, Nat.reduceMul, Nat.reduceSub, Nat.reducePow, Nat.reduceMod, Nat.reduceDiv, l0, l1, l2, l3, l4, l5, l6, l7, l8, l9, l10, l11, l12, l13, l14, l15, l16, l20, l31, l32, l36, l40, l48, l57, l59, l63, l64, l97, l99, l100, l101, l122, l127, l128, l250, l255, l262143, l262144, l30000, l100000, l12345, l1024, l4095, nI_eqs, nI_les, nI_lts, qI_eq, qI_eqn, nI_eqq, qI_lts, nI_ltp, nI_lep, qI_les, nI_add, nI_mul, qI_add, qI_s, qI_def, nI_clamps, bI_z, bI_o, bI_01, n01, n11, rf_some, rf_none, m1, m1n, bft, j12, j16, m137, nI_l, lN_les, z0, r1, r2, r3, r4, r5, r6, r7, r8, vc, vg, vn, vt, vz, gI z1, gI z2, gI z3, gI z4, gI z5, gI z6, gI z7, gI z8, gA z1, gA z2, gA z3, gA z4, gA z5, gA z6, gA z7, gA z8, vK, vA, vU, vF, vM, vW, vC, vP, t3, o1, o2, e191, y1, gI y2, v0, v1, v2, v3, v4, nI_sub, Nat.le_refl, Nat.not_lt_zero, decide_true, decide_false, Bool.and_true, Bool.true_and, Bool.and_false, Bool.false_and, Bool.and_self, Bool.true_eq_false]
