/-! THE DEVELOPERS' row, the call -/
theorem x81 (d : Nat) {h : AH} {B : Nat} {sh : Nat → SHT} {rf : Nat → Int32} (hx : XH h B sh) (hr : RX h B rf) (x s n : Int32) : ∃ h', (if inR x 8 = true ∧ inR s 5 = true ∧ inR n 41 = true then E (d + 2) 81 0 [some (.ref B), some (.int x), some (.int s), some (.int n)] [] h = some (some (.int (nI 1)), h') ∧ XH h' B (fup sh x.toNatClampNeg (sMk 1 s.toNatClampNeg n.toNatClampNeg 0 (fun _ => 0))) ∧ Fr0 (blk (B + 32) 16) h h' else E (d + 2) 81 0 [some (.ref B), some (.int x), some (.int s), some (.int n)] [] h = some (some (.int (rN 2)), h') ∧ RX h' B (fup rf 0 (rf 0 + nI 1)) ∧ Fr0 (blk (B + 31) 1) h h') := by
  have e132 := fun d => x132 d h x
  obtain ⟨h1, e131, q1, f1⟩ := x131' (d + 1) hr (k := 2) (by decide) (by decide)
  have z0 := hx.1
  have r4 := hx.2.1
  have z1 := hx.2.2.1
  cases e : inR x 8
  · rw [e] at e132
    refine ⟨h1, ?_⟩
    rw [if_neg (fun w => absurd w.1 (by decide))]
    refine ⟨?_, q1, f1⟩
    simp (disch := omega) only [s81_0, s81_1, s81_2, s81_3, s81_4, s81_5, s81_6, s81_7, s81_8, s81_9, s81_10, s81_11, s81_12, s81_13, s81_14, s81_15, s81_16, s81_17, s81_18, s81_19, s81_20, s81_21, s81_22, s81_23, s81_24, s81_25, ↓reduceIte, Option.bind_some, Option.toList_some, Option.toList_none, List.cons_append, List.nil_append, if_true, if_false, true_or, or_true, true_and, and_true, not_true_eq_false, not_false_eq_true, Nat.reduceLT, Nat.reduceLeDiff, Nat.reduceEqDiff, Nat.reduceAdd, Nat.reduceMul, Nat.reduceSub, Nat.reducePow, Nat.reduceMod, Nat.reduceDiv, l0, l1, l2, l3, l4, l5, l6, l7, l8, l9, l10, l11, l12, l13, l14, l15, l16, l20, l31, l32, l36, l40, l48, l57, l59, l63, l64, l97, l99, l100, l101, l122, l127, l128, l250, l255, l262143, l262144, l30000, l100000, l12345, l1024, l4095, nI_eqs, nI_les, nI_lts, qI_eq, qI_eqn, nI_eqq, qI_lts, nI_ltp, nI_lep, qI_les, nI_add, nI_mul, qI_add, qI_s, qI_def, nI_clamps, bI_z, bI_o, bI_01, n01, n11, rf_some, rf_none, m1, m1n, bft, z0, e132, rN_def, e131]
  · rw [e] at e132
    obtain ⟨k, hk8, rfl⟩ := inR_of (by decide) e
    obtain ⟨rs, sx⟩ := hx.2.2.2 k hk8
    have zz := sx.1.1
    have g5 := gR (h := h) z1 (Or.inr (Or.inl rfl)) (i := k)
    rcases inR_cases s (n := 5) (by decide) with ⟨g, hg, rfl⟩ | ⟨c, c1, c2⟩ | ⟨c, c1, c2, c3, c4, c5⟩
    · have cg := inR_nI (g := g) (n := 5) (by omega) (by decide)
      rw [decide_eq_true hg] at cg
      have g4 : ¬ 4 < g := by omega
      rcases inR_cases n (n := 41) (by decide) with ⟨j, hj, rfl⟩ | ⟨a, a1, a2⟩ | ⟨a, a1, a2, a3, a4, a5⟩
      · have cj := inR_nI (g := j) (n := 41) (by omega) (by decide)
        rw [decide_eq_true hj] at cj
        have j4 : (j ≤ 40) = True := eq_true (by omega)
        obtain ⟨h2, e29, q2, f2⟩ := x29 (d + 1) sx hg (show j ≤ 40 by omega) none
        refine ⟨h2, ?_⟩
        rw [if_pos ⟨rfl, cg, cj⟩, nI_clamp (show k < 2 ^ 31 by omega), nI_clamp (show g < 2 ^ 31 by omega), nI_clamp (show j < 2 ^ 31 by omega)]
        refine ⟨?_, hx.up q2 f2, f2.mono (fun a w => by unfold blk at w ⊢; omega)⟩
        simp (disch := omega) only [s81_0, s81_1, s81_2, s81_3, s81_4, s81_5, s81_6, s81_7, s81_8, s81_9, s81_10, s81_11, s81_12, s81_13, s81_14, s81_15, s81_16, s81_17, s81_18, s81_19, s81_20, s81_21, s81_22, s81_23, s81_24, s81_25, ↓reduceIte, Option.bind_some, Option.toList_some, Option.toList_none, List.cons_append, List.nil_append, if_true, if_false, true_or, or_true, true_and, and_true, not_true_eq_false, not_false_eq_true, Nat.reduceLT, Nat.reduceLeDiff, Nat.reduceEqDiff, Nat.reduceAdd, Nat.reduceMul, Nat.reduceSub, Nat.reducePow, Nat.reduceMod, Nat.reduceDiv, l0, l1, l2, l3, l4, l5, l6, l7, l8, l9, l10, l11, l12, l13, l14, l15, l16, l20, l31, l32, l36, l40, l48, l57, l59, l63, l64, l97, l99, l100, l101, l122, l127, l128, l250, l255, l262143, l262144, l30000, l100000, l12345, l1024, l4095, nI_eqs, nI_les, nI_lts, qI_eq, qI_eqn, nI_eqq, qI_lts, nI_ltp, nI_lep, qI_les, nI_add, nI_mul, qI_add, qI_s, qI_def, nI_clamps, bI_z, bI_o, bI_01, n01, n11, rf_some, rf_none, m1, m1n, bft, z0, r4, g5, rs, zz, e132, e29, g4, j4, Nat.not_lt_zero, Bool.true_eq_false]
      · refine ⟨h1, ?_⟩
        rw [if_neg (fun w => absurd (w.2.2.symm.trans a) (by decide))]
        refine ⟨?_, q1, f1⟩
        simp (disch := omega) only [s81_0, s81_1, s81_2, s81_3, s81_4, s81_5, s81_6, s81_7, s81_8, s81_9, s81_10, s81_11, s81_12, s81_13, s81_14, s81_15, s81_16, s81_17, s81_18, s81_19, s81_20, s81_21, s81_22, s81_23, s81_24, s81_25, ↓reduceIte, Option.bind_some, Option.toList_some, Option.toList_none, List.cons_append, List.nil_append, if_true, if_false, true_or, or_true, true_and, and_true, not_true_eq_false, not_false_eq_true, Nat.reduceLT, Nat.reduceLeDiff, Nat.reduceEqDiff, Nat.reduceAdd, Nat.reduceMul, Nat.reduceSub, Nat.reducePow, Nat.reduceMod, Nat.reduceDiv, l0, l1, l2, l3, l4, l5, l6, l7, l8, l9, l10, l11, l12, l13, l14, l15, l16, l20, l31, l32, l36, l40, l48, l57, l59, l63, l64, l97, l99, l100, l101, l122, l127, l128, l250, l255, l262143, l262144, l30000, l100000, l12345, l1024, l4095, nI_eqs, nI_les, nI_lts, qI_eq, qI_eqn, nI_eqq, qI_lts, nI_ltp, nI_lep, qI_les, nI_add, nI_mul, qI_add, qI_s, qI_def, nI_clamps, bI_z, bI_o, bI_01, n01, n11, rf_some, rf_none, m1, m1n, bft, z0, e132, g4, a1, rN_def, e131, Nat.not_lt_zero, Bool.true_eq_false]
      · refine ⟨h1, ?_⟩
        rw [if_neg (fun w => absurd (w.2.2.symm.trans a) (by decide))]
        refine ⟨?_, q1, f1⟩
        simp (disch := omega) only [s81_0, s81_1, s81_2, s81_3, s81_4, s81_5, s81_6, s81_7, s81_8, s81_9, s81_10, s81_11, s81_12, s81_13, s81_14, s81_15, s81_16, s81_17, s81_18, s81_19, s81_20, s81_21, s81_22, s81_23, s81_24, s81_25, ↓reduceIte, Option.bind_some, Option.toList_some, Option.toList_none, List.cons_append, List.nil_append, if_true, if_false, true_or, or_true, true_and, and_true, not_true_eq_false, not_false_eq_true, Nat.reduceLT, Nat.reduceLeDiff, Nat.reduceEqDiff, Nat.reduceAdd, Nat.reduceMul, Nat.reduceSub, Nat.reducePow, Nat.reduceMod, Nat.reduceDiv, l0, l1, l2, l3, l4, l5, l6, l7, l8, l9, l10, l11, l12, l13, l14, l15, l16, l20, l31, l32, l36, l40, l48, l57, l59, l63, l64, l97, l99, l100, l101, l122, l127, l128, l250, l255, l262143, l262144, l30000, l100000, l12345, l1024, l4095, nI_eqs, nI_les, nI_lts, qI_eq, qI_eqn, nI_eqq, qI_lts, nI_ltp, nI_lep, qI_les, nI_add, nI_mul, qI_add, qI_s, qI_def, nI_clamps, bI_z, bI_o, bI_01, n01, n11, rf_some, rf_none, m1, m1n, bft, z0, e132, g4, a1, (a5 40 rfl).1, rN_def, e131, Nat.not_lt_zero, Bool.true_eq_false]
    · refine ⟨h1, ?_⟩
      rw [if_neg (fun w => absurd (w.2.1.symm.trans c) (by decide))]
      refine ⟨?_, q1, f1⟩
      simp (disch := omega) only [s81_0, s81_1, s81_2, s81_3, s81_4, s81_5, s81_6, s81_7, s81_8, s81_9, s81_10, s81_11, s81_12, s81_13, s81_14, s81_15, s81_16, s81_17, s81_18, s81_19, s81_20, s81_21, s81_22, s81_23, s81_24, s81_25, ↓reduceIte, Option.bind_some, Option.toList_some, Option.toList_none, List.cons_append, List.nil_append, if_true, if_false, true_or, or_true, true_and, and_true, not_true_eq_false, not_false_eq_true, Nat.reduceLT, Nat.reduceLeDiff, Nat.reduceEqDiff, Nat.reduceAdd, Nat.reduceMul, Nat.reduceSub, Nat.reducePow, Nat.reduceMod, Nat.reduceDiv, l0, l1, l2, l3, l4, l5, l6, l7, l8, l9, l10, l11, l12, l13, l14, l15, l16, l20, l31, l32, l36, l40, l48, l57, l59, l63, l64, l97, l99, l100, l101, l122, l127, l128, l250, l255, l262143, l262144, l30000, l100000, l12345, l1024, l4095, nI_eqs, nI_les, nI_lts, qI_eq, qI_eqn, nI_eqq, qI_lts, nI_ltp, nI_lep, qI_les, nI_add, nI_mul, qI_add, qI_s, qI_def, nI_clamps, bI_z, bI_o, bI_01, n01, n11, rf_some, rf_none, m1, m1n, bft, z0, e132, c1, rN_def, e131, Bool.true_eq_false]
    · refine ⟨h1, ?_⟩
      rw [if_neg (fun w => absurd (w.2.1.symm.trans c) (by decide))]
      refine ⟨?_, q1, f1⟩
      simp (disch := omega) only [s81_0, s81_1, s81_2, s81_3, s81_4, s81_5, s81_6, s81_7, s81_8, s81_9, s81_10, s81_11, s81_12, s81_13, s81_14, s81_15, s81_16, s81_17, s81_18, s81_19, s81_20, s81_21, s81_22, s81_23, s81_24, s81_25, ↓reduceIte, Option.bind_some, Option.toList_some, Option.toList_none, List.cons_append, List.nil_append, if_true, if_false, true_or, or_true, true_and, and_true, not_true_eq_false, not_false_eq_true, Nat.reduceLT, Nat.reduceLeDiff, Nat.reduceEqDiff, Nat.reduceAdd, Nat.reduceMul, Nat.reduceSub, Nat.reducePow, Nat.reduceMod, Nat.reduceDiv, l0, l1, l2, l3, l4, l5, l6, l7, l8, l9, l10, l11, l12, l13, l14, l15, l16, l20, l31, l32, l36, l40, l48, l57, l59, l63, l64, l97, l99, l100, l101, l122, l127, l128, l250, l255, l262143, l262144, l30000, l100000, l12345, l1024, l4095, nI_eqs, nI_les, nI_lts, qI_eq, qI_eqn, nI_eqq, qI_lts, nI_ltp, nI_lep, qI_les, nI_add, nI_mul, qI_add, qI_s, qI_def, nI_clamps, bI_z, bI_o, bI_01, n01, n11, rf_some, rf_none, m1, m1n, bft, z0, e132, c1, (c5 4 rfl).2, rN_def, e131, Bool.true_eq_false]
