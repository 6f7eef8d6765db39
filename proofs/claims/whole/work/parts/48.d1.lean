/-! THE DEVELOPERS' CALLS on shelves -/
theorem blk_in {b n c m a : Nat} (h : blk b n a) (h1 : c ≤ b) (h2 : b + n ≤ c + m) : blk c m a := by unfold blk at *; omega
def s_row (s : GS) (x q n : Int32) : Int32 × GS := if inR x 8 = true ∧ inR q 5 = true ∧ inR n 41 = true then (nI 1, pH s (fup (gH s) x.toNatClampNeg (sMk 1 q.toNatClampNeg n.toNatClampNeg 0 (fun _ => 0)))) else rfS s 2
theorem c81 (d : Nat) {h : AH} {B : Nat} {s : GS} (hx : DX h B s) (x q n : Int32) : DC (d + 2) 81 [some (.ref B), some (.int x), some (.int q), some (.int n)] h B (s_row s x q n) := by
  obtain ⟨h', r⟩ := x81 d hx.2.2.2.1 hx.2.2.2.2.2.1 x q n
  unfold s_row
  by_cases c : inR x 8 = true ∧ inR q 5 = true ∧ inR n 41 = true
  · rw [if_pos c] at r ⊢
    exact ⟨h', r.1, hx.h r.2.1 r.2.2⟩
  · rw [if_neg c] at r ⊢
    exact ⟨h', r.1, hx.r (k := 2) r.2.1 r.2.2⟩
def s_set (s : GS) (x i : Int32) (v : Int64) : Int32 × GS := if inR x 8 = true then (if Hk (gH s x.toNatClampNeg) = 1 then (if inR i (Hn (gH s x.toNatClampNeg)) = true then (nI 1, pH s (fup (gH s) x.toNatClampNeg (sMk 1 (Hs (gH s x.toNatClampNeg)) (Hn (gH s x.toNatClampNeg)) (Hg (gH s x.toNatClampNeg)) (fup (He (gH s x.toNatClampNeg)) i.toNatClampNeg (fitL (Hs (gH s x.toNatClampNeg)) v))))) else rfS s 2) else if Hk (gH s x.toNatClampNeg) = 2 then rfS s 3 else rfS s 4) else rfS s 2
theorem c82 (d : Nat) {h : AH} {B : Nat} {s : GS} (hx : DX h B s) (x i : Int32) (v : Int64) (p4 p5 : Option Value) : DC (d + 2) 82 [some (.ref B), some (.int x), some (.int i), some (.long v), p4, p5] h B (s_set s x i v) := by
  obtain ⟨⟨b0, b1, b2, b3, b4, b5, b6, b7⟩, xy, ⟨k0, k1⟩, xh, ⟨t0, t1, t2, t3, t4, t5⟩, rx, qx⟩ := id hx; have e131 := c131e hx
  have e132 := fun d => x132 d h x
  have e133 := fun d q => x133 d xh q x
  unfold s_set
  cases c : inR x 8
  · rw [if_neg (by decide)]
    rw [c] at e132
    simp only [c, Bool.false_eq_true, and_false, if_false] at e133
    refine DC.rf hx (by decide) (by decide) ?_
    simp (disch := omega) only [s82_0, s82_1, s82_2, s82_3, s82_4, s82_5, s82_6, s82_7, s82_8, s82_9, s82_10, s82_11, s82_12, s82_13, s82_14, s82_15, s82_16, s82_17, s82_18, s82_19, s82_20, s82_21, s82_22, s82_23, s82_24, s82_25, s82_26, s82_27, s82_28, s82_29, s82_30, s82_31, ↓reduceIte, Option.bind_some, Option.toList_some, Option.toList_none, List.cons_append, List.nil_append, if_true, if_false, true_or, or_true, true_and, and_true, not_true_eq_false, not_false_eq_true, Nat.reduceLT, Nat.reduceLeDiff, Nat.reduceEqDiff, Nat.reduceAdd, Nat.reduceMul, Nat.reduceSub, Nat.reducePow, Nat.reduceMod, Nat.reduceDiv, l0, l1, l2, l3, l4, l5, l6, l7, l8, l9, l10, l11, l12, l13, l14, l15, l16, l20, l31, l32, l36, l40, l48, l57, l59, l63, l64, l97, l99, l100, l101, l122, l127, l128, l250, l255, l262143, l262144, l30000, l100000, l12345, l1024, l4095, nI_eqs, nI_les, nI_lts, qI_eq, qI_eqn, nI_eqq, qI_lts, nI_ltp, nI_lep, qI_les, nI_add, nI_mul, qI_add, qI_s, qI_def, nI_clamps, bI_z, bI_o, bI_01, n01, n11, rf_some, rf_none, m1, m1n, bft, b0, e132, e133, rN_d, rN_ne, e131]
  · rw [if_pos rfl]
    rw [c] at e132
    obtain ⟨k, hk8, rfl⟩ := inR_of (by decide) c; obtain ⟨rs, sx⟩ := xh.2.2.2 k hk8; have zz := sx.1.1; have r4 := xh.2.1; have g5 := gR (h := h) xh.2.2.1 (Or.inr (Or.inl rfl)) (i := k); rw [nI_clamp (show k < 2 ^ 31 by omega)]
    have e25 := fun d => x25 d sx i
    have e30 := fun d h1 j (hj : j < Hn (gH s k)) => x30 d sx h1 hj v none
    have cl := nI_clamp (show k < 2 ^ 31 by omega)
    simp only [c, cl, rowR, and_true] at e133
    have n40 := sx.2.2.n
    rcases zz_3 sx.2.2.1 with w | w | w
    · rw [w, if_neg (by decide), if_neg (by decide)]
      simp only [w, Nat.reduceEqDiff, if_false] at e133
      refine DC.rf hx (by decide) (by decide) ?_
      simp (disch := omega) only [s82_0, s82_1, s82_2, s82_3, s82_4, s82_5, s82_6, s82_7, s82_8, s82_9, s82_10, s82_11, s82_12, s82_13, s82_14, s82_15, s82_16, s82_17, s82_18, s82_19, s82_20, s82_21, s82_22, s82_23, s82_24, s82_25, s82_26, s82_27, s82_28, s82_29, s82_30, s82_31, ↓reduceIte, Option.bind_some, Option.toList_some, Option.toList_none, List.cons_append, List.nil_append, if_true, if_false, true_or, or_true, true_and, and_true, not_true_eq_false, not_false_eq_true, Nat.reduceLT, Nat.reduceLeDiff, Nat.reduceEqDiff, Nat.reduceAdd, Nat.reduceMul, Nat.reduceSub, Nat.reducePow, Nat.reduceMod, Nat.reduceDiv, l0, l1, l2, l3, l4, l5, l6, l7, l8, l9, l10, l11, l12, l13, l14, l15, l16, l20, l31, l32, l36, l40, l48, l57, l59, l63, l64, l97, l99, l100, l101, l122, l127, l128, l250, l255, l262143, l262144, l30000, l100000, l12345, l1024, l4095, nI_eqs, nI_les, nI_lts, qI_eq, qI_eqn, nI_eqq, qI_lts, nI_ltp, nI_lep, qI_les, nI_add, nI_mul, qI_add, qI_s, qI_def, nI_clamps, bI_z, bI_o, bI_01, n01, n11, rf_some, rf_none, m1, m1n, bft, b0, e132, e133, rN_d, rN_ne, e131]
    · rw [if_pos w]
      simp only [w, Nat.reduceEqDiff, if_false, if_true] at e133
      cases a : inR i (Hn (gH s k))
      · rw [if_neg (by decide)]
        rw [a] at e25
        refine DC.rf hx (by decide) (by decide) ?_
        simp (disch := omega) only [s82_0, s82_1, s82_2, s82_3, s82_4, s82_5, s82_6, s82_7, s82_8, s82_9, s82_10, s82_11, s82_12, s82_13, s82_14, s82_15, s82_16, s82_17, s82_18, s82_19, s82_20, s82_21, s82_22, s82_23, s82_24, s82_25, s82_26, s82_27, s82_28, s82_29, s82_30, s82_31, ↓reduceIte, Option.bind_some, Option.toList_some, Option.toList_none, List.cons_append, List.nil_append, if_true, if_false, true_or, or_true, true_and, and_true, not_true_eq_false, not_false_eq_true, Nat.reduceLT, Nat.reduceLeDiff, Nat.reduceEqDiff, Nat.reduceAdd, Nat.reduceMul, Nat.reduceSub, Nat.reducePow, Nat.reduceMod, Nat.reduceDiv, l0, l1, l2, l3, l4, l5, l6, l7, l8, l9, l10, l11, l12, l13, l14, l15, l16, l20, l31, l32, l36, l40, l48, l57, l59, l63, l64, l97, l99, l100, l101, l122, l127, l128, l250, l255, l262143, l262144, l30000, l100000, l12345, l1024, l4095, nI_eqs, nI_les, nI_lts, qI_eq, qI_eqn, nI_eqq, qI_lts, nI_ltp, nI_lep, qI_les, nI_add, nI_mul, qI_add, qI_s, qI_def, nI_clamps, bI_z, bI_o, bI_01, n01, n11, rf_some, rf_none, m1, m1n, bft, b0, e132, e133, rN_d, rN_ne, e131, r4, g5, rs, zz, e25]
      · rw [if_pos rfl]
        rw [a] at e25
        obtain ⟨j, hj, rfl⟩ := inR_of (by omega) a
        rw [nI_clamp (show j < 2 ^ 31 by omega)]
        obtain ⟨h', e, q, f⟩ := e30 d w j hj
        refine DC.h hx (xh.up q f) (f.mono fun a w => blk_in w (by omega) (by omega)) ?_
        simp (disch := omega) only [s82_0, s82_1, s82_2, s82_3, s82_4, s82_5, s82_6, s82_7, s82_8, s82_9, s82_10, s82_11, s82_12, s82_13, s82_14, s82_15, s82_16, s82_17, s82_18, s82_19, s82_20, s82_21, s82_22, s82_23, s82_24, s82_25, s82_26, s82_27, s82_28, s82_29, s82_30, s82_31, ↓reduceIte, Option.bind_some, Option.toList_some, Option.toList_none, List.cons_append, List.nil_append, if_true, if_false, true_or, or_true, true_and, and_true, not_true_eq_false, not_false_eq_true, Nat.reduceLT, Nat.reduceLeDiff, Nat.reduceEqDiff, Nat.reduceAdd, Nat.reduceMul, Nat.reduceSub, Nat.reducePow, Nat.reduceMod, Nat.reduceDiv, l0, l1, l2, l3, l4, l5, l6, l7, l8, l9, l10, l11, l12, l13, l14, l15, l16, l20, l31, l32, l36, l40, l48, l57, l59, l63, l64, l97, l99, l100, l101, l122, l127, l128, l250, l255, l262143, l262144, l30000, l100000, l12345, l1024, l4095, nI_eqs, nI_les, nI_lts, qI_eq, qI_eqn, nI_eqq, qI_lts, nI_ltp, nI_lep, qI_les, nI_add, nI_mul, qI_add, qI_s, qI_def, nI_clamps, bI_z, bI_o, bI_01, n01, n11, rf_some, rf_none, m1, m1n, bft, b0, e132, e133, rN_d, rN_ne, r4, g5, rs, zz, e25, e, Bool.true_eq_false]
    · rw [w, if_neg (by decide), if_pos rfl]
      simp only [w, Nat.reduceEqDiff, if_false, if_true] at e133
      refine DC.rf hx (by decide) (by decide) ?_
      simp (disch := omega) only [s82_0, s82_1, s82_2, s82_3, s82_4, s82_5, s82_6, s82_7, s82_8, s82_9, s82_10, s82_11, s82_12, s82_13, s82_14, s82_15, s82_16, s82_17, s82_18, s82_19, s82_20, s82_21, s82_22, s82_23, s82_24, s82_25, s82_26, s82_27, s82_28, s82_29, s82_30, s82_31, ↓reduceIte, Option.bind_some, Option.toList_some, Option.toList_none, List.cons_append, List.nil_append, if_true, if_false, true_or, or_true, true_and, and_true, not_true_eq_false, not_false_eq_true, Nat.reduceLT, Nat.reduceLeDiff, Nat.reduceEqDiff, Nat.reduceAdd, Nat.reduceMul, Nat.reduceSub, Nat.reducePow, Nat.reduceMod, Nat.reduceDiv, l0, l1, l2, l3, l4, l5, l6, l7, l8, l9, l10, l11, l12, l13, l14, l15, l16, l20, l31, l32, l36, l40, l48, l57, l59, l63, l64, l97, l99, l100, l101, l122, l127, l128, l250, l255, l262143, l262144, l30000, l100000, l12345, l1024, l4095, nI_eqs, nI_les, nI_lts, qI_eq, qI_eqn, nI_eqq, qI_lts, nI_ltp, nI_lep, qI_les, nI_add, nI_mul, qI_add, qI_s, qI_def, nI_clamps, bI_z, bI_o, bI_01, n01, n11, rf_some, rf_none, m1, m1n, bft, b0, e132, e133, rN_d, rN_ne, e131]
def s_show (s : GS) (x g : Int32) : Int32 × GS := if inR x 8 = true ∧ g = qI 0 then (nI 1, pH s (fup (gH s) x.toNatClampNeg (sMk 0 0 0 0 (He (gH s x.toNatClampNeg))))) else if inR x 8 = true ∧ inR g (Yg (gY s)) = true then (nI 1, pH s (fup (gH s) x.toNatClampNeg (sMk 2 0 0 g.toNatClampNeg (He (gH s x.toNatClampNeg))))) else rfS s 2
theorem c86 (d : Nat) {h : AH} {B : Nat} {s : GS} (hx : DX h B s) (x g : Int32) : DC (d + 2) 86 [some (.ref B), some (.int x), some (.int g)] h B (s_show s x g) := by
  obtain ⟨⟨b0, b1, b2, b3, b4, b5, b6, b7⟩, xy, ⟨k0, k1⟩, xh, ⟨t0, t1, t2, t3, t4, t5⟩, rx, qx⟩ := id hx; have e131 := c131e hx; obtain ⟨⟨z0, z1, z2, z3, z4, z5, z6, z7, r1, r2, r3, r4, r5, r6, r7⟩, ⟨vc, vg, vn, vt, vz, vK, vA, vU, vM, vW, vC, vP⟩, ok⟩ := id xy; obtain ⟨⟨o2, o3⟩, o6, on, og, oc⟩ := id ok
  have e132 := fun d => x132 d h x
  have e62 := fun d => x62 d xy g
  unfold s_show
  cases c : inR x 8
  · rw [if_neg (fun w => absurd w.1 (by decide)), if_neg (fun w => absurd w.1 (by decide))]
    rw [c] at e132
    refine DC.rf hx (by decide) (by decide) ?_
    simp (disch := omega) only [s86_0, s86_1, s86_2, s86_3, s86_4, s86_5, s86_6, s86_7, s86_8, s86_9, s86_10, s86_11, s86_12, s86_13, s86_14, s86_15, s86_16, s86_17, s86_18, s86_19, s86_20, s86_21, s86_22, s86_23, s86_24, s86_25, s86_26, s86_27, s86_28, s86_29, s86_30, s86_31, ↓reduceIte, Option.bind_some, Option.toList_some, Option.toList_none, List.cons_append, List.nil_append, if_true, if_false, true_or, or_true, true_and, and_true, not_true_eq_false, not_false_eq_true, Nat.reduceLT, Nat.reduceLeDiff, Nat.reduceEqDiff, Nat.reduceAdd, Nat.reduceMul, Nat.reduceSub, Nat.reducePow, Nat.reduceMod, Nat.reduceDiv, l0, l1, l2, l3, l4, l5, l6, l7, l8, l9, l10, l11, l12, l13, l14, l15, l16, l20, l31, l32, l36, l40, l48, l57, l59, l63, l64, l97, l99, l100, l101, l122, l127, l128, l250, l255, l262143, l262144, l30000, l100000, l12345, l1024, l4095, nI_eqs, nI_les, nI_lts, qI_eq, qI_eqn, nI_eqq, qI_lts, nI_ltp, nI_lep, qI_les, nI_add, nI_mul, qI_add, qI_s, qI_def, nI_clamps, bI_z, bI_o, bI_01, n01, n11, rf_some, rf_none, m1, m1n, bft, b0, e132, rN_d, e131]
  · rw [c] at e132
    obtain ⟨k, hk8, rfl⟩ := inR_of (by decide) c; obtain ⟨rs, sx⟩ := xh.2.2.2 k hk8; have zz := sx.1.1; have r4 := xh.2.1; have g5 := gR (h := h) xh.2.2.1 (Or.inr (Or.inl rfl)) (i := k); rw [nI_clamp (show k < 2 ^ 31 by omega)]
    by_cases a : g = qI 0
    · rw [if_pos ⟨rfl, a⟩]
      obtain ⟨h', e, q, f⟩ := x27 (d + 1) sx
      refine DC.h hx (xh.up q f) (f.mono fun a w => blk_in w (by omega) (by omega)) ?_
      simp (disch := omega) only [s86_0, s86_1, s86_2, s86_3, s86_4, s86_5, s86_6, s86_7, s86_8, s86_9, s86_10, s86_11, s86_12, s86_13, s86_14, s86_15, s86_16, s86_17, s86_18, s86_19, s86_20, s86_21, s86_22, s86_23, s86_24, s86_25, s86_26, s86_27, s86_28, s86_29, s86_30, s86_31, ↓reduceIte, Option.bind_some, Option.toList_some, Option.toList_none, List.cons_append, List.nil_append, if_true, if_false, true_or, or_true, true_and, and_true, not_true_eq_false, not_false_eq_true, Nat.reduceLT, Nat.reduceLeDiff, Nat.reduceEqDiff, Nat.reduceAdd, Nat.reduceMul, Nat.reduceSub, Nat.reducePow, Nat.reduceMod, Nat.reduceDiv, l0, l1, l2, l3, l4, l5, l6, l7, l8, l9, l10, l11, l12, l13, l14, l15, l16, l20, l31, l32, l36, l40, l48, l57, l59, l63, l64, l97, l99, l100, l101, l122, l127, l128, l250, l255, l262143, l262144, l30000, l100000, l12345, l1024, l4095, nI_eqs, nI_les, nI_lts, qI_eq, qI_eqn, nI_eqq, qI_lts, nI_ltp, nI_lep, qI_les, nI_add, nI_mul, qI_add, qI_s, qI_def, nI_clamps, bI_z, bI_o, bI_01, n01, n11, rf_some, rf_none, m1, m1n, bft, b0, e132, a, r4, g5, rs, zz, e, Bool.true_eq_false]
    · rw [if_neg (fun w => a w.2)]
      cases a' : inR g (Yg (gY s))
      · rw [if_neg (fun w => absurd w.2 (by decide))]
        rw [a'] at e62
        refine DC.rf hx (by decide) (by decide) ?_
        simp (disch := omega) only [s86_0, s86_1, s86_2, s86_3, s86_4, s86_5, s86_6, s86_7, s86_8, s86_9, s86_10, s86_11, s86_12, s86_13, s86_14, s86_15, s86_16, s86_17, s86_18, s86_19, s86_20, s86_21, s86_22, s86_23, s86_24, s86_25, s86_26, s86_27, s86_28, s86_29, s86_30, s86_31, ↓reduceIte, Option.bind_some, Option.toList_some, Option.toList_none, List.cons_append, List.nil_append, if_true, if_false, true_or, or_true, true_and, and_true, not_true_eq_false, not_false_eq_true, Nat.reduceLT, Nat.reduceLeDiff, Nat.reduceEqDiff, Nat.reduceAdd, Nat.reduceMul, Nat.reduceSub, Nat.reducePow, Nat.reduceMod, Nat.reduceDiv, l0, l1, l2, l3, l4, l5, l6, l7, l8, l9, l10, l11, l12, l13, l14, l15, l16, l20, l31, l32, l36, l40, l48, l57, l59, l63, l64, l97, l99, l100, l101, l122, l127, l128, l250, l255, l262143, l262144, l30000, l100000, l12345, l1024, l4095, nI_eqs, nI_les, nI_lts, qI_eq, qI_eqn, nI_eqq, qI_lts, nI_ltp, nI_lep, qI_les, nI_add, nI_mul, qI_add, qI_s, qI_def, nI_clamps, bI_z, bI_o, bI_01, n01, n11, rf_some, rf_none, m1, m1n, bft, b0, b1, z0, e132, a, e62, rN_d, e131, Bool.true_eq_false]
      · rw [if_pos ⟨rfl, rfl⟩]
        rw [a'] at e62
        obtain ⟨j, hj, rfl⟩ := inR_of (by omega) a'
        rw [nI_clamp (show j < 2 ^ 31 by omega)]
        obtain ⟨h', e, q, f⟩ := x28 (d + 1) sx (show j < 6 by omega)
        refine DC.h hx (xh.up q f) (f.mono fun a w => blk_in w (by omega) (by omega)) ?_
        simp (disch := omega) only [s86_0, s86_1, s86_2, s86_3, s86_4, s86_5, s86_6, s86_7, s86_8, s86_9, s86_10, s86_11, s86_12, s86_13, s86_14, s86_15, s86_16, s86_17, s86_18, s86_19, s86_20, s86_21, s86_22, s86_23, s86_24, s86_25, s86_26, s86_27, s86_28, s86_29, s86_30, s86_31, ↓reduceIte, Option.bind_some, Option.toList_some, Option.toList_none, List.cons_append, List.nil_append, if_true, if_false, true_or, or_true, true_and, and_true, not_true_eq_false, not_false_eq_true, Nat.reduceLT, Nat.reduceLeDiff, Nat.reduceEqDiff, Nat.reduceAdd, Nat.reduceMul, Nat.reduceSub, Nat.reducePow, Nat.reduceMod, Nat.reduceDiv, l0, l1, l2, l3, l4, l5, l6, l7, l8, l9, l10, l11, l12, l13, l14, l15, l16, l20, l31, l32, l36, l40, l48, l57, l59, l63, l64, l97, l99, l100, l101, l122, l127, l128, l250, l255, l262143, l262144, l30000, l100000, l12345, l1024, l4095, nI_eqs, nI_les, nI_lts, qI_eq, qI_eqn, nI_eqq, qI_lts, nI_ltp, nI_lep, qI_les, nI_add, nI_mul, qI_add, qI_s, qI_def, nI_clamps, bI_z, bI_o, bI_01, n01, n11, rf_some, rf_none, m1, m1n, bft, b0, b1, z0, e132, a, e62, r4, g5, rs, zz, e, Bool.true_eq_false]
/-- pure invariants -/
def GOK (s : GS) : Prop := ∀ x, x < 8 → Hk (gH s x) = 2 → Hg (gH s x) < Yg (gY s)
def saA (y : YS) (g o : Nat) : Int32 := if o = 0 then nI (YA y g) else if o = 1 then qI (YF y (YU y g)) else if o = 5 then nI (YA y g % 2) else qI (YM y (YU y g))
theorem x88 (d : Nat) {h : AH} {B : Nat} {s : GS} (hx : DX h B s) {g o : Nat} (hg : g < Yg (gY s)) (ho : o < 6) : E (d + 1) 88 0 [some (.ref B), some (.int (nI g)), some (.int (nI o))] [] h = some (some (.int (saA (gY s) g o)), h) := by
  obtain ⟨⟨b0, b1, b2, b3, b4, b5, b6, b7⟩, xy, ⟨k0, k1⟩, xh, ⟨t0, t1, t2, t3, t4, t5⟩, rx, qx⟩ := id hx; have e131 := c131e hx; obtain ⟨⟨z0, z1, z2, z3, z4, z5, z6, z7, r1, r2, r3, r4, r5, r6, r7⟩, ⟨vc, vg, vn, vt, vz, vK, vA, vU, vM, vW, vC, vP⟩, ok⟩ := id xy; obtain ⟨⟨o2, o3⟩, o6, on, og, oc⟩ := id ok
  have u := xy.2.2.u hg
  have e68 := fun d => x68 d xy hg
  have t2 := og (YU (gY s) g) u
  have e3 := fun d h => x3 d h (f := YF (gY s) (YU (gY s) g)) (s := YM (gY s) (YU (gY s) g)) (by omega) (by omega)
  have e4 := fun d h => x4 d h (f := YF (gY s) (YU (gY s) g)) (s := YM (gY s) (YU (gY s) g)) (by omega) (by omega)
  unfold saA
  rcases k6 ho with e | e | e | e | e | e <;> subst e <;> simp (disch := omega) only [s88_0, s88_1, s88_2, s88_3, s88_4, s88_5, s88_6, s88_7, s88_8, s88_9, s88_10, s88_11, s88_12, s88_13, s88_14, s88_15, s88_16, s88_17, s88_18, s88_19, s88_20, s88_21, s88_22, s88_23, s88_24, s88_25, s88_26, s88_27, ↓reduceIte, Option.bind_some, Option.toList_some, Option.toList_none, List.cons_append, List.nil_append, if_true, if_false, true_or, or_true, true_and, and_true, not_true_eq_false, not_false_eq_true, Nat.reduceLT, Nat.reduceLeDiff, Nat.reduceEqDiff, Nat.reduceAdd, Nat.reduceMul, Nat.reduceSub, Nat.reducePow, Nat.reduceMod, Nat.reduceDiv, l0, l1, l2, l3, l4, l5, l6, l7, l8, l9, l10, l11, l12, l13, l14, l15, l16, l20, l31, l32, l36, l40, l48, l57, l59, l63, l64, l97, l99, l100, l101, l122, l127, l128, l250, l255, l262143, l262144, l30000, l100000, l12345, l1024, l4095, nI_eqs, nI_les, nI_lts, qI_eq, qI_eqn, nI_eqq, qI_lts, nI_ltp, nI_lep, qI_les, nI_add, nI_mul, qI_add, qI_s, qI_def, nI_clamps, bI_z, bI_o, bI_01, n01, n11, rf_some, rf_none, m1, m1n, bft, b0, b1, z0, r1, r2, r3, r4, r5, r6, r7, vc, vg, vn, vt, vz, gI z1, gI z2, gI z3, gI z4, gI z5, gI z6, gI z7, gA z1, gA z2, gA z3, gA z4, gA z5, gA z6, gA z7, vK, vA, vU, vM, vW, vC, vP, e68, e3, e4, nI_and, and1]
def s_says (s : GS) (x o : Int32) : Int32 × GS := if inR x 8 = true ∧ inR o 6 = true then (if Hk (gH s x.toNatClampNeg) = 1 then rfS s 3 else if Hk (gH s x.toNatClampNeg) = 0 then rfS s 4 else if undB (YK (gY s) (Hg (gH s x.toNatClampNeg))) o.toNatClampNeg = true then (saA (gY s) (Hg (gH s x.toNatClampNeg)) o.toNatClampNeg, s) else rfS s 3) else rfS s 2
theorem c87 (d : Nat) {h : AH} {B : Nat} {s : GS} (hx : DX h B s) (gok : GOK s) (x o : Int32) (p : Option Value) : DC (d + 2) 87 [some (.ref B), some (.int x), some (.int o), p] h B (s_says s x o) := by
  obtain ⟨⟨b0, b1, b2, b3, b4, b5, b6, b7⟩, xy, ⟨k0, k1⟩, xh, ⟨t0, t1, t2, t3, t4, t5⟩, rx, qx⟩ := id hx; have e131 := c131e hx; obtain ⟨⟨z0, z1, z2, z3, z4, z5, z6, z7, r1, r2, r3, r4, r5, r6, r7⟩, ⟨vc, vg, vn, vt, vz, vK, vA, vU, vM, vW, vC, vP⟩, ok⟩ := id xy; obtain ⟨⟨o2, o3⟩, o6, on, og, oc⟩ := id ok
  have e132 := fun d => x132 d h x
  have e0 := fun d => x0 d h o
  unfold s_says
  cases c : inR x 8
  · rw [if_neg (fun w => absurd w.1 (by decide))]
    rw [c] at e132
    refine DC.rf hx (by decide) (by decide) ?_
    simp (disch := omega) only [s87_0, s87_1, s87_2, s87_3, s87_4, s87_5, s87_6, s87_7, s87_8, s87_9, s87_10, s87_11, s87_12, s87_13, s87_14, s87_15, s87_16, s87_17, s87_18, s87_19, s87_20, s87_21, s87_22, s87_23, s87_24, s87_25, s87_26, s87_27, s87_28, s87_29, s87_30, s87_31, s87_32, s87_33, s87_34, s87_35, s87_36, s87_37, s87_38, s87_39, s87_40, s87_41, s87_42, s87_43, s87_44, s87_45, s87_46, s87_47, s87_48, s87_49, s87_50, s87_51, s87_52, s87_53, ↓reduceIte, Option.bind_some, Option.toList_some, Option.toList_none, List.cons_append, List.nil_append, if_true, if_false, true_or, or_true, true_and, and_true, not_true_eq_false, not_false_eq_true, Nat.reduceLT, Nat.reduceLeDiff, Nat.reduceEqDiff, Nat.reduceAdd, Nat.reduceMul, Nat.reduceSub, Nat.reducePow, Nat.reduceMod, Nat.reduceDiv, l0, l1, l2, l3, l4, l5, l6, l7, l8, l9, l10, l11, l12, l13, l14, l15, l16, l20, l31, l32, l36, l40, l48, l57, l59, l63, l64, l97, l99, l100, l101, l122, l127, l128, l250, l255, l262143, l262144, l30000, l100000, l12345, l1024, l4095, nI_eqs, nI_les, nI_lts, qI_eq, qI_eqn, nI_eqq, qI_lts, nI_ltp, nI_lep, qI_les, nI_add, nI_mul, qI_add, qI_s, qI_def, nI_clamps, bI_z, bI_o, bI_01, n01, n11, rf_some, rf_none, m1, m1n, bft, b0, e132, rN_d, e131]
  · rw [c] at e132
    obtain ⟨k, hk8, rfl⟩ := inR_of (by decide) c; obtain ⟨rs, sx⟩ := xh.2.2.2 k hk8; have zz := sx.1.1; have r4 := xh.2.1; have g5 := gR (h := h) xh.2.2.1 (Or.inr (Or.inl rfl)) (i := k); rw [nI_clamp (show k < 2 ^ 31 by omega)]
    cases a : inR o 6
    · rw [if_neg (fun w => absurd w.2 (by decide))]
      rw [a] at e0
      refine DC.rf hx (by decide) (by decide) ?_
      simp (disch := omega) only [s87_0, s87_1, s87_2, s87_3, s87_4, s87_5, s87_6, s87_7, s87_8, s87_9, s87_10, s87_11, s87_12, s87_13, s87_14, s87_15, s87_16, s87_17, s87_18, s87_19, s87_20, s87_21, s87_22, s87_23, s87_24, s87_25, s87_26, s87_27, s87_28, s87_29, s87_30, s87_31, s87_32, s87_33, s87_34, s87_35, s87_36, s87_37, s87_38, s87_39, s87_40, s87_41, s87_42, s87_43, s87_44, s87_45, s87_46, s87_47, s87_48, s87_49, s87_50, s87_51, s87_52, s87_53, ↓reduceIte, Option.bind_some, Option.toList_some, Option.toList_none, List.cons_append, List.nil_append, if_true, if_false, true_or, or_true, true_and, and_true, not_true_eq_false, not_false_eq_true, Nat.reduceLT, Nat.reduceLeDiff, Nat.reduceEqDiff, Nat.reduceAdd, Nat.reduceMul, Nat.reduceSub, Nat.reducePow, Nat.reduceMod, Nat.reduceDiv, l0, l1, l2, l3, l4, l5, l6, l7, l8, l9, l10, l11, l12, l13, l14, l15, l16, l20, l31, l32, l36, l40, l48, l57, l59, l63, l64, l97, l99, l100, l101, l122, l127, l128, l250, l255, l262143, l262144, l30000, l100000, l12345, l1024, l4095, nI_eqs, nI_les, nI_lts, qI_eq, qI_eqn, nI_eqq, qI_lts, nI_ltp, nI_lep, qI_les, nI_add, nI_mul, qI_add, qI_s, qI_def, nI_clamps, bI_z, bI_o, bI_01, n01, n11, rf_some, rf_none, m1, m1n, bft, b0, e132, e0, rN_d, e131, Bool.true_eq_false]
    · rw [if_pos ⟨rfl, rfl⟩]
      rw [a] at e0
      obtain ⟨j, hj, rfl⟩ := inR_of (by omega) a
      rw [nI_clamp (show j < 2 ^ 31 by omega)]
      have e23 := fun d => x23 d sx
      have e24 := fun d => x24 d sx
      have v1 := sx.2.1.2.1
      rcases zz_3 sx.2.2.1 with w | w | w <;> rw [w] at e23 e24 ⊢
      · rw [if_neg (by decide), if_pos rfl]
        refine DC.rf hx (by decide) (by decide) ?_
        simp (disch := omega) only [s87_0, s87_1, s87_2, s87_3, s87_4, s87_5, s87_6, s87_7, s87_8, s87_9, s87_10, s87_11, s87_12, s87_13, s87_14, s87_15, s87_16, s87_17, s87_18, s87_19, s87_20, s87_21, s87_22, s87_23, s87_24, s87_25, s87_26, s87_27, s87_28, s87_29, s87_30, s87_31, s87_32, s87_33, s87_34, s87_35, s87_36, s87_37, s87_38, s87_39, s87_40, s87_41, s87_42, s87_43, s87_44, s87_45, s87_46, s87_47, s87_48, s87_49, s87_50, s87_51, s87_52, s87_53, ↓reduceIte, Option.bind_some, Option.toList_some, Option.toList_none, List.cons_append, List.nil_append, if_true, if_false, true_or, or_true, true_and, and_true, not_true_eq_false, not_false_eq_true, Nat.reduceLT, Nat.reduceLeDiff, Nat.reduceEqDiff, Nat.reduceAdd, Nat.reduceMul, Nat.reduceSub, Nat.reducePow, Nat.reduceMod, Nat.reduceDiv, l0, l1, l2, l3, l4, l5, l6, l7, l8, l9, l10, l11, l12, l13, l14, l15, l16, l20, l31, l32, l36, l40, l48, l57, l59, l63, l64, l97, l99, l100, l101, l122, l127, l128, l250, l255, l262143, l262144, l30000, l100000, l12345, l1024, l4095, nI_eqs, nI_les, nI_lts, qI_eq, qI_eqn, nI_eqq, qI_lts, nI_ltp, nI_lep, qI_les, nI_add, nI_mul, qI_add, qI_s, qI_def, nI_clamps, bI_z, bI_o, bI_01, n01, n11, rf_some, rf_none, m1, m1n, bft, b0, e132, e0, r4, g5, rs, zz, e23, e24, rN_d, e131, Bool.true_eq_false, decide_true, decide_false]
      · rw [if_pos rfl]
        refine DC.rf hx (by decide) (by decide) ?_
        simp (disch := omega) only [s87_0, s87_1, s87_2, s87_3, s87_4, s87_5, s87_6, s87_7, s87_8, s87_9, s87_10, s87_11, s87_12, s87_13, s87_14, s87_15, s87_16, s87_17, s87_18, s87_19, s87_20, s87_21, s87_22, s87_23, s87_24, s87_25, s87_26, s87_27, s87_28, s87_29, s87_30, s87_31, s87_32, s87_33, s87_34, s87_35, s87_36, s87_37, s87_38, s87_39, s87_40, s87_41, s87_42, s87_43, s87_44, s87_45, s87_46, s87_47, s87_48, s87_49, s87_50, s87_51, s87_52, s87_53, ↓reduceIte, Option.bind_some, Option.toList_some, Option.toList_none, List.cons_append, List.nil_append, if_true, if_false, true_or, or_true, true_and, and_true, not_true_eq_false, not_false_eq_true, Nat.reduceLT, Nat.reduceLeDiff, Nat.reduceEqDiff, Nat.reduceAdd, Nat.reduceMul, Nat.reduceSub, Nat.reducePow, Nat.reduceMod, Nat.reduceDiv, l0, l1, l2, l3, l4, l5, l6, l7, l8, l9, l10, l11, l12, l13, l14, l15, l16, l20, l31, l32, l36, l40, l48, l57, l59, l63, l64, l97, l99, l100, l101, l122, l127, l128, l250, l255, l262143, l262144, l30000, l100000, l12345, l1024, l4095, nI_eqs, nI_les, nI_lts, qI_eq, qI_eqn, nI_eqq, qI_lts, nI_ltp, nI_lep, qI_les, nI_add, nI_mul, qI_add, qI_s, qI_def, nI_clamps, bI_z, bI_o, bI_01, n01, n11, rf_some, rf_none, m1, m1n, bft, b0, e132, e0, r4, g5, rs, zz, e23, e24, rN_d, e131, Bool.true_eq_false, decide_true, decide_false]
      · rw [if_neg (by decide), if_neg (by decide)]
        have hg := gok k hk8 w
        have v2 := v1 w
        generalize hgg : Hg (gH s k) = g at *
        have e62 := fun d => x62 d xy (nI g)
        rw [inR_nI (by omega) (by omega), decide_eq_true hg] at e62
        have kk := (og g hg).1
        have e1 := fun d => x1 d h (k := YK (gY s) g) (o := j) (by omega) (by omega)
        have e88 := fun d => x88 d hx hg hj
        cases q : undB (YK (gY s) g) j
        · rw [if_neg (by decide)]
          rw [q] at e1
          refine DC.rf hx (by decide) (by decide) ?_
          simp (disch := omega) only [s87_0, s87_1, s87_2, s87_3, s87_4, s87_5, s87_6, s87_7, s87_8, s87_9, s87_10, s87_11, s87_12, s87_13, s87_14, s87_15, s87_16, s87_17, s87_18, s87_19, s87_20, s87_21, s87_22, s87_23, s87_24, s87_25, s87_26, s87_27, s87_28, s87_29, s87_30, s87_31, s87_32, s87_33, s87_34, s87_35, s87_36, s87_37, s87_38, s87_39, s87_40, s87_41, s87_42, s87_43, s87_44, s87_45, s87_46, s87_47, s87_48, s87_49, s87_50, s87_51, s87_52, s87_53, ↓reduceIte, Option.bind_some, Option.toList_some, Option.toList_none, List.cons_append, List.nil_append, if_true, if_false, true_or, or_true, true_and, and_true, not_true_eq_false, not_false_eq_true, Nat.reduceLT, Nat.reduceLeDiff, Nat.reduceEqDiff, Nat.reduceAdd, Nat.reduceMul, Nat.reduceSub, Nat.reducePow, Nat.reduceMod, Nat.reduceDiv, l0, l1, l2, l3, l4, l5, l6, l7, l8, l9, l10, l11, l12, l13, l14, l15, l16, l20, l31, l32, l36, l40, l48, l57, l59, l63, l64, l97, l99, l100, l101, l122, l127, l128, l250, l255, l262143, l262144, l30000, l100000, l12345, l1024, l4095, nI_eqs, nI_les, nI_lts, qI_eq, qI_eqn, nI_eqq, qI_lts, nI_ltp, nI_lep, qI_les, nI_add, nI_mul, qI_add, qI_s, qI_def, nI_clamps, bI_z, bI_o, bI_01, n01, n11, rf_some, rf_none, m1, m1n, bft, b0, b1, z0, r1, r2, r3, r4, r5, r6, r7, vc, vg, vn, vt, vz, gI z1, gI z2, gI z3, gI z4, gI z5, gI z6, gI z7, gA z1, gA z2, gA z3, gA z4, gA z5, gA z6, gA z7, vK, vA, vU, vM, vW, vC, vP, e132, e0, r4, g5, rs, zz, v2, e23, e24, e62, e1, rN_d, e131, Bool.true_eq_false, decide_true, decide_false]
        · rw [if_pos rfl]
          rw [q] at e1
          refine DC.same hx ?_
          simp (disch := omega) only [s87_0, s87_1, s87_2, s87_3, s87_4, s87_5, s87_6, s87_7, s87_8, s87_9, s87_10, s87_11, s87_12, s87_13, s87_14, s87_15, s87_16, s87_17, s87_18, s87_19, s87_20, s87_21, s87_22, s87_23, s87_24, s87_25, s87_26, s87_27, s87_28, s87_29, s87_30, s87_31, s87_32, s87_33, s87_34, s87_35, s87_36, s87_37, s87_38, s87_39, s87_40, s87_41, s87_42, s87_43, s87_44, s87_45, s87_46, s87_47, s87_48, s87_49, s87_50, s87_51, s87_52, s87_53, ↓reduceIte, Option.bind_some, Option.toList_some, Option.toList_none, List.cons_append, List.nil_append, if_true, if_false, true_or, or_true, true_and, and_true, not_true_eq_false, not_false_eq_true, Nat.reduceLT, Nat.reduceLeDiff, Nat.reduceEqDiff, Nat.reduceAdd, Nat.reduceMul, Nat.reduceSub, Nat.reducePow, Nat.reduceMod, Nat.reduceDiv, l0, l1, l2, l3, l4, l5, l6, l7, l8, l9, l10, l11, l12, l13, l14, l15, l16, l20, l31, l32, l36, l40, l48, l57, l59, l63, l64, l97, l99, l100, l101, l122, l127, l128, l250, l255, l262143, l262144, l30000, l100000, l12345, l1024, l4095, nI_eqs, nI_les, nI_lts, qI_eq, qI_eqn, nI_eqq, qI_lts, nI_ltp, nI_lep, qI_les, nI_add, nI_mul, qI_add, qI_s, qI_def, nI_clamps, bI_z, bI_o, bI_01, n01, n11, rf_some, rf_none, m1, m1n, bft, b0, b1, z0, r1, r2, r3, r4, r5, r6, r7, vc, vg, vn, vt, vz, gI z1, gI z2, gI z3, gI z4, gI z5, gI z6, gI z7, gA z1, gA z2, gA z3, gA z4, gA z5, gA z6, gA z7, vK, vA, vU, vM, vW, vC, vP, e132, e0, r4, g5, rs, zz, v2, e23, e24, e62, e1, e88, Bool.true_eq_false, decide_true, decide_false]
