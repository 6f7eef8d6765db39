/-! THE DEVELOPERS' CALLS on the yard -/
theorem blkI {b n : Nat} (h : AH) {a : Nat} (h1 : b ≤ a) (h2 : a < b + n) (k : Nat) (v : Int32) : Fr0 (blk b n) h (stI h a k v) := Fr0.stI h ⟨h1, h2⟩ k v
theorem XY.c {h : AH} {b : Nat} {y : YS} (x : XY h b y) {n : Nat} (hn : 2 ≤ n ∧ n ≤ 3) (h0 : Yg y = 0) (h1 : Yn y = 0) : XY (stI h b 0 (nI n)) b (sc y n) := by
  refine ⟨x.1, x.2.1.c n, hn, (show Yg y ≤ 6 by omega), (show Yn y ≤ 6 by omega), ?_, ?_⟩
  · intro g (hg : g < Yg y); omega
  · intro g (hg : g < Yn y); omega
theorem YOK.sP {y : YS} (ok : YOK y) {k v : Nat} (hv : v ≤ Yg y) : YOK (sP y k v) := by
  obtain ⟨⟨o2, o3⟩, o6, on, og, oc⟩ := id ok
  refine ⟨⟨o2, o3⟩, o6, on, og, fun j hj => ⟨(oc j hj).1, ?_⟩⟩
  show fup (YP y) k v j ≤ Yg y
  unfold fup; split
  · exact hv
  · exact (oc j hj).2
theorem YOK.sC {y : YS} (ok : YOK y) {k v : Nat} (hv : v < Yc y) : YOK (sC y k v) := by
  obtain ⟨⟨o2, o3⟩, o6, on, og, oc⟩ := id ok
  refine ⟨⟨o2, o3⟩, o6, on, og, fun j hj => ⟨?_, (oc j hj).2⟩⟩
  show fup (YC y) k v j < Yc y
  unfold fup; split
  · exact hv
  · exact (oc j hj).1
theorem YOK.sM {y : YS} (ok : YOK y) {g f t : Nat} (hf : f ≤ Yc y) (ht : t ≤ Yc y) : YOK (sM y g f t) := by
  obtain ⟨⟨o2, o3⟩, o6, on, og, oc⟩ := id ok
  refine ⟨⟨o2, o3⟩, o6, on, fun j hj => ?_, oc⟩
  obtain ⟨q1, q2, q3, q4, q5, q6⟩ := og j hj
  refine ⟨q1, q2, q3, q4, ?_, ?_⟩
  · show fup (YF y) g f j ≤ Yc y
    unfold fup; split
    · exact hf
    · exact q5
  · show fup (YM y) g t j ≤ Yc y
    unfold fup; split
    · exact ht
    · exact q6
def s_colours (s : GS) (x : Int32) : Int32 × GS := if x = nI 2 ∨ x = nI 3 then (if Yg (gY s) = 0 ∧ Yn (gY s) = 0 then (nI (Yc (gY s)), pY s (sc (gY s) x.toNatClampNeg)) else rfS s 5) else rfS s 2
theorem c89 (d : Nat) {h : AH} {B : Nat} {s : GS} (hx : DX h B s) (x : Int32) (p : Option Value) : DC (d + 2) 89 [some (.ref B), some (.int x), p] h B (s_colours s x) := by
  obtain ⟨⟨b0, b1, b2, b3, b4, b5, b6, b7⟩, xy, ⟨k0, k1⟩, xh, ⟨t0, t1, t2, t3, t4, t5⟩, rx, qx⟩ := id hx; have e131 := c131e hx; obtain ⟨⟨z0, z1, z2, z3, z4, z5, z6, z7, r1, r2, r3, r4, r5, r6, r7⟩, ⟨vc, vg, vn, vt, vz, vK, vA, vU, vM, vW, vC, vP⟩, ok⟩ := id xy; obtain ⟨⟨o2, o3⟩, o6, on, og, oc⟩ := id ok
  have e60 := fun d => x60 d h x
  have e61 := fun d => x61 d xy
  unfold s_colours
  by_cases c : x = nI 2 ∨ x = nI 3
  · rw [if_pos c]
    rw [decide_eq_true c] at e60
    by_cases a : Yg (gY s) = 0 ∧ Yn (gY s) = 0
    · rw [if_pos a]
      rw [decide_eq_true a] at e61
      have hn : x = nI x.toNatClampNeg ∧ 2 ≤ x.toNatClampNeg ∧ x.toNatClampNeg ≤ 3 := by rcases c with rfl | rfl <;> decide
      refine DC.y hx (xy.c hn.2 a.1 a.2) (blkI _ (Nat.le_refl _) (by omega) _ _) ?_
      rw [← hn.1]
      simp (disch := omega) only [s89_0, s89_1, s89_2, s89_3, s89_4, s89_5, s89_6, s89_7, s89_8, s89_9, s89_10, s89_11, s89_12, s89_13, s89_14, s89_15, s89_16, s89_17, s89_18, s89_19, s89_20, s89_21, s89_22, s89_23, s89_24, ↓reduceIte, Option.bind_some, Option.toList_some, Option.toList_none, List.cons_append, List.nil_append, if_true, if_false, true_or, or_true, true_and, and_true, not_true_eq_false, not_false_eq_true, Nat.reduceLT, Nat.reduceLeDiff, Nat.reduceEqDiff, Nat.reduceAdd, Nat.reduceMul, Nat.reduceSub, Nat.reducePow, Nat.reduceMod, Nat.reduceDiv, l0, l1, l2, l3, l4, l5, l6, l7, l8, l9, l10, l11, l12, l13, l14, l15, l16, l20, l31, l32, l36, l40, l48, l57, l59, l63, l64, l97, l99, l100, l101, l122, l127, l128, l250, l255, l262143, l262144, l30000, l100000, l12345, l1024, l4095, nI_eqs, nI_les, nI_lts, qI_eq, qI_eqn, nI_eqq, qI_lts, nI_ltp, nI_lep, qI_les, nI_add, nI_mul, qI_add, qI_s, qI_def, nI_clamps, bI_z, bI_o, bI_01, n01, n11, rf_some, rf_none, m1, m1n, bft, b0, b1, z0, r1, r2, r3, r4, r5, r6, r7, vc, vg, vn, vt, vz, gI z1, gI z2, gI z3, gI z4, gI z5, gI z6, gI z7, gA z1, gA z2, gA z3, gA z4, gA z5, gA z6, gA z7, e60, e61, Bool.true_eq_false]
    · rw [if_neg a]
      rw [decide_eq_false a] at e61
      refine DC.rf hx (by decide) (by decide) ?_
      simp (disch := omega) only [s89_0, s89_1, s89_2, s89_3, s89_4, s89_5, s89_6, s89_7, s89_8, s89_9, s89_10, s89_11, s89_12, s89_13, s89_14, s89_15, s89_16, s89_17, s89_18, s89_19, s89_20, s89_21, s89_22, s89_23, s89_24, ↓reduceIte, Option.bind_some, Option.toList_some, Option.toList_none, List.cons_append, List.nil_append, if_true, if_false, true_or, or_true, true_and, and_true, not_true_eq_false, not_false_eq_true, Nat.reduceLT, Nat.reduceLeDiff, Nat.reduceEqDiff, Nat.reduceAdd, Nat.reduceMul, Nat.reduceSub, Nat.reducePow, Nat.reduceMod, Nat.reduceDiv, l0, l1, l2, l3, l4, l5, l6, l7, l8, l9, l10, l11, l12, l13, l14, l15, l16, l20, l31, l32, l36, l40, l48, l57, l59, l63, l64, l97, l99, l100, l101, l122, l127, l128, l250, l255, l262143, l262144, l30000, l100000, l12345, l1024, l4095, nI_eqs, nI_les, nI_lts, qI_eq, qI_eqn, nI_eqq, qI_lts, nI_ltp, nI_lep, qI_les, nI_add, nI_mul, qI_add, qI_s, qI_def, nI_clamps, bI_z, bI_o, bI_01, n01, n11, rf_some, rf_none, m1, m1n, bft, b0, b1, z0, r1, r2, r3, r4, r5, r6, r7, vc, vg, vn, vt, vz, gI z1, gI z2, gI z3, gI z4, gI z5, gI z6, gI z7, gA z1, gA z2, gA z3, gA z4, gA z5, gA z6, gA z7, e60, e61, rN_d, e131, Bool.true_eq_false]
  · rw [if_neg c]
    rw [decide_eq_false c] at e60
    refine DC.rf hx (by decide) (by decide) ?_
    simp (disch := omega) only [s89_0, s89_1, s89_2, s89_3, s89_4, s89_5, s89_6, s89_7, s89_8, s89_9, s89_10, s89_11, s89_12, s89_13, s89_14, s89_15, s89_16, s89_17, s89_18, s89_19, s89_20, s89_21, s89_22, s89_23, s89_24, ↓reduceIte, Option.bind_some, Option.toList_some, Option.toList_none, List.cons_append, List.nil_append, if_true, if_false, true_or, or_true, true_and, and_true, not_true_eq_false, not_false_eq_true, Nat.reduceLT, Nat.reduceLeDiff, Nat.reduceEqDiff, Nat.reduceAdd, Nat.reduceMul, Nat.reduceSub, Nat.reducePow, Nat.reduceMod, Nat.reduceDiv, l0, l1, l2, l3, l4, l5, l6, l7, l8, l9, l10, l11, l12, l13, l14, l15, l16, l20, l31, l32, l36, l40, l48, l57, l59, l63, l64, l97, l99, l100, l101, l122, l127, l128, l250, l255, l262143, l262144, l30000, l100000, l12345, l1024, l4095, nI_eqs, nI_les, nI_lts, qI_eq, qI_eqn, nI_eqq, qI_lts, nI_ltp, nI_lep, qI_les, nI_add, nI_mul, qI_add, qI_s, qI_def, nI_clamps, bI_z, bI_o, bI_01, n01, n11, rf_some, rf_none, m1, m1n, bft, b0, b1, z0, r1, r2, r3, r4, r5, r6, r7, vc, vg, vn, vt, vz, gI z1, gI z2, gI z3, gI z4, gI z5, gI z6, gI z7, gA z1, gA z2, gA z3, gA z4, gA z5, gA z6, gA z7, e60, rN_d, e131, Bool.true_eq_false]
def s_gate (s : GS) (k a : Int32) : Int32 × GS := if inR k 6 = true ∧ inR a 10 = true then (if Yg (gY s) < 6 then (nI (Yg (gY s)), pY s (addG (gY s) k.toNatClampNeg a.toNatClampNeg)) else rfS s 6) else rfS s 2
theorem c90 (d : Nat) {h : AH} {B : Nat} {s : GS} (hx : DX h B s) (k a : Int32) : DC (d + 2) 90 [some (.ref B), some (.int k), some (.int a)] h B (s_gate s k a) := by
  obtain ⟨⟨b0, b1, b2, b3, b4, b5, b6, b7⟩, xy, ⟨k0, k1⟩, xh, ⟨t0, t1, t2, t3, t4, t5⟩, rx, qx⟩ := id hx; have e131 := c131e hx; obtain ⟨⟨z0, z1, z2, z3, z4, z5, z6, z7, r1, r2, r3, r4, r5, r6, r7⟩, ⟨vc, vg, vn, vt, vz, vK, vA, vU, vM, vW, vC, vP⟩, ok⟩ := id xy; obtain ⟨⟨o2, o3⟩, o6, on, og, oc⟩ := id ok
  have e0 := fun d => x0 d h k
  unfold s_gate
  cases c : inR k 6
  · rw [if_neg (fun w => absurd w.1 (by decide))]
    rw [c] at e0
    refine DC.rf hx (by decide) (by decide) ?_
    simp (disch := omega) only [s90_0, s90_1, s90_2, s90_3, s90_4, s90_5, s90_6, s90_7, s90_8, s90_9, s90_10, s90_11, s90_12, s90_13, s90_14, s90_15, s90_16, s90_17, s90_18, s90_19, s90_20, s90_21, s90_22, s90_23, s90_24, s90_25, s90_26, ↓reduceIte, Option.bind_some, Option.toList_some, Option.toList_none, List.cons_append, List.nil_append, if_true, if_false, true_or, or_true, true_and, and_true, not_true_eq_false, not_false_eq_true, Nat.reduceLT, Nat.reduceLeDiff, Nat.reduceEqDiff, Nat.reduceAdd, Nat.reduceMul, Nat.reduceSub, Nat.reducePow, Nat.reduceMod, Nat.reduceDiv, l0, l1, l2, l3, l4, l5, l6, l7, l8, l9, l10, l11, l12, l13, l14, l15, l16, l20, l31, l32, l36, l40, l48, l57, l59, l63, l64, l97, l99, l100, l101, l122, l127, l128, l250, l255, l262143, l262144, l30000, l100000, l12345, l1024, l4095, nI_eqs, nI_les, nI_lts, qI_eq, qI_eqn, nI_eqq, qI_lts, nI_ltp, nI_lep, qI_les, nI_add, nI_mul, qI_add, qI_s, qI_def, nI_clamps, bI_z, bI_o, bI_01, n01, n11, rf_some, rf_none, m1, m1n, bft, b0, e0, rN_d, e131]
  · rw [c] at e0
    obtain ⟨k', hk', rfl⟩ := inR_of (by decide) c
    rcases inR_cases a (n := 10) (by decide) with ⟨g, hg, rfl⟩ | ⟨f, f1, f2⟩ | ⟨f, f1, f2, f3, f4, f5⟩
    · have cg := inR_nI (g := g) (n := 10) (by omega) (by decide)
      rw [decide_eq_true hg] at cg
      rw [if_pos ⟨rfl, cg⟩, nI_clamp (show k' < 2 ^ 31 by omega), nI_clamp (show g < 2 ^ 31 by omega)]
      have g1 : ¬ 10 ≤ g := by omega
      by_cases w : Yg (gY s) < 6
      · rw [if_pos w]
        have g2 : ¬ 6 ≤ Yg (gY s) := by omega
        obtain ⟨h', e, q, f⟩ := x66 d xy w hk' hg none
        refine DC.y hx q f ?_
        simp (disch := omega) only [s90_0, s90_1, s90_2, s90_3, s90_4, s90_5, s90_6, s90_7, s90_8, s90_9, s90_10, s90_11, s90_12, s90_13, s90_14, s90_15, s90_16, s90_17, s90_18, s90_19, s90_20, s90_21, s90_22, s90_23, s90_24, s90_25, s90_26, ↓reduceIte, Option.bind_some, Option.toList_some, Option.toList_none, List.cons_append, List.nil_append, if_true, if_false, true_or, or_true, true_and, and_true, not_true_eq_false, not_false_eq_true, Nat.reduceLT, Nat.reduceLeDiff, Nat.reduceEqDiff, Nat.reduceAdd, Nat.reduceMul, Nat.reduceSub, Nat.reducePow, Nat.reduceMod, Nat.reduceDiv, l0, l1, l2, l3, l4, l5, l6, l7, l8, l9, l10, l11, l12, l13, l14, l15, l16, l20, l31, l32, l36, l40, l48, l57, l59, l63, l64, l97, l99, l100, l101, l122, l127, l128, l250, l255, l262143, l262144, l30000, l100000, l12345, l1024, l4095, nI_eqs, nI_les, nI_lts, qI_eq, qI_eqn, nI_eqq, qI_lts, nI_ltp, nI_lep, qI_les, nI_add, nI_mul, qI_add, qI_s, qI_def, nI_clamps, bI_z, bI_o, bI_01, n01, n11, rf_some, rf_none, m1, m1n, bft, b0, b1, z0, r1, r2, r3, r4, r5, r6, r7, vc, vg, vn, vt, vz, gI z1, gI z2, gI z3, gI z4, gI z5, gI z6, gI z7, gA z1, gA z2, gA z3, gA z4, gA z5, gA z6, gA z7, e0, g1, g2, w, hg, e, Nat.not_lt_zero, Bool.true_eq_false]
      · rw [if_neg w]
        have g2 : 6 ≤ Yg (gY s) := by omega
        refine DC.rf hx (by decide) (by decide) ?_
        simp (disch := omega) only [s90_0, s90_1, s90_2, s90_3, s90_4, s90_5, s90_6, s90_7, s90_8, s90_9, s90_10, s90_11, s90_12, s90_13, s90_14, s90_15, s90_16, s90_17, s90_18, s90_19, s90_20, s90_21, s90_22, s90_23, s90_24, s90_25, s90_26, ↓reduceIte, Option.bind_some, Option.toList_some, Option.toList_none, List.cons_append, List.nil_append, if_true, if_false, true_or, or_true, true_and, and_true, not_true_eq_false, not_false_eq_true, Nat.reduceLT, Nat.reduceLeDiff, Nat.reduceEqDiff, Nat.reduceAdd, Nat.reduceMul, Nat.reduceSub, Nat.reducePow, Nat.reduceMod, Nat.reduceDiv, l0, l1, l2, l3, l4, l5, l6, l7, l8, l9, l10, l11, l12, l13, l14, l15, l16, l20, l31, l32, l36, l40, l48, l57, l59, l63, l64, l97, l99, l100, l101, l122, l127, l128, l250, l255, l262143, l262144, l30000, l100000, l12345, l1024, l4095, nI_eqs, nI_les, nI_lts, qI_eq, qI_eqn, nI_eqq, qI_lts, nI_ltp, nI_lep, qI_les, nI_add, nI_mul, qI_add, qI_s, qI_def, nI_clamps, bI_z, bI_o, bI_01, n01, n11, rf_some, rf_none, m1, m1n, bft, b0, b1, z0, r1, r2, r3, r4, r5, r6, r7, vc, vg, vn, vt, vz, gI z1, gI z2, gI z3, gI z4, gI z5, gI z6, gI z7, gA z1, gA z2, gA z3, gA z4, gA z5, gA z6, gA z7, e0, g1, g2, w, hg, rN_d, e131, Nat.not_lt_zero, Bool.true_eq_false]
    · rw [if_neg (fun w => absurd (w.2.symm.trans f) (by decide))]
      refine DC.rf hx (by decide) (by decide) ?_
      simp (disch := omega) only [s90_0, s90_1, s90_2, s90_3, s90_4, s90_5, s90_6, s90_7, s90_8, s90_9, s90_10, s90_11, s90_12, s90_13, s90_14, s90_15, s90_16, s90_17, s90_18, s90_19, s90_20, s90_21, s90_22, s90_23, s90_24, s90_25, s90_26, ↓reduceIte, Option.bind_some, Option.toList_some, Option.toList_none, List.cons_append, List.nil_append, if_true, if_false, true_or, or_true, true_and, and_true, not_true_eq_false, not_false_eq_true, Nat.reduceLT, Nat.reduceLeDiff, Nat.reduceEqDiff, Nat.reduceAdd, Nat.reduceMul, Nat.reduceSub, Nat.reducePow, Nat.reduceMod, Nat.reduceDiv, l0, l1, l2, l3, l4, l5, l6, l7, l8, l9, l10, l11, l12, l13, l14, l15, l16, l20, l31, l32, l36, l40, l48, l57, l59, l63, l64, l97, l99, l100, l101, l122, l127, l128, l250, l255, l262143, l262144, l30000, l100000, l12345, l1024, l4095, nI_eqs, nI_les, nI_lts, qI_eq, qI_eqn, nI_eqq, qI_lts, nI_ltp, nI_lep, qI_les, nI_add, nI_mul, qI_add, qI_s, qI_def, nI_clamps, bI_z, bI_o, bI_01, n01, n11, rf_some, rf_none, m1, m1n, bft, b0, e0, f1, f2, rN_d, e131, Bool.true_eq_false]
    · rw [if_neg (fun w => absurd (w.2.symm.trans f) (by decide))]
      refine DC.rf hx (by decide) (by decide) ?_
      simp (disch := omega) only [s90_0, s90_1, s90_2, s90_3, s90_4, s90_5, s90_6, s90_7, s90_8, s90_9, s90_10, s90_11, s90_12, s90_13, s90_14, s90_15, s90_16, s90_17, s90_18, s90_19, s90_20, s90_21, s90_22, s90_23, s90_24, s90_25, s90_26, ↓reduceIte, Option.bind_some, Option.toList_some, Option.toList_none, List.cons_append, List.nil_append, if_true, if_false, true_or, or_true, true_and, and_true, not_true_eq_false, not_false_eq_true, Nat.reduceLT, Nat.reduceLeDiff, Nat.reduceEqDiff, Nat.reduceAdd, Nat.reduceMul, Nat.reduceSub, Nat.reducePow, Nat.reduceMod, Nat.reduceDiv, l0, l1, l2, l3, l4, l5, l6, l7, l8, l9, l10, l11, l12, l13, l14, l15, l16, l20, l31, l32, l36, l40, l48, l57, l59, l63, l64, l97, l99, l100, l101, l122, l127, l128, l250, l255, l262143, l262144, l30000, l100000, l12345, l1024, l4095, nI_eqs, nI_les, nI_lts, qI_eq, qI_eqn, nI_eqq, qI_lts, nI_ltp, nI_lep, qI_les, nI_add, nI_mul, qI_add, qI_s, qI_def, nI_clamps, bI_z, bI_o, bI_01, n01, n11, rf_some, rf_none, m1, m1n, bft, b0, e0, f1, f2, f3, f4, rN_d, e131, Bool.true_eq_false]
def s_cart (s : GS) (c : Int32) : Int32 × GS := if inR c (Yc (gY s)) = true then (if Yn (gY s) < 6 then (nI (Yn (gY s)), pY s (addC (gY s) c.toNatClampNeg)) else rfS s 6) else rfS s 2
theorem c91 (d : Nat) {h : AH} {B : Nat} {s : GS} (hx : DX h B s) (c : Int32) : DC (d + 2) 91 [some (.ref B), some (.int c)] h B (s_cart s c) := by
  obtain ⟨⟨b0, b1, b2, b3, b4, b5, b6, b7⟩, xy, ⟨k0, k1⟩, xh, ⟨t0, t1, t2, t3, t4, t5⟩, rx, qx⟩ := id hx; have e131 := c131e hx; obtain ⟨⟨z0, z1, z2, z3, z4, z5, z6, z7, r1, r2, r3, r4, r5, r6, r7⟩, ⟨vc, vg, vn, vt, vz, vK, vA, vU, vM, vW, vC, vP⟩, ok⟩ := id xy; obtain ⟨⟨o2, o3⟩, o6, on, og, oc⟩ := id ok
  have e64 := fun d => x64 d xy c
  unfold s_cart
  cases a : inR c (Yc (gY s))
  · rw [if_neg (by decide)]
    rw [a] at e64
    refine DC.rf hx (by decide) (by decide) ?_
    simp (disch := omega) only [s91_0, s91_1, s91_2, s91_3, s91_4, s91_5, s91_6, s91_7, s91_8, s91_9, s91_10, s91_11, s91_12, s91_13, s91_14, s91_15, s91_16, s91_17, s91_18, s91_19, s91_20, s91_21, s91_22, ↓reduceIte, Option.bind_some, Option.toList_some, Option.toList_none, List.cons_append, List.nil_append, if_true, if_false, true_or, or_true, true_and, and_true, not_true_eq_false, not_false_eq_true, Nat.reduceLT, Nat.reduceLeDiff, Nat.reduceEqDiff, Nat.reduceAdd, Nat.reduceMul, Nat.reduceSub, Nat.reducePow, Nat.reduceMod, Nat.reduceDiv, l0, l1, l2, l3, l4, l5, l6, l7, l8, l9, l10, l11, l12, l13, l14, l15, l16, l20, l31, l32, l36, l40, l48, l57, l59, l63, l64, l97, l99, l100, l101, l122, l127, l128, l250, l255, l262143, l262144, l30000, l100000, l12345, l1024, l4095, nI_eqs, nI_les, nI_lts, qI_eq, qI_eqn, nI_eqq, qI_lts, nI_ltp, nI_lep, qI_les, nI_add, nI_mul, qI_add, qI_s, qI_def, nI_clamps, bI_z, bI_o, bI_01, n01, n11, rf_some, rf_none, m1, m1n, bft, b0, b1, z0, r1, r2, r3, r4, r5, r6, r7, vc, vg, vn, vt, vz, gI z1, gI z2, gI z3, gI z4, gI z5, gI z6, gI z7, gA z1, gA z2, gA z3, gA z4, gA z5, gA z6, gA z7, e64, rN_d, e131]
  · rw [if_pos rfl]
    rw [a] at e64
    obtain ⟨g, hg, rfl⟩ := inR_of (by omega) a
    rw [nI_clamp (show g < 2 ^ 31 by omega)]
    by_cases w : Yn (gY s) < 6
    · rw [if_pos w]
      have g2 : ¬ 6 ≤ Yn (gY s) := by omega
      obtain ⟨h', e, q, f⟩ := x67 (d + 1) xy w hg none
      refine DC.y hx q f ?_
      simp (disch := omega) only [s91_0, s91_1, s91_2, s91_3, s91_4, s91_5, s91_6, s91_7, s91_8, s91_9, s91_10, s91_11, s91_12, s91_13, s91_14, s91_15, s91_16, s91_17, s91_18, s91_19, s91_20, s91_21, s91_22, ↓reduceIte, Option.bind_some, Option.toList_some, Option.toList_none, List.cons_append, List.nil_append, if_true, if_false, true_or, or_true, true_and, and_true, not_true_eq_false, not_false_eq_true, Nat.reduceLT, Nat.reduceLeDiff, Nat.reduceEqDiff, Nat.reduceAdd, Nat.reduceMul, Nat.reduceSub, Nat.reducePow, Nat.reduceMod, Nat.reduceDiv, l0, l1, l2, l3, l4, l5, l6, l7, l8, l9, l10, l11, l12, l13, l14, l15, l16, l20, l31, l32, l36, l40, l48, l57, l59, l63, l64, l97, l99, l100, l101, l122, l127, l128, l250, l255, l262143, l262144, l30000, l100000, l12345, l1024, l4095, nI_eqs, nI_les, nI_lts, qI_eq, qI_eqn, nI_eqq, qI_lts, nI_ltp, nI_lep, qI_les, nI_add, nI_mul, qI_add, qI_s, qI_def, nI_clamps, bI_z, bI_o, bI_01, n01, n11, rf_some, rf_none, m1, m1n, bft, b0, b1, z0, r1, r2, r3, r4, r5, r6, r7, vc, vg, vn, vt, vz, gI z1, gI z2, gI z3, gI z4, gI z5, gI z6, gI z7, gA z1, gA z2, gA z3, gA z4, gA z5, gA z6, gA z7, e64, g2, w, e, Bool.true_eq_false]
    · rw [if_neg w]
      have g2 : 6 ≤ Yn (gY s) := by omega
      refine DC.rf hx (by decide) (by decide) ?_
      simp (disch := omega) only [s91_0, s91_1, s91_2, s91_3, s91_4, s91_5, s91_6, s91_7, s91_8, s91_9, s91_10, s91_11, s91_12, s91_13, s91_14, s91_15, s91_16, s91_17, s91_18, s91_19, s91_20, s91_21, s91_22, ↓reduceIte, Option.bind_some, Option.toList_some, Option.toList_none, List.cons_append, List.nil_append, if_true, if_false, true_or, or_true, true_and, and_true, not_true_eq_false, not_false_eq_true, Nat.reduceLT, Nat.reduceLeDiff, Nat.reduceEqDiff, Nat.reduceAdd, Nat.reduceMul, Nat.reduceSub, Nat.reducePow, Nat.reduceMod, Nat.reduceDiv, l0, l1, l2, l3, l4, l5, l6, l7, l8, l9, l10, l11, l12, l13, l14, l15, l16, l20, l31, l32, l36, l40, l48, l57, l59, l63, l64, l97, l99, l100, l101, l122, l127, l128, l250, l255, l262143, l262144, l30000, l100000, l12345, l1024, l4095, nI_eqs, nI_les, nI_lts, qI_eq, qI_eqn, nI_eqq, qI_lts, nI_ltp, nI_lep, qI_les, nI_add, nI_mul, qI_add, qI_s, qI_def, nI_clamps, bI_z, bI_o, bI_01, n01, n11, rf_some, rf_none, m1, m1n, bft, b0, b1, z0, r1, r2, r3, r4, r5, r6, r7, vc, vg, vn, vt, vz, gI z1, gI z2, gI z3, gI z4, gI z5, gI z6, gI z7, gA z1, gA z2, gA z3, gA z4, gA z5, gA z6, gA z7, e64, g2, w, rN_d, e131, Bool.true_eq_false]
def s_place (s : GS) (k v : Int32) : Int32 × GS := if inR k (Yn (gY s)) = true ∧ inR v (Yg (gY s) + 1) = true then (nI (YP (gY s) k.toNatClampNeg), pY s (sP (gY s) k.toNatClampNeg v.toNatClampNeg)) else rfS s 2
theorem c92 (d : Nat) {h : AH} {B : Nat} {s : GS} (hx : DX h B s) (k v : Int32) (p : Option Value) : DC (d + 2) 92 [some (.ref B), some (.int k), some (.int v), p] h B (s_place s k v) := by
  obtain ⟨⟨b0, b1, b2, b3, b4, b5, b6, b7⟩, xy, ⟨k0, k1⟩, xh, ⟨t0, t1, t2, t3, t4, t5⟩, rx, qx⟩ := id hx; have e131 := c131e hx; obtain ⟨⟨z0, z1, z2, z3, z4, z5, z6, z7, r1, r2, r3, r4, r5, r6, r7⟩, ⟨vc, vg, vn, vt, vz, vK, vA, vU, vM, vW, vC, vP⟩, ok⟩ := id xy; obtain ⟨⟨o2, o3⟩, o6, on, og, oc⟩ := id ok
  have e63 := fun d => x63 d xy k
  unfold s_place
  cases a : inR k (Yn (gY s))
  · rw [if_neg (fun w => absurd w.1 (by decide))]
    rw [a] at e63
    refine DC.rf hx (by decide) (by decide) ?_
    simp (disch := omega) only [s92_0, s92_1, s92_2, s92_3, s92_4, s92_5, s92_6, s92_7, s92_8, s92_9, s92_10, s92_11, s92_12, s92_13, s92_14, s92_15, s92_16, s92_17, s92_18, s92_19, s92_20, s92_21, s92_22, s92_23, s92_24, s92_25, s92_26, s92_27, s92_28, s92_29, ↓reduceIte, Option.bind_some, Option.toList_some, Option.toList_none, List.cons_append, List.nil_append, if_true, if_false, true_or, or_true, true_and, and_true, not_true_eq_false, not_false_eq_true, Nat.reduceLT, Nat.reduceLeDiff, Nat.reduceEqDiff, Nat.reduceAdd, Nat.reduceMul, Nat.reduceSub, Nat.reducePow, Nat.reduceMod, Nat.reduceDiv, l0, l1, l2, l3, l4, l5, l6, l7, l8, l9, l10, l11, l12, l13, l14, l15, l16, l20, l31, l32, l36, l40, l48, l57, l59, l63, l64, l97, l99, l100, l101, l122, l127, l128, l250, l255, l262143, l262144, l30000, l100000, l12345, l1024, l4095, nI_eqs, nI_les, nI_lts, qI_eq, qI_eqn, nI_eqq, qI_lts, nI_ltp, nI_lep, qI_les, nI_add, nI_mul, qI_add, qI_s, qI_def, nI_clamps, bI_z, bI_o, bI_01, n01, n11, rf_some, rf_none, m1, m1n, bft, b0, b1, z0, r1, r2, r3, r4, r5, r6, r7, vc, vg, vn, vt, vz, gI z1, gI z2, gI z3, gI z4, gI z5, gI z6, gI z7, gA z1, gA z2, gA z3, gA z4, gA z5, gA z6, gA z7, e63, rN_d, e131]
  · rw [a] at e63
    obtain ⟨g, hg, rfl⟩ := inR_of (by omega) a
    rcases inR_cases v (n := Yg (gY s) + 1) (by omega) with ⟨w, hw, rfl⟩ | ⟨f, f1, f2⟩ | ⟨f, f1, f2, f3, f4, f5⟩
    · have cg := inR_nI (g := w) (n := Yg (gY s) + 1) (by omega) (by omega)
      rw [decide_eq_true hw] at cg
      rw [if_pos ⟨rfl, cg⟩, nI_clamp (show g < 2 ^ 31 by omega), nI_clamp (show w < 2 ^ 31 by omega)]
      have g1 : ¬ Yg (gY s) < w := by omega
      have g2 : w ≤ Yg (gY s) := by omega
      refine DC.y hx (h' := stI h (B + 1 + 7) g (nI w)) ⟨xy.1, xy.2.1.P g w, ok.sP g2⟩ (blkI _ (by omega) (by omega) _ _) ?_
      simp (disch := omega) only [s92_0, s92_1, s92_2, s92_3, s92_4, s92_5, s92_6, s92_7, s92_8, s92_9, s92_10, s92_11, s92_12, s92_13, s92_14, s92_15, s92_16, s92_17, s92_18, s92_19, s92_20, s92_21, s92_22, s92_23, s92_24, s92_25, s92_26, s92_27, s92_28, s92_29, ↓reduceIte, Option.bind_some, Option.toList_some, Option.toList_none, List.cons_append, List.nil_append, if_true, if_false, true_or, or_true, true_and, and_true, not_true_eq_false, not_false_eq_true, Nat.reduceLT, Nat.reduceLeDiff, Nat.reduceEqDiff, Nat.reduceAdd, Nat.reduceMul, Nat.reduceSub, Nat.reducePow, Nat.reduceMod, Nat.reduceDiv, l0, l1, l2, l3, l4, l5, l6, l7, l8, l9, l10, l11, l12, l13, l14, l15, l16, l20, l31, l32, l36, l40, l48, l57, l59, l63, l64, l97, l99, l100, l101, l122, l127, l128, l250, l255, l262143, l262144, l30000, l100000, l12345, l1024, l4095, nI_eqs, nI_les, nI_lts, qI_eq, qI_eqn, nI_eqq, qI_lts, nI_ltp, nI_lep, qI_les, nI_add, nI_mul, qI_add, qI_s, qI_def, nI_clamps, bI_z, bI_o, bI_01, n01, n11, rf_some, rf_none, m1, m1n, bft, b0, b1, z0, r1, r2, r3, r4, r5, r6, r7, vc, vg, vn, vt, vz, gI z1, gI z2, gI z3, gI z4, gI z5, gI z6, gI z7, gA z1, gA z2, gA z3, gA z4, gA z5, gA z6, gA z7, vK, vA, vU, vM, vW, vC, vP, ad1, ad2, hI_stI, hS_stI, hR_stI, hL_stI, alen_stI, hI_stL, hL_stL, hS_stL, hR_stL, alen_stL, false_and, and_false, and_self, eq_self, e63, g1, g2, Nat.not_lt_zero, Bool.true_eq_false]
    · rw [if_neg (fun w => absurd (w.2.symm.trans f) (by decide))]
      refine DC.rf hx (by decide) (by decide) ?_
      simp (disch := omega) only [s92_0, s92_1, s92_2, s92_3, s92_4, s92_5, s92_6, s92_7, s92_8, s92_9, s92_10, s92_11, s92_12, s92_13, s92_14, s92_15, s92_16, s92_17, s92_18, s92_19, s92_20, s92_21, s92_22, s92_23, s92_24, s92_25, s92_26, s92_27, s92_28, s92_29, ↓reduceIte, Option.bind_some, Option.toList_some, Option.toList_none, List.cons_append, List.nil_append, if_true, if_false, true_or, or_true, true_and, and_true, not_true_eq_false, not_false_eq_true, Nat.reduceLT, Nat.reduceLeDiff, Nat.reduceEqDiff, Nat.reduceAdd, Nat.reduceMul, Nat.reduceSub, Nat.reducePow, Nat.reduceMod, Nat.reduceDiv, l0, l1, l2, l3, l4, l5, l6, l7, l8, l9, l10, l11, l12, l13, l14, l15, l16, l20, l31, l32, l36, l40, l48, l57, l59, l63, l64, l97, l99, l100, l101, l122, l127, l128, l250, l255, l262143, l262144, l30000, l100000, l12345, l1024, l4095, nI_eqs, nI_les, nI_lts, qI_eq, qI_eqn, nI_eqq, qI_lts, nI_ltp, nI_lep, qI_les, nI_add, nI_mul, qI_add, qI_s, qI_def, nI_clamps, bI_z, bI_o, bI_01, n01, n11, rf_some, rf_none, m1, m1n, bft, b0, b1, z0, r1, r2, r3, r4, r5, r6, r7, vc, vg, vn, vt, vz, gI z1, gI z2, gI z3, gI z4, gI z5, gI z6, gI z7, gA z1, gA z2, gA z3, gA z4, gA z5, gA z6, gA z7, e63, f1, f2, rN_d, e131, Bool.true_eq_false]
    · rw [if_neg (fun w => absurd (w.2.symm.trans f) (by decide))]
      have f6 := f5 _ rfl
      refine DC.rf hx (by decide) (by decide) ?_
      simp (disch := omega) only [s92_0, s92_1, s92_2, s92_3, s92_4, s92_5, s92_6, s92_7, s92_8, s92_9, s92_10, s92_11, s92_12, s92_13, s92_14, s92_15, s92_16, s92_17, s92_18, s92_19, s92_20, s92_21, s92_22, s92_23, s92_24, s92_25, s92_26, s92_27, s92_28, s92_29, ↓reduceIte, Option.bind_some, Option.toList_some, Option.toList_none, List.cons_append, List.nil_append, if_true, if_false, true_or, or_true, true_and, and_true, not_true_eq_false, not_false_eq_true, Nat.reduceLT, Nat.reduceLeDiff, Nat.reduceEqDiff, Nat.reduceAdd, Nat.reduceMul, Nat.reduceSub, Nat.reducePow, Nat.reduceMod, Nat.reduceDiv, l0, l1, l2, l3, l4, l5, l6, l7, l8, l9, l10, l11, l12, l13, l14, l15, l16, l20, l31, l32, l36, l40, l48, l57, l59, l63, l64, l97, l99, l100, l101, l122, l127, l128, l250, l255, l262143, l262144, l30000, l100000, l12345, l1024, l4095, nI_eqs, nI_les, nI_lts, qI_eq, qI_eqn, nI_eqq, qI_lts, nI_ltp, nI_lep, qI_les, nI_add, nI_mul, qI_add, qI_s, qI_def, nI_clamps, bI_z, bI_o, bI_01, n01, n11, rf_some, rf_none, m1, m1n, bft, b0, b1, z0, r1, r2, r3, r4, r5, r6, r7, vc, vg, vn, vt, vz, gI z1, gI z2, gI z3, gI z4, gI z5, gI z6, gI z7, gA z1, gA z2, gA z3, gA z4, gA z5, gA z6, gA z7, e63, f1, f2, f3, f4, f6.1, f6.2, rN_d, e131, Bool.true_eq_false]
def s_paint (s : GS) (k c : Int32) : Int32 × GS := if inR k (Yn (gY s)) = true ∧ inR c (Yc (gY s)) = true then (nI (YC (gY s) k.toNatClampNeg), pY s (sC (gY s) k.toNatClampNeg c.toNatClampNeg)) else rfS s 2
theorem c93 (d : Nat) {h : AH} {B : Nat} {s : GS} (hx : DX h B s) (k c : Int32) (p : Option Value) : DC (d + 2) 93 [some (.ref B), some (.int k), some (.int c), p] h B (s_paint s k c) := by
  obtain ⟨⟨b0, b1, b2, b3, b4, b5, b6, b7⟩, xy, ⟨k0, k1⟩, xh, ⟨t0, t1, t2, t3, t4, t5⟩, rx, qx⟩ := id hx; have e131 := c131e hx; obtain ⟨⟨z0, z1, z2, z3, z4, z5, z6, z7, r1, r2, r3, r4, r5, r6, r7⟩, ⟨vc, vg, vn, vt, vz, vK, vA, vU, vM, vW, vC, vP⟩, ok⟩ := id xy; obtain ⟨⟨o2, o3⟩, o6, on, og, oc⟩ := id ok
  have e63 := fun d => x63 d xy k
  have e64 := fun d => x64 d xy c
  unfold s_paint
  cases a : inR k (Yn (gY s))
  · rw [if_neg (fun w => absurd w.1 (by decide))]
    rw [a] at e63
    refine DC.rf hx (by decide) (by decide) ?_
    simp (disch := omega) only [s93_0, s93_1, s93_2, s93_3, s93_4, s93_5, s93_6, s93_7, s93_8, s93_9, s93_10, s93_11, s93_12, s93_13, s93_14, s93_15, s93_16, s93_17, s93_18, s93_19, s93_20, s93_21, s93_22, s93_23, s93_24, s93_25, s93_26, s93_27, ↓reduceIte, Option.bind_some, Option.toList_some, Option.toList_none, List.cons_append, List.nil_append, if_true, if_false, true_or, or_true, true_and, and_true, not_true_eq_false, not_false_eq_true, Nat.reduceLT, Nat.reduceLeDiff, Nat.reduceEqDiff, Nat.reduceAdd, Nat.reduceMul, Nat.reduceSub, Nat.reducePow, Nat.reduceMod, Nat.reduceDiv, l0, l1, l2, l3, l4, l5, l6, l7, l8, l9, l10, l11, l12, l13, l14, l15, l16, l20, l31, l32, l36, l40, l48, l57, l59, l63, l64, l97, l99, l100, l101, l122, l127, l128, l250, l255, l262143, l262144, l30000, l100000, l12345, l1024, l4095, nI_eqs, nI_les, nI_lts, qI_eq, qI_eqn, nI_eqq, qI_lts, nI_ltp, nI_lep, qI_les, nI_add, nI_mul, qI_add, qI_s, qI_def, nI_clamps, bI_z, bI_o, bI_01, n01, n11, rf_some, rf_none, m1, m1n, bft, b0, b1, z0, r1, r2, r3, r4, r5, r6, r7, vc, vg, vn, vt, vz, gI z1, gI z2, gI z3, gI z4, gI z5, gI z6, gI z7, gA z1, gA z2, gA z3, gA z4, gA z5, gA z6, gA z7, e63, rN_d, e131]
  · rw [a] at e63
    obtain ⟨g, hg, rfl⟩ := inR_of (by omega) a
    cases a' : inR c (Yc (gY s))
    · rw [if_neg (fun w => absurd w.2 (by decide))]
      rw [a'] at e64
      refine DC.rf hx (by decide) (by decide) ?_
      simp (disch := omega) only [s93_0, s93_1, s93_2, s93_3, s93_4, s93_5, s93_6, s93_7, s93_8, s93_9, s93_10, s93_11, s93_12, s93_13, s93_14, s93_15, s93_16, s93_17, s93_18, s93_19, s93_20, s93_21, s93_22, s93_23, s93_24, s93_25, s93_26, s93_27, ↓reduceIte, Option.bind_some, Option.toList_some, Option.toList_none, List.cons_append, List.nil_append, if_true, if_false, true_or, or_true, true_and, and_true, not_true_eq_false, not_false_eq_true, Nat.reduceLT, Nat.reduceLeDiff, Nat.reduceEqDiff, Nat.reduceAdd, Nat.reduceMul, Nat.reduceSub, Nat.reducePow, Nat.reduceMod, Nat.reduceDiv, l0, l1, l2, l3, l4, l5, l6, l7, l8, l9, l10, l11, l12, l13, l14, l15, l16, l20, l31, l32, l36, l40, l48, l57, l59, l63, l64, l97, l99, l100, l101, l122, l127, l128, l250, l255, l262143, l262144, l30000, l100000, l12345, l1024, l4095, nI_eqs, nI_les, nI_lts, qI_eq, qI_eqn, nI_eqq, qI_lts, nI_ltp, nI_lep, qI_les, nI_add, nI_mul, qI_add, qI_s, qI_def, nI_clamps, bI_z, bI_o, bI_01, n01, n11, rf_some, rf_none, m1, m1n, bft, b0, b1, z0, r1, r2, r3, r4, r5, r6, r7, vc, vg, vn, vt, vz, gI z1, gI z2, gI z3, gI z4, gI z5, gI z6, gI z7, gA z1, gA z2, gA z3, gA z4, gA z5, gA z6, gA z7, e63, e64, rN_d, e131, Bool.true_eq_false]
    · rw [if_pos ⟨rfl, rfl⟩]
      rw [a'] at e64
      obtain ⟨w, hw, rfl⟩ := inR_of (by omega) a'
      rw [nI_clamp (show g < 2 ^ 31 by omega), nI_clamp (show w < 2 ^ 31 by omega)]
      refine DC.y hx (h' := stI h (B + 1 + 6) g (nI w)) ⟨xy.1, xy.2.1.C g w, ok.sC hw⟩ (blkI _ (by omega) (by omega) _ _) ?_
      simp (disch := omega) only [s93_0, s93_1, s93_2, s93_3, s93_4, s93_5, s93_6, s93_7, s93_8, s93_9, s93_10, s93_11, s93_12, s93_13, s93_14, s93_15, s93_16, s93_17, s93_18, s93_19, s93_20, s93_21, s93_22, s93_23, s93_24, s93_25, s93_26, s93_27, ↓reduceIte, Option.bind_some, Option.toList_some, Option.toList_none, List.cons_append, List.nil_append, if_true, if_false, true_or, or_true, true_and, and_true, not_true_eq_false, not_false_eq_true, Nat.reduceLT, Nat.reduceLeDiff, Nat.reduceEqDiff, Nat.reduceAdd, Nat.reduceMul, Nat.reduceSub, Nat.reducePow, Nat.reduceMod, Nat.reduceDiv, l0, l1, l2, l3, l4, l5, l6, l7, l8, l9, l10, l11, l12, l13, l14, l15, l16, l20, l31, l32, l36, l40, l48, l57, l59, l63, l64, l97, l99, l100, l101, l122, l127, l128, l250, l255, l262143, l262144, l30000, l100000, l12345, l1024, l4095, nI_eqs, nI_les, nI_lts, qI_eq, qI_eqn, nI_eqq, qI_lts, nI_ltp, nI_lep, qI_les, nI_add, nI_mul, qI_add, qI_s, qI_def, nI_clamps, bI_z, bI_o, bI_01, n01, n11, rf_some, rf_none, m1, m1n, bft, b0, b1, z0, r1, r2, r3, r4, r5, r6, r7, vc, vg, vn, vt, vz, gI z1, gI z2, gI z3, gI z4, gI z5, gI z6, gI z7, gA z1, gA z2, gA z3, gA z4, gA z5, gA z6, gA z7, vK, vA, vU, vM, vW, vC, vP, ad1, ad2, hI_stI, hS_stI, hR_stI, hL_stI, alen_stI, hI_stL, hL_stL, hS_stL, hR_stL, alen_stL, false_and, and_false, and_self, eq_self, e63, e64, Bool.true_eq_false]
/-- a colour or NONE as a number from 0 on -/
def q0N (x : Int32) : Nat := if x = qI 0 then 0 else x.toNatClampNeg + 1
def cnB (s : GS) (x : Int32) : Bool := decide (x = qI 0) || inR x (Yc (gY s))
theorem cn_of {s : GS} {x : Int32} (hc : Yc (gY s) ≤ 3) (h : cnB s x = true) : q0N x ≤ Yc (gY s) ∧ x = qI (q0N x) := by
  unfold cnB at h
  unfold q0N
  by_cases a : x = qI 0
  · rw [if_pos a]; exact ⟨Nat.zero_le _, a⟩
  · rw [if_neg a]
    rw [decide_eq_false a, Bool.false_or] at h
    obtain ⟨g, hg, rfl⟩ := inR_of (by omega) h
    rw [nI_clamp (show g < 2 ^ 31 by omega)]
    exact ⟨hg, (qI_s g).symm⟩
def s_tell (s : GS) (g f t : Int32) : Int32 × GS := if inR g (Yg (gY s)) = true ∧ cnB s f = true ∧ cnB s t = true then (nI 1, pY s (sM (gY s) (YU (gY s) g.toNatClampNeg) (q0N f) (q0N t))) else rfS s 2
theorem c94 (d : Nat) {h : AH} {B : Nat} {s : GS} (hx : DX h B s) (g f t : Int32) : DC (d + 2) 94 [some (.ref B), some (.int g), some (.int f), some (.int t)] h B (s_tell s g f t) := by
  obtain ⟨⟨b0, b1, b2, b3, b4, b5, b6, b7⟩, xy, ⟨k0, k1⟩, xh, ⟨t0, t1, t2, t3, t4, t5⟩, rx, qx⟩ := id hx; have e131 := c131e hx; obtain ⟨⟨z0, z1, z2, z3, z4, z5, z6, z7, r1, r2, r3, r4, r5, r6, r7⟩, ⟨vc, vg, vn, vt, vz, vK, vA, vU, vM, vW, vC, vP⟩, ok⟩ := id xy; obtain ⟨⟨o2, o3⟩, o6, on, og, oc⟩ := id ok
  have e62 := fun d => x62 d xy g
  have e65 := fun d x => x65 d xy x
  change ∀ d x, E (d + 1) 65 0 _ _ _ = some (some (.int (bI (cnB s x))), _) at e65
  unfold s_tell
  cases a : inR g (Yg (gY s))
  · rw [if_neg (fun w => absurd w.1 (by decide))]
    rw [a] at e62
    refine DC.rf hx (by decide) (by decide) ?_
    simp (disch := omega) only [s94_0, s94_1, s94_2, s94_3, s94_4, s94_5, s94_6, s94_7, s94_8, s94_9, s94_10, s94_11, s94_12, s94_13, s94_14, s94_15, s94_16, s94_17, s94_18, s94_19, s94_20, s94_21, s94_22, s94_23, s94_24, s94_25, s94_26, s94_27, ↓reduceIte, Option.bind_some, Option.toList_some, Option.toList_none, List.cons_append, List.nil_append, if_true, if_false, true_or, or_true, true_and, and_true, not_true_eq_false, not_false_eq_true, Nat.reduceLT, Nat.reduceLeDiff, Nat.reduceEqDiff, Nat.reduceAdd, Nat.reduceMul, Nat.reduceSub, Nat.reducePow, Nat.reduceMod, Nat.reduceDiv, l0, l1, l2, l3, l4, l5, l6, l7, l8, l9, l10, l11, l12, l13, l14, l15, l16, l20, l31, l32, l36, l40, l48, l57, l59, l63, l64, l97, l99, l100, l101, l122, l127, l128, l250, l255, l262143, l262144, l30000, l100000, l12345, l1024, l4095, nI_eqs, nI_les, nI_lts, qI_eq, qI_eqn, nI_eqq, qI_lts, nI_ltp, nI_lep, qI_les, nI_add, nI_mul, qI_add, qI_s, qI_def, nI_clamps, bI_z, bI_o, bI_01, n01, n11, rf_some, rf_none, m1, m1n, bft, b0, b1, z0, r1, r2, r3, r4, r5, r6, r7, vc, vg, vn, vt, vz, gI z1, gI z2, gI z3, gI z4, gI z5, gI z6, gI z7, gA z1, gA z2, gA z3, gA z4, gA z5, gA z6, gA z7, e62, rN_d, e131]
  · rw [a] at e62
    obtain ⟨j, hj, rfl⟩ := inR_of (by omega) a
    cases a1 : cnB s f
    · rw [if_neg (fun w => absurd w.2.1 (by decide))]
      refine DC.rf hx (by decide) (by decide) ?_
      simp (disch := omega) only [s94_0, s94_1, s94_2, s94_3, s94_4, s94_5, s94_6, s94_7, s94_8, s94_9, s94_10, s94_11, s94_12, s94_13, s94_14, s94_15, s94_16, s94_17, s94_18, s94_19, s94_20, s94_21, s94_22, s94_23, s94_24, s94_25, s94_26, s94_27, ↓reduceIte, Option.bind_some, Option.toList_some, Option.toList_none, List.cons_append, List.nil_append, if_true, if_false, true_or, or_true, true_and, and_true, not_true_eq_false, not_false_eq_true, Nat.reduceLT, Nat.reduceLeDiff, Nat.reduceEqDiff, Nat.reduceAdd, Nat.reduceMul, Nat.reduceSub, Nat.reducePow, Nat.reduceMod, Nat.reduceDiv, l0, l1, l2, l3, l4, l5, l6, l7, l8, l9, l10, l11, l12, l13, l14, l15, l16, l20, l31, l32, l36, l40, l48, l57, l59, l63, l64, l97, l99, l100, l101, l122, l127, l128, l250, l255, l262143, l262144, l30000, l100000, l12345, l1024, l4095, nI_eqs, nI_les, nI_lts, qI_eq, qI_eqn, nI_eqq, qI_lts, nI_ltp, nI_lep, qI_les, nI_add, nI_mul, qI_add, qI_s, qI_def, nI_clamps, bI_z, bI_o, bI_01, n01, n11, rf_some, rf_none, m1, m1n, bft, b0, b1, z0, r1, r2, r3, r4, r5, r6, r7, vc, vg, vn, vt, vz, gI z1, gI z2, gI z3, gI z4, gI z5, gI z6, gI z7, gA z1, gA z2, gA z3, gA z4, gA z5, gA z6, gA z7, e62, e65, a1, rN_d, e131, Bool.true_eq_false]
    · cases a2 : cnB s t
      · rw [if_neg (fun w => absurd w.2.2 (by decide))]
        refine DC.rf hx (by decide) (by decide) ?_
        simp (disch := omega) only [s94_0, s94_1, s94_2, s94_3, s94_4, s94_5, s94_6, s94_7, s94_8, s94_9, s94_10, s94_11, s94_12, s94_13, s94_14, s94_15, s94_16, s94_17, s94_18, s94_19, s94_20, s94_21, s94_22, s94_23, s94_24, s94_25, s94_26, s94_27, ↓reduceIte, Option.bind_some, Option.toList_some, Option.toList_none, List.cons_append, List.nil_append, if_true, if_false, true_or, or_true, true_and, and_true, not_true_eq_false, not_false_eq_true, Nat.reduceLT, Nat.reduceLeDiff, Nat.reduceEqDiff, Nat.reduceAdd, Nat.reduceMul, Nat.reduceSub, Nat.reducePow, Nat.reduceMod, Nat.reduceDiv, l0, l1, l2, l3, l4, l5, l6, l7, l8, l9, l10, l11, l12, l13, l14, l15, l16, l20, l31, l32, l36, l40, l48, l57, l59, l63, l64, l97, l99, l100, l101, l122, l127, l128, l250, l255, l262143, l262144, l30000, l100000, l12345, l1024, l4095, nI_eqs, nI_les, nI_lts, qI_eq, qI_eqn, nI_eqq, qI_lts, nI_ltp, nI_lep, qI_les, nI_add, nI_mul, qI_add, qI_s, qI_def, nI_clamps, bI_z, bI_o, bI_01, n01, n11, rf_some, rf_none, m1, m1n, bft, b0, b1, z0, r1, r2, r3, r4, r5, r6, r7, vc, vg, vn, vt, vz, gI z1, gI z2, gI z3, gI z4, gI z5, gI z6, gI z7, gA z1, gA z2, gA z3, gA z4, gA z5, gA z6, gA z7, e62, e65, a1, a2, rN_d, e131, Bool.true_eq_false]
      · rw [if_pos ⟨rfl, rfl, rfl⟩]
        obtain ⟨f1, f2⟩ := cn_of (by omega) a1
        obtain ⟨t1, t2⟩ := cn_of (by omega) a2
        have e2 := fun d h => x2 d h (f := q0N f) (s := q0N t) (by omega) (by omega)
        have e69 := fun d => x69 d xy (f := q0N f) (s := q0N t) hj
        rw [← f2, ← t2] at e2
        rw [nI_clamp (show j < 2 ^ 31 by omega)]
        have u := xy.2.2.u6 hj
        refine DC.y hx (h' := stI h (B + 1 + 4) (YU (gY s) j) (nI (q0N f + 4 * q0N t))) ⟨xy.1, xy.2.1.M (YU (gY s) j) (q0N f) (q0N t), ok.sM f1 t1⟩ (blkI _ (by omega) (by omega) _ _) ?_
        simp (disch := omega) only [s94_0, s94_1, s94_2, s94_3, s94_4, s94_5, s94_6, s94_7, s94_8, s94_9, s94_10, s94_11, s94_12, s94_13, s94_14, s94_15, s94_16, s94_17, s94_18, s94_19, s94_20, s94_21, s94_22, s94_23, s94_24, s94_25, s94_26, s94_27, ↓reduceIte, Option.bind_some, Option.toList_some, Option.toList_none, List.cons_append, List.nil_append, if_true, if_false, true_or, or_true, true_and, and_true, not_true_eq_false, not_false_eq_true, Nat.reduceLT, Nat.reduceLeDiff, Nat.reduceEqDiff, Nat.reduceAdd, Nat.reduceMul, Nat.reduceSub, Nat.reducePow, Nat.reduceMod, Nat.reduceDiv, l0, l1, l2, l3, l4, l5, l6, l7, l8, l9, l10, l11, l12, l13, l14, l15, l16, l20, l31, l32, l36, l40, l48, l57, l59, l63, l64, l97, l99, l100, l101, l122, l127, l128, l250, l255, l262143, l262144, l30000, l100000, l12345, l1024, l4095, nI_eqs, nI_les, nI_lts, qI_eq, qI_eqn, nI_eqq, qI_lts, nI_ltp, nI_lep, qI_les, nI_add, nI_mul, qI_add, qI_s, qI_def, nI_clamps, bI_z, bI_o, bI_01, n01, n11, rf_some, rf_none, m1, m1n, bft, b0, b1, z0, r1, r2, r3, r4, r5, r6, r7, vc, vg, vn, vt, vz, gI z1, gI z2, gI z3, gI z4, gI z5, gI z6, gI z7, gA z1, gA z2, gA z3, gA z4, gA z5, gA z6, gA z7, e62, e65, a1, a2, e2, e69, Bool.true_eq_false]
