/-! OUT, WAY, FOE, HARM of the developers: the commands -/
def smY (y : YS) : Prop := Yg y ≤ 3 ∧ Yn y ≤ 3
noncomputable def s_out (s : GS) (w : Int32) : Int32 × GS := if inR w 2 = true then (if Yg (gY s) ≤ 3 ∧ Yn (gY s) ≤ 3 then (match dsY (gY s) (ndY (gY s)) with
  | some D => (if w = nI 0 then nI (D - lsY (gY s) (ndY (gY s))) else nI D, s)
  | none => rfS s 5) else rfS s 5) else rfS s 2
noncomputable def s_way (s : GS) (i : Int32) : Int32 × GS := if nI 0 ≤ i then (if Yg (gY s) ≤ 3 ∧ Yn (gY s) ≤ 3 then (match dsY (gY s) (ndY (gY s)) with
  | some D => if inR i D = true then (nI (wyT (Yn (gY s)) (stN (gY s)) (glN (gY s)) D (ndY (gY s)) i.toNatClampNeg), s) else rfS s 5
  | none => rfS s 5) else rfS s 5) else rfS s 2
noncomputable def s_harm (s : GS) (g c : Int32) : Int32 × GS := if inR g (Yg (gY s)) = true ∧ inR c (Yc (gY s)) = true then (if Yg (gY s) ≤ 3 ∧ Yn (gY s) ≤ 3 then (match dsY (gY s) (ndY (gY s)) with
  | some D => (match dsY (gY s) (tcN (gY s) (ndY (gY s)) g.toNatClampNeg c.toNatClampNeg) with
    | some D' => (nI (D' - lsY (gY s) (tcN (gY s) (ndY (gY s)) g.toNatClampNeg c.toNatClampNeg)) - nI (D - lsY (gY s) (ndY (gY s))), s)
    | none => (nI 99, s))
  | none => rfS s 5) else rfS s 5) else rfS s 2
noncomputable def fcY (y : YS) (g m c : Nat) (a : Nat × Nat) : (Nat × Nat) ⊕ Nat := match m with
  | 0 => .inl a
  | m + 1 => match dsY y (tcN y (ndY y) g c) with
    | some D => fcY y g m (c + 1) (if a.1 < D - lsY y (tcN y (ndY y) g c) + 1 then (D - lsY y (tcN y (ndY y) g c) + 1, 10 * g + c + 1) else a)
    | none => .inr (10 * g + c)
noncomputable def fgY (y : YS) (m g : Nat) (a : Nat × Nat) : (Nat × Nat) ⊕ Nat := match m with
  | 0 => .inl a
  | m + 1 => match fcY y g (Yc y) 0 a with
    | .inl a' => fgY y m (g + 1) a'
    | .inr v => .inr v
noncomputable def s_foe (s : GS) : Int32 × GS := if Yg (gY s) = 0 then (qI 0, s) else if Yg (gY s) ≤ 3 ∧ Yn (gY s) ≤ 3 then (match fgY (gY s) (Yg (gY s)) 0 (0, 0) with
  | .inl a => (qI a.2, s)
  | .inr v => (nI v, s)) else rfS s 5
theorem c110 (d : Nat) {h : AH} {B : Nat} {s : GS} (hx : DX h B s) (hB : B + 48 ≤ hN h) (w : Int32) : DQ (d + 5) 110 [some (.ref B), some (.int w)] h B (s_out s w) := by
  intro lh0 e0 le
  obtain ⟨⟨b0, b1, b2, b3, b4, b5, b6, b7⟩, xy, ⟨k0, k1⟩, xh, ⟨t0, t1, t2, t3, t4, t5⟩, rx, qx⟩ := id hx; have e131 := c131e hx
  have e8 := fun d => x8 d xy (some (.ref (B + 28)))
  unfold s_out
  rcases inR_cases w (n := 2) (by decide) with ⟨k, hk, rfl⟩ | ⟨f, g1, g2⟩ | ⟨f, g1, g2, g3, g4, g5⟩
  · have ck := inR_nI (g := k) (n := 2) (by omega) (by omega)
    rw [decide_eq_true hk] at ck
    rw [ck, if_pos rfl]
    have k1 : ¬ nI k < nI 0 := fun q => by rw [nI_lts (by omega) (by decide)] at q; omega
    by_cases sm : Yg (gY s) ≤ 3 ∧ Yn (gY s) ≤ 3
    · rw [if_pos sm]
      rw [decide_eq_true sm] at e8
      have nd := ndY_ok xy.2.2 sm.1 sm.2
      have e9 := fun d => x9 d xy sm.1 sm.2 none none
      obtain ⟨h1, lh1, e1, e11, z, dx, db⟩ := c11 d hx le sm.1 sm.2 hB nd.1 none none none none
      cases hD : dsY (gY s) (ndY (gY s)) with
      | none =>
        rw [hD] at e11
        have e131' := c131e dx
        obtain ⟨q, f⟩ := dx.rf (k := 5) (by decide) (by decide)
        refine ⟨_, lh1, e1, ?_, q, db.trans (f.db db.1)⟩
        have o1 := dx.1.1
        simp (disch := omega) only [s110_0, s110_1, s110_2, s110_3, s110_4, s110_9, s110_10, s110_11, s110_12, s110_13, s110_14, s110_15, s110_16, s110_17, s110_18, s110_19, s110_20, s110_21, s110_22, s110_23, s110_24, s110_25, s110_26, s110_27, ↓reduceIte, Option.bind_some, Option.toList_some, Option.toList_none, List.cons_append, List.nil_append, if_true, if_false, true_or, or_true, true_and, and_true, not_true_eq_false, not_false_eq_true, Nat.reduceLT, Nat.reduceLeDiff, Nat.reduceEqDiff, Nat.reduceAdd, Nat.reduceMul, Nat.reduceSub, Nat.reducePow, Nat.reduceMod, Nat.reduceDiv, l0, l1, l2, l3, l4, l5, l6, l7, l8, l9, l10, l11, l12, l13, l14, l15, l16, l20, l31, l32, l36, l40, l48, l57, l59, l63, l64, l97, l99, l100, l101, l122, l127, l128, l250, l255, l262143, l262144, l30000, l100000, l12345, l1024, l4095, nI_eqs, nI_les, nI_lts, qI_eq, qI_eqn, nI_eqq, qI_lts, nI_ltp, nI_lep, qI_les, nI_add, nI_mul, qI_add, qI_s, qI_def, nI_clamps, bI_z, bI_o, bI_01, n01, n11, rf_some, rf_none, m1, m1n, bft, k1, (show k ≤ 1 by omega), b0, b1, b5, o1, qx.1, e8, e9, e11, bI_t, bI_f, Bool.true_eq_false, Option.isSome_none, rN_d, e131']
        first | rfl | done
      | some D =>
        rw [hD] at e11
        have o1 := dx.1.1
        have o2 := dx.1.2.1
        have o3 := dx.1.2.2.2.2.2.1
        have o4 := dx.2.2.2.2.2.2.1
        refine ⟨h1, lh1, e1, ?_, dx, db⟩
        by_cases k0 : k = 0
        · subst k0
          have e20 := fun d => z.ref dx.2.1 sm.1 sm.2 nd.1 hD d
          dsimp only
          rw [if_pos rfl]
          simp (disch := omega) only [s110_0, s110_1, s110_2, s110_3, s110_4, s110_9, s110_10, s110_11, s110_12, s110_13, s110_14, s110_15, s110_16, s110_17, s110_18, s110_19, s110_20, s110_21, s110_22, s110_23, s110_28, s110_29, s110_30, s110_31, s110_32, s110_33, s110_34, s110_35, s110_39, ↓reduceIte, Option.bind_some, Option.toList_some, Option.toList_none, List.cons_append, List.nil_append, if_true, if_false, true_or, or_true, true_and, and_true, not_true_eq_false, not_false_eq_true, Nat.reduceLT, Nat.reduceLeDiff, Nat.reduceEqDiff, Nat.reduceAdd, Nat.reduceMul, Nat.reduceSub, Nat.reducePow, Nat.reduceMod, Nat.reduceDiv, l0, l1, l2, l3, l4, l5, l6, l7, l8, l9, l10, l11, l12, l13, l14, l15, l16, l20, l31, l32, l36, l40, l48, l57, l59, l63, l64, l97, l99, l100, l101, l122, l127, l128, l250, l255, l262143, l262144, l30000, l100000, l12345, l1024, l4095, nI_eqs, nI_les, nI_lts, qI_eq, qI_eqn, nI_eqq, qI_lts, nI_ltp, nI_lep, qI_les, nI_add, nI_mul, qI_add, qI_s, qI_def, nI_clamps, bI_z, bI_o, bI_01, n01, n11, rf_some, rf_none, m1, m1n, bft, k1, b0, b1, b5, o1, o2, o3, o4, qx.1, e8, e9, e11, e20, bI_t, Bool.true_eq_false, Option.isSome_some]
        · have e19 := fun d => z.len hD d
          have k2 : ¬ nI k = nI 0 := fun q => k0 (by rw [nI_eqs (by omega) (by decide)] at q; exact q)
          dsimp only
          rw [if_neg k2]
          simp (disch := omega) only [s110_0, s110_1, s110_2, s110_3, s110_4, s110_9, s110_10, s110_11, s110_12, s110_13, s110_14, s110_15, s110_16, s110_17, s110_18, s110_19, s110_20, s110_21, s110_22, s110_23, s110_28, s110_29, s110_36, s110_37, s110_38, s110_39, ↓reduceIte, Option.bind_some, Option.toList_some, Option.toList_none, List.cons_append, List.nil_append, if_true, if_false, true_or, or_true, true_and, and_true, not_true_eq_false, not_false_eq_true, Nat.reduceLT, Nat.reduceLeDiff, Nat.reduceEqDiff, Nat.reduceAdd, Nat.reduceMul, Nat.reduceSub, Nat.reducePow, Nat.reduceMod, Nat.reduceDiv, l0, l1, l2, l3, l4, l5, l6, l7, l8, l9, l10, l11, l12, l13, l14, l15, l16, l20, l31, l32, l36, l40, l48, l57, l59, l63, l64, l97, l99, l100, l101, l122, l127, l128, l250, l255, l262143, l262144, l30000, l100000, l12345, l1024, l4095, nI_eqs, nI_les, nI_lts, qI_eq, qI_eqn, nI_eqq, qI_lts, nI_ltp, nI_lep, qI_les, nI_add, nI_mul, qI_add, qI_s, qI_def, nI_clamps, bI_z, bI_o, bI_01, n01, n11, rf_some, rf_none, m1, m1n, bft, k1, k0, (show k ≤ 1 by omega), b0, b1, b5, o1, o2, o3, o4, qx.1, e8, e9, e11, e19, bI_t, Bool.true_eq_false, Option.isSome_some]
    · rw [if_neg sm]
      rw [decide_eq_false sm] at e8
      refine DC.dq (DC.rf hx (k := 5) (by decide) (by decide) ?_) lh0 e0 le
      simp (disch := omega) only [s110_0, s110_1, s110_2, s110_3, s110_4, s110_9, s110_10, s110_11, s110_12, s110_13, s110_14, s110_24, s110_25, s110_26, s110_27, ↓reduceIte, Option.bind_some, Option.toList_some, Option.toList_none, List.cons_append, List.nil_append, if_true, if_false, true_or, or_true, true_and, and_true, not_true_eq_false, not_false_eq_true, Nat.reduceLT, Nat.reduceLeDiff, Nat.reduceEqDiff, Nat.reduceAdd, Nat.reduceMul, Nat.reduceSub, Nat.reducePow, Nat.reduceMod, Nat.reduceDiv, l0, l1, l2, l3, l4, l5, l6, l7, l8, l9, l10, l11, l12, l13, l14, l15, l16, l20, l31, l32, l36, l40, l48, l57, l59, l63, l64, l97, l99, l100, l101, l122, l127, l128, l250, l255, l262143, l262144, l30000, l100000, l12345, l1024, l4095, nI_eqs, nI_les, nI_lts, qI_eq, qI_eqn, nI_eqq, qI_lts, nI_ltp, nI_lep, qI_les, nI_add, nI_mul, qI_add, qI_s, qI_def, nI_clamps, bI_z, bI_o, bI_01, n01, n11, rf_some, rf_none, m1, m1n, bft, k1, (show k ≤ 1 by omega), b0, b1, b5, qx.1, e8, bI_f, rN_d, e131]
  · rw [f, if_neg (by decide)]
    refine DC.dq (DC.rf hx (by decide) (by decide) ?_) lh0 e0 le
    simp (disch := omega) only [s110_0, s110_1, s110_2, s110_3, s110_4, s110_5, s110_6, s110_7, s110_8, ↓reduceIte, Option.bind_some, Option.toList_some, Option.toList_none, List.cons_append, List.nil_append, if_true, if_false, true_or, or_true, true_and, and_true, not_true_eq_false, not_false_eq_true, Nat.reduceLT, Nat.reduceLeDiff, Nat.reduceEqDiff, Nat.reduceAdd, Nat.reduceMul, Nat.reduceSub, Nat.reducePow, Nat.reduceMod, Nat.reduceDiv, l0, l1, l2, l3, l4, l5, l6, l7, l8, l9, l10, l11, l12, l13, l14, l15, l16, l20, l31, l32, l36, l40, l48, l57, l59, l63, l64, l97, l99, l100, l101, l122, l127, l128, l250, l255, l262143, l262144, l30000, l100000, l12345, l1024, l4095, nI_eqs, nI_les, nI_lts, qI_eq, qI_eqn, nI_eqq, qI_lts, nI_ltp, nI_lep, qI_les, nI_add, nI_mul, qI_add, qI_s, qI_def, nI_clamps, bI_z, bI_o, bI_01, n01, n11, rf_some, rf_none, m1, m1n, bft, b0, g1, rN_d, e131]
  · rw [f, if_neg (by decide)]
    refine DC.dq (DC.rf hx (by decide) (by decide) ?_) lh0 e0 le
    simp (disch := omega) only [s110_0, s110_1, s110_2, s110_3, s110_4, s110_5, s110_6, s110_7, s110_8, ↓reduceIte, Option.bind_some, Option.toList_some, Option.toList_none, List.cons_append, List.nil_append, if_true, if_false, true_or, or_true, true_and, and_true, not_true_eq_false, not_false_eq_true, Nat.reduceLT, Nat.reduceLeDiff, Nat.reduceEqDiff, Nat.reduceAdd, Nat.reduceMul, Nat.reduceSub, Nat.reducePow, Nat.reduceMod, Nat.reduceDiv, l0, l1, l2, l3, l4, l5, l6, l7, l8, l9, l10, l11, l12, l13, l14, l15, l16, l20, l31, l32, l36, l40, l48, l57, l59, l63, l64, l97, l99, l100, l101, l122, l127, l128, l250, l255, l262143, l262144, l30000, l100000, l12345, l1024, l4095, nI_eqs, nI_les, nI_lts, qI_eq, qI_eqn, nI_eqq, qI_lts, nI_ltp, nI_lep, qI_les, nI_add, nI_mul, qI_add, qI_s, qI_def, nI_clamps, bI_z, bI_o, bI_01, n01, n11, rf_some, rf_none, m1, m1n, bft, b0, g1, g2, g3, g4, g5, rN_d, e131]
theorem c111 (d : Nat) {h : AH} {B : Nat} {s : GS} (hx : DX h B s) (hB : B + 48 ≤ hN h) (i : Int32) : DQ (d + 5) 111 [some (.ref B), some (.int i)] h B (s_way s i) := by
  intro lh0 e0 le
  obtain ⟨⟨b0, b1, b2, b3, b4, b5, b6, b7⟩, xy, ⟨k0, k1⟩, xh, ⟨t0, t1, t2, t3, t4, t5⟩, rx, qx⟩ := id hx; have e131 := c131e hx
  have e8 := fun d => x8 d xy (some (.ref (B + 28)))
  unfold s_way
  by_cases i0 : nI 0 ≤ i
  · rw [if_pos i0]
    by_cases sm : Yg (gY s) ≤ 3 ∧ Yn (gY s) ≤ 3
    · rw [if_pos sm]
      rw [decide_eq_true sm] at e8
      have nd := ndY_ok xy.2.2 sm.1 sm.2
      have e9 := fun d => x9 d xy sm.1 sm.2 none none
      obtain ⟨h1, lh1, e1, e11, z, dx, db⟩ := c11 d hx le sm.1 sm.2 hB nd.1 none none none none
      have e131' := c131e dx
      obtain ⟨q, f⟩ := dx.rf (k := 5) (by decide) (by decide)
      have o1 := dx.1.1
      have o2 := dx.1.2.1
      have o3 := dx.1.2.2.2.2.2.1
      have o4 := dx.2.2.2.2.2.2.1
      cases hD : dsY (gY s) (ndY (gY s)) with
      | none =>
        rw [hD] at e11
        refine ⟨_, lh1, e1, ?_, q, db.trans (f.db db.1)⟩
        simp (disch := omega) only [s111_0, s111_1, s111_6, s111_7, s111_8, s111_9, s111_10, s111_11, s111_12, s111_13, s111_14, s111_15, s111_16, s111_17, s111_18, s111_19, s111_20, s111_26, s111_27, s111_28, s111_29, ↓reduceIte, Option.bind_some, Option.toList_some, Option.toList_none, List.cons_append, List.nil_append, if_true, if_false, true_or, or_true, true_and, and_true, not_true_eq_false, not_false_eq_true, Nat.reduceLT, Nat.reduceLeDiff, Nat.reduceEqDiff, Nat.reduceAdd, Nat.reduceMul, Nat.reduceSub, Nat.reducePow, Nat.reduceMod, Nat.reduceDiv, l0, l1, l2, l3, l4, l5, l6, l7, l8, l9, l10, l11, l12, l13, l14, l15, l16, l20, l31, l32, l36, l40, l48, l57, l59, l63, l64, l97, l99, l100, l101, l122, l127, l128, l250, l255, l262143, l262144, l30000, l100000, l12345, l1024, l4095, nI_eqs, nI_les, nI_lts, qI_eq, qI_eqn, nI_eqq, qI_lts, nI_ltp, nI_lep, qI_les, nI_add, nI_mul, qI_add, qI_s, qI_def, nI_clamps, bI_z, bI_o, bI_01, n01, n11, rf_some, rf_none, m1, m1n, bft, i0, b0, b1, b5, o1, qx.1, e8, e9, e11, bI_t, bI_f, Bool.true_eq_false, Option.isSome_none, rN_d, e131']
        first | rfl | done
      | some D =>
        rw [hD] at e11
        have D63 := dsY_ls xy.2.2 sm.1 sm.2 nd.1 hD
        have e19 := fun d => z.len hD d
        dsimp only
        rcases inR_cases i (n := D) (by omega) with ⟨k, hk, rfl⟩ | ⟨f', g1, g2⟩ | ⟨f', g1, g2, g3, g4, g5⟩
        · have ck := inR_nI (g := k) (n := D) (by omega) (by omega)
          rw [decide_eq_true hk] at ck
          rw [ck, if_pos rfl, nI_clamp (show k < 2 ^ 31 by omega)]
          have e21 := fun d => z.way hD hk d
          refine ⟨h1, lh1, e1, ?_, dx, db⟩
          simp (disch := omega) only [s111_0, s111_1, s111_6, s111_7, s111_8, s111_9, s111_10, s111_11, s111_12, s111_13, s111_14, s111_15, s111_16, s111_17, s111_18, s111_19, s111_20, s111_21, s111_22, s111_23, s111_24, s111_25, s111_30, s111_31, s111_32, s111_33, s111_34, ↓reduceIte, Option.bind_some, Option.toList_some, Option.toList_none, List.cons_append, List.nil_append, if_true, if_false, true_or, or_true, true_and, and_true, not_true_eq_false, not_false_eq_true, Nat.reduceLT, Nat.reduceLeDiff, Nat.reduceEqDiff, Nat.reduceAdd, Nat.reduceMul, Nat.reduceSub, Nat.reducePow, Nat.reduceMod, Nat.reduceDiv, l0, l1, l2, l3, l4, l5, l6, l7, l8, l9, l10, l11, l12, l13, l14, l15, l16, l20, l31, l32, l36, l40, l48, l57, l59, l63, l64, l97, l99, l100, l101, l122, l127, l128, l250, l255, l262143, l262144, l30000, l100000, l12345, l1024, l4095, nI_eqs, nI_les, nI_lts, qI_eq, qI_eqn, nI_eqq, qI_lts, nI_ltp, nI_lep, qI_les, nI_add, nI_mul, qI_add, qI_s, qI_def, nI_clamps, bI_z, bI_o, bI_01, n01, n11, rf_some, rf_none, m1, m1n, bft, Nat.zero_le, hk, b0, b1, b5, o1, o2, o3, o4, qx.1, e8, e9, e11, e19, e21, bI_t, Bool.true_eq_false, Option.isSome_some]
        · exfalso
          have : ¬ i < nI 0 := fun w => by
            rw [Int32.le_iff_toInt_le] at i0
            rw [Int32.lt_iff_toInt_lt] at w
            omega
          rw [g1] at this
          exact this trivial
        · rw [f', if_neg (by decide)]
          refine ⟨_, lh1, e1, ?_, q, db.trans (f.db db.1)⟩
          simp (disch := omega) only [s111_0, s111_1, s111_6, s111_7, s111_8, s111_9, s111_10, s111_11, s111_12, s111_13, s111_14, s111_15, s111_16, s111_17, s111_18, s111_19, s111_20, s111_21, s111_22, s111_23, s111_24, s111_25, s111_26, s111_27, s111_28, s111_29, ↓reduceIte, Option.bind_some, Option.toList_some, Option.toList_none, List.cons_append, List.nil_append, if_true, if_false, true_or, or_true, true_and, and_true, not_true_eq_false, not_false_eq_true, Nat.reduceLT, Nat.reduceLeDiff, Nat.reduceEqDiff, Nat.reduceAdd, Nat.reduceMul, Nat.reduceSub, Nat.reducePow, Nat.reduceMod, Nat.reduceDiv, l0, l1, l2, l3, l4, l5, l6, l7, l8, l9, l10, l11, l12, l13, l14, l15, l16, l20, l31, l32, l36, l40, l48, l57, l59, l63, l64, l97, l99, l100, l101, l122, l127, l128, l250, l255, l262143, l262144, l30000, l100000, l12345, l1024, l4095, nI_eqs, nI_les, nI_lts, qI_eq, qI_eqn, nI_eqq, qI_lts, nI_ltp, nI_lep, qI_les, nI_add, nI_mul, qI_add, qI_s, qI_def, nI_clamps, bI_z, bI_o, bI_01, n01, n11, rf_some, rf_none, m1, m1n, bft, i0, g1, g2, g3, g4, g5, b0, b1, b5, o1, o2, o3, o4, qx.1, e8, e9, e11, e19, bI_t, Bool.true_eq_false, Option.isSome_some, rN_d, e131']
          first | rfl | done
    · rw [if_neg sm]
      rw [decide_eq_false sm] at e8
      refine DC.dq (DC.rf hx (k := 5) (by decide) (by decide) ?_) lh0 e0 le
      simp (disch := omega) only [s111_0, s111_1, s111_6, s111_7, s111_8, s111_9, s111_10, s111_11, s111_26, s111_27, s111_28, s111_29, ↓reduceIte, Option.bind_some, Option.toList_some, Option.toList_none, List.cons_append, List.nil_append, if_true, if_false, true_or, or_true, true_and, and_true, not_true_eq_false, not_false_eq_true, Nat.reduceLT, Nat.reduceLeDiff, Nat.reduceEqDiff, Nat.reduceAdd, Nat.reduceMul, Nat.reduceSub, Nat.reducePow, Nat.reduceMod, Nat.reduceDiv, l0, l1, l2, l3, l4, l5, l6, l7, l8, l9, l10, l11, l12, l13, l14, l15, l16, l20, l31, l32, l36, l40, l48, l57, l59, l63, l64, l97, l99, l100, l101, l122, l127, l128, l250, l255, l262143, l262144, l30000, l100000, l12345, l1024, l4095, nI_eqs, nI_les, nI_lts, qI_eq, qI_eqn, nI_eqq, qI_lts, nI_ltp, nI_lep, qI_les, nI_add, nI_mul, qI_add, qI_s, qI_def, nI_clamps, bI_z, bI_o, bI_01, n01, n11, rf_some, rf_none, m1, m1n, bft, i0, b0, b1, b5, qx.1, e8, bI_f, rN_d, e131]
  · rw [if_neg i0]
    refine DC.dq (DC.rf hx (by decide) (by decide) ?_) lh0 e0 le
    simp (disch := omega) only [s111_0, s111_1, s111_2, s111_3, s111_4, s111_5, ↓reduceIte, Option.bind_some, Option.toList_some, Option.toList_none, List.cons_append, List.nil_append, if_true, if_false, true_or, or_true, true_and, and_true, not_true_eq_false, not_false_eq_true, Nat.reduceLT, Nat.reduceLeDiff, Nat.reduceEqDiff, Nat.reduceAdd, Nat.reduceMul, Nat.reduceSub, Nat.reducePow, Nat.reduceMod, Nat.reduceDiv, l0, l1, l2, l3, l4, l5, l6, l7, l8, l9, l10, l11, l12, l13, l14, l15, l16, l20, l31, l32, l36, l40, l48, l57, l59, l63, l64, l97, l99, l100, l101, l122, l127, l128, l250, l255, l262143, l262144, l30000, l100000, l12345, l1024, l4095, nI_eqs, nI_les, nI_lts, qI_eq, qI_eqn, nI_eqq, qI_lts, nI_ltp, nI_lep, qI_les, nI_add, nI_mul, qI_add, qI_s, qI_def, nI_clamps, bI_z, bI_o, bI_01, n01, n11, rf_some, rf_none, m1, m1n, bft, i0, b0, rN_d, e131]
theorem c113 (d : Nat) {h : AH} {B : Nat} {s : GS} (hx : DX h B s) (hB : B + 48 ≤ hN h) (g c : Int32) (p3 : Option Value) : DQ (d + 5) 113 [some (.ref B), some (.int g), some (.int c), p3] h B (s_harm s g c) := by
  intro lh0 e0 le
  obtain ⟨⟨b0, b1, b2, b3, b4, b5, b6, b7⟩, xy, ⟨k0, k1⟩, xh, ⟨t0, t1, t2, t3, t4, t5⟩, rx, qx⟩ := id hx; have e131 := c131e hx
  have e8 := fun d => x8 d xy (some (.ref (B + 28)))
  have e62 := fun d => x62 d xy g
  have e64 := fun d => x64 d xy c
  have o6 := xy.2.2.2.1
  have oc := xy.2.2.1
  unfold s_harm
  cases a : inR g (Yg (gY s)) <;> rw [a] at e62
  · rw [if_neg (fun w => absurd w.1 (by decide))]
    refine DC.dq (DC.rf hx (by decide) (by decide) ?_) lh0 e0 le
    simp (disch := omega) only [s113_0, s113_1, s113_2, s113_3, s113_4, s113_10, s113_11, s113_12, s113_13, ↓reduceIte, Option.bind_some, Option.toList_some, Option.toList_none, List.cons_append, List.nil_append, if_true, if_false, true_or, or_true, true_and, and_true, not_true_eq_false, not_false_eq_true, Nat.reduceLT, Nat.reduceLeDiff, Nat.reduceEqDiff, Nat.reduceAdd, Nat.reduceMul, Nat.reduceSub, Nat.reducePow, Nat.reduceMod, Nat.reduceDiv, l0, l1, l2, l3, l4, l5, l6, l7, l8, l9, l10, l11, l12, l13, l14, l15, l16, l20, l31, l32, l36, l40, l48, l57, l59, l63, l64, l97, l99, l100, l101, l122, l127, l128, l250, l255, l262143, l262144, l30000, l100000, l12345, l1024, l4095, nI_eqs, nI_les, nI_lts, qI_eq, qI_eqn, nI_eqq, qI_lts, nI_ltp, nI_lep, qI_les, nI_add, nI_mul, qI_add, qI_s, qI_def, nI_clamps, bI_z, bI_o, bI_01, n01, n11, rf_some, rf_none, m1, m1n, bft, b0, b1, xy.1.1, e62, bI_f, rN_d, e131]
  · cases a' : inR c (Yc (gY s)) <;> rw [a'] at e64
    · rw [if_neg (fun w => absurd w.2 (by decide))]
      refine DC.dq (DC.rf hx (by decide) (by decide) ?_) lh0 e0 le
      simp (disch := omega) only [s113_0, s113_1, s113_2, s113_3, s113_4, s113_5, s113_6, s113_7, s113_8, s113_9, s113_10, s113_11, s113_12, s113_13, ↓reduceIte, Option.bind_some, Option.toList_some, Option.toList_none, List.cons_append, List.nil_append, if_true, if_false, true_or, or_true, true_and, and_true, not_true_eq_false, not_false_eq_true, Nat.reduceLT, Nat.reduceLeDiff, Nat.reduceEqDiff, Nat.reduceAdd, Nat.reduceMul, Nat.reduceSub, Nat.reducePow, Nat.reduceMod, Nat.reduceDiv, l0, l1, l2, l3, l4, l5, l6, l7, l8, l9, l10, l11, l12, l13, l14, l15, l16, l20, l31, l32, l36, l40, l48, l57, l59, l63, l64, l97, l99, l100, l101, l122, l127, l128, l250, l255, l262143, l262144, l30000, l100000, l12345, l1024, l4095, nI_eqs, nI_les, nI_lts, qI_eq, qI_eqn, nI_eqq, qI_lts, nI_ltp, nI_lep, qI_les, nI_add, nI_mul, qI_add, qI_s, qI_def, nI_clamps, bI_z, bI_o, bI_01, n01, n11, rf_some, rf_none, m1, m1n, bft, b0, b1, xy.1.1, e62, e64, bI_t, bI_f, Bool.true_eq_false, rN_d, e131]
    · rw [if_pos ⟨rfl, rfl⟩]
      obtain ⟨j, hj, rfl⟩ := inR_of (by omega) a
      obtain ⟨k, hk, rfl⟩ := inR_of (by omega) a'
      rw [nI_clamp (show j < 2 ^ 31 by omega), nI_clamp (show k < 2 ^ 31 by omega)]
      by_cases sm : Yg (gY s) ≤ 3 ∧ Yn (gY s) ≤ 3
      · rw [if_pos sm]
        rw [decide_eq_true sm] at e8
        have nd := ndY_ok xy.2.2 sm.1 sm.2
        have e9 := fun d => x9 d xy sm.1 sm.2 none none
        obtain ⟨h1, lh1, e1, e11, z, dx, db⟩ := c11 d hx le sm.1 sm.2 hB nd.1 none none none none
        have o1 := dx.1.1
        have o2 := dx.1.2.1
        have o3 := dx.1.2.2.2.2.2.1
        have o4 := dx.2.2.2.2.2.2.1
        cases hD : dsY (gY s) (ndY (gY s)) with
        | none =>
          rw [hD] at e11
          have e131' := c131e dx
          obtain ⟨q, f⟩ := dx.rf (k := 5) (by decide) (by decide)
          refine ⟨_, lh1, e1, ?_, q, db.trans (f.db db.1)⟩
          simp (disch := omega) only [s113_0, s113_1, s113_2, s113_3, s113_4, s113_5, s113_6, s113_7, s113_8, s113_9, s113_14, s113_15, s113_16, s113_17, s113_18, s113_19, s113_20, s113_21, s113_22, s113_23, s113_24, s113_25, s113_26, s113_27, s113_28, s113_29, s113_30, s113_31, s113_32, ↓reduceIte, Option.bind_some, Option.toList_some, Option.toList_none, List.cons_append, List.nil_append, if_true, if_false, true_or, or_true, true_and, and_true, not_true_eq_false, not_false_eq_true, Nat.reduceLT, Nat.reduceLeDiff, Nat.reduceEqDiff, Nat.reduceAdd, Nat.reduceMul, Nat.reduceSub, Nat.reducePow, Nat.reduceMod, Nat.reduceDiv, l0, l1, l2, l3, l4, l5, l6, l7, l8, l9, l10, l11, l12, l13, l14, l15, l16, l20, l31, l32, l36, l40, l48, l57, l59, l63, l64, l97, l99, l100, l101, l122, l127, l128, l250, l255, l262143, l262144, l30000, l100000, l12345, l1024, l4095, nI_eqs, nI_les, nI_lts, qI_eq, qI_eqn, nI_eqq, qI_lts, nI_ltp, nI_lep, qI_les, nI_add, nI_mul, qI_add, qI_s, qI_def, nI_clamps, bI_z, bI_o, bI_01, n01, n11, rf_some, rf_none, m1, m1n, bft, b0, b1, b5, xy.1.1, o1, qx.1, e62, e64, e8, e9, e11, bI_t, bI_f, Bool.true_eq_false, Option.isSome_none, rN_d, e131']
          first | rfl | done
        | some D =>
          rw [hD] at e11
          have e20 := fun d => z.ref dx.2.1 sm.1 sm.2 nd.1 hD d
          have e10 := fun d => x10 d dx.2.1 sm.1 sm.2 hj hk
          have vt := (nd.1.tc xy.2.2 sm.1 hj hk).1
          have hB1 : B + 48 ≤ hN h1 := by have := db.2.2.1.2.2.1; omega
          obtain ⟨h2, lh2, e2, e11b, z2, dx2, db2⟩ := c11 d dx db.1 sm.1 sm.2 hB1 vt none none none none
          have u1 := dx2.1.1
          have u2 := dx2.1.2.1
          have u3 := dx2.1.2.2.2.2.2.1
          have u4 := dx2.2.2.2.2.2.2.1
          dsimp only
          cases hD' : dsY (gY s) (tcN (gY s) (ndY (gY s)) j k) with
          | none =>
            rw [hD'] at e11b
            refine ⟨h2, lh2, e2, ?_, dx2, db.trans db2⟩
            simp (disch := omega) only [s113_0, s113_1, s113_2, s113_3, s113_4, s113_5, s113_6, s113_7, s113_8, s113_9, s113_14, s113_15, s113_16, s113_17, s113_18, s113_19, s113_20, s113_21, s113_22, s113_23, s113_24, s113_25, s113_26, s113_27, s113_28, s113_33, s113_34, s113_35, s113_36, s113_37, s113_38, s113_39, s113_40, s113_41, s113_42, s113_43, s113_44, s113_45, s113_46, s113_47, s113_48, s113_49, s113_58, s113_59, ↓reduceIte, Option.bind_some, Option.toList_some, Option.toList_none, List.cons_append, List.nil_append, if_true, if_false, true_or, or_true, true_and, and_true, not_true_eq_false, not_false_eq_true, Nat.reduceLT, Nat.reduceLeDiff, Nat.reduceEqDiff, Nat.reduceAdd, Nat.reduceMul, Nat.reduceSub, Nat.reducePow, Nat.reduceMod, Nat.reduceDiv, l0, l1, l2, l3, l4, l5, l6, l7, l8, l9, l10, l11, l12, l13, l14, l15, l16, l20, l31, l32, l36, l40, l48, l57, l59, l63, l64, l97, l99, l100, l101, l122, l127, l128, l250, l255, l262143, l262144, l30000, l100000, l12345, l1024, l4095, nI_eqs, nI_les, nI_lts, qI_eq, qI_eqn, nI_eqq, qI_lts, nI_ltp, nI_lep, qI_les, nI_add, nI_mul, qI_add, qI_s, qI_def, nI_clamps, bI_z, bI_o, bI_01, n01, n11, rf_some, rf_none, m1, m1n, bft, b0, b1, b5, xy.1.1, o1, o2, o3, o4, qx.1, e62, e64, e8, e9, e11, e20, e10, e11b, bI_t, bI_f, Bool.true_eq_false, Option.isSome_none, Option.isSome_some]
          | some D' =>
            rw [hD'] at e11b
            have e20b := fun d => z2.ref dx2.2.1 sm.1 sm.2 vt hD' d
            refine ⟨h2, lh2, e2, ?_, dx2, db.trans db2⟩
            simp (disch := omega) only [s113_0, s113_1, s113_2, s113_3, s113_4, s113_5, s113_6, s113_7, s113_8, s113_9, s113_14, s113_15, s113_16, s113_17, s113_18, s113_19, s113_20, s113_21, s113_22, s113_23, s113_24, s113_25, s113_26, s113_27, s113_28, s113_33, s113_34, s113_35, s113_36, s113_37, s113_38, s113_39, s113_40, s113_41, s113_42, s113_43, s113_44, s113_45, s113_46, s113_47, s113_48, s113_49, s113_50, s113_51, s113_52, s113_53, s113_54, s113_55, s113_56, s113_57, s113_59, ↓reduceIte, Option.bind_some, Option.toList_some, Option.toList_none, List.cons_append, List.nil_append, if_true, if_false, true_or, or_true, true_and, and_true, not_true_eq_false, not_false_eq_true, Nat.reduceLT, Nat.reduceLeDiff, Nat.reduceEqDiff, Nat.reduceAdd, Nat.reduceMul, Nat.reduceSub, Nat.reducePow, Nat.reduceMod, Nat.reduceDiv, l0, l1, l2, l3, l4, l5, l6, l7, l8, l9, l10, l11, l12, l13, l14, l15, l16, l20, l31, l32, l36, l40, l48, l57, l59, l63, l64, l97, l99, l100, l101, l122, l127, l128, l250, l255, l262143, l262144, l30000, l100000, l12345, l1024, l4095, nI_eqs, nI_les, nI_lts, qI_eq, qI_eqn, nI_eqq, qI_lts, nI_ltp, nI_lep, qI_les, nI_add, nI_mul, qI_add, qI_s, qI_def, nI_clamps, bI_z, bI_o, bI_01, n01, n11, rf_some, rf_none, m1, m1n, bft, b0, b1, b5, xy.1.1, o1, o2, o3, o4, u1, u2, u3, u4, qx.1, e62, e64, e8, e9, e11, e20, e10, e11b, e20b, bI_t, Bool.true_eq_false, Option.isSome_some]
      · rw [if_neg sm]
        rw [decide_eq_false sm] at e8
        refine DC.dq (DC.rf hx (k := 5) (by decide) (by decide) ?_) lh0 e0 le
        simp (disch := omega) only [s113_0, s113_1, s113_2, s113_3, s113_4, s113_5, s113_6, s113_7, s113_8, s113_9, s113_14, s113_15, s113_16, s113_17, s113_18, s113_19, s113_29, s113_30, s113_31, s113_32, ↓reduceIte, Option.bind_some, Option.toList_some, Option.toList_none, List.cons_append, List.nil_append, if_true, if_false, true_or, or_true, true_and, and_true, not_true_eq_false, not_false_eq_true, Nat.reduceLT, Nat.reduceLeDiff, Nat.reduceEqDiff, Nat.reduceAdd, Nat.reduceMul, Nat.reduceSub, Nat.reducePow, Nat.reduceMod, Nat.reduceDiv, l0, l1, l2, l3, l4, l5, l6, l7, l8, l9, l10, l11, l12, l13, l14, l15, l16, l20, l31, l32, l36, l40, l48, l57, l59, l63, l64, l97, l99, l100, l101, l122, l127, l128, l250, l255, l262143, l262144, l30000, l100000, l12345, l1024, l4095, nI_eqs, nI_les, nI_lts, qI_eq, qI_eqn, nI_eqq, qI_lts, nI_ltp, nI_lep, qI_les, nI_add, nI_mul, qI_add, qI_s, qI_def, nI_clamps, bI_z, bI_o, bI_01, n01, n11, rf_some, rf_none, m1, m1n, bft, b0, b1, b5, xy.1.1, qx.1, e62, e64, e8, bI_t, bI_f, Bool.true_eq_false, rN_d, e131]
