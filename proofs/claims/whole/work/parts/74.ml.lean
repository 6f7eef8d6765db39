/-! MAKES, the reference -/
theorem c217 (d : Nat) {h : AH} {A : Nat} {s : GS} {W : Nat → Prop} (hx : MX h A s W) (x n g w : Int32) (p5 p6 p7 p8 : Option Value) : MC (d + 4) 217 [some (.ref A), some (.int x), some (.int n), some (.int g), some (.int w), p5, p6, p7, p8] h A W (s_makes s x n g w) := by
  obtain ⟨my, mh, ⟨t1, t2, t3, t4, t5⟩, mr, mz, mg, mw, mn, mwn⟩ := id hx; have e136 := c136e hx; have b0 := my.1.1; obtain ⟨⟨z0, z1, z2, z3, z4, z5, z6, z7, z8, r1, r2, r3, r4, r5, r6, r7, r8⟩, ⟨vc, vg, vn, vt, vz, vK, vA, vU, vF, vM, vW, vC, vP⟩, ok⟩ := id my; obtain ⟨⟨o2, o3⟩, o6, on, og, oc⟩ := id ok
  have sok : ∀ k, k < 8 → SOK (gH s k) := fun k hk => (mh.2 k hk).2.2.2.2.2.2
  have e216 := fun d => m216 d hx x n g w (most := 20) (mo := 2) (by decide) (by decide) none none
  unfold s_makes
  have kl := crK_lt (gH s) (gY s) (qgw s g w 3) x n 20
  by_cases a : crK (gH s) (gY s) (qgw s g w 3) x n 20 = 0
  · rw [if_pos a]
    simp only [Nat.reduceAdd, a, if_true] at e216
    obtain ⟨qq, k, m, hk, rfl, wk, rfl, u1, u2, u3, hc⟩ := crK_0 (by decide) sok a
    unfold qgw at qq
    rw [Bool.and_eq_true] at qq
    obtain ⟨j, hj, rfl⟩ := inR_of (by omega) qq.1
    obtain ⟨v, hv, rfl⟩ := inR_of (by omega) qq.2
    rw [nI_clamp (show k < 2 ^ 31 by omega), nI_clamp (show m < 2 ^ 31 by omega), nI_clamp (show j < 2 ^ 31 by omega), nI_clamp (show v < 2 ^ 31 by omega)]
    have mp := memP_ok ok hj
    have u := ok.u hj
    have u6 := ok.u6 hj
    have hcc : ∀ i, i < m → cv (He (gH s k)) i < Yc (gY s) ∧ He (gH s k) i = lN (cv (He (gH s k)) i) := fun i hi => cv_of (by omega) (hc i hi)
    have lp : ∀ l i p bits o h1, i + l = m → pOK (gY s) p → MX h1 A s W → hR h1 A 23 = some o → MY h1 o (wM (gY s) j p) → KW W h h1 → RM A h h1 0 0 → ∃ h2, E (d + 4) 217 20 [some (.ref A), some (.int (nI k)), some (.int (nI m)), some (.int (nI j)), some (.int (nI v)), some (.int (nI 0)), some (.ref o), some (.int (nI bits)), some (.int (nI i))] [] h1 = some (some (.int (mkA (mkI (gY s) j (He (gH s k)) l i (p, bits)) v)), h2) ∧ MX h2 A s W ∧ KW W h h2 ∧ RM A h h2 0 0 := by
      intro l
      induction l with
      | zero =>
        intro i p bits o h1 hi hp x1 q1 y1 kw rm
        have hi' : i = m := hi
        subst hi'
        refine ⟨h1, ?_, x1, kw, rm⟩
        have c0 := x1.1.1.1
        have o0 := y1.1.1
        have t1 : hR h1 A 15 = some (A + 21) := x1.1.1.2.2.2.2.2.2.2.2.2.2.2.2.2.1
        have t2 : hS h1 (A + 21) = some (0, 6) := x1.1.1.2.2.2.2.2.1
        have t3 := x1.1.2.1.2.2.2.2.2.2.2.1 j hj
        have t4 : hR h1 o 13 = some (o + 19) := y1.1.2.2.2.2.2.2.2.2.2.2.2.1
        have t5 : hR h1 o 14 = some (o + 20) := y1.1.2.2.2.2.2.2.2.2.2.2.2.2.1
        have t6 : hS h1 (o + 19) = some (0, 6) := y1.1.2.2.2.1
        have t7 : hS h1 (o + 20) = some (0, 6) := y1.1.2.2.2.2.1
        have t8 : hI h1 (o + 19) (YU (gY s) j) = qI p.1 := by
          have := y1.2.1.2.2.2.2.2.2.2.2.1 (YU (gY s) j) u
          rw [this]; show qI (fup (YF (gY s)) (YU (gY s) j) p.1 (YU (gY s) j)) = _; rw [fup_s]
        have t9 : hI h1 (o + 20) (YU (gY s) j) = qI p.2 := by
          have := y1.2.1.2.2.2.2.2.2.2.2.2.1 (YU (gY s) j) u
          rw [this]; show qI (fup (YM (gY s)) (YU (gY s) j) p.2 (YU (gY s) j)) = _; rw [fup_s]
        rw [s217_20]
        show _ = some (some (Value.int (mkA (p, bits) v)), h1)
        unfold mkA
        rcases zz_3 hv with e | e | e <;> subst e <;> simp (disch := omega) only [s217_0, s217_1, s217_2, s217_3, s217_4, s217_5, s217_6, s217_7, s217_8, s217_9, s217_10, s217_11, s217_12, s217_13, s217_14, s217_15, s217_16, s217_17, s217_18, s217_19, s217_21, s217_22, s217_23, s217_24, s217_25, s217_26, s217_27, s217_28, s217_29, s217_30, s217_31, s217_32, s217_33, s217_34, s217_35, s217_36, s217_37, s217_38, s217_39, s217_40, s217_41, s217_42, s217_43, s217_44, s217_45, s217_46, s217_47, s217_48, s217_49, s217_50, s217_51, s217_52, s217_53, s217_54, s217_55, s217_56, s217_57, s217_58, s217_59, s217_60, s217_61, s217_62, s217_63, s217_64, s217_65, s217_66, ↓reduceIte, Option.bind_some, Option.toList_some, Option.toList_none, List.cons_append, List.nil_append, if_true, if_false, true_or, or_true, true_and, and_true, not_true_eq_false, not_false_eq_true, Nat.reduceLT, Nat.reduceLeDiff, Nat.reduceEqDiff, Nat.reduceAdd, Nat.reduceMul, Nat.reduceSub, Nat.reducePow, Nat.reduceMod, Nat.reduceDiv, l0, l1, l2, l3, l4, l5, l6, l7, l8, l9, l10, l11, l12, l13, l14, l15, l16, l20, l31, l32, l36, l40, l48, l57, l59, l63, l64, l97, l99, l100, l101, l122, l127, l128, l250, l255, l262143, l262144, l30000, l100000, l12345, l1024, l4095, nI_eqs, nI_les, nI_lts, qI_eq, qI_eqn, nI_eqq, qI_lts, nI_ltp, nI_lep, qI_les, nI_add, nI_mul, qI_add, qI_s, qI_def, nI_clamps, bI_z, bI_o, bI_01, n01, n11, rf_some, rf_none, m1, m1n, bft, Nat.le_refl, c0, o0, t1, gI t2, t3, t4, t5, gI t6, gI t7, t8, t9]
      | succ l ih =>
        intro i p bits o h1 hi hp x1 q1 y1 kw rm
        have h1' : ¬ m ≤ i := by omega
        obtain ⟨c1, c2⟩ := hcc i (by omega)
        have c0 := x1.1.1.1
        have o0 := y1.1.1
        obtain ⟨⟨z0, z1, z2, z3, z4, z5, z6, r0, r1, r2, r3, r4, r5⟩, hs⟩ := id x1.2.1
        obtain ⟨rs1, ze1, -, -, -, ve1, -⟩ := hs k hk
        have g4 := gR (h := h1) z4 (Or.inl rfl) (i := k)
        have el : hL h1 (A + 5 + k) i = lN (cv (He (gH s k)) i) := by rw [ve1 i (by omega)]; exact c2
        obtain ⟨h2, e183, y2, f2⟩ := m183p (d + 1) y1 hj c1 none
        have zo := x1.o q1 f2.bk
        have q1' : hR h2 A 23 = some o := by rw [f2.1.2.2.2.2.2.1]; exact q1
        obtain ⟨h3, e3, x3, kw3, rm3⟩ := ih (i + 1) (stp (gY s) j p (cv (He (gH s k)) i)) (if lt1 (gY s) j p (cv (He (gH s k)) i) = true then bits ||| 2 ^ i else bits) o h2 (by omega) (stp_ok hp c1) zo.1 q1' y2 (kw.trans zo.2.1) (rm.trans zo.2.2)
        refine ⟨h3, ?_, x3, kw3, rm3⟩
        rw [s217_20, mkI_s]
        rw [← e3]
        cases q : lt1 (gY s) j p (cv (He (gH s k)) i) <;> rw [q] at e183 <;> simp only [Bool.false_eq_true, if_true, if_false]
        · simp (disch := omega) only [s217_0, s217_1, s217_2, s217_3, s217_4, s217_5, s217_6, s217_7, s217_8, s217_9, s217_10, s217_11, s217_12, s217_13, s217_14, s217_15, s217_16, s217_17, s217_18, s217_19, s217_21, s217_22, s217_23, s217_24, s217_25, s217_26, s217_27, s217_28, s217_29, s217_30, s217_31, s217_32, s217_33, s217_34, s217_35, s217_36, s217_37, s217_38, s217_39, s217_40, s217_41, s217_42, s217_43, s217_44, s217_45, s217_46, s217_47, s217_48, s217_49, s217_50, s217_51, s217_52, s217_53, s217_54, s217_55, s217_56, s217_57, s217_58, s217_59, s217_60, s217_61, s217_62, s217_63, s217_64, s217_65, s217_66, ↓reduceIte, Option.bind_some, Option.toList_some, Option.toList_none, List.cons_append, List.nil_append, if_true, if_false, true_or, or_true, true_and, and_true, not_true_eq_false, not_false_eq_true, Nat.reduceLT, Nat.reduceLeDiff, Nat.reduceEqDiff, Nat.reduceAdd, Nat.reduceMul, Nat.reduceSub, Nat.reducePow, Nat.reduceMod, Nat.reduceDiv, l0, l1, l2, l3, l4, l5, l6, l7, l8, l9, l10, l11, l12, l13, l14, l15, l16, l20, l31, l32, l36, l40, l48, l57, l59, l63, l64, l97, l99, l100, l101, l122, l127, l128, l250, l255, l262143, l262144, l30000, l100000, l12345, l1024, l4095, nI_eqs, nI_les, nI_lts, qI_eq, qI_eqn, nI_eqq, qI_lts, nI_ltp, nI_lep, qI_les, nI_add, nI_mul, qI_add, qI_s, qI_def, nI_clamps, bI_z, bI_o, bI_01, n01, n11, rf_some, rf_none, m1, m1n, bft, nI_and, nI_or, nI_shl', nI_shr', a31, h1', c0, o0, r3, g4, rs1, gA ze1, el, lN_i, e183, Nat.or_zero]
        · simp (disch := omega) only [s217_0, s217_1, s217_2, s217_3, s217_4, s217_5, s217_6, s217_7, s217_8, s217_9, s217_10, s217_11, s217_12, s217_13, s217_14, s217_15, s217_16, s217_17, s217_18, s217_19, s217_21, s217_22, s217_23, s217_24, s217_25, s217_26, s217_27, s217_28, s217_29, s217_30, s217_31, s217_32, s217_33, s217_34, s217_35, s217_36, s217_37, s217_38, s217_39, s217_40, s217_41, s217_42, s217_43, s217_44, s217_45, s217_46, s217_47, s217_48, s217_49, s217_50, s217_51, s217_52, s217_53, s217_54, s217_55, s217_56, s217_57, s217_58, s217_59, s217_60, s217_61, s217_62, s217_63, s217_64, s217_65, s217_66, ↓reduceIte, Option.bind_some, Option.toList_some, Option.toList_none, List.cons_append, List.nil_append, if_true, if_false, true_or, or_true, true_and, and_true, not_true_eq_false, not_false_eq_true, Nat.reduceLT, Nat.reduceLeDiff, Nat.reduceEqDiff, Nat.reduceAdd, Nat.reduceMul, Nat.reduceSub, Nat.reducePow, Nat.reduceMod, Nat.reduceDiv, l0, l1, l2, l3, l4, l5, l6, l7, l8, l9, l10, l11, l12, l13, l14, l15, l16, l20, l31, l32, l36, l40, l48, l57, l59, l63, l64, l97, l99, l100, l101, l122, l127, l128, l250, l255, l262143, l262144, l30000, l100000, l12345, l1024, l4095, nI_eqs, nI_les, nI_lts, qI_eq, qI_eqn, nI_eqq, qI_lts, nI_ltp, nI_lep, qI_les, nI_add, nI_mul, qI_add, qI_s, qI_def, nI_clamps, bI_z, bI_o, bI_01, n01, n11, rf_some, rf_none, m1, m1n, bft, nI_and, nI_or, nI_shl', nI_shr', a31, h1', c0, o0, r3, g4, rs1, gA ze1, el, lN_i, e183, Nat.one_mul, Bool.true_eq_false]
    obtain ⟨h1, o, e225, x1, q1, y1, a1, kw1, rm1⟩ := c225 (d + 1) hx
    obtain ⟨h2, e2, x2, kw2, rm2⟩ := lp m 0 (memP (gY s) j) 0 o h1 (by omega) mp x1 q1 (by rw [wM_0]; exact y1) kw1 rm1
    refine ⟨h2, ?_, x2, kw2, by unfold RM at *; omega⟩
    simp (disch := omega) only [s217_0, s217_1, s217_2, s217_3, s217_4, s217_5, s217_6, s217_7, s217_8, s217_9, s217_10, s217_11, s217_12, s217_13, s217_14, s217_15, s217_16, s217_17, s217_18, s217_19, ↓reduceIte, Option.bind_some, Option.toList_some, Option.toList_none, List.cons_append, List.nil_append, if_true, if_false, true_or, or_true, true_and, and_true, not_true_eq_false, not_false_eq_true, Nat.reduceLT, Nat.reduceLeDiff, Nat.reduceEqDiff, Nat.reduceAdd, Nat.reduceMul, Nat.reduceSub, Nat.reducePow, Nat.reduceMod, Nat.reduceDiv, l0, l1, l2, l3, l4, l5, l6, l7, l8, l9, l10, l11, l12, l13, l14, l15, l16, l20, l31, l32, l36, l40, l48, l57, l59, l63, l64, l97, l99, l100, l101, l122, l127, l128, l250, l255, l262143, l262144, l30000, l100000, l12345, l1024, l4095, nI_eqs, nI_les, nI_lts, qI_eq, qI_eqn, nI_eqq, qI_lts, nI_ltp, nI_lep, qI_les, nI_add, nI_mul, qI_add, qI_s, qI_def, nI_clamps, bI_z, bI_o, bI_01, n01, n11, rf_some, rf_none, m1, m1n, bft, b0, e216, e225]
    exact e2
  · rw [if_neg a]
    simp only [Nat.reduceAdd, a, if_false] at e216
    have k2 : 2 ≤ crK (gH s) (gY s) (qgw s g w 3) x n 20 := kl.2 a
    have k6 : crK (gH s) (gY s) (qgw s g w 3) x n 20 ≤ 6 := kl.1
    refine MC.rf hx k2 k6 ?_
    have ne := rN_ne k2 k6
    simp (disch := omega) only [s217_0, s217_1, s217_2, s217_3, s217_4, s217_5, s217_6, s217_7, s217_8, s217_9, s217_10, s217_11, s217_12, ↓reduceIte, Option.bind_some, Option.toList_some, Option.toList_none, List.cons_append, List.nil_append, if_true, if_false, true_or, or_true, true_and, and_true, not_true_eq_false, not_false_eq_true, Nat.reduceLT, Nat.reduceLeDiff, Nat.reduceEqDiff, Nat.reduceAdd, Nat.reduceMul, Nat.reduceSub, Nat.reducePow, Nat.reduceMod, Nat.reduceDiv, l0, l1, l2, l3, l4, l5, l6, l7, l8, l9, l10, l11, l12, l13, l14, l15, l16, l20, l31, l32, l36, l40, l48, l57, l59, l63, l64, l97, l99, l100, l101, l122, l127, l128, l250, l255, l262143, l262144, l30000, l100000, l12345, l1024, l4095, nI_eqs, nI_les, nI_lts, qI_eq, qI_eqn, nI_eqq, qI_lts, nI_ltp, nI_lep, qI_les, nI_add, nI_mul, qI_add, qI_s, qI_def, nI_clamps, bI_z, bI_o, bI_01, n01, n11, rf_some, rf_none, m1, m1n, bft, b0, e216, ne]
