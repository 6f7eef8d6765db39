/-! DRIVE, the reference -/
theorem lq222 (d : Nat) {A : Nat} : ∀ m k t h1 y x1 x2 x3 p6, k + m = Yn y → MY h1 A y → E (d + 4) 222 24 [some (.ref A), x1, x2, x3, some (.int (nI t)), some (.int (nI k)), p6] [] h1 = E (d + 4) 222 40 [some (.ref A), x1, x2, x3, some (.int (nI (t + cw y m k))), some (.int (nI (Yn y))), p6] [] h1 := by
  intro m
  induction m with
  | zero =>
    intro k t h1 y x1 x2 x3 p6 hk q
    have hk' : k = Yn y := hk
    have y0 := q.1.1
    have yn : hI h1 A 17 = nI (Yn y) := q.2.1.2.2.1
    have yn6 := q.2.2.2.2.1
    subst hk'
    rw [s222_24]
    simp (disch := omega) only [s222_25, s222_26, s222_27, s222_28, s222_29, s222_30, s222_31, s222_32, s222_33, s222_34, s222_35, s222_36, s222_37, s222_38, s222_39, ↓reduceIte, Option.bind_some, Option.toList_some, Option.toList_none, List.cons_append, List.nil_append, if_true, if_false, true_or, or_true, true_and, and_true, not_true_eq_false, not_false_eq_true, Nat.reduceLT, Nat.reduceLeDiff, Nat.reduceEqDiff, Nat.reduceAdd, Nat.reduceMul, Nat.reduceSub, Nat.reducePow, Nat.reduceMod, Nat.reduceDiv, l0, l1, l2, l3, l4, l5, l6, l7, l8, l9, l10, l11, l12, l13, l14, l15, l16, l20, l31, l32, l36, l40, l48, l57, l59, l63, l64, l97, l99, l100, l101, l122, l127, l128, l250, l255, l262143, l262144, l30000, l100000, l12345, l1024, l4095, nI_eqs, nI_les, nI_lts, qI_eq, qI_eqn, nI_eqq, qI_lts, nI_ltp, nI_lep, qI_les, nI_add, nI_mul, qI_add, qI_s, qI_def, nI_clamps, bI_z, bI_o, bI_01, n01, n11, rf_some, rf_none, m1, m1n, bft, y0, yn, Nat.le_refl]
    rfl
  | succ m ih =>
    intro k t h1 y x1 x2 x3 p6 hk q
    have h1' : ¬ Yn y ≤ k := by omega
    have y0 := q.1.1
    have yn : hI h1 A 17 = nI (Yn y) := q.2.1.2.2.1
    have yn6 := q.2.2.2.2.1
    have e141 := fun d => m141 d q (k := k) (by omega)
    rw [s222_24]
    unfold cw
    by_cases a : Yg y ≤ YP y k
    · rw [if_pos a]
      rw [decide_eq_true a] at e141
      simp (disch := omega) only [s222_25, s222_26, s222_27, s222_28, s222_29, s222_30, s222_31, s222_32, s222_33, s222_34, s222_35, s222_36, s222_37, s222_38, s222_39, ↓reduceIte, Option.bind_some, Option.toList_some, Option.toList_none, List.cons_append, List.nil_append, if_true, if_false, true_or, or_true, true_and, and_true, not_true_eq_false, not_false_eq_true, Nat.reduceLT, Nat.reduceLeDiff, Nat.reduceEqDiff, Nat.reduceAdd, Nat.reduceMul, Nat.reduceSub, Nat.reducePow, Nat.reduceMod, Nat.reduceDiv, l0, l1, l2, l3, l4, l5, l6, l7, l8, l9, l10, l11, l12, l13, l14, l15, l16, l20, l31, l32, l36, l40, l48, l57, l59, l63, l64, l97, l99, l100, l101, l122, l127, l128, l250, l255, l262143, l262144, l30000, l100000, l12345, l1024, l4095, nI_eqs, nI_les, nI_lts, qI_eq, qI_eqn, nI_eqq, qI_lts, nI_ltp, nI_lep, qI_les, nI_add, nI_mul, qI_add, qI_s, qI_def, nI_clamps, bI_z, bI_o, bI_01, n01, n11, rf_some, rf_none, m1, m1n, bft, y0, yn, h1', e141, Bool.true_eq_false, Nat.add_zero]
      rw [ih _ _ _ _ _ _ _ _ (by omega) q, Nat.zero_add]
    · rw [if_neg a]
      rw [decide_eq_false a] at e141
      simp (disch := omega) only [s222_25, s222_26, s222_27, s222_28, s222_29, s222_30, s222_31, s222_32, s222_33, s222_34, s222_35, s222_36, s222_37, s222_38, s222_39, ↓reduceIte, Option.bind_some, Option.toList_some, Option.toList_none, List.cons_append, List.nil_append, if_true, if_false, true_or, or_true, true_and, and_true, not_true_eq_false, not_false_eq_true, Nat.reduceLT, Nat.reduceLeDiff, Nat.reduceEqDiff, Nat.reduceAdd, Nat.reduceMul, Nat.reduceSub, Nat.reducePow, Nat.reduceMod, Nat.reduceDiv, l0, l1, l2, l3, l4, l5, l6, l7, l8, l9, l10, l11, l12, l13, l14, l15, l16, l20, l31, l32, l36, l40, l48, l57, l59, l63, l64, l97, l99, l100, l101, l122, l127, l128, l250, l255, l262143, l262144, l30000, l100000, l12345, l1024, l4095, nI_eqs, nI_les, nI_lts, qI_eq, qI_eqn, nI_eqq, qI_lts, nI_ltp, nI_lep, qI_les, nI_add, nI_mul, qI_add, qI_s, qI_def, nI_clamps, bI_z, bI_o, bI_01, n01, n11, rf_some, rf_none, m1, m1n, bft, y0, yn, h1', e141]
      rw [ih _ _ _ _ _ _ _ _ (by omega) q, Nat.add_assoc]
theorem lw222 (d : Nat) {A : Nat} : ∀ m k l h1 y x1 x2 x3 x4, k + m = Yn y → l < cw y m k → l < 100 → MY h1 A y → ∃ p5, E (d + 4) 222 46 [some (.ref A), x1, x2, x3, x4, some (.int (nI l)), some (.int (nI k))] [] h1 = E (d + 4) 222 55 [some (.ref A), x1, x2, x3, x4, p5, some (.int (nI (wt y m k l)))] [] h1 := by
  intro m
  induction m with
  | zero => intro k l h1 y x1 x2 x3 x4 hk q; exact absurd q (Nat.not_lt_zero _)
  | succ m ih =>
    intro k l h1 y x1 x2 x3 x4 hk q q' my
    unfold cw at q
    have y0 := my.1.1
    have yn6 := my.2.2.2.2.1
    have e141 := fun d => m141 d my (k := k) (by omega)
    rw [s222_46]
    unfold wt
    by_cases p : Yg y ≤ YP y k
    · rw [if_pos p] at q ⊢
      rw [decide_eq_true p] at e141
      obtain ⟨p5, e⟩ := ih (k + 1) l h1 y x1 x2 x3 x4 (by omega) (by omega) q' my
      refine ⟨p5, ?_⟩
      simp (disch := omega) only [s222_47, s222_48, s222_49, s222_50, s222_51, s222_52, s222_53, s222_54, ↓reduceIte, Option.bind_some, Option.toList_some, Option.toList_none, List.cons_append, List.nil_append, if_true, if_false, true_or, or_true, true_and, and_true, not_true_eq_false, not_false_eq_true, Nat.reduceLT, Nat.reduceLeDiff, Nat.reduceEqDiff, Nat.reduceAdd, Nat.reduceMul, Nat.reduceSub, Nat.reducePow, Nat.reduceMod, Nat.reduceDiv, l0, l1, l2, l3, l4, l5, l6, l7, l8, l9, l10, l11, l12, l13, l14, l15, l16, l20, l31, l32, l36, l40, l48, l57, l59, l63, l64, l97, l99, l100, l101, l122, l127, l128, l250, l255, l262143, l262144, l30000, l100000, l12345, l1024, l4095, nI_eqs, nI_les, nI_lts, qI_eq, qI_eqn, nI_eqq, qI_lts, nI_ltp, nI_lep, qI_les, nI_add, nI_mul, qI_add, qI_s, qI_def, nI_clamps, bI_z, bI_o, bI_01, n01, n11, rf_some, rf_none, m1, m1n, bft, y0, e141, Bool.true_eq_false]
      exact e
    · rw [if_neg p] at q ⊢
      rw [decide_eq_false p] at e141
      cases l with
      | zero =>
        refine ⟨some (.int (nI 0 + qI 0)), ?_⟩
        simp (disch := omega) only [s222_47, s222_48, s222_49, s222_50, s222_51, s222_52, s222_53, s222_54, ↓reduceIte, Option.bind_some, Option.toList_some, Option.toList_none, List.cons_append, List.nil_append, if_true, if_false, true_or, or_true, true_and, and_true, not_true_eq_false, not_false_eq_true, Nat.reduceLT, Nat.reduceLeDiff, Nat.reduceEqDiff, Nat.reduceAdd, Nat.reduceMul, Nat.reduceSub, Nat.reducePow, Nat.reduceMod, Nat.reduceDiv, l0, l1, l2, l3, l4, l5, l6, l7, l8, l9, l10, l11, l12, l13, l14, l15, l16, l20, l31, l32, l36, l40, l48, l57, l59, l63, l64, l97, l99, l100, l101, l122, l127, l128, l250, l255, l262143, l262144, l30000, l100000, l12345, l1024, l4095, nI_eqs, nI_les, nI_lts, qI_eq, qI_eqn, nI_eqq, qI_lts, nI_ltp, nI_lep, qI_les, nI_add, nI_mul, qI_add, qI_s, qI_def, nI_clamps, bI_z, bI_o, bI_01, n01, n11, rf_some, rf_none, m1, m1n, bft, y0, e141, Nat.le_refl]
      | succ l =>
        obtain ⟨p5, e⟩ := ih (k + 1) l h1 y x1 x2 x3 x4 (by omega) (by omega) (by omega) my
        refine ⟨p5, ?_⟩
        have hl0 : ¬ l + 1 ≤ 0 := by omega
        simp (disch := omega) only [s222_47, s222_48, s222_49, s222_50, s222_51, s222_52, s222_53, s222_54, ↓reduceIte, Option.bind_some, Option.toList_some, Option.toList_none, List.cons_append, List.nil_append, if_true, if_false, true_or, or_true, true_and, and_true, not_true_eq_false, not_false_eq_true, Nat.reduceLT, Nat.reduceLeDiff, Nat.reduceEqDiff, Nat.reduceAdd, Nat.reduceMul, Nat.reduceSub, Nat.reducePow, Nat.reduceMod, Nat.reduceDiv, l0, l1, l2, l3, l4, l5, l6, l7, l8, l9, l10, l11, l12, l13, l14, l15, l16, l20, l31, l32, l36, l40, l48, l57, l59, l63, l64, l97, l99, l100, l101, l122, l127, l128, l250, l255, l262143, l262144, l30000, l100000, l12345, l1024, l4095, nI_eqs, nI_les, nI_lts, qI_eq, qI_eqn, nI_eqq, qI_lts, nI_ltp, nI_lep, qI_les, nI_add, nI_mul, qI_add, qI_s, qI_def, nI_clamps, bI_z, bI_o, bI_01, n01, n11, rf_some, rf_none, m1, m1n, bft, y0, e141, hl0, nI_dec]
        exact e
theorem m222s (d : Nat) {h1 H : AH} {A r t i : Nat} {y : YS} {z : Int32} (q : MY h1 A y) (e221 : ∀ d, E d 221 0 [some (.ref A), some (.int (nI (cw y (Yn y) 0)))] [] h1 = some (some (.int (nI r)), H)) (q2 : MY H A (sZ y z)) (hr : r < cw y (Yn y) 0) (x1 p4 p5 p6 : Option Value) : ∃ h3 p5' p6', E (d + 4) 222 20 [some (.ref A), x1, some (.int (nI t)), some (.int (nI i)), p4, p5, p6] [] h1 = E (d + 4) 222 65 [some (.ref A), x1, some (.int (nI (if letY y (YP y (wt (sZ y z) (Yn y) 0 r)) (YC y (wt (sZ y z) (Yn y) 0 r)) = true then t + 1 else t))), some (.int (nI i)), some (.int (nI (cw y (Yn y) 0))), p5', p6'] [] h3 ∧ MY h3 A (tryY (sZ y z) (wt (sZ y z) (Yn y) 0 r)) ∧ FY A H h3 := by
  have y0 := q.1.1
  have y9 := q2.1.1
  have yn6 := q.2.2.2.2.1
  have cl := cw_le y (Yn y) 0
  have hr' : r < cw (sZ y z) (Yn y) 0 := by rw [cw_z]; exact hr
  obtain ⟨k1, k2⟩ := wt_ok hr'
  have e1 := fun x1 x2 x3 p6 => lq222 (A := A) d (Yn y) 0 0 h1 y x1 x2 x3 p6 (by omega) q
  rw [Nat.zero_add] at e1
  obtain ⟨p5', e2⟩ := lw222 (A := A) d (Yn y) 0 r H (sZ y z) x1 (some (.int (nI t))) (some (.int (nI i))) (some (.int (nI (cw y (Yn y) 0)))) (Nat.zero_add _) hr' (by omega) q2
  generalize wt (sZ y z) (Yn y) 0 r = kk at *
  obtain ⟨h3, e184, q3, f3⟩ := m184 d q2 (k := kk) (show kk < Yn y by omega) k2 none none
  rw [tryZ] at e184
  refine ⟨h3, p5', some (.int (nI kk)), ?_, q3, f3⟩
  cases w : letY y (YP y kk) (YC y kk) <;> rw [w] at e184 <;> simp only [Bool.false_eq_true, if_true, if_false]
  · simp (disch := omega) only [s222_20, s222_21, s222_22, s222_23, s222_40, s222_41, s222_42, s222_43, s222_44, s222_45, s222_55, s222_56, s222_57, s222_58, s222_59, s222_60, s222_61, s222_62, s222_63, s222_64, ↓reduceIte, Option.bind_some, Option.toList_some, Option.toList_none, List.cons_append, List.nil_append, if_true, if_false, true_or, or_true, true_and, and_true, not_true_eq_false, not_false_eq_true, Nat.reduceLT, Nat.reduceLeDiff, Nat.reduceEqDiff, Nat.reduceAdd, Nat.reduceMul, Nat.reduceSub, Nat.reducePow, Nat.reduceMod, Nat.reduceDiv, l0, l1, l2, l3, l4, l5, l6, l7, l8, l9, l10, l11, l12, l13, l14, l15, l16, l20, l31, l32, l36, l40, l48, l57, l59, l63, l64, l97, l99, l100, l101, l122, l127, l128, l250, l255, l262143, l262144, l30000, l100000, l12345, l1024, l4095, nI_eqs, nI_les, nI_lts, qI_eq, qI_eqn, nI_eqq, qI_lts, nI_ltp, nI_lep, qI_les, nI_add, nI_mul, qI_add, qI_s, qI_def, nI_clamps, bI_z, bI_o, bI_01, n01, n11, rf_some, rf_none, m1, m1n, bft, y0, y9, e1, e221, e2, e184, Nat.add_zero]
  · simp (disch := omega) only [s222_20, s222_21, s222_22, s222_23, s222_40, s222_41, s222_42, s222_43, s222_44, s222_45, s222_55, s222_56, s222_57, s222_58, s222_59, s222_60, s222_61, s222_62, s222_63, s222_64, ↓reduceIte, Option.bind_some, Option.toList_some, Option.toList_none, List.cons_append, List.nil_append, if_true, if_false, true_or, or_true, true_and, and_true, not_true_eq_false, not_false_eq_true, Nat.reduceLT, Nat.reduceLeDiff, Nat.reduceEqDiff, Nat.reduceAdd, Nat.reduceMul, Nat.reduceSub, Nat.reducePow, Nat.reduceMod, Nat.reduceDiv, l0, l1, l2, l3, l4, l5, l6, l7, l8, l9, l10, l11, l12, l13, l14, l15, l16, l20, l31, l32, l36, l40, l48, l57, l59, l63, l64, l97, l99, l100, l101, l122, l127, l128, l250, l255, l262143, l262144, l30000, l100000, l12345, l1024, l4095, nI_eqs, nI_les, nI_lts, qI_eq, qI_eqn, nI_eqq, qI_lts, nI_ltp, nI_lep, qI_les, nI_add, nI_mul, qI_add, qI_s, qI_def, nI_clamps, bI_z, bI_o, bI_01, n01, n11, rf_some, rf_none, m1, m1n, bft, y0, y9, e1, e221, e2, e184, Bool.true_eq_false]
theorem m222 (d : Nat) {h : AH} {A : Nat} : ∀ m i t n h1 y p4 p5 p6, i + m = n → n ≤ 40 → t ≤ i → MY h1 A y → FY A h h1 → ∃ h2, E (d + 4) 222 14 [some (.ref A), some (.int (nI n)), some (.int (nI t)), some (.int (nI i)), p4, p5, p6] [] h1 = some (some (.int (nI (drv m y t).1)), h2) ∧ MY h2 A (drv m y t).2 ∧ FY A h h2 := by
  intro m
  induction m with
  | zero =>
    intro i t n h1 y p4 p5 p6 hi hn ht q f
    have hi' : i = n := hi
    subst hi'
    refine ⟨h1, ?_, q, f⟩
    rw [s222_14]
    simp (disch := omega) only [s222_0, s222_1, s222_2, s222_3, s222_4, s222_5, s222_6, s222_7, s222_8, s222_9, s222_10, s222_11, s222_12, s222_13, s222_15, s222_16, s222_17, s222_18, s222_19, s222_20, s222_21, s222_22, s222_23, s222_25, s222_26, s222_27, s222_28, s222_29, s222_30, s222_31, s222_32, s222_33, s222_34, s222_35, s222_36, s222_37, s222_38, s222_39, s222_40, s222_41, s222_42, s222_43, s222_44, s222_45, s222_47, s222_48, s222_49, s222_50, s222_51, s222_52, s222_53, s222_54, s222_55, s222_56, s222_57, s222_58, s222_59, s222_60, s222_61, s222_62, s222_63, s222_64, s222_65, s222_66, s222_67, s222_68, ↓reduceIte, Option.bind_some, Option.toList_some, Option.toList_none, List.cons_append, List.nil_append, if_true, if_false, true_or, or_true, true_and, and_true, not_true_eq_false, not_false_eq_true, Nat.reduceLT, Nat.reduceLeDiff, Nat.reduceEqDiff, Nat.reduceAdd, Nat.reduceMul, Nat.reduceSub, Nat.reducePow, Nat.reduceMod, Nat.reduceDiv, l0, l1, l2, l3, l4, l5, l6, l7, l8, l9, l10, l11, l12, l13, l14, l15, l16, l20, l31, l32, l36, l40, l48, l57, l59, l63, l64, l97, l99, l100, l101, l122, l127, l128, l250, l255, l262143, l262144, l30000, l100000, l12345, l1024, l4095, nI_eqs, nI_les, nI_lts, qI_eq, qI_eqn, nI_eqq, qI_lts, nI_ltp, nI_lep, qI_les, nI_add, nI_mul, qI_add, qI_s, qI_def, nI_clamps, bI_z, bI_o, bI_01, n01, n11, rf_some, rf_none, m1, m1n, bft, Nat.le_refl]
    rfl
  | succ m ih =>
    intro i t n h1 y p4 p5 p6 hi hn ht q f
    have h1' : ¬ n ≤ i := by omega
    have y0 := q.1.1
    have yn6 := q.2.2.2.2.1
    have e198 := fun d => m198 d q none none
    rw [allOut_cw] at e198
    have cl := cw_le y (Yn y) 0
    rw [s222_14]
    rw [drv_s]
    by_cases a : cw y (Yn y) 0 = 0
    · rw [if_pos a]
      rw [decide_eq_true a] at e198
      refine ⟨h1, ?_, q, f⟩
      simp (disch := omega) only [s222_0, s222_1, s222_2, s222_3, s222_4, s222_5, s222_6, s222_7, s222_8, s222_9, s222_10, s222_11, s222_12, s222_13, s222_15, s222_16, s222_17, s222_18, s222_19, s222_20, s222_21, s222_22, s222_23, s222_25, s222_26, s222_27, s222_28, s222_29, s222_30, s222_31, s222_32, s222_33, s222_34, s222_35, s222_36, s222_37, s222_38, s222_39, s222_40, s222_41, s222_42, s222_43, s222_44, s222_45, s222_47, s222_48, s222_49, s222_50, s222_51, s222_52, s222_53, s222_54, s222_55, s222_56, s222_57, s222_58, s222_59, s222_60, s222_61, s222_62, s222_63, s222_64, s222_65, s222_66, s222_67, s222_68, ↓reduceIte, Option.bind_some, Option.toList_some, Option.toList_none, List.cons_append, List.nil_append, if_true, if_false, true_or, or_true, true_and, and_true, not_true_eq_false, not_false_eq_true, Nat.reduceLT, Nat.reduceLeDiff, Nat.reduceEqDiff, Nat.reduceAdd, Nat.reduceMul, Nat.reduceSub, Nat.reducePow, Nat.reduceMod, Nat.reduceDiv, l0, l1, l2, l3, l4, l5, l6, l7, l8, l9, l10, l11, l12, l13, l14, l15, l16, l20, l31, l32, l36, l40, l48, l57, l59, l63, l64, l97, l99, l100, l101, l122, l127, l128, l250, l255, l262143, l262144, l30000, l100000, l12345, l1024, l4095, nI_eqs, nI_les, nI_lts, qI_eq, qI_eqn, nI_eqq, qI_lts, nI_ltp, nI_lep, qI_les, nI_add, nI_mul, qI_add, qI_s, qI_def, nI_clamps, bI_z, bI_o, bI_01, n01, n11, rf_some, rf_none, m1, m1n, bft, h1', y0, e198, Bool.true_eq_false]
    · rw [if_neg a]
      rw [decide_eq_false a] at e198
      have a0 : 0 < cw y (Yn y) 0 := by omega
      obtain ⟨H, e221, q2, f2⟩ := m221' q a0 (by omega)
      obtain ⟨h3, p5', p6', e3, q3, f3⟩ := m222s d q e221 q2 (Nat.mod_lt _ a0) (t := t) (i := i) (some (.int (nI n))) p4 p5 p6
      rw [← dvK_def] at e3 q3
      obtain ⟨h4, e4, q4, f4⟩ := ih (i + 1) _ n h3 _ (some (.int (nI (cw y (Yn y) 0)))) p5' p6' (by omega) hn (show (if letY y (YP y (dvK y)) (YC y (dvK y)) = true then t + 1 else t) ≤ i + 1 by split <;> omega) q3 ((f.trans f2).trans f3)
      refine ⟨h4, ?_, q4, f4⟩
      simp (disch := omega) only [s222_15, s222_16, s222_17, s222_18, s222_19, ↓reduceIte, Option.bind_some, Option.toList_some, Option.toList_none, List.cons_append, List.nil_append, if_true, if_false, true_or, or_true, true_and, and_true, not_true_eq_false, not_false_eq_true, Nat.reduceLT, Nat.reduceLeDiff, Nat.reduceEqDiff, Nat.reduceAdd, Nat.reduceMul, Nat.reduceSub, Nat.reducePow, Nat.reduceMod, Nat.reduceDiv, l0, l1, l2, l3, l4, l5, l6, l7, l8, l9, l10, l11, l12, l13, l14, l15, l16, l20, l31, l32, l36, l40, l48, l57, l59, l63, l64, l97, l99, l100, l101, l122, l127, l128, l250, l255, l262143, l262144, l30000, l100000, l12345, l1024, l4095, nI_eqs, nI_les, nI_lts, qI_eq, qI_eqn, nI_eqq, qI_lts, nI_ltp, nI_lep, qI_les, nI_add, nI_mul, qI_add, qI_s, qI_def, nI_clamps, bI_z, bI_o, bI_01, n01, n11, rf_some, rf_none, m1, m1n, bft, h1', y0, e198]
      rw [e3]
      simp (disch := omega) only [s222_65, s222_66, ↓reduceIte, Option.bind_some, Option.toList_some, Option.toList_none, List.cons_append, List.nil_append, if_true, if_false, true_or, or_true, true_and, and_true, not_true_eq_false, not_false_eq_true, Nat.reduceLT, Nat.reduceLeDiff, Nat.reduceEqDiff, Nat.reduceAdd, Nat.reduceMul, Nat.reduceSub, Nat.reducePow, Nat.reduceMod, Nat.reduceDiv, l0, l1, l2, l3, l4, l5, l6, l7, l8, l9, l10, l11, l12, l13, l14, l15, l16, l20, l31, l32, l36, l40, l48, l57, l59, l63, l64, l97, l99, l100, l101, l122, l127, l128, l250, l255, l262143, l262144, l30000, l100000, l12345, l1024, l4095, nI_eqs, nI_les, nI_lts, qI_eq, qI_eqn, nI_eqq, qI_lts, nI_ltp, nI_lep, qI_les, nI_add, nI_mul, qI_add, qI_s, qI_def, nI_clamps, bI_z, bI_o, bI_01, n01, n11, rf_some, rf_none, m1, m1n, bft]
      exact e4
theorem c222 (d : Nat) {h : AH} {A : Nat} {s : GS} {W : Nat → Prop} (hx : MX h A s W) (n : Int32) (p2 p3 p4 p5 p6 : Option Value) : MC0 (d + 4) 222 [some (.ref A), some (.int n), p2, p3, p4, p5, p6] h A W (s_drive s n) := by
  obtain ⟨my, mh, ⟨t1, t2, t3, t4, t5⟩, mr, mz, mg, mw, mn, mwn⟩ := id hx; have e136 := c136e hx; have b0 := my.1.1
  unfold s_drive
  cases c : n1B n 40
  · rw [if_neg (by decide)]
    refine MC0.rf hx (by decide) (by decide) ?_
    simp (disch := omega) only [s222_0, s222_1, s222_2, s222_3, s222_4, s222_5, s222_6, s222_7, s222_8, s222_9, s222_10, s222_11, s222_12, s222_13, s222_15, s222_16, s222_17, s222_18, s222_19, s222_20, s222_21, s222_22, s222_23, s222_25, s222_26, s222_27, s222_28, s222_29, s222_30, s222_31, s222_32, s222_33, s222_34, s222_35, s222_36, s222_37, s222_38, s222_39, s222_40, s222_41, s222_42, s222_43, s222_44, s222_45, s222_47, s222_48, s222_49, s222_50, s222_51, s222_52, s222_53, s222_54, s222_55, s222_56, s222_57, s222_58, s222_59, s222_60, s222_61, s222_62, s222_63, s222_64, s222_65, s222_66, s222_67, s222_68, ↓reduceIte, Option.bind_some, Option.toList_some, Option.toList_none, List.cons_append, List.nil_append, if_true, if_false, true_or, or_true, true_and, and_true, not_true_eq_false, not_false_eq_true, Nat.reduceLT, Nat.reduceLeDiff, Nat.reduceEqDiff, Nat.reduceAdd, Nat.reduceMul, Nat.reduceSub, Nat.reducePow, Nat.reduceMod, Nat.reduceDiv, l0, l1, l2, l3, l4, l5, l6, l7, l8, l9, l10, l11, l12, l13, l14, l15, l16, l20, l31, l32, l36, l40, l48, l57, l59, l63, l64, l97, l99, l100, l101, l122, l127, l128, l250, l255, l262143, l262144, l30000, l100000, l12345, l1024, l4095, nI_eqs, nI_les, nI_lts, qI_eq, qI_eqn, nI_eqq, qI_lts, nI_ltp, nI_lep, qI_les, nI_add, nI_mul, qI_add, qI_s, qI_def, nI_clamps, bI_z, bI_o, bI_01, n01, n11, rf_some, rf_none, m1, m1n, bft, j0, j1, j2, j3, j4, j5, j7, j40, j255, m137, in_m, in_n, in_k, in_1n, c, b0, rN_d, e136, Bool.false_eq_true]
  · rw [if_pos rfl]
    obtain ⟨g, h1g, hg, rfl⟩ := n1B_of (by decide) c
    rw [nI_clamp (show g < 2 ^ 31 by omega)]
    obtain ⟨h2, e, q, f⟩ := m222 d g 0 0 g h (gY s) p4 p5 p6 (by omega) hg (Nat.le_refl _) my (FY.refl _ _)
    refine MC0.y hx q f ?_
    simp (disch := omega) only [s222_0, s222_1, s222_2, s222_3, s222_4, s222_5, s222_6, s222_7, s222_8, s222_9, s222_10, s222_11, s222_12, s222_13, ↓reduceIte, Option.bind_some, Option.toList_some, Option.toList_none, List.cons_append, List.nil_append, if_true, if_false, true_or, or_true, true_and, and_true, not_true_eq_false, not_false_eq_true, Nat.reduceLT, Nat.reduceLeDiff, Nat.reduceEqDiff, Nat.reduceAdd, Nat.reduceMul, Nat.reduceSub, Nat.reducePow, Nat.reduceMod, Nat.reduceDiv, l0, l1, l2, l3, l4, l5, l6, l7, l8, l9, l10, l11, l12, l13, l14, l15, l16, l20, l31, l32, l36, l40, l48, l57, l59, l63, l64, l97, l99, l100, l101, l122, l127, l128, l250, l255, l262143, l262144, l30000, l100000, l12345, l1024, l4095, nI_eqs, nI_les, nI_lts, qI_eq, qI_eqn, nI_eqq, qI_lts, nI_ltp, nI_lep, qI_les, nI_add, nI_mul, qI_add, qI_s, qI_def, nI_clamps, bI_z, bI_o, bI_01, n01, n11, rf_some, rf_none, m1, m1n, bft, j0, j1, j2, j3, j4, j5, j7, j40, j255, m137, in_m, in_n, in_k, in_1n, c, b0, Bool.true_eq_false]
    exact e
