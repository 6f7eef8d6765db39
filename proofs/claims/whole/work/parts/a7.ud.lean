/-! SEARCHES of the reference: reading and setting a state -/
theorem adq1 (a f : Nat) : nI a + qI f + nI 1 = nI (a + f) := by rw [Int32.add_assoc, qI_add, nI_add]
theorem dcq (a : Nat) : nI a + qI 0 = qI a := by
  show nI a + (nI 0 - nI 1) = nI a - nI 1
  rw [show nI 0 - nI 1 = -nI 1 by decide, Int32.sub_eq_add_neg]
theorem m195 (d : Nat) {h : AH} {a : Nat} {y : YS} (my : MY h a y) (p1 p2 : Option Value) : E d 195 0 [some (.ref a), p1, p2] [] h = some (some (.int (nI (sts y))), h) := by
  have ok := my.2.2
  obtain ⟨⟨z0, z1, z2, z3, z4, z5, z6, z7, z8, r1, r2, r3, r4, r5, r6, r7, r8⟩, ⟨vc, vg, vn, vt, vz, vK, vA, vU, vF, vM, vW, vC, vP⟩, ok⟩ := my
  obtain ⟨⟨o2, o3⟩, o6, on, og, oc⟩ := id ok
  have lg : ∀ m i v, i + m = Yg y → E d 195 4 [some (.ref a), some (.int (nI v)), some (.int (nI i))] [] h = E d 195 22 [some (.ref a), some (.int (nI (itr (fun _ v => v * ((Yc y + 1) * (Yc y + 1))) m i v))), some (.int (nI (Yg y)))] [] h := by
    intro m
    induction m with
    | zero =>
      intro i v hi
      have hi' : i = Yg y := hi
      subst hi'
      rw [s195_4, itr_0]
      simp (disch := omega) only [s195_5, s195_6, s195_7, ↓reduceIte, Option.bind_some, Option.toList_some, Option.toList_none, List.cons_append, List.nil_append, if_true, if_false, true_or, or_true, true_and, and_true, not_true_eq_false, not_false_eq_true, Nat.reduceLT, Nat.reduceLeDiff, Nat.reduceEqDiff, Nat.reduceAdd, Nat.reduceMul, Nat.reduceSub, Nat.reducePow, Nat.reduceMod, Nat.reduceDiv, l0, l1, l2, l3, l4, l5, l6, l7, l8, l9, l10, l11, l12, l13, l14, l15, l16, l20, l31, l32, l36, l40, l48, l57, l59, l63, l64, l97, l99, l100, l101, l122, l127, l128, l250, l255, l262143, l262144, l30000, l100000, l12345, l1024, l4095, nI_eqs, nI_les, nI_lts, qI_eq, qI_eqn, nI_eqq, qI_lts, nI_ltp, nI_lep, qI_les, nI_add, nI_mul, qI_add, qI_s, qI_def, nI_clamps, bI_z, bI_o, bI_01, n01, n11, rf_some, rf_none, m1, m1n, bft, z0, vg, Nat.le_refl]
    | succ m ih =>
      intro i v hi
      have hl : ¬ Yg y ≤ i := by omega
      rw [s195_4, itr_s, ← ih (i + 1) _ (by omega)]
      simp (disch := omega) only [s195_5, s195_6, s195_7, s195_8, s195_9, s195_10, s195_11, s195_12, s195_13, s195_14, s195_15, s195_16, s195_17, s195_18, s195_19, s195_20, s195_21, ↓reduceIte, Option.bind_some, Option.toList_some, Option.toList_none, List.cons_append, List.nil_append, if_true, if_false, true_or, or_true, true_and, and_true, not_true_eq_false, not_false_eq_true, Nat.reduceLT, Nat.reduceLeDiff, Nat.reduceEqDiff, Nat.reduceAdd, Nat.reduceMul, Nat.reduceSub, Nat.reducePow, Nat.reduceMod, Nat.reduceDiv, l0, l1, l2, l3, l4, l5, l6, l7, l8, l9, l10, l11, l12, l13, l14, l15, l16, l20, l31, l32, l36, l40, l48, l57, l59, l63, l64, l97, l99, l100, l101, l122, l127, l128, l250, l255, l262143, l262144, l30000, l100000, l12345, l1024, l4095, nI_eqs, nI_les, nI_lts, qI_eq, qI_eqn, nI_eqq, qI_lts, nI_ltp, nI_lep, qI_les, nI_add, nI_mul, qI_add, qI_s, qI_def, nI_clamps, bI_z, bI_o, bI_01, n01, n11, rf_some, rf_none, m1, m1n, bft, z0, vg, vc, hl]
  have ln : ∀ m i v, i + m = Yn y → E d 195 24 [some (.ref a), some (.int (nI v)), some (.int (nI i))] [] h = some (some (.int (nI (itr (fun _ v => v * (Yg y + 1)) m i v))), h) := by
    intro m
    induction m with
    | zero =>
      intro i v hi
      have hi' : i = Yn y := hi
      subst hi'
      rw [s195_24, itr_0]
      simp (disch := omega) only [s195_25, s195_26, s195_27, s195_37, s195_38, ↓reduceIte, Option.bind_some, Option.toList_some, Option.toList_none, List.cons_append, List.nil_append, if_true, if_false, true_or, or_true, true_and, and_true, not_true_eq_false, not_false_eq_true, Nat.reduceLT, Nat.reduceLeDiff, Nat.reduceEqDiff, Nat.reduceAdd, Nat.reduceMul, Nat.reduceSub, Nat.reducePow, Nat.reduceMod, Nat.reduceDiv, l0, l1, l2, l3, l4, l5, l6, l7, l8, l9, l10, l11, l12, l13, l14, l15, l16, l20, l31, l32, l36, l40, l48, l57, l59, l63, l64, l97, l99, l100, l101, l122, l127, l128, l250, l255, l262143, l262144, l30000, l100000, l12345, l1024, l4095, nI_eqs, nI_les, nI_lts, qI_eq, qI_eqn, nI_eqq, qI_lts, nI_ltp, nI_lep, qI_les, nI_add, nI_mul, qI_add, qI_s, qI_def, nI_clamps, bI_z, bI_o, bI_01, n01, n11, rf_some, rf_none, m1, m1n, bft, z0, vn, Nat.le_refl]
    | succ m ih =>
      intro i v hi
      have hl : ¬ Yn y ≤ i := by omega
      rw [s195_24, itr_s, ← ih (i + 1) _ (by omega)]
      simp (disch := omega) only [s195_25, s195_26, s195_27, s195_28, s195_29, s195_30, s195_31, s195_32, s195_33, s195_34, s195_35, s195_36, ↓reduceIte, Option.bind_some, Option.toList_some, Option.toList_none, List.cons_append, List.nil_append, if_true, if_false, true_or, or_true, true_and, and_true, not_true_eq_false, not_false_eq_true, Nat.reduceLT, Nat.reduceLeDiff, Nat.reduceEqDiff, Nat.reduceAdd, Nat.reduceMul, Nat.reduceSub, Nat.reducePow, Nat.reduceMod, Nat.reduceDiv, l0, l1, l2, l3, l4, l5, l6, l7, l8, l9, l10, l11, l12, l13, l14, l15, l16, l20, l31, l32, l36, l40, l48, l57, l59, l63, l64, l97, l99, l100, l101, l122, l127, l128, l250, l255, l262143, l262144, l30000, l100000, l12345, l1024, l4095, nI_eqs, nI_les, nI_lts, qI_eq, qI_eqn, nI_eqq, qI_lts, nI_ltp, nI_lep, qI_les, nI_add, nI_mul, qI_add, qI_s, qI_def, nI_clamps, bI_z, bI_o, bI_01, n01, n11, rf_some, rf_none, m1, m1n, bft, z0, vn, vg, hl]
  have e1 := lg (Yg y) 0 1 (by omega)
  have e2 := ln (Yn y) 0 (stM (Yc y) (Yg y)) (by omega)
  rw [s195_0]
  simp (disch := omega) only [s195_1, s195_2, s195_3, ↓reduceIte, Option.bind_some, Option.toList_some, Option.toList_none, List.cons_append, List.nil_append, if_true, if_false, true_or, or_true, true_and, and_true, not_true_eq_false, not_false_eq_true, Nat.reduceLT, Nat.reduceLeDiff, Nat.reduceEqDiff, Nat.reduceAdd, Nat.reduceMul, Nat.reduceSub, Nat.reducePow, Nat.reduceMod, Nat.reduceDiv, l0, l1, l2, l3, l4, l5, l6, l7, l8, l9, l10, l11, l12, l13, l14, l15, l16, l20, l31, l32, l36, l40, l48, l57, l59, l63, l64, l97, l99, l100, l101, l122, l127, l128, l250, l255, l262143, l262144, l30000, l100000, l12345, l1024, l4095, nI_eqs, nI_les, nI_lts, qI_eq, qI_eqn, nI_eqq, qI_lts, nI_ltp, nI_lep, qI_les, nI_add, nI_mul, qI_add, qI_s, qI_def, nI_clamps, bI_z, bI_o, bI_01, n01, n11, rf_some, rf_none, m1, m1n, bft]
  rw [e1]
  simp (disch := omega) only [s195_22, s195_23, ↓reduceIte, Option.bind_some, Option.toList_some, Option.toList_none, List.cons_append, List.nil_append, if_true, if_false, true_or, or_true, true_and, and_true, not_true_eq_false, not_false_eq_true, Nat.reduceLT, Nat.reduceLeDiff, Nat.reduceEqDiff, Nat.reduceAdd, Nat.reduceMul, Nat.reduceSub, Nat.reducePow, Nat.reduceMod, Nat.reduceDiv, l0, l1, l2, l3, l4, l5, l6, l7, l8, l9, l10, l11, l12, l13, l14, l15, l16, l20, l31, l32, l36, l40, l48, l57, l59, l63, l64, l97, l99, l100, l101, l122, l127, l128, l250, l255, l262143, l262144, l30000, l100000, l12345, l1024, l4095, nI_eqs, nI_les, nI_lts, qI_eq, qI_eqn, nI_eqq, qI_lts, nI_ltp, nI_lep, qI_les, nI_add, nI_mul, qI_add, qI_s, qI_def, nI_clamps, bI_z, bI_o, bI_01, n01, n11, rf_some, rf_none, m1, m1n, bft]
  exact e2
theorem m196 (d : Nat) {h : AH} {a : Nat} {y : YS} (my : MY h a y) (p1 p2 : Option Value) : E d 196 0 [some (.ref a), p1, p2] [] h = some (some (.int (nI (rcY y))), h) := by
  have ok := my.2.2
  obtain ⟨⟨z0, z1, z2, z3, z4, z5, z6, z7, z8, r1, r2, r3, r4, r5, r6, r7, r8⟩, ⟨vc, vg, vn, vt, vz, vK, vA, vU, vF, vM, vW, vC, vP⟩, ok⟩ := my
  obtain ⟨⟨o2, o3⟩, o6, on, og, oc⟩ := id ok
  have lg : ∀ m i v, i + m = Yg y → E d 196 4 [some (.ref a), some (.int (nI v)), some (.int (nI i))] [] h = E d 196 36 [some (.ref a), some (.int (nI (itr (fun g v => (v * (Yc y + 1) + YF y g) * (Yc y + 1) + YM y g) m i v))), some (.int (nI (Yg y)))] [] h := by
    intro m
    induction m with
    | zero =>
      intro i v hi
      have hi' : i = Yg y := hi
      subst hi'
      rw [s196_4, itr_0]
      simp (disch := omega) only [s196_5, s196_6, s196_7, ↓reduceIte, Option.bind_some, Option.toList_some, Option.toList_none, List.cons_append, List.nil_append, if_true, if_false, true_or, or_true, true_and, and_true, not_true_eq_false, not_false_eq_true, Nat.reduceLT, Nat.reduceLeDiff, Nat.reduceEqDiff, Nat.reduceAdd, Nat.reduceMul, Nat.reduceSub, Nat.reducePow, Nat.reduceMod, Nat.reduceDiv, l0, l1, l2, l3, l4, l5, l6, l7, l8, l9, l10, l11, l12, l13, l14, l15, l16, l20, l31, l32, l36, l40, l48, l57, l59, l63, l64, l97, l99, l100, l101, l122, l127, l128, l250, l255, l262143, l262144, l30000, l100000, l12345, l1024, l4095, nI_eqs, nI_les, nI_lts, qI_eq, qI_eqn, nI_eqq, qI_lts, nI_ltp, nI_lep, qI_les, nI_add, nI_mul, qI_add, qI_s, qI_def, nI_clamps, bI_z, bI_o, bI_01, n01, n11, rf_some, rf_none, m1, m1n, bft, z0, vg, Nat.le_refl]
    | succ m ih =>
      intro i v hi
      have hl : ¬ Yg y ≤ i := by omega
      rw [s196_4, itr_s, ← ih (i + 1) _ (by omega)]
      have vF' := vF i (by omega)
      have vM' := vM i (by omega)
      simp (disch := omega) only [s196_5, s196_6, s196_7, s196_8, s196_9, s196_10, s196_11, s196_12, s196_13, s196_14, s196_15, s196_16, s196_17, s196_18, s196_19, s196_20, s196_21, s196_22, s196_23, s196_24, s196_25, s196_26, s196_27, s196_28, s196_29, s196_30, s196_31, s196_32, s196_33, s196_34, s196_35, ↓reduceIte, Option.bind_some, Option.toList_some, Option.toList_none, List.cons_append, List.nil_append, if_true, if_false, true_or, or_true, true_and, and_true, not_true_eq_false, not_false_eq_true, Nat.reduceLT, Nat.reduceLeDiff, Nat.reduceEqDiff, Nat.reduceAdd, Nat.reduceMul, Nat.reduceSub, Nat.reducePow, Nat.reduceMod, Nat.reduceDiv, l0, l1, l2, l3, l4, l5, l6, l7, l8, l9, l10, l11, l12, l13, l14, l15, l16, l20, l31, l32, l36, l40, l48, l57, l59, l63, l64, l97, l99, l100, l101, l122, l127, l128, l250, l255, l262143, l262144, l30000, l100000, l12345, l1024, l4095, nI_eqs, nI_les, nI_lts, qI_eq, qI_eqn, nI_eqq, qI_lts, nI_ltp, nI_lep, qI_les, nI_add, nI_mul, qI_add, qI_s, qI_def, nI_clamps, bI_z, bI_o, bI_01, n01, n11, rf_some, rf_none, m1, m1n, bft, z0, vg, vc, r3, r4, gI z3, gI z4, vF', vM', adq1, hl]
  have ln : ∀ m i v, i + m = Yn y → E d 196 38 [some (.ref a), some (.int (nI v)), some (.int (nI i))] [] h = some (some (.int (nI (itr (fun k v => v * (Yg y + 1) + YP y k) m i v))), h) := by
    intro m
    induction m with
    | zero =>
      intro i v hi
      have hi' : i = Yn y := hi
      subst hi'
      rw [s196_38, itr_0]
      simp (disch := omega) only [s196_39, s196_40, s196_41, s196_56, s196_57, ↓reduceIte, Option.bind_some, Option.toList_some, Option.toList_none, List.cons_append, List.nil_append, if_true, if_false, true_or, or_true, true_and, and_true, not_true_eq_false, not_false_eq_true, Nat.reduceLT, Nat.reduceLeDiff, Nat.reduceEqDiff, Nat.reduceAdd, Nat.reduceMul, Nat.reduceSub, Nat.reducePow, Nat.reduceMod, Nat.reduceDiv, l0, l1, l2, l3, l4, l5, l6, l7, l8, l9, l10, l11, l12, l13, l14, l15, l16, l20, l31, l32, l36, l40, l48, l57, l59, l63, l64, l97, l99, l100, l101, l122, l127, l128, l250, l255, l262143, l262144, l30000, l100000, l12345, l1024, l4095, nI_eqs, nI_les, nI_lts, qI_eq, qI_eqn, nI_eqq, qI_lts, nI_ltp, nI_lep, qI_les, nI_add, nI_mul, qI_add, qI_s, qI_def, nI_clamps, bI_z, bI_o, bI_01, n01, n11, rf_some, rf_none, m1, m1n, bft, z0, vn, Nat.le_refl]
    | succ m ih =>
      intro i v hi
      have hl : ¬ Yn y ≤ i := by omega
      have vP' := vP i (by omega)
      rw [s196_38, itr_s, ← ih (i + 1) _ (by omega)]
      simp (disch := omega) only [s196_39, s196_40, s196_41, s196_42, s196_43, s196_44, s196_45, s196_46, s196_47, s196_48, s196_49, s196_50, s196_51, s196_52, s196_53, s196_54, s196_55, ↓reduceIte, Option.bind_some, Option.toList_some, Option.toList_none, List.cons_append, List.nil_append, if_true, if_false, true_or, or_true, true_and, and_true, not_true_eq_false, not_false_eq_true, Nat.reduceLT, Nat.reduceLeDiff, Nat.reduceEqDiff, Nat.reduceAdd, Nat.reduceMul, Nat.reduceSub, Nat.reducePow, Nat.reduceMod, Nat.reduceDiv, l0, l1, l2, l3, l4, l5, l6, l7, l8, l9, l10, l11, l12, l13, l14, l15, l16, l20, l31, l32, l36, l40, l48, l57, l59, l63, l64, l97, l99, l100, l101, l122, l127, l128, l250, l255, l262143, l262144, l30000, l100000, l12345, l1024, l4095, nI_eqs, nI_les, nI_lts, qI_eq, qI_eqn, nI_eqq, qI_lts, nI_ltp, nI_lep, qI_les, nI_add, nI_mul, qI_add, qI_s, qI_def, nI_clamps, bI_z, bI_o, bI_01, n01, n11, rf_some, rf_none, m1, m1n, bft, z0, vn, vg, r8, gI z8, vP', hl]
  have e1 := lg (Yg y) 0 0 (by omega)
  have e2 := ln (Yn y) 0 (rhM (Yc y) (YF y) (YM y) (Yg y)) (by omega)
  rw [s196_0]
  simp (disch := omega) only [s196_1, s196_2, s196_3, ↓reduceIte, Option.bind_some, Option.toList_some, Option.toList_none, List.cons_append, List.nil_append, if_true, if_false, true_or, or_true, true_and, and_true, not_true_eq_false, not_false_eq_true, Nat.reduceLT, Nat.reduceLeDiff, Nat.reduceEqDiff, Nat.reduceAdd, Nat.reduceMul, Nat.reduceSub, Nat.reducePow, Nat.reduceMod, Nat.reduceDiv, l0, l1, l2, l3, l4, l5, l6, l7, l8, l9, l10, l11, l12, l13, l14, l15, l16, l20, l31, l32, l36, l40, l48, l57, l59, l63, l64, l97, l99, l100, l101, l122, l127, l128, l250, l255, l262143, l262144, l30000, l100000, l12345, l1024, l4095, nI_eqs, nI_les, nI_lts, qI_eq, qI_eqn, nI_eqq, qI_lts, nI_ltp, nI_lep, qI_les, nI_add, nI_mul, qI_add, qI_s, qI_def, nI_clamps, bI_z, bI_o, bI_01, n01, n11, rf_some, rf_none, m1, m1n, bft]
  rw [e1]
  simp (disch := omega) only [s196_36, s196_37, ↓reduceIte, Option.bind_some, Option.toList_some, Option.toList_none, List.cons_append, List.nil_append, if_true, if_false, true_or, or_true, true_and, and_true, not_true_eq_false, not_false_eq_true, Nat.reduceLT, Nat.reduceLeDiff, Nat.reduceEqDiff, Nat.reduceAdd, Nat.reduceMul, Nat.reduceSub, Nat.reducePow, Nat.reduceMod, Nat.reduceDiv, l0, l1, l2, l3, l4, l5, l6, l7, l8, l9, l10, l11, l12, l13, l14, l15, l16, l20, l31, l32, l36, l40, l48, l57, l59, l63, l64, l97, l99, l100, l101, l122, l127, l128, l250, l255, l262143, l262144, l30000, l100000, l12345, l1024, l4095, nI_eqs, nI_les, nI_lts, qI_eq, qI_eqn, nI_eqq, qI_lts, nI_ltp, nI_lep, qI_les, nI_add, nI_mul, qI_add, qI_s, qI_def, nI_clamps, bI_z, bI_o, bI_01, n01, n11, rf_some, rf_none, m1, m1n, bft]
  exact e2
theorem dv_e {v n a : Nat} (h : a < n) : (v * n + a) / n = v := by
  rw [Nat.mul_comm, Nat.mul_add_div (by omega), Nat.div_eq_of_lt h]; rfl
theorem m197 (d : Nat) {h : AH} {a s : Nat} {y Y : YS} (my : MY h a Y) (ok0 : YOK y) (h3 : Yg y ≤ 3) (n3 : Yn y ≤ 3) (st : ST y Y) (v : VN y s) (p2 p3 : Option Value) : ∃ h', E d 197 0 [some (.ref a), some (.int (nI (rho y s))), p2, p3] [] h = some (none, h') ∧ MY h' a (beN Y s) ∧ Fr0 (fun b => b = a + 19 ∨ b = a + 20 ∨ b = a + 24) h h' := by
  have okn := my.2.2.be h3 n3 st v
  have ms := my.1
  have mv := my.2.1
  obtain ⟨s1, s2, s3, s4, s5, s6, s7⟩ := st
  obtain ⟨⟨z0, z1, z2, z3, z4, z5, z6, z7, z8, r1, r2, r3, r4, r5, r6, r7, r8⟩, ⟨vc, vg, vn, vt, vz, vK, vA, vU, vF, vM, vW, vC, vP⟩, ok⟩ := my
  obtain ⟨⟨o2, o3⟩, o6, on, og, oc⟩ := id ok0
  rw [s1] at vc
  rw [s2] at vg
  rw [s3] at vn
  have hP : ∀ k, k < Yn y → plc s k ≤ Yg y := fun k hk => (v.2.2 k (by omega)).1 hk
  have hM : ∀ g, g < Yg y → (uq (dg s g)).1 ≤ Yc y ∧ (uq (dg s g)).2 ≤ Yc y := fun g hg => (v.2.1 g (by omega)).1 hg
  have all := rho_lt h3 n3 v
  have sl := (sts_le ok0 h3 n3).1
  have lP : ∀ j h1, j ≤ Yn y → rhP (Yg y) (plc s) j (rhM (Yc y) (fun u => (uq (dg s u)).1) (fun u => (uq (dg s u)).2) (Yg y)) < 2 ^ 31 → Fr0 (fun b => b = a + 19 ∨ b = a + 20 ∨ b = a + 24) h h1 → (∀ k, j ≤ k → k < Yn y → hI h1 (a + 24) k = nI (plc s k)) → ∃ h2, E d 197 7 [some (.ref a), some (.int (nI (rho y s))), some (.int (nI (rhP (Yg y) (plc s) j (rhM (Yc y) (fun u => (uq (dg s u)).1) (fun u => (uq (dg s u)).2) (Yg y))))), some (.int (qI j))] [] h1 = E d 197 28 [some (.ref a), some (.int (nI (rho y s))), some (.int (nI (rhM (Yc y) (fun u => (uq (dg s u)).1) (fun u => (uq (dg s u)).2) (Yg y)))), some (.int (qI 0))] [] h2 ∧ Fr0 (fun b => b = a + 19 ∨ b = a + 20 ∨ b = a + 24) h h2 ∧ ∀ k, k < Yn y → hI h2 (a + 24) k = nI (plc s k) := by
    intro j
    induction j with
    | zero =>
      intro h1 _ _ f1 g1
      refine ⟨h1, ?_, f1, fun k hk => g1 k (Nat.zero_le _) hk⟩
      have q0 : qI 0 < nI 0 := by decide
      rw [s197_7]
      simp (disch := omega) only [s197_8, ↓reduceIte, Option.bind_some, Option.toList_some, Option.toList_none, List.cons_append, List.nil_append, if_true, if_false, true_or, or_true, true_and, and_true, not_true_eq_false, not_false_eq_true, Nat.reduceLT, Nat.reduceLeDiff, Nat.reduceEqDiff, Nat.reduceAdd, Nat.reduceMul, Nat.reduceSub, Nat.reducePow, Nat.reduceMod, Nat.reduceDiv, l0, l1, l2, l3, l4, l5, l6, l7, l8, l9, l10, l11, l12, l13, l14, l15, l16, l20, l31, l32, l36, l40, l48, l57, l59, l63, l64, l97, l99, l100, l101, l122, l127, l128, l250, l255, l262143, l262144, l30000, l100000, l12345, l1024, l4095, nI_eqs, nI_les, nI_lts, qI_eq, qI_eqn, nI_eqq, qI_lts, nI_ltp, nI_lep, qI_les, nI_add, nI_mul, qI_add, qI_s, qI_def, nI_clamps, bI_z, bI_o, bI_01, n01, n11, rf_some, rf_none, m1, m1n, bft, q0]
      rfl
    | succ j ih =>
      intro h1 hj hl f1 g1
      have hp := hP j (by omega)
      have e1 := rhP_s (Yg y) (plc s) j (rhM (Yc y) (fun u => (uq (dg s u)).1) (fun u => (uq (dg s u)).2) (Yg y))
      rw [e1] at hl ⊢
      generalize hv : rhP (Yg y) (plc s) j (rhM (Yc y) (fun u => (uq (dg s u)).1) (fun u => (uq (dg s u)).2) (Yg y)) = V at *
      have f2 : Fr0 (fun b => b = a + 19 ∨ b = a + 20 ∨ b = a + 24) h1 (stI h1 (a + 24) j (nI (plc s j))) := Fr0.stI (A := fun b => b = a + 19 ∨ b = a + 20 ∨ b = a + 24) h1 (Or.inr (Or.inr rfl)) _ _
      have V1 : V ≤ V * (Yg y + 1) := Nat.le_mul_of_pos_right V (by omega)
      obtain ⟨h2, e2, f3, g3⟩ := ih (stI h1 (a + 24) j (nI (plc s j))) (by omega) (by omega) (f1.trans f2) (fun k hk1 hk2 => by
        rw [hI_stI]
        by_cases w : k = j
        · rw [if_pos ⟨rfl, w⟩, w]
        · rw [if_neg (fun q => w q.2)]; exact g1 k (by omega) hk2)
      refine ⟨h2, ?_, f3, g3⟩
      rw [← e2]
      have c0 : hS h1 a = some (105, 0) := by rw [f1.2.2.2.2.1]; exact z0
      have c1 : hR h1 a 19 = some (a + 24) := by rw [f1.2.2.2.2.2.1]; exact r8
      have c2 : hS h1 (a + 24) = some (0, 6) := by rw [f1.2.2.2.2.1]; exact z8
      have c3 : hI h1 a 10 = nI (Yg y) := by rw [(f1.2.2.2.2.2.2 a (fun w => by omega) 10).1]; exact vg
      have c4 : hI (stI h1 (a + 24) j (nI (plc s j))) a 10 = nI (Yg y) := by rw [hI_stI, if_neg (fun w => by omega)]; exact c3
      have dv : nI (V * (Yg y + 1) + plc s j) / nI (Yg y + 1) = nI V := by rw [nI_div (by omega) (by omega), dv_e (by omega)]
      have rm : nI (V * (Yg y + 1) + plc s j) - nI (V * (Yg y + 1)) = nI (plc s j) := by rw [nI_sub (by omega)]; congr 1; omega
      have n0 : ¬ nI j < nI 0 := fun q => by rw [nI_lts (by omega) (by decide)] at q; omega
      have nz : (nI (Yg y + 1) = nI 0) = False := by rw [nI_eqs (by omega) (by decide)]; exact eq_false (by omega)
      rw [qI_s, s197_7]
      simp (disch := omega) only [s197_8, s197_9, s197_10, s197_11, s197_12, s197_13, s197_14, s197_15, s197_16, s197_17, s197_18, s197_19, s197_20, s197_21, s197_22, s197_23, s197_24, s197_25, s197_26, s197_27, ↓reduceIte, Option.bind_some, Option.toList_some, Option.toList_none, List.cons_append, List.nil_append, if_true, if_false, true_or, or_true, true_and, and_true, not_true_eq_false, not_false_eq_true, Nat.reduceLT, Nat.reduceLeDiff, Nat.reduceEqDiff, Nat.reduceAdd, Nat.reduceMul, Nat.reduceSub, Nat.reducePow, Nat.reduceMod, Nat.reduceDiv, l0, l1, l2, l3, l4, l5, l6, l7, l8, l9, l10, l11, l12, l13, l14, l15, l16, l20, l31, l32, l36, l40, l48, l57, l59, l63, l64, l97, l99, l100, l101, l122, l127, l128, l250, l255, l262143, l262144, l30000, l100000, l12345, l1024, l4095, nI_add, nI_mul, rf_some, nI_clamps, m1, m1n, hS_stI, c0, c1, gA c2, c3, c4, dv, rm, n0, nz, dcq]
  have lM : ∀ j h1, j ≤ Yg y → rhM (Yc y) (fun u => (uq (dg s u)).1) (fun u => (uq (dg s u)).2) j < 2 ^ 31 → Fr0 (fun b => b = a + 19 ∨ b = a + 20 ∨ b = a + 24) h h1 → (∀ g, j ≤ g → g < Yg y → hI h1 (a + 19) g = qI (uq (dg s g)).1 ∧ hI h1 (a + 20) g = qI (uq (dg s g)).2) → (∀ k, k < Yn y → hI h1 (a + 24) k = nI (plc s k)) → ∃ h2, E d 197 33 [some (.ref a), some (.int (nI (rho y s))), some (.int (nI (rhM (Yc y) (fun u => (uq (dg s u)).1) (fun u => (uq (dg s u)).2) j))), some (.int (qI j))] [] h1 = some (none, h2) ∧ Fr0 (fun b => b = a + 19 ∨ b = a + 20 ∨ b = a + 24) h h2 ∧ (∀ g, g < Yg y → hI h2 (a + 19) g = qI (uq (dg s g)).1 ∧ hI h2 (a + 20) g = qI (uq (dg s g)).2) ∧ ∀ k, k < Yn y → hI h2 (a + 24) k = nI (plc s k) := by
    intro j
    induction j with
    | zero =>
      intro h1 _ _ f1 g1 p1
      refine ⟨h1, ?_, f1, fun g hg => g1 g (Nat.zero_le _) hg, p1⟩
      have q0 : qI 0 < nI 0 := by decide
      rw [s197_33]
      simp (disch := omega) only [s197_34, s197_75, ↓reduceIte, Option.bind_some, Option.toList_some, Option.toList_none, List.cons_append, List.nil_append, if_true, if_false, true_or, or_true, true_and, and_true, not_true_eq_false, not_false_eq_true, Nat.reduceLT, Nat.reduceLeDiff, Nat.reduceEqDiff, Nat.reduceAdd, Nat.reduceMul, Nat.reduceSub, Nat.reducePow, Nat.reduceMod, Nat.reduceDiv, l0, l1, l2, l3, l4, l5, l6, l7, l8, l9, l10, l11, l12, l13, l14, l15, l16, l20, l31, l32, l36, l40, l48, l57, l59, l63, l64, l97, l99, l100, l101, l122, l127, l128, l250, l255, l262143, l262144, l30000, l100000, l12345, l1024, l4095, nI_eqs, nI_les, nI_lts, qI_eq, qI_eqn, nI_eqq, qI_lts, nI_ltp, nI_lep, qI_les, nI_add, nI_mul, qI_add, qI_s, qI_def, nI_clamps, bI_z, bI_o, bI_01, n01, n11, rf_some, rf_none, m1, m1n, bft, q0]
    | succ j ih =>
      intro h1 hj hl f1 g1 p1
      obtain ⟨hm1, hm2⟩ := hM j (by omega)
      have e1 := rhM_s (Yc y) (fun u => (uq (dg s u)).1) (fun u => (uq (dg s u)).2) j
      rw [e1] at hl ⊢
      generalize hv : rhM (Yc y) (fun u => (uq (dg s u)).1) (fun u => (uq (dg s u)).2) j = V at *
      generalize hF : (uq (dg s j)).1 = F at *
      generalize hS' : (uq (dg s j)).2 = M at *
      have V0 : V * (Yc y + 1) + F ≤ (V * (Yc y + 1) + F) * (Yc y + 1) := Nat.le_mul_of_pos_right _ (by omega)
      have V1 : V ≤ V * (Yc y + 1) := Nat.le_mul_of_pos_right V (by omega)
      have f2 : Fr0 (fun b => b = a + 19 ∨ b = a + 20 ∨ b = a + 24) h1 (stI h1 (a + 20) j (qI M)) := Fr0.stI (A := fun b => b = a + 19 ∨ b = a + 20 ∨ b = a + 24) h1 (Or.inr (Or.inl rfl)) _ _
      have f4 : Fr0 (fun b => b = a + 19 ∨ b = a + 20 ∨ b = a + 24) (stI h1 (a + 20) j (qI M)) (stI (stI h1 (a + 20) j (qI M)) (a + 19) j (qI F)) := Fr0.stI (A := fun b => b = a + 19 ∨ b = a + 20 ∨ b = a + 24) _ (Or.inl rfl) _ _
      obtain ⟨h2, e2, f3, g3⟩ := ih (stI (stI h1 (a + 20) j (qI M)) (a + 19) j (qI F)) (by omega) (by omega) ((f1.trans f2).trans f4) (fun g hg1 hg2 => by
        by_cases w : g = j
        · rw [w, hF, hS']
          refine ⟨by rw [hI_stI, if_pos ⟨rfl, rfl⟩], ?_⟩
          rw [hI_stI, if_neg (fun w => by omega), hI_stI, if_pos ⟨rfl, rfl⟩]
        · obtain ⟨q1, q2⟩ := g1 g (by omega) hg2
          refine ⟨?_, ?_⟩
          · rw [hI_stI, if_neg (fun q => w q.2), hI_stI, if_neg (fun w => by omega)]; exact q1
          · rw [hI_stI, if_neg (fun w => by omega), hI_stI, if_neg (fun q => w q.2)]; exact q2) (fun k hk => by
        rw [hI_stI, if_neg (fun w => by omega), hI_stI, if_neg (fun w => by omega)]; exact p1 k hk)
      refine ⟨h2, ?_, f3, g3⟩
      rw [← e2]
      have c0 : hS h1 a = some (105, 0) := by rw [f1.2.2.2.2.1]; exact z0
      have c1 : hR h1 a 14 = some (a + 20) := by rw [f1.2.2.2.2.2.1]; exact r4
      have c2 : hS h1 (a + 20) = some (0, 6) := by rw [f1.2.2.2.2.1]; exact z4
      have c3 : hI h1 a 9 = nI (Yc y) := by rw [(f1.2.2.2.2.2.2 a (fun w => by omega) 9).1]; exact vc
      have c4 : hI (stI h1 (a + 20) j (qI M)) a 9 = nI (Yc y) := by rw [hI_stI, if_neg (fun w => by omega)]; exact c3
      have c5 : hR h1 a 13 = some (a + 19) := by rw [f1.2.2.2.2.2.1]; exact r3
      have c6 : hS h1 (a + 19) = some (0, 6) := by rw [f1.2.2.2.2.1]; exact z3
      have c7 : hI (stI (stI h1 (a + 20) j (qI M)) (a + 19) j (qI F)) a 9 = nI (Yc y) := by rw [hI_stI, if_neg (fun w => by omega)]; exact c4
      have c8 : hS (stI h1 (a + 20) j (qI M)) (a + 19) = some (0, 6) := c6
      have dv : nI ((V * (Yc y + 1) + F) * (Yc y + 1) + M) / nI (Yc y + 1) = nI (V * (Yc y + 1) + F) := by rw [nI_div (by omega) (by omega), dv_e (by omega)]
      have rm : nI ((V * (Yc y + 1) + F) * (Yc y + 1) + M) - nI ((V * (Yc y + 1) + F) * (Yc y + 1)) = nI M := by rw [nI_sub (by omega)]; congr 1; omega
      have dv2 : nI (V * (Yc y + 1) + F) / nI (Yc y + 1) = nI V := by rw [nI_div (by omega) (by omega), dv_e (by omega)]
      have rm2 : nI (V * (Yc y + 1) + F) - nI (V * (Yc y + 1)) = nI F := by rw [nI_sub (by omega)]; congr 1; omega
      have n0 : ¬ nI j < nI 0 := fun q => by rw [nI_lts (by omega) (by decide)] at q; omega
      have nz : (nI (Yc y + 1) = nI 0) = False := by rw [nI_eqs (by omega) (by decide)]; exact eq_false (by omega)
      rw [qI_s, s197_33]
      simp (disch := omega) only [s197_34, s197_35, s197_36, s197_37, s197_38, s197_39, s197_40, s197_41, s197_42, s197_43, s197_44, s197_45, s197_46, s197_47, s197_48, s197_49, s197_50, s197_51, s197_52, s197_53, s197_54, s197_55, s197_56, s197_57, s197_58, s197_59, s197_60, s197_61, s197_62, s197_63, s197_64, s197_65, s197_66, s197_67, s197_68, s197_69, s197_70, s197_71, s197_72, s197_73, s197_74, ↓reduceIte, Option.bind_some, Option.toList_some, Option.toList_none, List.cons_append, List.nil_append, if_true, if_false, true_or, or_true, true_and, and_true, not_true_eq_false, not_false_eq_true, Nat.reduceLT, Nat.reduceLeDiff, Nat.reduceEqDiff, Nat.reduceAdd, Nat.reduceMul, Nat.reduceSub, Nat.reducePow, Nat.reduceMod, Nat.reduceDiv, l0, l1, l2, l3, l4, l5, l6, l7, l8, l9, l10, l11, l12, l13, l14, l15, l16, l20, l31, l32, l36, l40, l48, l57, l59, l63, l64, l97, l99, l100, l101, l122, l127, l128, l250, l255, l262143, l262144, l30000, l100000, l12345, l1024, l4095, nI_add, nI_mul, rf_some, nI_clamps, m1, m1n, qI_def, hS_stI, hR_stI, c0, c1, gA c2, c3, c4, c5, gA c6, gA c8, c7, dv, rm, dv2, rm2, n0, nz, dcq]
  have rb : rho y s < 2 ^ 31 := by omega
  obtain ⟨h1, e1, f1, g1⟩ := lP (Yn y) h (Nat.le_refl _) rb (Fr0.refl _ _) (fun k h1 h2 => by omega)
  obtain ⟨h2, e2, f2, g2, p2'⟩ := lM (Yg y) h1 (Nat.le_refl _) (by
    have h5 := rhM_lt (c := Yc y) (F := fun u => (uq (dg s u)).1) (M := fun u => (uq (dg s u)).2) (Yg y) hM
    have h6 : stM (Yc y) (Yg y) ≤ sts y := by
      have : ∀ K b, b ≤ stQ (Yg y) K b := fun K b => by
        induction K with
        | zero => exact Nat.le_refl _
        | succ K ih => rw [stQ_s]; exact Nat.le_trans ih (Nat.le_mul_of_pos_right _ (by omega))
      exact this _ _
    omega) f1 (fun g h1 h2 => by omega) g1
  refine ⟨h2, ?_, ⟨ms.of f2, ?_, okn⟩, f2⟩
  · rw [← e2, s197_0]
    have er : rhP (Yg y) (plc s) (Yn y) (rhM (Yc y) (fun u => (uq (dg s u)).1) (fun u => (uq (dg s u)).2) (Yg y)) = rho y s := rfl
    rw [er] at e1
    have c0 : hS h1 a = some (105, 0) := by rw [f1.2.2.2.2.1]; exact z0
    have c3 : hI h1 a 10 = nI (Yg y) := by rw [(f1.2.2.2.2.2.2 a (fun w => by omega) 10).1]; exact vg
    simp (disch := omega) only [s197_1, s197_2, s197_3, s197_4, s197_5, s197_6, ↓reduceIte, Option.bind_some, Option.toList_some, Option.toList_none, List.cons_append, List.nil_append, if_true, if_false, true_or, or_true, true_and, and_true, not_true_eq_false, not_false_eq_true, Nat.reduceLT, Nat.reduceLeDiff, Nat.reduceEqDiff, Nat.reduceAdd, Nat.reduceMul, Nat.reduceSub, Nat.reducePow, Nat.reduceMod, Nat.reduceDiv, l0, l1, l2, l3, l4, l5, l6, l7, l8, l9, l10, l11, l12, l13, l14, l15, l16, l20, l31, l32, l36, l40, l48, l57, l59, l63, l64, l97, l99, l100, l101, l122, l127, l128, l250, l255, l262143, l262144, l30000, l100000, l12345, l1024, l4095, nI_eqs, nI_les, nI_lts, qI_eq, qI_eqn, nI_eqq, qI_lts, nI_ltp, nI_lep, qI_les, nI_add, nI_mul, qI_add, qI_s, qI_def, nI_clamps, bI_z, bI_o, bI_01, n01, n11, rf_some, rf_none, m1, m1n, bft, z0, vn]
    rw [e1]
    simp (disch := omega) only [s197_28, s197_29, s197_30, s197_31, s197_32, ↓reduceIte, Option.bind_some, Option.toList_some, Option.toList_none, List.cons_append, List.nil_append, if_true, if_false, true_or, or_true, true_and, and_true, not_true_eq_false, not_false_eq_true, Nat.reduceLT, Nat.reduceLeDiff, Nat.reduceEqDiff, Nat.reduceAdd, Nat.reduceMul, Nat.reduceSub, Nat.reducePow, Nat.reduceMod, Nat.reduceDiv, l0, l1, l2, l3, l4, l5, l6, l7, l8, l9, l10, l11, l12, l13, l14, l15, l16, l20, l31, l32, l36, l40, l48, l57, l59, l63, l64, l97, l99, l100, l101, l122, l127, l128, l250, l255, l262143, l262144, l30000, l100000, l12345, l1024, l4095, nI_eqs, nI_les, nI_lts, qI_eq, qI_eqn, nI_eqq, qI_lts, nI_ltp, nI_lep, qI_les, nI_add, nI_mul, qI_add, qI_s, qI_def, nI_clamps, bI_z, bI_o, bI_01, n01, n11, rf_some, rf_none, m1, m1n, bft, c0, c3]
  · obtain ⟨w1, w2, w3, w4, w5, w6, w7, w8, w9, w10, w11, w12, w13⟩ := mv
    have g := fun b (hb : b ≠ a + 19 ∧ b ≠ a + 20 ∧ b ≠ a + 24) j => (f2.2.2.2.2.2.2 b (fun w => by omega) j).1
    refine ⟨?_, ?_, ?_, ?_, ?_, fun j hj => ?_, fun j hj => ?_, fun j hj => ?_, fun j hj => ?_, fun j hj => ?_, fun j hj => ?_, fun j hj => ?_, fun j hj => ?_⟩
    · rw [g a (by omega)]; exact w1
    · rw [g a (by omega)]; exact w2
    · rw [g a (by omega)]; exact w3
    · rw [g a (by omega)]; exact w4
    · rw [g a (by omega)]; exact w5
    · rw [g _ (by omega)]; exact w6 j hj
    · rw [g _ (by omega)]; exact w7 j hj
    · rw [g _ (by omega)]; exact w8 j hj
    · have hj : j < Yg Y := hj
      exact (g2 j (by omega)).1
    · have hj : j < Yg Y := hj
      exact (g2 j (by omega)).2
    · rw [g _ (by omega)]; exact w11 j hj
    · rw [g _ (by omega)]; exact w12 j hj
    · have hj : j < Yn Y := hj
      exact p2' j (by omega)
