/-! STATEMENTS, the developers: cart -/
def atw : List Nat := [97, 116]
def stAt (n : Nat) (b : Nat → Nat) (y : YS) (k : Nat) (t : Nat × Nat × Nat) : (YS × (Nat × Nat × Nat)) ⊕ Nat := if isW b t atw = true then (if inR (nmD b (tkL n b t.2.2)) (Yg y + 1) = true then .inl (sP y k (nmD b (tkL n b t.2.2)).toNatClampNeg, tkL n b (tkL n b t.2.2).2.2) else .inr (tkL n b t.2.2).2.1) else .inl (y, t)
def stCart (n : Nat) (b : Nat → Nat) (y : YS) (t : Nat × Nat × Nat) : (YS × (Nat × Nat × Nat)) ⊕ Nat := if Yn y < 6 then (if inR (nmD b (tkL n b t.2.2)) (Yc y) = true then stAt n b (addC y (nmD b (tkL n b t.2.2)).toNatClampNeg) (Yn y) (tkL n b (tkL n b t.2.2).2.2) else .inr (tkL n b t.2.2).2.1) else .inr t.2.1
theorem PY.at {h : AH} {T Y n : Nat} {b : Nat → Nat} {y : YS} {t : Nat × Nat × Nat} (q : PY h T Y n b y t) {k p : Nat} (hp : p ≤ Yg y) : PY (stI h (Y + 7) k (nI p)) T Y n b (sP y k p) t ∧ FP T Y h (stI h (Y + 7) k (nI p)) := q.yard ⟨q.2.2.2.2.1.1, q.2.2.2.2.1.2.1.P k p, q.2.2.2.2.1.2.2.sP hp⟩ (Fr0.stI _ ⟨by omega, by omega⟩ _ _)
theorem x40b (d : Nat) {h : AH} {T Y n : Nat} {b : Nat → Nat} {y : YS} {t : Nat × Nat × Nat} (q : PY h T Y n b y t) (hw : HX h (hK h 4) atw) {k : Nat} (hk : k < Yn y) (p2 p4 : Option Value) : PR T Y n b h (E (d + 3) 40 23 [some (.ref T), some (.ref Y), p2, some (.int (nI k)), p4] [] h) (stAt n b y k t) := by
  obtain ⟨h1, e1, q1, f1⟩ := q.look (d + 1)
  have c0 := q.1.1
  have c1 := q1.1.1
  obtain ⟨⟨y1, -, -, -, -, -, -, z7, -, -, -, -, -, -, r7⟩, ⟨-, vg, -, -, -, -, -, -, -⟩, ok⟩ := id q1.2.2.2.2.1
  have o6 := ok.2.1
  have o7 := ok.2.2.1
  have e46 := fun d => x46 d q.1 q.2.1 q.2.2.1 hw none
  have e47 := fun d => q1.num d
  unfold stAt
  generalize nmD b (tkL n b t.2.2) = x at *
  cases w : isW b t atw <;> rw [w] at e46
  · rw [if_neg (by decide)]
    refine ⟨h, ?_, q, Fr0.refl _ _⟩
    simp (disch := omega) only [s40_23, s40_24, s40_25, s40_26, s40_27, s40_28, ↓reduceIte, Option.bind_some, Option.toList_some, Option.toList_none, List.cons_append, List.nil_append, if_true, if_false, true_or, or_true, true_and, and_true, not_true_eq_false, not_false_eq_true, Nat.reduceLT, Nat.reduceLeDiff, Nat.reduceEqDiff, Nat.reduceAdd, Nat.reduceMul, Nat.reduceSub, Nat.reducePow, Nat.reduceMod, Nat.reduceDiv, l0, l1, l2, l3, l4, l5, l6, l7, l8, l9, l10, l11, l12, l13, l14, l15, l16, l20, l31, l32, l36, l40, l48, l57, l59, l63, l64, l97, l99, l100, l101, l122, l127, l128, l250, l255, l262143, l262144, l30000, l100000, l12345, l1024, l4095, nI_eqs, nI_les, nI_lts, qI_eq, qI_eqn, nI_eqq, qI_lts, nI_ltp, nI_lep, qI_les, nI_add, nI_mul, qI_add, qI_s, qI_def, nI_clamps, bI_z, bI_o, bI_01, n01, n11, rf_some, rf_none, m1, m1n, bft, c0, e46, bI_f]
  · rw [if_pos rfl]
    rcases inR_cases x (n := Yg y + 1) (by omega) with ⟨j, hj, rfl⟩ | ⟨f, g1, g2⟩ | ⟨f, g1, g2, g3, g4, g5⟩
    · have cj := inR_nI (g := j) (n := Yg y + 1) (by omega) (by omega)
      rw [decide_eq_true hj] at cj
      rw [cj, if_pos rfl, nI_clamp (show j < 2 ^ 31 by omega)]
      have j1 : j ≤ Yg y := by omega
      obtain ⟨q2, f2⟩ := q1.at (k := k) j1
      obtain ⟨h3, e3, q3, f3⟩ := q2.look (d + 1)
      refine ⟨h3, ?_, q3, (f1.trans f2).trans f3⟩
      simp (disch := omega) only [s40_23, s40_24, s40_25, s40_26, s40_29, s40_30, s40_31, s40_32, s40_33, s40_34, s40_35, s40_36, s40_37, s40_38, s40_39, s40_42, s40_43, s40_44, s40_45, s40_46, s40_47, s40_48, s40_49, s40_50, ↓reduceIte, Option.bind_some, Option.toList_some, Option.toList_none, List.cons_append, List.nil_append, if_true, if_false, true_or, or_true, true_and, and_true, not_true_eq_false, not_false_eq_true, Nat.reduceLT, Nat.reduceLeDiff, Nat.reduceEqDiff, Nat.reduceAdd, Nat.reduceMul, Nat.reduceSub, Nat.reducePow, Nat.reduceMod, Nat.reduceDiv, l0, l1, l2, l3, l4, l5, l6, l7, l8, l9, l10, l11, l12, l13, l14, l15, l16, l20, l31, l32, l36, l40, l48, l57, l59, l63, l64, l97, l99, l100, l101, l122, l127, l128, l250, l255, l262143, l262144, l30000, l100000, l12345, l1024, l4095, nI_eqs, nI_les, nI_lts, qI_eq, qI_eqn, nI_eqq, qI_lts, nI_ltp, nI_lep, qI_les, nI_add, nI_mul, qI_add, qI_s, qI_def, nI_clamps, bI_z, bI_o, bI_01, n01, n11, rf_some, rf_none, m1, m1n, bft, hS_stI, c0, c1, y1, vg, r7, gI z7, gA z7, j1, Nat.not_lt_zero, e46, e1, e47, e3, bI_t, Bool.true_eq_false]
    · rw [f, if_neg (by decide)]
      refine ⟨h1, y, _, ?_, q1, f1, rfl⟩
      simp (disch := omega) only [s40_23, s40_24, s40_25, s40_26, s40_29, s40_30, s40_31, s40_32, s40_33, s40_34, s40_35, s40_36, s40_37, s40_38, s40_39, s40_40, s40_41, ↓reduceIte, Option.bind_some, Option.toList_some, Option.toList_none, List.cons_append, List.nil_append, if_true, if_false, true_or, or_true, true_and, and_true, not_true_eq_false, not_false_eq_true, Nat.reduceLT, Nat.reduceLeDiff, Nat.reduceEqDiff, Nat.reduceAdd, Nat.reduceMul, Nat.reduceSub, Nat.reducePow, Nat.reduceMod, Nat.reduceDiv, l0, l1, l2, l3, l4, l5, l6, l7, l8, l9, l10, l11, l12, l13, l14, l15, l16, l20, l31, l32, l36, l40, l48, l57, l59, l63, l64, l97, l99, l100, l101, l122, l127, l128, l250, l255, l262143, l262144, l30000, l100000, l12345, l1024, l4095, nI_eqs, nI_les, nI_lts, qI_eq, qI_eqn, nI_eqq, qI_lts, nI_ltp, nI_lep, qI_les, nI_add, nI_mul, qI_add, qI_s, qI_def, nI_clamps, bI_z, bI_o, bI_01, n01, n11, rf_some, rf_none, m1, m1n, bft, c0, c1, y1, vg, g1, e46, e1, e47, bI_t, Bool.true_eq_false]
    · rw [f, if_neg (by decide)]
      refine ⟨h1, y, _, ?_, q1, f1, rfl⟩
      simp (disch := omega) only [s40_23, s40_24, s40_25, s40_26, s40_29, s40_30, s40_31, s40_32, s40_33, s40_34, s40_35, s40_36, s40_37, s40_38, s40_39, s40_40, s40_41, ↓reduceIte, Option.bind_some, Option.toList_some, Option.toList_none, List.cons_append, List.nil_append, if_true, if_false, true_or, or_true, true_and, and_true, not_true_eq_false, not_false_eq_true, Nat.reduceLT, Nat.reduceLeDiff, Nat.reduceEqDiff, Nat.reduceAdd, Nat.reduceMul, Nat.reduceSub, Nat.reducePow, Nat.reduceMod, Nat.reduceDiv, l0, l1, l2, l3, l4, l5, l6, l7, l8, l9, l10, l11, l12, l13, l14, l15, l16, l20, l31, l32, l36, l40, l48, l57, l59, l63, l64, l97, l99, l100, l101, l122, l127, l128, l250, l255, l262143, l262144, l30000, l100000, l12345, l1024, l4095, nI_eqs, nI_les, nI_lts, qI_eq, qI_eqn, nI_eqq, qI_lts, nI_ltp, nI_lep, qI_les, nI_add, nI_mul, qI_add, qI_s, qI_def, nI_clamps, bI_z, bI_o, bI_01, n01, n11, rf_some, rf_none, m1, m1n, bft, c0, c1, y1, vg, g1, (g5 _ rfl).1, e46, e1, e47, bI_t, Bool.true_eq_false]
theorem x40 (d : Nat) {h : AH} {T Y n : Nat} {b : Nat → Nat} {y : YS} {t : Nat × Nat × Nat} (q : PY h T Y n b y t) (hw : HX h (hK h 4) atw) (p2 p3 p4 : Option Value) : PR T Y n b h (E (d + 3) 40 0 [some (.ref T), some (.ref Y), p2, p3, p4] [] h) (stCart n b y t) := by
  obtain ⟨h1, e1, q1, f1⟩ := q.look (d + 1)
  have c0 := q.1.1
  have c1 := q1.1.1
  have y0 := q.2.2.2.2.1.1.1
  have vn : hI h Y 2 = nI (Yn y) := q.2.2.2.2.1.2.1.2.2.1
  have y1 := q1.2.2.2.2.1.1.1
  have ok := q.2.2.2.2.1.2.2
  have o3 := ok.1.2
  have o7 := ok.2.2.1
  have e47 := fun d => q1.num d
  have e64 := fun d => x64 d q1.2.2.2.2.1 (nmD b (tkL n b t.2.2))
  unfold stCart
  generalize nmD b (tkL n b t.2.2) = x at *
  by_cases z : Yn y < 6
  · rw [if_pos z]
    cases a : inR x (Yc y) <;> rw [a] at e64
    · rw [if_neg (by decide)]
      refine ⟨h1, y, _, ?_, q1, f1, rfl⟩
      simp (disch := omega) only [s40_0, s40_1, s40_2, s40_3, s40_4, s40_5, s40_6, s40_7, s40_8, s40_9, s40_10, s40_11, s40_12, s40_13, s40_14, s40_15, s40_16, ↓reduceIte, Option.bind_some, Option.toList_some, Option.toList_none, List.cons_append, List.nil_append, if_true, if_false, true_or, or_true, true_and, and_true, not_true_eq_false, not_false_eq_true, Nat.reduceLT, Nat.reduceLeDiff, Nat.reduceEqDiff, Nat.reduceAdd, Nat.reduceMul, Nat.reduceSub, Nat.reducePow, Nat.reduceMod, Nat.reduceDiv, l0, l1, l2, l3, l4, l5, l6, l7, l8, l9, l10, l11, l12, l13, l14, l15, l16, l20, l31, l32, l36, l40, l48, l57, l59, l63, l64, l97, l99, l100, l101, l122, l127, l128, l250, l255, l262143, l262144, l30000, l100000, l12345, l1024, l4095, nI_eqs, nI_les, nI_lts, qI_eq, qI_eqn, nI_eqq, qI_lts, nI_ltp, nI_lep, qI_les, nI_add, nI_mul, qI_add, qI_s, qI_def, nI_clamps, bI_z, bI_o, bI_01, n01, n11, rf_some, rf_none, m1, m1n, bft, c0, c1, y0, y1, vn, z, e1, e47, e64, bI_f]
    · rw [if_pos rfl]
      obtain ⟨k, hk, rfl⟩ := inR_of (by omega) a
      rw [nI_clamp (show k < 2 ^ 31 by omega)]
      obtain ⟨h2, e67, x2', f2⟩ := x67 (d + 2) q1.2.2.2.2.1 z hk none
      obtain ⟨q2, f2'⟩ := q1.yard x2' f2
      obtain ⟨h3, e3, q3, f3⟩ := q2.look (d + 1)
      have c2 := q2.1.1
      have fa := (f1.trans f2').trans f3
      have hn : Yn y < Yn (addC y k) := Nat.lt_succ_self _
      have xx := PR.pre fa (x40b d q3 (hw.fp fa) hn (some (.int (nI k))) p4)
      have st : E (d + 3) 40 0 [some (.ref T), some (.ref Y), p2, p3, p4] [] h = E (d + 3) 40 23 [some (.ref T), some (.ref Y), some (.int (nI k)), some (.int (nI (Yn y))), p4] [] h3 := by
        simp (disch := omega) only [s40_0, s40_1, s40_2, s40_3, s40_6, s40_7, s40_8, s40_9, s40_10, s40_11, s40_12, s40_13, s40_14, s40_17, s40_18, s40_19, s40_20, s40_21, s40_22, ↓reduceIte, Option.bind_some, Option.toList_some, Option.toList_none, List.cons_append, List.nil_append, if_true, if_false, true_or, or_true, true_and, and_true, not_true_eq_false, not_false_eq_true, Nat.reduceLT, Nat.reduceLeDiff, Nat.reduceEqDiff, Nat.reduceAdd, Nat.reduceMul, Nat.reduceSub, Nat.reducePow, Nat.reduceMod, Nat.reduceDiv, l0, l1, l2, l3, l4, l5, l6, l7, l8, l9, l10, l11, l12, l13, l14, l15, l16, l20, l31, l32, l36, l40, l48, l57, l59, l63, l64, l97, l99, l100, l101, l122, l127, l128, l250, l255, l262143, l262144, l30000, l100000, l12345, l1024, l4095, nI_eqs, nI_les, nI_lts, qI_eq, qI_eqn, nI_eqq, qI_lts, nI_ltp, nI_lep, qI_les, nI_add, nI_mul, qI_add, qI_s, qI_def, nI_clamps, bI_z, bI_o, bI_01, n01, n11, rf_some, rf_none, m1, m1n, bft, c0, c1, c2, y0, y1, vn, z, e1, e47, e64, e67, e3, bI_t, Bool.true_eq_false]
      rw [st]; exact xx
  · rw [if_neg z]
    refine ⟨h, y, t, ?_, q, Fr0.refl _ _, rfl⟩
    simp (disch := omega) only [s40_0, s40_1, s40_2, s40_3, s40_4, s40_5, ↓reduceIte, Option.bind_some, Option.toList_some, Option.toList_none, List.cons_append, List.nil_append, if_true, if_false, true_or, or_true, true_and, and_true, not_true_eq_false, not_false_eq_true, Nat.reduceLT, Nat.reduceLeDiff, Nat.reduceEqDiff, Nat.reduceAdd, Nat.reduceMul, Nat.reduceSub, Nat.reducePow, Nat.reduceMod, Nat.reduceDiv, l0, l1, l2, l3, l4, l5, l6, l7, l8, l9, l10, l11, l12, l13, l14, l15, l16, l20, l31, l32, l36, l40, l48, l57, l59, l63, l64, l97, l99, l100, l101, l122, l127, l128, l250, l255, l262143, l262144, l30000, l100000, l12345, l1024, l4095, nI_eqs, nI_les, nI_lts, qI_eq, qI_eqn, nI_eqq, qI_lts, nI_ltp, nI_lep, qI_les, nI_add, nI_mul, qI_add, qI_s, qI_def, nI_clamps, bI_z, bI_o, bI_01, n01, n11, rf_some, rf_none, m1, m1n, bft, y0, vn, z]
