/-! STATEMENTS, the developers: share -/
def stShare (n : Nat) (b : Nat → Nat) (y : YS) (t : Nat × Nat × Nat) : (YS × (Nat × Nat × Nat)) ⊕ Nat := if inR (nmD b (tkL n b t.2.2)) (Yg y) = true then (if inR (nmD b (tkL n b (tkL n b t.2.2).2.2)) (nmD b (tkL n b t.2.2)).toNatClampNeg = true ∧ YU y (nmD b (tkL n b (tkL n b t.2.2).2.2)).toNatClampNeg = (nmD b (tkL n b (tkL n b t.2.2).2.2)).toNatClampNeg ∧ usdB y (nmD b (tkL n b t.2.2)).toNatClampNeg = false then .inl (sU y (nmD b (tkL n b t.2.2)).toNatClampNeg (nmD b (tkL n b (tkL n b t.2.2).2.2)).toNatClampNeg, tkL n b (tkL n b (tkL n b t.2.2).2.2).2.2) else .inr (tkL n b (tkL n b t.2.2).2.2).2.1) else .inr (tkL n b t.2.2).2.1
theorem PY.use {h : AH} {T Y n : Nat} {b : Nat → Nat} {y : YS} {t : Nat × Nat × Nat} (q : PY h T Y n b y t) {g o : Nat} (ok : YOK (sU y g o)) : PY (stI h (Y + 3) g (nI o)) T Y n b (sU y g o) t ∧ FP T Y h (stI h (Y + 3) g (nI o)) := by
  obtain ⟨q1, q2, q3, q4, q5, q6⟩ := q
  obtain ⟨a1, a2, a3, a4, a5, a6⟩ := q1
  obtain ⟨t1, t2, t3⟩ := q2
  refine ⟨⟨⟨a1, a2, a3, ?_, a5, fun i hi => ?_⟩, ⟨?_, ?_, ?_⟩, q3, q4, ⟨q5.1, q5.2.1.U g o, ok⟩, q6⟩, Fr0.stI _ (Or.inr ⟨by omega, by omega⟩) _ _⟩
  · rw [hI_stI, if_neg (fun w => by omega)]; exact a4
  · rw [hI_stI, if_neg (fun w => by omega)]; exact a6 i hi
  · rw [hI_stI, if_neg (fun w => by omega)]; exact t1
  · rw [hI_stI, if_neg (fun w => by omega)]; exact t2
  · rw [hI_stI, if_neg (fun w => by omega)]; exact t3
theorem x41 (d : Nat) {h : AH} {T Y n : Nat} {b : Nat → Nat} {y : YS} {t : Nat × Nat × Nat} (q : PY h T Y n b y t) (p2 p3 : Option Value) : PR T Y n b h (E (d + 3) 41 0 [some (.ref T), some (.ref Y), p2, p3] [] h) (stShare n b y t) := by
  obtain ⟨h1, e1, q1, f1⟩ := q.look (d + 1)
  have c0 := q.1.1
  have c1 := q1.1.1
  have y1 := q1.2.2.2.2.1.1.1
  have e47 := fun d => q1.num d
  have e62 := fun d => x62 d q1.2.2.2.2.1 (nmD b (tkL n b t.2.2))
  unfold stShare
  have ok := q1.2.2.2.2.1.2.2
  have o6 := ok.2.1
  obtain ⟨h2, e2, q2, f2⟩ := q1.look (d + 1)
  have f12 := f1.trans f2
  have c2 := q2.1.1
  obtain ⟨⟨y2, -, -, z3, -, -, -, -, -, -, r3, -, -, -, -⟩, ⟨-, -, -, -, -, -, -, vU, -⟩, -⟩ := id q2.2.2.2.2.1
  have e47' := fun d => q2.num d
  generalize nmD b (tkL n b t.2.2) = x at *
  generalize nmD b (tkL n b (tkL n b t.2.2).2.2) = x' at *
  cases a : inR x (Yg y) <;> rw [a] at e62
  · rw [if_neg (by decide)]
    refine ⟨h1, y, _, ?_, q1, f1, rfl⟩
    simp (disch := omega) only [s41_0, s41_1, s41_2, s41_3, s41_4, s41_5, s41_6, s41_7, s41_8, s41_9, s41_10, ↓reduceIte, Option.bind_some, Option.toList_some, Option.toList_none, List.cons_append, List.nil_append, if_true, if_false, true_or, or_true, true_and, and_true, not_true_eq_false, not_false_eq_true, Nat.reduceLT, Nat.reduceLeDiff, Nat.reduceEqDiff, Nat.reduceAdd, Nat.reduceMul, Nat.reduceSub, Nat.reducePow, Nat.reduceMod, Nat.reduceDiv, l0, l1, l2, l3, l4, l5, l6, l7, l8, l9, l10, l11, l12, l13, l14, l15, l16, l20, l31, l32, l36, l40, l48, l57, l59, l63, l64, l97, l99, l100, l101, l122, l127, l128, l250, l255, l262143, l262144, l30000, l100000, l12345, l1024, l4095, nI_eqs, nI_les, nI_lts, qI_eq, qI_eqn, nI_eqq, qI_lts, nI_ltp, nI_lep, qI_les, nI_add, nI_mul, qI_add, qI_s, qI_def, nI_clamps, bI_z, bI_o, bI_01, n01, n11, rf_some, rf_none, m1, m1n, bft, c0, c1, y1, e1, e47, e62, bI_f]
  · rw [if_pos rfl]
    obtain ⟨g, hg, rfl⟩ := inR_of (by omega) a
    rw [nI_clamp (show g < 2 ^ 31 by omega)]
    have e70 := fun d => x70 d q2.2.2.2.2.1 hg none
    rcases inR_cases x' (n := g) (by omega) with ⟨k, hk, rfl⟩ | ⟨f, g1, g2⟩ | ⟨f, g1, g2, g3, g4, g5⟩
    · have ck := inR_nI (g := k) (n := g) (by omega) (by omega)
      rw [decide_eq_true hk] at ck
      rw [ck, nI_clamp (show k < 2 ^ 31 by omega)]
      have h1' : ¬ g ≤ k := by omega
      have vk := vU k (by omega)
      have uk := ok.u6 (g := k) (by omega)
      by_cases u : YU y k = k
      · cases us : usdB y g <;> rw [us] at e70
        · rw [if_pos ⟨rfl, u, rfl⟩]
          obtain ⟨q3, f3⟩ := q2.use (ok.sU hg (Or.inr ⟨hk, u, us⟩))
          obtain ⟨h4, e4, q4, f4⟩ := q3.look (d + 1)
          refine ⟨h4, ?_, q4, (f12.trans f3).trans f4⟩
          simp (disch := omega) only [s41_0, s41_1, s41_2, s41_3, s41_4, s41_5, s41_6, s41_7, s41_8, s41_9, s41_10, s41_11, s41_12, s41_13, s41_14, s41_15, s41_16, s41_17, s41_18, s41_19, s41_20, s41_21, s41_22, s41_23, s41_24, s41_25, s41_26, s41_27, s41_28, s41_29, s41_30, s41_33, s41_34, s41_35, s41_36, s41_37, s41_38, s41_39, s41_40, s41_41, ↓reduceIte, Option.bind_some, Option.toList_some, Option.toList_none, List.cons_append, List.nil_append, if_true, if_false, true_or, or_true, true_and, and_true, not_true_eq_false, not_false_eq_true, Nat.reduceLT, Nat.reduceLeDiff, Nat.reduceEqDiff, Nat.reduceAdd, Nat.reduceMul, Nat.reduceSub, Nat.reducePow, Nat.reduceMod, Nat.reduceDiv, l0, l1, l2, l3, l4, l5, l6, l7, l8, l9, l10, l11, l12, l13, l14, l15, l16, l20, l31, l32, l36, l40, l48, l57, l59, l63, l64, l97, l99, l100, l101, l122, l127, l128, l250, l255, l262143, l262144, l30000, l100000, l12345, l1024, l4095, nI_eqs, nI_les, nI_lts, qI_eq, qI_eqn, nI_eqq, qI_lts, nI_ltp, nI_lep, qI_les, nI_add, nI_mul, qI_add, qI_s, qI_def, nI_clamps, bI_z, bI_o, bI_01, n01, n11, rf_some, rf_none, m1, m1n, bft, hS_stI, c0, c1, c2, y1, y2, r3, gI z3, gA z3, vk, u, e1, e2, e47, e47', e62, e70, e4, h1', Nat.not_lt_zero, bI_t, bI_f, Bool.true_eq_false]
        · rw [if_neg (fun w => absurd w.2.2 (by decide))]
          refine ⟨h2, y, _, ?_, q2, f12, rfl⟩
          simp (disch := omega) only [s41_0, s41_1, s41_2, s41_3, s41_4, s41_5, s41_6, s41_7, s41_8, s41_9, s41_10, s41_11, s41_12, s41_13, s41_14, s41_15, s41_16, s41_17, s41_18, s41_19, s41_20, s41_21, s41_22, s41_23, s41_24, s41_25, s41_26, s41_27, s41_28, s41_29, s41_30, s41_31, s41_32, ↓reduceIte, Option.bind_some, Option.toList_some, Option.toList_none, List.cons_append, List.nil_append, if_true, if_false, true_or, or_true, true_and, and_true, not_true_eq_false, not_false_eq_true, Nat.reduceLT, Nat.reduceLeDiff, Nat.reduceEqDiff, Nat.reduceAdd, Nat.reduceMul, Nat.reduceSub, Nat.reducePow, Nat.reduceMod, Nat.reduceDiv, l0, l1, l2, l3, l4, l5, l6, l7, l8, l9, l10, l11, l12, l13, l14, l15, l16, l20, l31, l32, l36, l40, l48, l57, l59, l63, l64, l97, l99, l100, l101, l122, l127, l128, l250, l255, l262143, l262144, l30000, l100000, l12345, l1024, l4095, nI_eqs, nI_les, nI_lts, qI_eq, qI_eqn, nI_eqq, qI_lts, nI_ltp, nI_lep, qI_les, nI_add, nI_mul, qI_add, qI_s, qI_def, nI_clamps, bI_z, bI_o, bI_01, n01, n11, rf_some, rf_none, m1, m1n, bft, c0, c1, c2, y1, y2, r3, gI z3, vk, u, e1, e2, e47, e47', e62, e70, h1', Nat.not_lt_zero, bI_t, Bool.true_eq_false]
      · rw [if_neg (fun w => u w.2.1)]
        refine ⟨h2, y, _, ?_, q2, f12, rfl⟩
        simp (disch := omega) only [s41_0, s41_1, s41_2, s41_3, s41_4, s41_5, s41_6, s41_7, s41_8, s41_9, s41_10, s41_11, s41_12, s41_13, s41_14, s41_15, s41_16, s41_17, s41_18, s41_19, s41_20, s41_21, s41_22, s41_23, s41_24, s41_25, s41_26, s41_27, s41_28, s41_29, s41_30, s41_31, s41_32, ↓reduceIte, Option.bind_some, Option.toList_some, Option.toList_none, List.cons_append, List.nil_append, if_true, if_false, true_or, or_true, true_and, and_true, not_true_eq_false, not_false_eq_true, Nat.reduceLT, Nat.reduceLeDiff, Nat.reduceEqDiff, Nat.reduceAdd, Nat.reduceMul, Nat.reduceSub, Nat.reducePow, Nat.reduceMod, Nat.reduceDiv, l0, l1, l2, l3, l4, l5, l6, l7, l8, l9, l10, l11, l12, l13, l14, l15, l16, l20, l31, l32, l36, l40, l48, l57, l59, l63, l64, l97, l99, l100, l101, l122, l127, l128, l250, l255, l262143, l262144, l30000, l100000, l12345, l1024, l4095, nI_eqs, nI_les, nI_lts, qI_eq, qI_eqn, nI_eqq, qI_lts, nI_ltp, nI_lep, qI_les, nI_add, nI_mul, qI_add, qI_s, qI_def, nI_clamps, bI_z, bI_o, bI_01, n01, n11, rf_some, rf_none, m1, m1n, bft, c0, c1, c2, y1, y2, r3, gI z3, vk, u, e1, e2, e47, e47', e62, h1', Nat.not_lt_zero, bI_t, Bool.true_eq_false]
    · rw [f, if_neg (fun w => absurd w.1 (by decide))]
      refine ⟨h2, y, _, ?_, q2, f12, rfl⟩
      simp (disch := omega) only [s41_0, s41_1, s41_2, s41_3, s41_4, s41_5, s41_6, s41_7, s41_8, s41_9, s41_10, s41_11, s41_12, s41_13, s41_14, s41_15, s41_16, s41_17, s41_18, s41_19, s41_20, s41_21, s41_22, s41_23, s41_24, s41_25, s41_26, s41_27, s41_28, s41_29, s41_30, s41_31, s41_32, ↓reduceIte, Option.bind_some, Option.toList_some, Option.toList_none, List.cons_append, List.nil_append, if_true, if_false, true_or, or_true, true_and, and_true, not_true_eq_false, not_false_eq_true, Nat.reduceLT, Nat.reduceLeDiff, Nat.reduceEqDiff, Nat.reduceAdd, Nat.reduceMul, Nat.reduceSub, Nat.reducePow, Nat.reduceMod, Nat.reduceDiv, l0, l1, l2, l3, l4, l5, l6, l7, l8, l9, l10, l11, l12, l13, l14, l15, l16, l20, l31, l32, l36, l40, l48, l57, l59, l63, l64, l97, l99, l100, l101, l122, l127, l128, l250, l255, l262143, l262144, l30000, l100000, l12345, l1024, l4095, nI_eqs, nI_les, nI_lts, qI_eq, qI_eqn, nI_eqq, qI_lts, nI_ltp, nI_lep, qI_les, nI_add, nI_mul, qI_add, qI_s, qI_def, nI_clamps, bI_z, bI_o, bI_01, n01, n11, rf_some, rf_none, m1, m1n, bft, c0, c1, c2, y1, y2, e1, e2, e47, e47', e62, g1, bI_t, Bool.true_eq_false]
    · rw [f, if_neg (fun w => absurd w.1 (by decide))]
      refine ⟨h2, y, _, ?_, q2, f12, rfl⟩
      simp (disch := omega) only [s41_0, s41_1, s41_2, s41_3, s41_4, s41_5, s41_6, s41_7, s41_8, s41_9, s41_10, s41_11, s41_12, s41_13, s41_14, s41_15, s41_16, s41_17, s41_18, s41_19, s41_20, s41_21, s41_22, s41_23, s41_24, s41_25, s41_26, s41_27, s41_28, s41_29, s41_30, s41_31, s41_32, ↓reduceIte, Option.bind_some, Option.toList_some, Option.toList_none, List.cons_append, List.nil_append, if_true, if_false, true_or, or_true, true_and, and_true, not_true_eq_false, not_false_eq_true, Nat.reduceLT, Nat.reduceLeDiff, Nat.reduceEqDiff, Nat.reduceAdd, Nat.reduceMul, Nat.reduceSub, Nat.reducePow, Nat.reduceMod, Nat.reduceDiv, l0, l1, l2, l3, l4, l5, l6, l7, l8, l9, l10, l11, l12, l13, l14, l15, l16, l20, l31, l32, l36, l40, l48, l57, l59, l63, l64, l97, l99, l100, l101, l122, l127, l128, l250, l255, l262143, l262144, l30000, l100000, l12345, l1024, l4095, nI_eqs, nI_les, nI_lts, qI_eq, qI_eqn, nI_eqq, qI_lts, nI_ltp, nI_lep, qI_les, nI_add, nI_mul, qI_add, qI_s, qI_def, nI_clamps, bI_z, bI_o, bI_01, n01, n11, rf_some, rf_none, m1, m1n, bft, c0, c1, c2, y1, y2, e1, e2, e47, e47', e62, g1, g4, bI_t, Bool.true_eq_false]
