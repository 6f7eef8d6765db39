/-! STATEMENTS, the developers: gate -/
def stGate (n : Nat) (b : Nat → Nat) (y : YS) (t : Nat × Nat × Nat) : (YS × (Nat × Nat × Nat)) ⊕ Nat := if Yg y < 6 then (if inR (nmD b (tkL n b t.2.2)) 6 = true then (if inR (nmD b (tkL n b (tkL n b t.2.2).2.2)) 10 = true then stKnows n b (addG y (nmD b (tkL n b t.2.2)).toNatClampNeg (nmD b (tkL n b (tkL n b t.2.2).2.2)).toNatClampNeg) (Yg y) (tkL n b (tkL n b (tkL n b t.2.2).2.2).2.2) else .inr (tkL n b (tkL n b t.2.2).2.2).2.1) else .inr (tkL n b t.2.2).2.1) else .inr t.2.1
theorem PY.yard {h h' : AH} {T Y n : Nat} {b : Nat → Nat} {y y' : YS} {t : Nat × Nat × Nat} (q : PY h T Y n b y t) (x : XY h' Y y') (f : Fr0 (blk Y 8) h h') : PY h' T Y n b y' t ∧ FP T Y h h' := by
  obtain ⟨⟨a1, a2, a3, a4, a5, a6⟩, ⟨t1, t2, t3⟩, q3, q4, q5, q6⟩ := q
  have f' := f
  obtain ⟨g1, g2, g3, g4, g5, g6, f7⟩ := f
  have nT : ¬ blk Y 8 T := fun w => by unfold blk at w; omega
  have nT1 : ¬ blk Y 8 (T + 1) := fun w => by unfold blk at w; omega
  refine ⟨⟨⟨by rw [g5]; exact a1, by rw [g6]; exact a2, by rw [g5]; exact a3, by rw [(f7 T nT _).1]; exact a4, a5, fun i hi => by rw [(f7 (T + 1) nT1 _).1]; exact a6 i hi⟩, ⟨by rw [(f7 T nT _).1]; exact t1, by rw [(f7 T nT _).1]; exact t2, by rw [(f7 T nT _).1]; exact t3⟩, q3, q4, x, q6⟩, f'.mono (fun a w => Or.inr w)⟩
theorem x38 (d : Nat) {h : AH} {T Y n : Nat} {b : Nat → Nat} {y : YS} {t : Nat × Nat × Nat} (q : PY h T Y n b y t) (hw : HX h (hK h 2) kn) (p2 p3 : Option Value) : PR T Y n b h (E (d + 4) 38 0 [some (.ref T), some (.ref Y), p2, p3] [] h) (stGate n b y t) := by
  obtain ⟨h1, e1, q1, f1⟩ := q.look (d + 2)
  obtain ⟨h2, e2, q2, f2⟩ := q1.look (d + 2)
  obtain ⟨h3, e3, q3, f3⟩ := q2.look (d + 2)
  have c0 := q.1.1
  have c1 := q1.1.1
  have c2 := q2.1.1
  have y0 := q.2.2.2.2.1.1.1
  have vg : hI h Y 1 = nI (Yg y) := q.2.2.2.2.1.2.1.2.1
  have y3 := q3.2.2.2.2.1.1.1
  have o6 := q.2.2.2.2.1.2.2.2.1
  have e47 := fun d => q1.num d
  have e47' := fun d => q2.num d
  have e00 := fun d => x0 d h1 (nmD b (tkL n b t.2.2))
  unfold stGate
  generalize nmD b (tkL n b t.2.2) = x at *
  generalize nmD b (tkL n b (tkL n b t.2.2).2.2) = x' at *
  by_cases z : Yg y < 6
  · rw [if_pos z]
    cases a : inR x 6 <;> rw [a] at e00
    · rw [if_neg (by decide)]
      refine ⟨h1, y, _, ?_, q1, f1, rfl⟩
      simp (disch := omega) only [s38_0, s38_1, s38_2, s38_3, s38_4, s38_5, s38_6, s38_7, s38_8, s38_9, s38_10, s38_11, s38_12, s38_13, s38_14, s38_15, ↓reduceIte, Option.bind_some, Option.toList_some, Option.toList_none, List.cons_append, List.nil_append, if_true, if_false, true_or, or_true, true_and, and_true, not_true_eq_false, not_false_eq_true, Nat.reduceLT, Nat.reduceLeDiff, Nat.reduceEqDiff, Nat.reduceAdd, Nat.reduceMul, Nat.reduceSub, Nat.reducePow, Nat.reduceMod, Nat.reduceDiv, l0, l1, l2, l3, l4, l5, l6, l7, l8, l9, l10, l11, l12, l13, l14, l15, l16, l20, l31, l32, l36, l40, l48, l57, l59, l63, l64, l97, l99, l100, l101, l122, l127, l128, l250, l255, l262143, l262144, l30000, l100000, l12345, l1024, l4095, nI_eqs, nI_les, nI_lts, qI_eq, qI_eqn, nI_eqq, qI_lts, nI_ltp, nI_lep, qI_les, nI_add, nI_mul, qI_add, qI_s, qI_def, nI_clamps, bI_z, bI_o, bI_01, n01, n11, rf_some, rf_none, m1, m1n, bft, c0, c1, y0, vg, z, e1, e47, e00, bI_f]
    · rw [if_pos rfl]
      obtain ⟨k, hk, rfl⟩ := inR_of (by decide) a
      rcases inR_cases x' (n := 10) (by decide) with ⟨j, hj, rfl⟩ | ⟨f, g1, g2⟩ | ⟨f, g1, g2, g3, g4, g5⟩
      · have cj := inR_nI (g := j) (n := 10) (by omega) (by decide)
        rw [decide_eq_true hj] at cj
        rw [cj, if_pos rfl, nI_clamp (show k < 2 ^ 31 by omega), nI_clamp (show j < 2 ^ 31 by omega)]
        obtain ⟨h4, e66, x4, f4⟩ := x66 (d + 2) q3.2.2.2.2.1 z hk hj none
        obtain ⟨q4, f4'⟩ := q3.yard x4 f4
        have c4 := q4.1.1
        have fa := ((f1.trans f2).trans f3).trans f4'
        have hg4 : Yg y < Yg (addG y k j) := Nat.lt_succ_self _
        have xx := PR.pre fa (x39 d q4 (hw.fp fa) hg4 none none)
        have st : E (d + 4) 38 0 [some (.ref T), some (.ref Y), p2, p3] [] h = (E (d + 3) 39 0 [some (.ref T), some (.ref Y), some (.int (nI (Yg y))), none, none] [] h4).bind fun r => E (d + 4) 38 37 [some (.ref T), some (.ref Y), some (.int (nI k)), some (.int (nI j))] (r.1.toList ++ []) r.2 := by
          simp (disch := omega) only [s38_0, s38_1, s38_2, s38_3, s38_4, s38_5, s38_6, s38_7, s38_8, s38_9, s38_10, s38_11, s38_12, s38_13, s38_16, s38_17, s38_18, s38_19, s38_20, s38_21, s38_22, s38_23, s38_24, s38_25, s38_28, s38_29, s38_30, s38_31, s38_32, s38_33, s38_34, s38_35, s38_36, ↓reduceIte, Option.bind_some, Option.toList_some, Option.toList_none, List.cons_append, List.nil_append, if_true, if_false, true_or, or_true, true_and, and_true, not_true_eq_false, not_false_eq_true, Nat.reduceLT, Nat.reduceLeDiff, Nat.reduceEqDiff, Nat.reduceAdd, Nat.reduceMul, Nat.reduceSub, Nat.reducePow, Nat.reduceMod, Nat.reduceDiv, l0, l1, l2, l3, l4, l5, l6, l7, l8, l9, l10, l11, l12, l13, l14, l15, l16, l20, l31, l32, l36, l40, l48, l57, l59, l63, l64, l97, l99, l100, l101, l122, l127, l128, l250, l255, l262143, l262144, l30000, l100000, l12345, l1024, l4095, nI_eqs, nI_les, nI_lts, qI_eq, qI_eqn, nI_eqq, qI_lts, nI_ltp, nI_lep, qI_les, nI_add, nI_mul, qI_add, qI_s, qI_def, nI_clamps, bI_z, bI_o, bI_01, n01, n11, rf_some, rf_none, m1, m1n, bft, c0, c1, c2, c4, y0, y3, vg, z, hj, Nat.not_lt_zero, e1, e2, e3, e47, e47', e00, e66, bI_t, Bool.true_eq_false]
        rw [st]
        generalize stKnows n b (addG y k j) (Yg y) (tkL n b (tkL n b (tkL n b t.2.2).2.2).2.2) = rr at *
        cases rr with
        | inl v =>
          obtain ⟨h', u1, u2, u3⟩ := xx
          refine ⟨h', ?_, u2, u3⟩
          rw [u1]
          simp (disch := omega) only [s38_37, ↓reduceIte, Option.bind_some, Option.toList_some, Option.toList_none, List.cons_append, List.nil_append, if_true, if_false, true_or, or_true, true_and, and_true, not_true_eq_false, not_false_eq_true, Nat.reduceLT, Nat.reduceLeDiff, Nat.reduceEqDiff, Nat.reduceAdd, Nat.reduceMul, Nat.reduceSub, Nat.reducePow, Nat.reduceMod, Nat.reduceDiv, l0, l1, l2, l3, l4, l5, l6, l7, l8, l9, l10, l11, l12, l13, l14, l15, l16, l20, l31, l32, l36, l40, l48, l57, l59, l63, l64, l97, l99, l100, l101, l122, l127, l128, l250, l255, l262143, l262144, l30000, l100000, l12345, l1024, l4095, nI_eqs, nI_les, nI_lts, qI_eq, qI_eqn, nI_eqq, qI_lts, nI_ltp, nI_lep, qI_les, nI_add, nI_mul, qI_add, qI_s, qI_def, nI_clamps, bI_z, bI_o, bI_01, n01, n11, rf_some, rf_none, m1, m1n, bft]
        | inr p =>
          obtain ⟨h', yy, tt, u1, u2, u3, u4⟩ := xx
          refine ⟨h', yy, tt, ?_, u2, u3, u4⟩
          rw [u1]
          simp (disch := omega) only [s38_37, ↓reduceIte, Option.bind_some, Option.toList_some, Option.toList_none, List.cons_append, List.nil_append, if_true, if_false, true_or, or_true, true_and, and_true, not_true_eq_false, not_false_eq_true, Nat.reduceLT, Nat.reduceLeDiff, Nat.reduceEqDiff, Nat.reduceAdd, Nat.reduceMul, Nat.reduceSub, Nat.reducePow, Nat.reduceMod, Nat.reduceDiv, l0, l1, l2, l3, l4, l5, l6, l7, l8, l9, l10, l11, l12, l13, l14, l15, l16, l20, l31, l32, l36, l40, l48, l57, l59, l63, l64, l97, l99, l100, l101, l122, l127, l128, l250, l255, l262143, l262144, l30000, l100000, l12345, l1024, l4095, nI_eqs, nI_les, nI_lts, qI_eq, qI_eqn, nI_eqq, qI_lts, nI_ltp, nI_lep, qI_les, nI_add, nI_mul, qI_add, qI_s, qI_def, nI_clamps, bI_z, bI_o, bI_01, n01, n11, rf_some, rf_none, m1, m1n, bft]
      · rw [f, if_neg (by decide)]
        refine ⟨h2, y, _, ?_, q2, f1.trans f2, rfl⟩
        simp (disch := omega) only [s38_0, s38_1, s38_2, s38_3, s38_4, s38_5, s38_6, s38_7, s38_8, s38_9, s38_10, s38_11, s38_12, s38_13, s38_16, s38_17, s38_18, s38_19, s38_20, s38_21, s38_22, s38_23, s38_24, s38_25, s38_26, s38_27, ↓reduceIte, Option.bind_some, Option.toList_some, Option.toList_none, List.cons_append, List.nil_append, if_true, if_false, true_or, or_true, true_and, and_true, not_true_eq_false, not_false_eq_true, Nat.reduceLT, Nat.reduceLeDiff, Nat.reduceEqDiff, Nat.reduceAdd, Nat.reduceMul, Nat.reduceSub, Nat.reducePow, Nat.reduceMod, Nat.reduceDiv, l0, l1, l2, l3, l4, l5, l6, l7, l8, l9, l10, l11, l12, l13, l14, l15, l16, l20, l31, l32, l36, l40, l48, l57, l59, l63, l64, l97, l99, l100, l101, l122, l127, l128, l250, l255, l262143, l262144, l30000, l100000, l12345, l1024, l4095, nI_eqs, nI_les, nI_lts, qI_eq, qI_eqn, nI_eqq, qI_lts, nI_ltp, nI_lep, qI_les, nI_add, nI_mul, qI_add, qI_s, qI_def, nI_clamps, bI_z, bI_o, bI_01, n01, n11, rf_some, rf_none, m1, m1n, bft, c0, c1, c2, y0, vg, z, e1, e2, e47, e47', e00, g1, bI_t, Bool.true_eq_false]
      · rw [f, if_neg (by decide)]
        refine ⟨h2, y, _, ?_, q2, f1.trans f2, rfl⟩
        simp (disch := omega) only [s38_0, s38_1, s38_2, s38_3, s38_4, s38_5, s38_6, s38_7, s38_8, s38_9, s38_10, s38_11, s38_12, s38_13, s38_16, s38_17, s38_18, s38_19, s38_20, s38_21, s38_22, s38_23, s38_24, s38_25, s38_26, s38_27, ↓reduceIte, Option.bind_some, Option.toList_some, Option.toList_none, List.cons_append, List.nil_append, if_true, if_false, true_or, or_true, true_and, and_true, not_true_eq_false, not_false_eq_true, Nat.reduceLT, Nat.reduceLeDiff, Nat.reduceEqDiff, Nat.reduceAdd, Nat.reduceMul, Nat.reduceSub, Nat.reducePow, Nat.reduceMod, Nat.reduceDiv, l0, l1, l2, l3, l4, l5, l6, l7, l8, l9, l10, l11, l12, l13, l14, l15, l16, l20, l31, l32, l36, l40, l48, l57, l59, l63, l64, l97, l99, l100, l101, l122, l127, l128, l250, l255, l262143, l262144, l30000, l100000, l12345, l1024, l4095, nI_eqs, nI_les, nI_lts, qI_eq, qI_eqn, nI_eqq, qI_lts, nI_ltp, nI_lep, qI_les, nI_add, nI_mul, qI_add, qI_s, qI_def, nI_clamps, bI_z, bI_o, bI_01, n01, n11, rf_some, rf_none, m1, m1n, bft, c0, c1, c2, y0, vg, z, e1, e2, e47, e47', e00, g1, g3, bI_t, Bool.true_eq_false]
  · rw [if_neg z]
    refine ⟨h, y, t, ?_, q, Fr0.refl _ _, rfl⟩
    simp (disch := omega) only [s38_0, s38_1, s38_2, s38_3, s38_4, s38_5, ↓reduceIte, Option.bind_some, Option.toList_some, Option.toList_none, List.cons_append, List.nil_append, if_true, if_false, true_or, or_true, true_and, and_true, not_true_eq_false, not_false_eq_true, Nat.reduceLT, Nat.reduceLeDiff, Nat.reduceEqDiff, Nat.reduceAdd, Nat.reduceMul, Nat.reduceSub, Nat.reducePow, Nat.reduceMod, Nat.reduceDiv, l0, l1, l2, l3, l4, l5, l6, l7, l8, l9, l10, l11, l12, l13, l14, l15, l16, l20, l31, l32, l36, l40, l48, l57, l59, l63, l64, l97, l99, l100, l101, l122, l127, l128, l250, l255, l262143, l262144, l30000, l100000, l12345, l1024, l4095, nI_eqs, nI_les, nI_lts, qI_eq, qI_eqn, nI_eqq, qI_lts, nI_ltp, nI_lep, qI_les, nI_add, nI_mul, qI_add, qI_s, qI_def, nI_clamps, bI_z, bI_o, bI_01, n01, n11, rf_some, rf_none, m1, m1n, bft, y0, vg, z]
