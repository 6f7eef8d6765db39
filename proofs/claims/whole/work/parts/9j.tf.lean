/-! STATEMENTS, the developers: colours -/
def stColours (n : Nat) (b : Nat → Nat) (y : YS) (t : Nat × Nat × Nat) : (YS × (Nat × Nat × Nat)) ⊕ Nat := if Yg y = 0 ∧ Yn y = 0 then (if nmD b (tkL n b t.2.2) = nI 2 ∨ nmD b (tkL n b t.2.2) = nI 3 then .inl (sc y (nmD b (tkL n b t.2.2)).toNatClampNeg, tkL n b (tkL n b t.2.2).2.2) else .inr (tkL n b t.2.2).2.1) else .inr t.2.1
theorem YOK.e {y : YS} (h1 : Yg y = 0) (h2 : Yn y = 0) {c : Nat} (hc : 2 ≤ c ∧ c ≤ 3) : YOK (sc y c) := by
  refine ⟨hc, ?_, ?_, fun g hg => ?_, fun k hk => ?_⟩
  · show Yg y ≤ 6; omega
  · show Yn y ≤ 6; omega
  · have hg : g < Yg y := hg; omega
  · have hk : k < Yn y := hk; omega
theorem PY.col {h : AH} {T Y n : Nat} {b : Nat → Nat} {y : YS} {t : Nat × Nat × Nat} (q : PY h T Y n b y t) {c : Nat} (ok : YOK (sc y c)) : PY (stI h Y 0 (nI c)) T Y n b (sc y c) t ∧ FP T Y h (stI h Y 0 (nI c)) := by
  obtain ⟨q1, q2, q3, q4, q5, q6⟩ := q
  obtain ⟨a1, a2, a3, a4, a5, a6⟩ := q1
  obtain ⟨t1, t2, t3⟩ := q2
  refine ⟨⟨⟨a1, a2, a3, ?_, a5, fun i hi => ?_⟩, ⟨?_, ?_, ?_⟩, q3, q4, ⟨q5.1, q5.2.1.c c, ok⟩, q6⟩, Fr0.stI _ (Or.inr ⟨by omega, by omega⟩) _ _⟩
  · rw [hI_stI, if_neg (fun w => by omega)]; exact a4
  · rw [hI_stI, if_neg (fun w => by omega)]; exact a6 i hi
  · rw [hI_stI, if_neg (fun w => by omega)]; exact t1
  · rw [hI_stI, if_neg (fun w => by omega)]; exact t2
  · rw [hI_stI, if_neg (fun w => by omega)]; exact t3
theorem x37 (d : Nat) {h : AH} {T Y n : Nat} {b : Nat → Nat} {y : YS} {t : Nat × Nat × Nat} (q : PY h T Y n b y t) (p2 : Option Value) : PR T Y n b h (E (d + 3) 37 0 [some (.ref T), some (.ref Y), p2] [] h) (stColours n b y t) := by
  obtain ⟨h1, e1, q1, f1⟩ := q.look (d + 1)
  have c0 := q.1.1
  have c1 := q1.1.1
  have y0 := q.2.2.2.2.1.1.1
  have y1 := q1.2.2.2.2.1.1.1
  have e61 := fun d => x61 d q.2.2.2.2.1
  have e47 := fun d => q1.num d
  have e60 := fun d => x60 d h1 (nmD b (tkL n b t.2.2))
  unfold stColours
  generalize nmD b (tkL n b t.2.2) = x at *
  by_cases z : Yg y = 0 ∧ Yn y = 0
  · rw [if_pos z]
    rw [decide_eq_true z] at e61
    by_cases u : x = nI 2 ∨ x = nI 3
    · rw [if_pos u]
      rw [decide_eq_true u] at e60
      obtain ⟨k, hk, rfl⟩ : ∃ k, (2 ≤ k ∧ k ≤ 3) ∧ x = nI k := by
        rcases u with u | u
        · exact ⟨2, by decide, u⟩
        · exact ⟨3, by decide, u⟩
      rw [nI_clamp (show k < 2 ^ 31 by omega)]
      obtain ⟨q3, f3⟩ := q1.col (YOK.e z.1 z.2 hk)
      obtain ⟨h4, e4, q4, f4⟩ := q3.look (d + 1)
      refine ⟨h4, ?_, q4, (f1.trans f3).trans f4⟩
      simp (disch := omega) only [s37_0, s37_1, s37_2, s37_3, s37_4, s37_5, s37_6, s37_7, s37_8, s37_9, s37_10, s37_11, s37_12, s37_13, s37_14, s37_15, s37_16, s37_17, s37_18, s37_19, s37_20, s37_21, ↓reduceIte, Option.bind_some, Option.toList_some, Option.toList_none, List.cons_append, List.nil_append, if_true, if_false, true_or, or_true, true_and, and_true, not_true_eq_false, not_false_eq_true, Nat.reduceLT, Nat.reduceLeDiff, Nat.reduceEqDiff, Nat.reduceAdd, Nat.reduceMul, Nat.reduceSub, Nat.reducePow, Nat.reduceMod, Nat.reduceDiv, l0, l1, l2, l3, l4, l5, l6, l7, l8, l9, l10, l11, l12, l13, l14, l15, l16, l20, l31, l32, l36, l40, l48, l57, l59, l63, l64, l97, l99, l100, l101, l122, l127, l128, l250, l255, l262143, l262144, l30000, l100000, l12345, l1024, l4095, nI_eqs, nI_les, nI_lts, qI_eq, qI_eqn, nI_eqq, qI_lts, nI_ltp, nI_lep, qI_les, nI_add, nI_mul, qI_add, qI_s, qI_def, nI_clamps, bI_z, bI_o, bI_01, n01, n11, rf_some, rf_none, m1, m1n, bft, hS_stI, c0, c1, y0, y1, e61, e1, e47, e60, e4, bI_t, Bool.true_eq_false]
    · rw [if_neg u]
      rw [decide_eq_false u] at e60
      refine ⟨h1, y, _, ?_, q1, f1, rfl⟩
      simp (disch := omega) only [s37_0, s37_1, s37_2, s37_3, s37_4, s37_5, s37_6, s37_7, s37_8, s37_9, s37_10, s37_11, s37_12, s37_13, s37_14, ↓reduceIte, Option.bind_some, Option.toList_some, Option.toList_none, List.cons_append, List.nil_append, if_true, if_false, true_or, or_true, true_and, and_true, not_true_eq_false, not_false_eq_true, Nat.reduceLT, Nat.reduceLeDiff, Nat.reduceEqDiff, Nat.reduceAdd, Nat.reduceMul, Nat.reduceSub, Nat.reducePow, Nat.reduceMod, Nat.reduceDiv, l0, l1, l2, l3, l4, l5, l6, l7, l8, l9, l10, l11, l12, l13, l14, l15, l16, l20, l31, l32, l36, l40, l48, l57, l59, l63, l64, l97, l99, l100, l101, l122, l127, l128, l250, l255, l262143, l262144, l30000, l100000, l12345, l1024, l4095, nI_eqs, nI_les, nI_lts, qI_eq, qI_eqn, nI_eqq, qI_lts, nI_ltp, nI_lep, qI_les, nI_add, nI_mul, qI_add, qI_s, qI_def, nI_clamps, bI_z, bI_o, bI_01, n01, n11, rf_some, rf_none, m1, m1n, bft, c0, c1, y0, y1, e61, e1, e47, e60, bI_t, bI_f, Bool.true_eq_false]
  · rw [if_neg z]
    rw [decide_eq_false z] at e61
    refine ⟨h, y, t, ?_, q, Fr0.refl _ _, rfl⟩
    simp (disch := omega) only [s37_0, s37_1, s37_2, s37_3, s37_4, ↓reduceIte, Option.bind_some, Option.toList_some, Option.toList_none, List.cons_append, List.nil_append, if_true, if_false, true_or, or_true, true_and, and_true, not_true_eq_false, not_false_eq_true, Nat.reduceLT, Nat.reduceLeDiff, Nat.reduceEqDiff, Nat.reduceAdd, Nat.reduceMul, Nat.reduceSub, Nat.reducePow, Nat.reduceMod, Nat.reduceDiv, l0, l1, l2, l3, l4, l5, l6, l7, l8, l9, l10, l11, l12, l13, l14, l15, l16, l20, l31, l32, l36, l40, l48, l57, l59, l63, l64, l97, l99, l100, l101, l122, l127, l128, l250, l255, l262143, l262144, l30000, l100000, l12345, l1024, l4095, nI_eqs, nI_les, nI_lts, qI_eq, qI_eqn, nI_eqq, qI_lts, nI_ltp, nI_lep, qI_les, nI_add, nI_mul, qI_add, qI_s, qI_def, nI_clamps, bI_z, bI_o, bI_01, n01, n11, rf_some, rf_none, m1, m1n, bft, c0, y0, e61, bI_f]
