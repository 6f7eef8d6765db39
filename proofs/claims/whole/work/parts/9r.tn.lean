/-! STATEMENTS, the reference: cart, share -/
theorem PN.pl {h : AH} {A n e k v : Nat} {b : Nat → Nat} {y : YS} (q : PN h A n b y e) (hv : v ≤ Yg y) : PN (stI h (A + 24) k (nI v)) A n b (sP y k v) e ∧ FM A h (stI h (A + 24) k (nI v)) := by
  have f := FY.arr (a := A) h (k := 24) (by decide) k (nI v)
  have m := q.2.2.2.1
  have r := q.y ⟨m.1.of f.1, m.2.1.P k v, m.2.2.sP hv⟩ f
  exact ⟨r.1, r.2.1⟩
theorem PN.us {h : AH} {A n e g v : Nat} {b : Nat → Nat} {y : YS} (q : PN h A n b y e) (ok : YOK (sU y g v)) : PN (stI h (A + 21) g (nI v)) A n b (sU y g v) e ∧ FM A h (stI h (A + 21) g (nI v)) := by
  have f := FY.arr (a := A) h (k := 21) (by decide) g (nI v)
  have m := q.2.2.2.1
  have r := q.y ⟨m.1.of f.1, m.2.1.U g v, ok⟩ f
  exact ⟨r.1, r.2.1⟩
theorem n173a (d : Nat) {h : AH} {A n e k : Nat} {b : Nat → Nat} {y : YS} (q : PN h A n b y e) (hw : HX h (hK h 11) atw) (hk : Yn y = k + 1) : MR' A n b h (E (d + 4) 173 16 [some (.ref A)] [] h) (stAt n b y k (tkL n b e)) := by
  have e169 := fun d => q.w hw d
  have a1 := q.1.1
  have ok := q.2.2.2.1.2.2
  have o6 := ok.2.1
  have o7 := ok.2.2.1
  have vg0 := q.2.2.2.1.2.1.2.1
  unfold stAt
  cases w : isW b (tkL n b e) atw <;> rw [w] at e169
  · rw [if_neg (by decide)]
    refine ⟨h, e, ?_, q, rfl, FM.refl _ _⟩
    simp (disch := omega) only [s173_16, s173_17, s173_18, s173_19, s173_39, s173_40, ↓reduceIte, Option.bind_some, Option.toList_some, Option.toList_none, List.cons_append, List.nil_append, if_true, if_false, true_or, or_true, true_and, and_true, not_true_eq_false, not_false_eq_true, Nat.reduceLT, Nat.reduceLeDiff, Nat.reduceEqDiff, Nat.reduceAdd, Nat.reduceMul, Nat.reduceSub, Nat.reducePow, Nat.reduceMod, Nat.reduceDiv, l0, l1, l2, l3, l4, l5, l6, l7, l8, l9, l10, l11, l12, l13, l14, l15, l16, l20, l31, l32, l36, l40, l48, l57, l59, l63, l64, l97, l99, l100, l101, l122, l127, l128, l250, l255, l262143, l262144, l30000, l100000, l12345, l1024, l4095, nI_eqs, nI_les, nI_lts, qI_eq, qI_eqn, nI_eqq, qI_lts, nI_ltp, nI_lep, qI_les, nI_add, nI_mul, qI_add, qI_s, qI_def, nI_clamps, bI_z, bI_o, bI_01, n01, n11, rf_some, rf_none, m1, m1n, bft, a1, e169, bI_f]
  · rw [if_pos rfl]
    have m := q.num (d) (nI 0) (qI (Yg y + 1))
    rw [inF_q n b _ (k := Yg y + 1) (by omega), qI_s] at m
    cases c1 : inR (nmD b (tkL n b (tkL n b e).2.2)) (Yg y + 1)
    · rw [if_neg (by decide)]
      obtain ⟨h1, e1, f1, k1⟩ := m.2 c1
      refine ⟨h1, ?_, f1, k1⟩
      simp (disch := omega) only [s173_16, s173_17, s173_18, s173_19, s173_20, s173_21, s173_22, s173_23, s173_24, s173_25, s173_26, s173_27, ↓reduceIte, Option.bind_some, Option.toList_some, Option.toList_none, List.cons_append, List.nil_append, if_true, if_false, true_or, or_true, true_and, and_true, not_true_eq_false, not_false_eq_true, Nat.reduceLT, Nat.reduceLeDiff, Nat.reduceEqDiff, Nat.reduceAdd, Nat.reduceMul, Nat.reduceSub, Nat.reducePow, Nat.reduceMod, Nat.reduceDiv, l0, l1, l2, l3, l4, l5, l6, l7, l8, l9, l10, l11, l12, l13, l14, l15, l16, l20, l31, l32, l36, l40, l48, l57, l59, l63, l64, l97, l99, l100, l101, l122, l127, l128, l250, l255, l262143, l262144, l30000, l100000, l12345, l1024, l4095, nI_eqs, nI_les, nI_lts, qI_eq, qI_eqn, nI_eqq, qI_lts, nI_ltp, nI_lep, qI_les, nI_add, nI_mul, qI_add, qI_s, qI_def, nI_clamps, bI_z, bI_o, bI_01, n01, n11, rf_some, rf_none, m1, m1n, bft, a1, e169, vg0, e1, bI_t, Bool.true_eq_false]
    · rw [if_pos rfl]
      obtain ⟨h1, e1, f1, q1, k1⟩ := m.1 c1
      obtain ⟨c2, v, hv, v1, v2⟩ := inF_v (k := Yg y + 1) (by omega) ((inF_q n b _ (k := Yg y + 1) (by omega)).trans c1)
      rw [v1, nI_clamp (show v < 2 ^ 31 by omega)]
      rw [v2] at k1
      obtain ⟨q2, f2⟩ := q1.pl (k := k) (v := v) (by omega)
      refine ⟨_, _, ?_, q2, rfl, f1.trans f2⟩
      have b1 := q1.1.1
      have b2 := q1.2.2.2.2.1
      have b3 := q1.2.2.2.2.2
      obtain ⟨⟨z0, z1, z2, z3, z4, z5, z6, z7, z8, r1, r2, r3, r4, r5, r6, r7, r8⟩, ⟨vc, vg, vn, vt, vz, vK, vA, vU, vF, vM, vW, vC, vP⟩, ok⟩ := q1.2.2.2.1
      have vn' : hI h1 A 17 = nI (k + 1) := by rw [vn, hk]
      simp (disch := omega) only [s173_16, s173_17, s173_18, s173_19, s173_20, s173_21, s173_22, s173_23, s173_24, s173_25, s173_28, s173_29, s173_30, s173_31, s173_32, s173_33, s173_34, s173_35, s173_36, s173_37, s173_38, s173_39, s173_40, ↓reduceIte, Option.bind_some, Option.toList_some, Option.toList_none, List.cons_append, List.nil_append, if_true, if_false, true_or, or_true, true_and, and_true, not_true_eq_false, not_false_eq_true, Nat.reduceLT, Nat.reduceLeDiff, Nat.reduceEqDiff, Nat.reduceAdd, Nat.reduceMul, Nat.reduceSub, Nat.reducePow, Nat.reduceMod, Nat.reduceDiv, l0, l1, l2, l3, l4, l5, l6, l7, l8, l9, l10, l11, l12, l13, l14, l15, l16, l20, l31, l32, l36, l40, l48, l57, l59, l63, l64, l97, l99, l100, l101, l122, l127, l128, l250, l255, l262143, l262144, l30000, l100000, l12345, l1024, l4095, nI_eqs, nI_les, nI_lts, qI_eq, qI_eqn, nI_eqq, qI_lts, nI_ltp, nI_lep, qI_les, nI_add, nI_mul, qI_add, qI_s, qI_def, nI_clamps, bI_z, bI_o, bI_01, n01, n11, rf_some, rf_none, m1, m1n, bft, z0, r8, gA z8, a1, b1, b2, gI b3, vg0, vn', e169, e1, k1, bI_t, Bool.true_eq_false]
theorem m173 (d : Nat) {h : AH} {A n e : Nat} {b : Nat → Nat} {y : YS} (q : PN h A n b y e) (hw : HX h (hK h 11) atw) (h6 : Yn y < 6) : MR' A n b h (E (d + 4) 173 0 [some (.ref A)] [] h) (stCart n b y (tkL n b e)) := by
  have a1 := q.1.1
  have vc := q.2.2.2.1.2.1.1
  have ok := q.2.2.2.1.2.2
  have o3 := ok.1.2
  have m := q.num (d) (nI 0) (qI (Yc y))
  rw [inF_q n b _ (k := Yc y) (by omega)] at m
  unfold stCart
  rw [if_pos h6]
  cases c1 : inR (nmD b (tkL n b (tkL n b e).2.2)) (Yc y)
  · rw [if_neg (by decide)]
    obtain ⟨h1, e1, f1, k1⟩ := m.2 c1
    refine ⟨h1, ?_, f1, k1⟩
    simp (disch := omega) only [s173_0, s173_1, s173_2, s173_3, s173_4, s173_5, s173_6, s173_7, s173_8, s173_9, ↓reduceIte, Option.bind_some, Option.toList_some, Option.toList_none, List.cons_append, List.nil_append, if_true, if_false, true_or, or_true, true_and, and_true, not_true_eq_false, not_false_eq_true, Nat.reduceLT, Nat.reduceLeDiff, Nat.reduceEqDiff, Nat.reduceAdd, Nat.reduceMul, Nat.reduceSub, Nat.reducePow, Nat.reduceMod, Nat.reduceDiv, l0, l1, l2, l3, l4, l5, l6, l7, l8, l9, l10, l11, l12, l13, l14, l15, l16, l20, l31, l32, l36, l40, l48, l57, l59, l63, l64, l97, l99, l100, l101, l122, l127, l128, l250, l255, l262143, l262144, l30000, l100000, l12345, l1024, l4095, nI_eqs, nI_les, nI_lts, qI_eq, qI_eqn, nI_eqq, qI_lts, nI_ltp, nI_lep, qI_les, nI_add, nI_mul, qI_add, qI_s, qI_def, nI_clamps, bI_z, bI_o, bI_01, n01, n11, rf_some, rf_none, m1, m1n, bft, a1, vc, e1]
  · rw [if_pos rfl]
    obtain ⟨h1, e1, f1, q1, k1⟩ := m.1 c1
    obtain ⟨c2, v, hv, v1, v2⟩ := inF_v (k := Yc y) (by omega) ((inF_q n b _ (k := Yc y) (by omega)).trans c1)
    rw [v1, nI_clamp (show v < 2 ^ 31 by omega)]
    rw [v2] at k1
    obtain ⟨h3, e3, m3, f3⟩ := m155 (d + 3) q1.2.2.2.1 h6 hv
    obtain ⟨q3, g3, k5⟩ := q1.y m3 f3
    have F := f1.trans g3
    have b1 := q1.1.1
    have b2 := q1.2.2.2.2.1
    have b3 := q1.2.2.2.2.2
    have st : E (d + 4) 173 0 [some (.ref A)] [] h = E (d + 4) 173 16 [some (.ref A)] [] h3 := by
      simp (disch := omega) only [s173_0, s173_1, s173_2, s173_3, s173_4, s173_5, s173_6, s173_7, s173_10, s173_11, s173_12, s173_13, s173_14, s173_15, ↓reduceIte, Option.bind_some, Option.toList_some, Option.toList_none, List.cons_append, List.nil_append, if_true, if_false, true_or, or_true, true_and, and_true, not_true_eq_false, not_false_eq_true, Nat.reduceLT, Nat.reduceLeDiff, Nat.reduceEqDiff, Nat.reduceAdd, Nat.reduceMul, Nat.reduceSub, Nat.reducePow, Nat.reduceMod, Nat.reduceDiv, l0, l1, l2, l3, l4, l5, l6, l7, l8, l9, l10, l11, l12, l13, l14, l15, l16, l20, l31, l32, l36, l40, l48, l57, l59, l63, l64, l97, l99, l100, l101, l122, l127, l128, l250, l255, l262143, l262144, l30000, l100000, l12345, l1024, l4095, nI_eqs, nI_les, nI_lts, qI_eq, qI_eqn, nI_eqq, qI_lts, nI_ltp, nI_lep, qI_les, nI_add, nI_mul, qI_add, qI_s, qI_def, nI_clamps, bI_z, bI_o, bI_01, n01, n11, rf_some, rf_none, m1, m1n, bft, a1, b1, b2, gI b3, vc, k1, e1, e3]
    rw [st]
    exact MR'.pre F (n173a d q3 (hw.fm F) rfl)
theorem n174 (d : Nat) {h : AH} {A n e g v : Nat} {b : Nat → Nat} {y : YS} (q : PN h A n b y e) (hg : g < Yg y) (k1 : hI h (A + 25) 0 = nI g) (hv : v < g) (t2 : (tkL n b e).1 = 2) (tv : fgT n b (tkL n b e) = v) (ok : YOK (sU y g v)) : MR' A n b h (E (d + 4) 174 41 [some (.ref A), some (.int (nI 1))] [.int (nI 1)] h) (.inl (sU y g v, tkL n b (tkL n b e).2.2)) := by
  have a1 := q.1.1
  have o6 := q.2.2.2.1.2.2.2.1
  have m := q.num1 (d + 1) (nI 0) (qI g)
  have a2 := q.2.2.2.2.1
  have a3 := q.2.2.2.2.2
  have c1 : inF n b (tkL n b e) (nI 0) (qI g) = true := by
    rw [inF_q n b e (by omega)]
    rcases nm_c n b e with ⟨c, u, hu, e1, e2⟩ | ⟨e1, e2⟩
    · rw [e1, inR_nI (by omega) (by omega)]; exact decide_eq_true (by omega)
    · have := e2 t2; omega
  obtain ⟨h1, e1, f1, q1, k2, k3⟩ := m.1 c1
  rw [tv] at k2
  rw [k1] at k3
  obtain ⟨q2, f2⟩ := q1.us ok
  refine ⟨_, _, ?_, q2, rfl, f1.trans f2⟩
  have b1 := q1.1.1
  have b2 := q1.2.2.2.2.1
  have b3 := q1.2.2.2.2.2
  obtain ⟨⟨z0, z1, z2, z3, z4, z5, z6, z7, z8, r1, r2, r3, r4, r5, r6, r7, r8⟩, ⟨vc, vg, vn, vt, vz, vK, vA, vU, vF, vM, vW, vC, vP⟩, ok⟩ := q1.2.2.2.1
  simp (disch := omega) only [s174_41, s174_42, s174_43, s174_44, s174_45, s174_46, s174_47, s174_48, s174_49, s174_50, s174_51, s174_52, s174_56, s174_57, s174_58, s174_59, s174_60, s174_61, s174_62, s174_63, s174_64, s174_65, s174_66, s174_67, s174_68, ↓reduceIte, Option.bind_some, Option.toList_some, Option.toList_none, List.cons_append, List.nil_append, if_true, if_false, true_or, or_true, true_and, and_true, not_true_eq_false, not_false_eq_true, Nat.reduceLT, Nat.reduceLeDiff, Nat.reduceEqDiff, Nat.reduceAdd, Nat.reduceMul, Nat.reduceSub, Nat.reducePow, Nat.reduceMod, Nat.reduceDiv, l0, l1, l2, l3, l4, l5, l6, l7, l8, l9, l10, l11, l12, l13, l14, l15, l16, l20, l31, l32, l36, l40, l48, l57, l59, l63, l64, l97, l99, l100, l101, l122, l127, l128, l250, l255, l262143, l262144, l30000, l100000, l12345, l1024, l4095, nI_eqs, nI_les, nI_lts, qI_eq, qI_eqn, nI_eqq, qI_lts, nI_ltp, nI_lep, qI_les, nI_add, nI_mul, qI_add, qI_s, qI_def, nI_clamps, bI_z, bI_o, bI_01, n01, n11, rf_some, rf_none, m1, m1n, bft, z0, r1, r2, r3, r4, r5, r6, r7, r8, vc, vg, vn, vt, vz, gI z1, gI z2, gI z3, gI z4, gI z5, gI z6, gI z7, gI z8, gA z1, gA z2, gA z3, gA z4, gA z5, gA z6, gA z7, gA z8, a1, a2, gI a3, k1, b1, b2, gI b3, e1, k2, k3]
theorem n174f (d : Nat) {h : AH} {A n e : Nat} {b : Nat → Nat} {y : YS} (q : PN h A n b y e) : MR' A n b h (E (d + 4) 174 41 [some (.ref A), some (.int (nI 0))] [.int (nI 0)] h) (.inr (tkL n b e).2.1) := by
  have a1 := q.1.1
  obtain ⟨e1, f1, k1⟩ := q.wrong
  refine ⟨_, ?_, f1, k1⟩
  simp (disch := omega) only [s174_41, s174_53, s174_54, s174_55, ↓reduceIte, Option.bind_some, Option.toList_some, Option.toList_none, List.cons_append, List.nil_append, if_true, if_false, true_or, or_true, true_and, and_true, not_true_eq_false, not_false_eq_true, Nat.reduceLT, Nat.reduceLeDiff, Nat.reduceEqDiff, Nat.reduceAdd, Nat.reduceMul, Nat.reduceSub, Nat.reducePow, Nat.reduceMod, Nat.reduceDiv, l0, l1, l2, l3, l4, l5, l6, l7, l8, l9, l10, l11, l12, l13, l14, l15, l16, l20, l31, l32, l36, l40, l48, l57, l59, l63, l64, l97, l99, l100, l101, l122, l127, l128, l250, l255, l262143, l262144, l30000, l100000, l12345, l1024, l4095, nI_eqs, nI_les, nI_lts, qI_eq, qI_eqn, nI_eqq, qI_lts, nI_ltp, nI_lep, qI_les, nI_add, nI_mul, qI_add, qI_s, qI_def, nI_clamps, bI_z, bI_o, bI_01, n01, n11, rf_some, rf_none, m1, m1n, bft, a1, e1]
theorem m174 (d : Nat) {h : AH} {A n e : Nat} {b : Nat → Nat} {y : YS} (q : PN h A n b y e) (p1 : Option Value) : MR' A n b h (E (d + 4) 174 0 [some (.ref A), p1] [] h) (stShare n b y (tkL n b e)) := by
  have a1 := q.1.1
  have vg' := q.2.2.2.1.2.1.2.1
  have ok := q.2.2.2.1.2.2
  have o6 := ok.2.1
  have m := q.num (d) (nI 0) (qI (Yg y))
  rw [inF_q n b _ (k := Yg y) (by omega)] at m
  unfold stShare
  cases c1 : inR (nmD b (tkL n b (tkL n b e).2.2)) (Yg y)
  · rw [if_neg (by decide)]
    obtain ⟨h1, e1, f1, k1⟩ := m.2 c1
    refine ⟨h1, ?_, f1, k1⟩
    simp (disch := omega) only [s174_0, s174_1, s174_2, s174_3, s174_4, s174_5, s174_6, s174_7, s174_8, s174_9, ↓reduceIte, Option.bind_some, Option.toList_some, Option.toList_none, List.cons_append, List.nil_append, if_true, if_false, true_or, or_true, true_and, and_true, not_true_eq_false, not_false_eq_true, Nat.reduceLT, Nat.reduceLeDiff, Nat.reduceEqDiff, Nat.reduceAdd, Nat.reduceMul, Nat.reduceSub, Nat.reducePow, Nat.reduceMod, Nat.reduceDiv, l0, l1, l2, l3, l4, l5, l6, l7, l8, l9, l10, l11, l12, l13, l14, l15, l16, l20, l31, l32, l36, l40, l48, l57, l59, l63, l64, l97, l99, l100, l101, l122, l127, l128, l250, l255, l262143, l262144, l30000, l100000, l12345, l1024, l4095, nI_eqs, nI_les, nI_lts, qI_eq, qI_eqn, nI_eqq, qI_lts, nI_ltp, nI_lep, qI_les, nI_add, nI_mul, qI_add, qI_s, qI_def, nI_clamps, bI_z, bI_o, bI_01, n01, n11, rf_some, rf_none, m1, m1n, bft, a1, vg', e1]
  · rw [if_pos rfl]
    obtain ⟨h1, e1, f1, q1, k1⟩ := m.1 c1
    obtain ⟨c2, g, hg, v1, v2⟩ := inF_v (k := Yg y) (by omega) ((inF_q n b _ (k := Yg y) (by omega)).trans c1)
    rw [v1, nI_clamp (show g < 2 ^ 31 by omega)]
    rw [v2] at k1
    have b1 := q1.1.1
    have b2 := q1.2.2.2.2.1
    have b3 := q1.2.2.2.2.2
    obtain ⟨t1, -, -, t4⟩ := q1.2.1
    have my := q1.2.2.2.1
    have e161 := fun d => m161 d my hg none
    obtain ⟨⟨z0, z1, z2, z3, z4, z5, z6, z7, z8, r1, r2, r3, r4, r5, r6, r7, r8⟩, ⟨vc, vg, vn, vt, vz, vK, vA, vU, vF, vM, vW, vC, vP⟩, ok⟩ := id my
    generalize he : (tkL n b (tkL n b e).2.2).2.2 = e2 at *
    refine MR'.pre f1 ?_
    have fl : E (d + 4) 174 0 [some (.ref A), p1] [] h = E (d + 4) 174 41 [some (.ref A), some (.int (nI 0))] [.int (nI 0)] h1 → nmD b (tkL n b e2) = qI 0 ∨ (∃ v, v < 100 ∧ nmD b (tkL n b e2) = nI v ∧ ¬ (v < g ∧ YU y v = v ∧ usdB y g = false)) → MR' A n b h1 (E (d + 4) 174 0 [some (.ref A), p1] [] h) (if inR (nmD b (tkL n b e2)) g = true ∧ YU y (nmD b (tkL n b e2)).toNatClampNeg = (nmD b (tkL n b e2)).toNatClampNeg ∧ usdB y g = false then .inl (sU y g (nmD b (tkL n b e2)).toNatClampNeg, tkL n b (tkL n b e2).2.2) else .inr (tkL n b e2).2.1) := by
      intro s u
      rw [if_neg, s]
      · exact n174f d q1
      · rcases u with u | ⟨v, hv, u, w⟩
        · rw [u, inR_no (by omega)]
          exact fun w => Bool.noConfusion w.1
        · rw [u, inR_nI (by omega) (by omega), nI_clamp (show v < 2 ^ 31 by omega)]
          exact fun w' => w ⟨of_decide_eq_true w'.1, w'.2⟩
    rcases nm_c n b e2 with ⟨c3, v, hv, w1, w2⟩ | ⟨w1, w2⟩
    · rw [c3] at t1
      rw [w2] at t4
      by_cases u1 : v < g
      · have n1 : ¬ g ≤ v := by omega
        have vU' := vU v (by omega)
        by_cases u2 : YU y v = v
        · rcases Bool.eq_false_or_eq_true (usdB y g) with u3 | u3 <;> rw [u3] at e161
          · refine fl ?_ (Or.inr ⟨v, hv, w1, fun w => absurd (u3.symm.trans w.2.2) (by decide)⟩)
            simp (disch := omega) only [s174_0, s174_1, s174_2, s174_3, s174_4, s174_5, s174_6, s174_7, s174_10, s174_11, s174_12, s174_13, s174_14, s174_15, s174_16, s174_17, s174_18, s174_19, s174_20, s174_21, s174_22, s174_23, s174_24, s174_25, s174_26, s174_27, s174_28, s174_29, s174_30, s174_31, s174_32, s174_33, s174_34, s174_35, s174_38, s174_39, s174_40, ↓reduceIte, Option.bind_some, Option.toList_some, Option.toList_none, List.cons_append, List.nil_append, if_true, if_false, true_or, or_true, true_and, and_true, not_true_eq_false, not_false_eq_true, Nat.reduceLT, Nat.reduceLeDiff, Nat.reduceEqDiff, Nat.reduceAdd, Nat.reduceMul, Nat.reduceSub, Nat.reducePow, Nat.reduceMod, Nat.reduceDiv, l0, l1, l2, l3, l4, l5, l6, l7, l8, l9, l10, l11, l12, l13, l14, l15, l16, l20, l31, l32, l36, l40, l48, l57, l59, l63, l64, l97, l99, l100, l101, l122, l127, l128, l250, l255, l262143, l262144, l30000, l100000, l12345, l1024, l4095, nI_eqs, nI_les, nI_lts, qI_eq, qI_eqn, nI_eqq, qI_lts, nI_ltp, nI_lep, qI_les, nI_add, nI_mul, qI_add, qI_s, qI_def, nI_clamps, bI_z, bI_o, bI_01, n01, n11, rf_some, rf_none, m1, m1n, bft, a1, vg', e1, z0, r5, gI z5, vU', b2, gI b3, t1, t4, k1, n1, u2, e161, bI_t, Bool.true_eq_false]
          · rw [w1, inR_nI (by omega) (by omega), nI_clamp (show v < 2 ^ 31 by omega), if_pos ⟨decide_eq_true u1, u2, u3⟩]
            have st : E (d + 4) 174 0 [some (.ref A), p1] [] h = E (d + 4) 174 41 [some (.ref A), some (.int (nI 1))] [.int (nI 1)] h1 := by
              simp (disch := omega) only [s174_0, s174_1, s174_2, s174_3, s174_4, s174_5, s174_6, s174_7, s174_10, s174_11, s174_12, s174_13, s174_14, s174_15, s174_16, s174_17, s174_18, s174_19, s174_20, s174_21, s174_22, s174_23, s174_24, s174_25, s174_26, s174_27, s174_28, s174_29, s174_30, s174_31, s174_32, s174_33, s174_34, s174_35, s174_36, s174_37, s174_39, s174_40, ↓reduceIte, Option.bind_some, Option.toList_some, Option.toList_none, List.cons_append, List.nil_append, if_true, if_false, true_or, or_true, true_and, and_true, not_true_eq_false, not_false_eq_true, Nat.reduceLT, Nat.reduceLeDiff, Nat.reduceEqDiff, Nat.reduceAdd, Nat.reduceMul, Nat.reduceSub, Nat.reducePow, Nat.reduceMod, Nat.reduceDiv, l0, l1, l2, l3, l4, l5, l6, l7, l8, l9, l10, l11, l12, l13, l14, l15, l16, l20, l31, l32, l36, l40, l48, l57, l59, l63, l64, l97, l99, l100, l101, l122, l127, l128, l250, l255, l262143, l262144, l30000, l100000, l12345, l1024, l4095, nI_eqs, nI_les, nI_lts, qI_eq, qI_eqn, nI_eqq, qI_lts, nI_ltp, nI_lep, qI_les, nI_add, nI_mul, qI_add, qI_s, qI_def, nI_clamps, bI_z, bI_o, bI_01, n01, n11, rf_some, rf_none, m1, m1n, bft, a1, vg', e1, z0, r5, gI z5, vU', b2, gI b3, t1, t4, k1, n1, u2, e161, bI_f]
            rw [st]
            exact n174 d q1 hg k1 u1 c3 w2 (ok.sU hg (Or.inr ⟨u1, u2, u3⟩))
        · refine fl ?_ (Or.inr ⟨v, hv, w1, fun w => u2 w.2.1⟩)
          have u6 := ok.u6 (g := v) (by omega)
          simp (disch := omega) only [s174_0, s174_1, s174_2, s174_3, s174_4, s174_5, s174_6, s174_7, s174_10, s174_11, s174_12, s174_13, s174_14, s174_15, s174_16, s174_17, s174_18, s174_19, s174_20, s174_21, s174_22, s174_23, s174_24, s174_25, s174_26, s174_27, s174_28, s174_38, s174_39, s174_40, ↓reduceIte, Option.bind_some, Option.toList_some, Option.toList_none, List.cons_append, List.nil_append, if_true, if_false, true_or, or_true, true_and, and_true, not_true_eq_false, not_false_eq_true, Nat.reduceLT, Nat.reduceLeDiff, Nat.reduceEqDiff, Nat.reduceAdd, Nat.reduceMul, Nat.reduceSub, Nat.reducePow, Nat.reduceMod, Nat.reduceDiv, l0, l1, l2, l3, l4, l5, l6, l7, l8, l9, l10, l11, l12, l13, l14, l15, l16, l20, l31, l32, l36, l40, l48, l57, l59, l63, l64, l97, l99, l100, l101, l122, l127, l128, l250, l255, l262143, l262144, l30000, l100000, l12345, l1024, l4095, nI_eqs, nI_les, nI_lts, qI_eq, qI_eqn, nI_eqq, qI_lts, nI_ltp, nI_lep, qI_les, nI_add, nI_mul, qI_add, qI_s, qI_def, nI_clamps, bI_z, bI_o, bI_01, n01, n11, rf_some, rf_none, m1, m1n, bft, a1, vg', e1, z0, r5, gI z5, vU', b2, gI b3, t1, t4, k1, n1, u2, bI_t, Bool.true_eq_false]
      · refine fl ?_ (Or.inr ⟨v, hv, w1, fun w => u1 w.1⟩)
        have n1 : g ≤ v := by omega
        simp (disch := omega) only [s174_0, s174_1, s174_2, s174_3, s174_4, s174_5, s174_6, s174_7, s174_10, s174_11, s174_12, s174_13, s174_14, s174_15, s174_16, s174_17, s174_18, s174_19, s174_20, s174_38, s174_39, s174_40, ↓reduceIte, Option.bind_some, Option.toList_some, Option.toList_none, List.cons_append, List.nil_append, if_true, if_false, true_or, or_true, true_and, and_true, not_true_eq_false, not_false_eq_true, Nat.reduceLT, Nat.reduceLeDiff, Nat.reduceEqDiff, Nat.reduceAdd, Nat.reduceMul, Nat.reduceSub, Nat.reducePow, Nat.reduceMod, Nat.reduceDiv, l0, l1, l2, l3, l4, l5, l6, l7, l8, l9, l10, l11, l12, l13, l14, l15, l16, l20, l31, l32, l36, l40, l48, l57, l59, l63, l64, l97, l99, l100, l101, l122, l127, l128, l250, l255, l262143, l262144, l30000, l100000, l12345, l1024, l4095, nI_eqs, nI_les, nI_lts, qI_eq, qI_eqn, nI_eqq, qI_lts, nI_ltp, nI_lep, qI_les, nI_add, nI_mul, qI_add, qI_s, qI_def, nI_clamps, bI_z, bI_o, bI_01, n01, n11, rf_some, rf_none, m1, m1n, bft, a1, vg', e1, z0, b2, gI b3, t1, t4, k1, n1]
    · refine fl ?_ (Or.inl w1)
      by_cases c3 : (tkL n b e2).1 = 2
      · rw [c3] at t1
        rw [w2 c3] at t4
        have n1 : g ≤ 100000 := by omega
        simp (disch := omega) only [s174_0, s174_1, s174_2, s174_3, s174_4, s174_5, s174_6, s174_7, s174_10, s174_11, s174_12, s174_13, s174_14, s174_15, s174_16, s174_17, s174_18, s174_19, s174_20, s174_38, s174_39, s174_40, ↓reduceIte, Option.bind_some, Option.toList_some, Option.toList_none, List.cons_append, List.nil_append, if_true, if_false, true_or, or_true, true_and, and_true, not_true_eq_false, not_false_eq_true, Nat.reduceLT, Nat.reduceLeDiff, Nat.reduceEqDiff, Nat.reduceAdd, Nat.reduceMul, Nat.reduceSub, Nat.reducePow, Nat.reduceMod, Nat.reduceDiv, l0, l1, l2, l3, l4, l5, l6, l7, l8, l9, l10, l11, l12, l13, l14, l15, l16, l20, l31, l32, l36, l40, l48, l57, l59, l63, l64, l97, l99, l100, l101, l122, l127, l128, l250, l255, l262143, l262144, l30000, l100000, l12345, l1024, l4095, nI_eqs, nI_les, nI_lts, qI_eq, qI_eqn, nI_eqq, qI_lts, nI_ltp, nI_lep, qI_les, nI_add, nI_mul, qI_add, qI_s, qI_def, nI_clamps, bI_z, bI_o, bI_01, n01, n11, rf_some, rf_none, m1, m1n, bft, a1, vg', e1, z0, b2, gI b3, t1, t4, k1, n1]
      · have tl := q1.tok.1
        have c3' : ¬ 2 = (tkL n b e2).1 := fun w => c3 w.symm
        simp (disch := omega) only [s174_0, s174_1, s174_2, s174_3, s174_4, s174_5, s174_6, s174_7, s174_10, s174_11, s174_12, s174_13, s174_38, s174_39, s174_40, ↓reduceIte, Option.bind_some, Option.toList_some, Option.toList_none, List.cons_append, List.nil_append, if_true, if_false, true_or, or_true, true_and, and_true, not_true_eq_false, not_false_eq_true, Nat.reduceLT, Nat.reduceLeDiff, Nat.reduceEqDiff, Nat.reduceAdd, Nat.reduceMul, Nat.reduceSub, Nat.reducePow, Nat.reduceMod, Nat.reduceDiv, l0, l1, l2, l3, l4, l5, l6, l7, l8, l9, l10, l11, l12, l13, l14, l15, l16, l20, l31, l32, l36, l40, l48, l57, l59, l63, l64, l97, l99, l100, l101, l122, l127, l128, l250, l255, l262143, l262144, l30000, l100000, l12345, l1024, l4095, nI_eqs, nI_les, nI_lts, qI_eq, qI_eqn, nI_eqq, qI_lts, nI_ltp, nI_lep, qI_les, nI_add, nI_mul, qI_add, qI_s, qI_def, nI_clamps, bI_z, bI_o, bI_01, n01, n11, rf_some, rf_none, m1, m1n, bft, a1, vg', e1, z0, t1, c3, c3']
