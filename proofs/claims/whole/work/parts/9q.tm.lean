/-! STATEMENTS, the reference: gate -/
def WM (h : AH) : Prop := HX h (hK h 7) wCo ∧ HX h (hK h 8) wGa ∧ HX h (hK h 9) kn ∧ HX h (hK h 10) wCa ∧ HX h (hK h 11) atw ∧ HX h (hK h 12) wSh ∧ HX h (hK h 13) wFo
theorem HX.kx {h h' : AH} {k : Nat} {w : List Nat} (q : HX h (hK h k) w) (e1 : hK h' = hK h) (e2 : hX h' = hX h) : HX h' (hK h' k) w := by
  unfold HX at q ⊢
  rw [e1, e2]; exact q
theorem HX.fm {h h' : AH} {A k : Nat} {w : List Nat} (q : HX h (hK h k) w) (f : FM A h h') : HX h' (hK h' k) w := q.kx f.1.2.2.1 f.1.2.2.2.1
theorem WM.kx {h h' : AH} (q : WM h) (e1 : hK h' = hK h) (e2 : hX h' = hX h) : WM h' := ⟨q.1.kx e1 e2, q.2.1.kx e1 e2, q.2.2.1.kx e1 e2, q.2.2.2.1.kx e1 e2, q.2.2.2.2.1.kx e1 e2, q.2.2.2.2.2.1.kx e1 e2, q.2.2.2.2.2.2.kx e1 e2⟩
theorem WK.kx {h h' : AH} (q : WK h) (e1 : hK h' = hK h) (e2 : hX h' = hX h) : WK h' := ⟨q.1.kx e1 e2, q.2.1.kx e1 e2, q.2.2.1.kx e1 e2, q.2.2.2.1.kx e1 e2, q.2.2.2.2.1.kx e1 e2, q.2.2.2.2.2.1.kx e1 e2, q.2.2.2.2.2.2.kx e1 e2⟩
theorem PN.w {h : AH} {A n e k : Nat} {b : Nat → Nat} {y : YS} {w : List Nat} (q : PN h A n b y e) (hw : HX h (hK h k) w) (d : Nat) : E (d + 1) 169 0 [some (.ref A), some (.ref (hK h k)), none] [] h = some (some (.int (bI (isW b (tkL n b e) w))), h) := m169 d q.1 q.2.1 q.tok hw none
theorem MR'.pre {A n : Nat} {b : Nat → Nat} {h h1 : AH} {e : Option (Option Value × AH)} {r : (YS × (Nat × Nat × Nat)) ⊕ Nat} (f : FM A h h1) (q : MR' A n b h1 e r) : MR' A n b h e r := by
  cases r with
  | inl z =>
    obtain ⟨h', e', a1, a2, a3, a4⟩ := q
    exact ⟨h', e', a1, a2, a3, f.trans a4⟩
  | inr p =>
    obtain ⟨h', a1, a3, a4⟩ := q
    exact ⟨h', a1, f.trans a3, a4⟩
theorem PN.m2 {h : AH} {A n e g v c : Nat} {b : Nat → Nat} {y : YS} (q : PN h A n b y e) (hf : YF y g = c + 1) (hc : c < Yc y) (hv : v < Yc y) : PN (stI h (A + 20) g (nI v)) A n b (sM y g (c + 1) (v + 1)) e ∧ FM A h (stI h (A + 20) g (nI v)) := by
  have f := FY.arr (a := A) h (k := 20) (by decide) g (nI v)
  have m := q.2.2.2.1
  have z := m.2.1.Ms g (v + 1)
  rw [qI_s, hf] at z
  have r := q.y ⟨m.1.of f.1, z, m.2.2.sM (by omega) (by omega)⟩ f
  exact ⟨r.1, r.2.1⟩
theorem PN.m1 {h : AH} {A n e g v : Nat} {b : Nat → Nat} {y : YS} (q : PN h A n b y e) (hf : YM y g = 0) (hv : v < Yc y) : PN (stI h (A + 19) g (nI v)) A n b (sM y g (v + 1) 0) e ∧ FM A h (stI h (A + 19) g (nI v)) := by
  have f := FY.arr (a := A) h (k := 19) (by decide) g (nI v)
  have m := q.2.2.2.1
  have z := m.2.1.Mf g (v + 1)
  rw [qI_s, hf] at z
  have r := q.y ⟨m.1.of f.1, z, m.2.2.sM (by omega) (by omega)⟩ f
  exact ⟨r.1, r.2.1⟩
theorem n172b (d : Nat) {h : AH} {A n e g c : Nat} {b : Nat → Nat} {y : YS} (q : PN h A n b y e) (hw : HX h (hK h 9) kn) (hg : g < Yg y) (hu : YU y g = g) (hf : YF y g = c + 1) (hc : c < Yc y) : MR' A n b h (E (d + 4) 172 50 [some (.ref A), some (.int (nI g))] [] h) (stKnows2 n b y g c (tkL n b e)) := by
  have e169 := fun d => q.w hw d
  have a1 := q.1.1
  have ok := q.2.2.2.1.2.2
  have o6 := ok.2.1
  have o3 := ok.1.2
  have vc' := q.2.2.2.1.2.1.1
  unfold stKnows2
  cases w : isW b (tkL n b e) kn <;> rw [w] at e169
  · rw [if_neg (by decide)]
    refine ⟨h, e, ?_, q, rfl, FM.refl _ _⟩
    simp (disch := omega) only [s172_50, s172_51, s172_52, s172_53, s172_72, s172_73, ↓reduceIte, Option.bind_some, Option.toList_some, Option.toList_none, List.cons_append, List.nil_append, if_true, if_false, true_or, or_true, true_and, and_true, not_true_eq_false, not_false_eq_true, Nat.reduceLT, Nat.reduceLeDiff, Nat.reduceEqDiff, Nat.reduceAdd, Nat.reduceMul, Nat.reduceSub, Nat.reducePow, Nat.reduceMod, Nat.reduceDiv, l0, l1, l2, l3, l4, l5, l6, l7, l8, l9, l10, l11, l12, l13, l14, l15, l16, l20, l31, l32, l36, l40, l48, l57, l59, l63, l64, l97, l99, l100, l101, l122, l127, l128, l250, l255, l262143, l262144, l30000, l100000, l12345, l1024, l4095, nI_eqs, nI_les, nI_lts, qI_eq, qI_eqn, nI_eqq, qI_lts, nI_ltp, nI_lep, qI_les, nI_add, nI_mul, qI_add, qI_s, qI_def, nI_clamps, bI_z, bI_o, bI_01, n01, n11, rf_some, rf_none, m1, m1n, bft, a1, e169, bI_f]
  · rw [if_pos rfl]
    have m := q.num (d) (nI 0) (qI (Yc y))
    rw [inF_q n b _ (k := Yc y) (by omega)] at m
    cases c1 : inR (nmD b (tkL n b (tkL n b e).2.2)) (Yc y)
    · rw [if_neg (by decide)]
      obtain ⟨h1, e1, f1, k1⟩ := m.2 c1
      refine ⟨h1, ?_, f1, k1⟩
      simp (disch := omega) only [s172_50, s172_51, s172_52, s172_53, s172_54, s172_55, s172_56, s172_57, s172_58, s172_59, s172_60, s172_61, s172_62, s172_63, ↓reduceIte, Option.bind_some, Option.toList_some, Option.toList_none, List.cons_append, List.nil_append, if_true, if_false, true_or, or_true, true_and, and_true, not_true_eq_false, not_false_eq_true, Nat.reduceLT, Nat.reduceLeDiff, Nat.reduceEqDiff, Nat.reduceAdd, Nat.reduceMul, Nat.reduceSub, Nat.reducePow, Nat.reduceMod, Nat.reduceDiv, l0, l1, l2, l3, l4, l5, l6, l7, l8, l9, l10, l11, l12, l13, l14, l15, l16, l20, l31, l32, l36, l40, l48, l57, l59, l63, l64, l97, l99, l100, l101, l122, l127, l128, l250, l255, l262143, l262144, l30000, l100000, l12345, l1024, l4095, nI_eqs, nI_les, nI_lts, qI_eq, qI_eqn, nI_eqq, qI_lts, nI_ltp, nI_lep, qI_les, nI_add, nI_mul, qI_add, qI_s, qI_def, nI_clamps, bI_z, bI_o, bI_01, n01, n11, rf_some, rf_none, m1, m1n, bft, a1, e169, vc', e1, bI_t, Bool.true_eq_false]
    · rw [if_pos rfl]
      obtain ⟨h1, e1, f1, q1, k1⟩ := m.1 c1
      obtain ⟨c2, v, hv, v1, v2⟩ := inF_v (k := Yc y) (by omega) ((inF_q n b _ (k := Yc y) (by omega)).trans c1)
      rw [v1, nI_clamp (show v < 2 ^ 31 by omega), hu]
      rw [v2] at k1
      obtain ⟨q2, f2⟩ := q1.m2 hf hc hv
      refine ⟨_, _, ?_, q2, rfl, f1.trans f2⟩
      have b1 := q1.1.1
      have b2 := q1.2.2.2.2.1
      have b3 := q1.2.2.2.2.2
      obtain ⟨⟨z0, z1, z2, z3, z4, z5, z6, z7, z8, r1, r2, r3, r4, r5, r6, r7, r8⟩, ⟨vc, vg, vn, vt, vz, vK, vA, vU, vF, vM, vW, vC, vP⟩, ok⟩ := q1.2.2.2.1
      simp (disch := omega) only [s172_50, s172_51, s172_52, s172_53, s172_54, s172_55, s172_56, s172_57, s172_58, s172_59, s172_60, s172_61, s172_64, s172_65, s172_66, s172_67, s172_68, s172_69, s172_70, s172_71, s172_72, s172_73, ↓reduceIte, Option.bind_some, Option.toList_some, Option.toList_none, List.cons_append, List.nil_append, if_true, if_false, true_or, or_true, true_and, and_true, not_true_eq_false, not_false_eq_true, Nat.reduceLT, Nat.reduceLeDiff, Nat.reduceEqDiff, Nat.reduceAdd, Nat.reduceMul, Nat.reduceSub, Nat.reducePow, Nat.reduceMod, Nat.reduceDiv, l0, l1, l2, l3, l4, l5, l6, l7, l8, l9, l10, l11, l12, l13, l14, l15, l16, l20, l31, l32, l36, l40, l48, l57, l59, l63, l64, l97, l99, l100, l101, l122, l127, l128, l250, l255, l262143, l262144, l30000, l100000, l12345, l1024, l4095, nI_eqs, nI_les, nI_lts, qI_eq, qI_eqn, nI_eqq, qI_lts, nI_ltp, nI_lep, qI_les, nI_add, nI_mul, qI_add, qI_s, qI_def, nI_clamps, bI_z, bI_o, bI_01, n01, n11, rf_some, rf_none, m1, m1n, bft, z0, r1, r2, r3, r4, r5, r6, r7, r8, vc, vg, vn, vt, vz, gI z1, gI z2, gI z3, gI z4, gI z5, gI z6, gI z7, gI z8, gA z1, gA z2, gA z3, gA z4, gA z5, gA z6, gA z7, gA z8, a1, b1, b2, gI b3, vc', e169, e1, k1, bI_t, Bool.true_eq_false]
theorem n172a (d : Nat) {h : AH} {A n e g : Nat} {b : Nat → Nat} {y : YS} (q : PN h A n b y e) (hw : HX h (hK h 9) kn) (hg : g < Yg y) (hu : YU y g = g) (hf : YM y g = 0) : MR' A n b h (E (d + 4) 172 28 [some (.ref A), some (.int (nI g))] [] h) (stKnows n b y g (tkL n b e)) := by
  have e169 := fun d => q.w hw d
  have a1 := q.1.1
  have ok := q.2.2.2.1.2.2
  have o6 := ok.2.1
  have o3 := ok.1.2
  have vc' := q.2.2.2.1.2.1.1
  unfold stKnows
  cases w : isW b (tkL n b e) kn <;> rw [w] at e169
  · rw [if_neg (by decide)]
    refine ⟨h, e, ?_, q, rfl, FM.refl _ _⟩
    simp (disch := omega) only [s172_28, s172_29, s172_30, s172_31, s172_72, s172_73, ↓reduceIte, Option.bind_some, Option.toList_some, Option.toList_none, List.cons_append, List.nil_append, if_true, if_false, true_or, or_true, true_and, and_true, not_true_eq_false, not_false_eq_true, Nat.reduceLT, Nat.reduceLeDiff, Nat.reduceEqDiff, Nat.reduceAdd, Nat.reduceMul, Nat.reduceSub, Nat.reducePow, Nat.reduceMod, Nat.reduceDiv, l0, l1, l2, l3, l4, l5, l6, l7, l8, l9, l10, l11, l12, l13, l14, l15, l16, l20, l31, l32, l36, l40, l48, l57, l59, l63, l64, l97, l99, l100, l101, l122, l127, l128, l250, l255, l262143, l262144, l30000, l100000, l12345, l1024, l4095, nI_eqs, nI_les, nI_lts, qI_eq, qI_eqn, nI_eqq, qI_lts, nI_ltp, nI_lep, qI_les, nI_add, nI_mul, qI_add, qI_s, qI_def, nI_clamps, bI_z, bI_o, bI_01, n01, n11, rf_some, rf_none, m1, m1n, bft, a1, e169, bI_f]
  · rw [if_pos rfl]
    have m := q.num (d) (nI 0) (qI (Yc y))
    rw [inF_q n b _ (k := Yc y) (by omega)] at m
    cases c1 : inR (nmD b (tkL n b (tkL n b e).2.2)) (Yc y)
    · rw [if_neg (by decide)]
      obtain ⟨h1, e1, f1, k1⟩ := m.2 c1
      refine ⟨h1, ?_, f1, k1⟩
      simp (disch := omega) only [s172_28, s172_29, s172_30, s172_31, s172_32, s172_33, s172_34, s172_35, s172_36, s172_37, s172_38, s172_39, s172_40, s172_41, ↓reduceIte, Option.bind_some, Option.toList_some, Option.toList_none, List.cons_append, List.nil_append, if_true, if_false, true_or, or_true, true_and, and_true, not_true_eq_false, not_false_eq_true, Nat.reduceLT, Nat.reduceLeDiff, Nat.reduceEqDiff, Nat.reduceAdd, Nat.reduceMul, Nat.reduceSub, Nat.reducePow, Nat.reduceMod, Nat.reduceDiv, l0, l1, l2, l3, l4, l5, l6, l7, l8, l9, l10, l11, l12, l13, l14, l15, l16, l20, l31, l32, l36, l40, l48, l57, l59, l63, l64, l97, l99, l100, l101, l122, l127, l128, l250, l255, l262143, l262144, l30000, l100000, l12345, l1024, l4095, nI_eqs, nI_les, nI_lts, qI_eq, qI_eqn, nI_eqq, qI_lts, nI_ltp, nI_lep, qI_les, nI_add, nI_mul, qI_add, qI_s, qI_def, nI_clamps, bI_z, bI_o, bI_01, n01, n11, rf_some, rf_none, m1, m1n, bft, a1, e169, vc', e1, bI_t, Bool.true_eq_false]
    · rw [if_pos rfl]
      obtain ⟨h1, e1, f1, q1, k1⟩ := m.1 c1
      obtain ⟨c2, v, hv, v1, v2⟩ := inF_v (k := Yc y) (by omega) ((inF_q n b _ (k := Yc y) (by omega)).trans c1)
      rw [v1, nI_clamp (show v < 2 ^ 31 by omega), hu]
      rw [v2] at k1
      obtain ⟨q2, f2⟩ := q1.m1 hf hv
      refine MR'.pre (f1.trans f2) ?_
      have b1 := q1.1.1
      have b2 := q1.2.2.2.2.1
      have b3 := q1.2.2.2.2.2
      obtain ⟨⟨z0, z1, z2, z3, z4, z5, z6, z7, z8, r1, r2, r3, r4, r5, r6, r7, r8⟩, ⟨vc, vg, vn, vt, vz, vK, vA, vU, vF, vM, vW, vC, vP⟩, ok⟩ := q1.2.2.2.1
      have st : E (d + 4) 172 28 [some (.ref A), some (.int (nI g))] [] h = E (d + 4) 172 50 [some (.ref A), some (.int (nI g))] [] (stI h1 (A + 19) g (nI v)) := by
        simp (disch := omega) only [s172_28, s172_29, s172_30, s172_31, s172_32, s172_33, s172_34, s172_35, s172_36, s172_37, s172_38, s172_39, s172_42, s172_43, s172_44, s172_45, s172_46, s172_47, s172_48, s172_49, ↓reduceIte, Option.bind_some, Option.toList_some, Option.toList_none, List.cons_append, List.nil_append, if_true, if_false, true_or, or_true, true_and, and_true, not_true_eq_false, not_false_eq_true, Nat.reduceLT, Nat.reduceLeDiff, Nat.reduceEqDiff, Nat.reduceAdd, Nat.reduceMul, Nat.reduceSub, Nat.reducePow, Nat.reduceMod, Nat.reduceDiv, l0, l1, l2, l3, l4, l5, l6, l7, l8, l9, l10, l11, l12, l13, l14, l15, l16, l20, l31, l32, l36, l40, l48, l57, l59, l63, l64, l97, l99, l100, l101, l122, l127, l128, l250, l255, l262143, l262144, l30000, l100000, l12345, l1024, l4095, nI_eqs, nI_les, nI_lts, qI_eq, qI_eqn, nI_eqq, qI_lts, nI_ltp, nI_lep, qI_les, nI_add, nI_mul, qI_add, qI_s, qI_def, nI_clamps, bI_z, bI_o, bI_01, n01, n11, rf_some, rf_none, m1, m1n, bft, z0, r1, r2, r3, r4, r5, r6, r7, r8, vc, vg, vn, vt, vz, gI z1, gI z2, gI z3, gI z4, gI z5, gI z6, gI z7, gI z8, gA z1, gA z2, gA z3, gA z4, gA z5, gA z6, gA z7, gA z8, a1, b1, b2, gI b3, vc', e169, e1, k1, bI_t, Bool.true_eq_false]
      rw [st]
      exact n172b d q2 (hw.fm (f1.trans f2)) hg hu (by show fup (YF y) g (v + 1) g = v + 1; unfold fup; rw [if_pos rfl]) hv
theorem m172 (d : Nat) {h : AH} {A n e : Nat} {b : Nat → Nat} {y : YS} (q : PN h A n b y e) (hw : HX h (hK h 9) kn) (h6 : Yg y < 6) (p1 : Option Value) : MR' A n b h (E (d + 4) 172 0 [some (.ref A), p1] [] h) (stGate n b y (tkL n b e)) := by
  have a1 := q.1.1
  have m := q.num (d) (nI 0) (qI 6)
  rw [inF_q n b _ (k := 6) (by omega), qI_s] at m
  unfold stGate
  rw [if_pos h6]
  cases c1 : inR (nmD b (tkL n b (tkL n b e).2.2)) 6
  · rw [if_neg (by decide)]
    obtain ⟨h1, e1, f1, k1⟩ := m.2 c1
    refine ⟨h1, ?_, f1, k1⟩
    simp (disch := omega) only [s172_0, s172_1, s172_2, s172_3, s172_4, s172_11, s172_12, ↓reduceIte, Option.bind_some, Option.toList_some, Option.toList_none, List.cons_append, List.nil_append, if_true, if_false, true_or, or_true, true_and, and_true, not_true_eq_false, not_false_eq_true, Nat.reduceLT, Nat.reduceLeDiff, Nat.reduceEqDiff, Nat.reduceAdd, Nat.reduceMul, Nat.reduceSub, Nat.reducePow, Nat.reduceMod, Nat.reduceDiv, l0, l1, l2, l3, l4, l5, l6, l7, l8, l9, l10, l11, l12, l13, l14, l15, l16, l20, l31, l32, l36, l40, l48, l57, l59, l63, l64, l97, l99, l100, l101, l122, l127, l128, l250, l255, l262143, l262144, l30000, l100000, l12345, l1024, l4095, nI_eqs, nI_les, nI_lts, qI_eq, qI_eqn, nI_eqq, qI_lts, nI_ltp, nI_lep, qI_les, nI_add, nI_mul, qI_add, qI_s, qI_def, nI_clamps, bI_z, bI_o, bI_01, n01, n11, rf_some, rf_none, m1, m1n, bft, a1, e1]
  · rw [if_pos rfl]
    obtain ⟨h1, e1, f1, q1, k1⟩ := m.1 c1
    obtain ⟨c2, v, hv, v1, v2⟩ := inF_v (k := 6) (by omega) ((inF_q n b _ (k := 6) (by omega)).trans c1)
    have m2 := q1.num1 (d + 1) (nI 0) (qI 10)
    rw [inF_q n b _ (k := 10) (by omega), qI_s] at m2
    have b1 := q1.1.1
    cases c3 : inR (nmD b (tkL n b (tkL n b (tkL n b e).2.2).2.2)) 10
    · rw [if_neg (by decide)]
      obtain ⟨h2, e2, f2, k2⟩ := m2.2 c3
      refine ⟨h2, ?_, f1.trans f2, k2⟩
      simp (disch := omega) only [s172_0, s172_1, s172_2, s172_3, s172_4, s172_5, s172_6, s172_7, s172_8, s172_9, s172_10, s172_11, s172_12, ↓reduceIte, Option.bind_some, Option.toList_some, Option.toList_none, List.cons_append, List.nil_append, if_true, if_false, true_or, or_true, true_and, and_true, not_true_eq_false, not_false_eq_true, Nat.reduceLT, Nat.reduceLeDiff, Nat.reduceEqDiff, Nat.reduceAdd, Nat.reduceMul, Nat.reduceSub, Nat.reducePow, Nat.reduceMod, Nat.reduceDiv, l0, l1, l2, l3, l4, l5, l6, l7, l8, l9, l10, l11, l12, l13, l14, l15, l16, l20, l31, l32, l36, l40, l48, l57, l59, l63, l64, l97, l99, l100, l101, l122, l127, l128, l250, l255, l262143, l262144, l30000, l100000, l12345, l1024, l4095, nI_eqs, nI_les, nI_lts, qI_eq, qI_eqn, nI_eqq, qI_lts, nI_ltp, nI_lep, qI_les, nI_add, nI_mul, qI_add, qI_s, qI_def, nI_clamps, bI_z, bI_o, bI_01, n01, n11, rf_some, rf_none, m1, m1n, bft, a1, b1, e1, e2]
    · rw [if_pos rfl]
      obtain ⟨h2, e2, f2, q2, k2, k3⟩ := m2.1 c3
      obtain ⟨c4, u, hu, u1, u2⟩ := inF_v (k := 10) (by omega) ((inF_q n b _ (k := 10) (by omega)).trans c3)
      rw [v1, u1, nI_clamp (show v < 2 ^ 31 by omega), nI_clamp (show u < 2 ^ 31 by omega)]
      rw [u2] at k2
      rw [k1, v2] at k3
      obtain ⟨h3, e3, m3, f3⟩ := m153 (d + 3) q2.2.2.2.1 h6 hv hu
      obtain ⟨q3, g3, k5⟩ := q2.y m3 f3
      have F := (f1.trans f2).trans g3
      have d1 := q2.1.1
      have d2 := q2.2.2.2.2.1
      have d3 := q2.2.2.2.2.2
      have w1 := q3.1.1
      have w2 : hI h3 A 10 = nI (Yg y + 1) := m3.2.1.2.1
      have st : E (d + 4) 172 0 [some (.ref A), p1] [] h = E (d + 4) 172 28 [some (.ref A), some (.int (nI (Yg y)))] [] h3 := by
        simp (disch := omega) only [s172_0, s172_1, s172_2, s172_3, s172_4, s172_5, s172_6, s172_7, s172_8, s172_9, s172_10, s172_13, s172_14, s172_15, s172_16, s172_17, s172_18, s172_19, s172_20, s172_21, s172_22, s172_23, s172_24, s172_25, s172_26, s172_27, ↓reduceIte, Option.bind_some, Option.toList_some, Option.toList_none, List.cons_append, List.nil_append, if_true, if_false, true_or, or_true, true_and, and_true, not_true_eq_false, not_false_eq_true, Nat.reduceLT, Nat.reduceLeDiff, Nat.reduceEqDiff, Nat.reduceAdd, Nat.reduceMul, Nat.reduceSub, Nat.reducePow, Nat.reduceMod, Nat.reduceDiv, l0, l1, l2, l3, l4, l5, l6, l7, l8, l9, l10, l11, l12, l13, l14, l15, l16, l20, l31, l32, l36, l40, l48, l57, l59, l63, l64, l97, l99, l100, l101, l122, l127, l128, l250, l255, l262143, l262144, l30000, l100000, l12345, l1024, l4095, nI_eqs, nI_les, nI_lts, qI_eq, qI_eqn, nI_eqq, qI_lts, nI_ltp, nI_lep, qI_les, nI_add, nI_mul, qI_add, qI_s, qI_def, nI_clamps, bI_z, bI_o, bI_01, n01, n11, rf_some, rf_none, m1, m1n, bft, a1, b1, d1, d2, gI d3, k2, k3, w1, w2, e1, e2, e3, qI_s]
      rw [st]
      refine MR'.pre F (n172a d q3 (hw.fm F) (Nat.lt_succ_self _) ?_ ?_)
      · show fup (YU y) (Yg y) (Yg y) (Yg y) = Yg y
        unfold fup; rw [if_pos rfl]
      · show fup (YM y) (Yg y) 0 (Yg y) = 0
        unfold fup; rw [if_pos rfl]
