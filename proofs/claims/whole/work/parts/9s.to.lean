/-! STATEMENTS, the reference: any -/
theorem isW_no {b : Nat → Nat} {t : Nat × Nat × Nat} {w w' : List Nat} (h : isW b t w = true) (n : w.length ≠ w'.length ∨ ∃ w0 x m z m', w.length = m + 1 ∧ w'.length = m' + 1 ∧ w.getD 0 0 = w0 ∧ w'.getD 0 0 = x ∧ w0 ≠ x ∧ z = 0) : isW b t w' = false := by
  unfold isW at h ⊢
  by_cases c : t.1 = 1 ∧ t.2.2 - t.2.1 = w.length
  · rw [if_pos c] at h
    rcases n with n | ⟨w0, x, m, z, m', l1, l2, d1, d2, d3, -⟩
    · exact if_neg (fun w => n (c.2.symm.trans w.2))
    · by_cases c' : t.1 = 1 ∧ t.2.2 - t.2.1 = w'.length
      · rw [if_pos c', l2]
        rw [l1] at h
        show (if b (t.2.1 + 0) = w'.getD 0 0 then _ else false) = false
        have h' : (if b (t.2.1 + 0) = w.getD 0 0 then eqW b t.2.1 w m (0 + 1) else false) = true := h
        by_cases e : b (t.2.1 + 0) = w.getD 0 0
        · rw [if_neg (fun w => d3 (d1.symm.trans (e.symm.trans (w.trans d2))))]
        · rw [if_neg e] at h'; exact Bool.noConfusion h'
      · exact if_neg c'
  · rw [if_neg c] at h; exact Bool.noConfusion h
theorem PN.fg {h : AH} {A n e g : Nat} {b : Nat → Nat} {y : YS} (q : PN h A n b y e) : PN (stI (stI h (A + 19) g (qI 0)) (A + 20) g (qI 0)) A n b (sM y g 0 0) e ∧ FM A h (stI (stI h (A + 19) g (qI 0)) (A + 20) g (qI 0)) := by
  have f := (FY.arr (a := A) h (k := 19) (by decide) g (qI 0)).trans (FY.arr (a := A) _ (k := 20) (by decide) g (qI 0))
  have m := q.2.2.2.1
  have r := q.y ⟨m.1.of f.1, m.2.1.M' g 0 0, m.2.2.sM (Nat.zero_le _) (Nat.zero_le _)⟩ f
  exact ⟨r.1, r.2.1⟩
theorem PN.co {h : AH} {A n e c : Nat} {b : Nat → Nat} {y : YS} (q : PN h A n b y e) (ok : YOK (sc y c)) : PN (stI h A 9 (nI c)) A n b (sc y c) e ∧ FM A h (stI h A 9 (nI c)) := by
  have f := FY.fld (a := A) h (k := 9) (by decide) (nI c)
  have m := q.2.2.2.1
  have r := q.y ⟨m.1.of f.1, m.2.1.c c, ok⟩ f
  exact ⟨r.1, r.2.1⟩
theorem n175e (d : Nat) {h : AH} {A n e : Nat} {b : Nat → Nat} {y : YS} (q : PN h A n b y e) (hw : WM h) (p1 : Option Value) : MR' A n b h (E (d + 5) 175 57 [some (.ref A), p1] [] h) (if isW b (tkL n b e) wFo = true then stForget n b y (tkL n b e) else .inr (tkL n b e).2.1) := by
  have e169 := fun d => q.w hw.2.2.2.2.2.2 d
  have a1 := q.1.1
  cases w : isW b (tkL n b e) wFo <;> rw [w] at e169
  · rw [if_neg (by decide)]
    obtain ⟨e1, f1, k1⟩ := q.wrong
    refine ⟨_, ?_, f1, k1⟩
    simp (disch := omega) only [s175_57, s175_58, s175_59, s175_60, s175_61, s175_62, s175_63, ↓reduceIte, Option.bind_some, Option.toList_some, Option.toList_none, List.cons_append, List.nil_append, if_true, if_false, true_or, or_true, true_and, and_true, not_true_eq_false, not_false_eq_true, Nat.reduceLT, Nat.reduceLeDiff, Nat.reduceEqDiff, Nat.reduceAdd, Nat.reduceMul, Nat.reduceSub, Nat.reducePow, Nat.reduceMod, Nat.reduceDiv, l0, l1, l2, l3, l4, l5, l6, l7, l8, l9, l10, l11, l12, l13, l14, l15, l16, l20, l31, l32, l36, l40, l48, l57, l59, l63, l64, l97, l99, l100, l101, l122, l127, l128, l250, l255, l262143, l262144, l30000, l100000, l12345, l1024, l4095, nI_eqs, nI_les, nI_lts, qI_eq, qI_eqn, nI_eqq, qI_lts, nI_ltp, nI_lep, qI_les, nI_add, nI_mul, qI_add, qI_s, qI_def, nI_clamps, bI_z, bI_o, bI_01, n01, n11, rf_some, rf_none, m1, m1n, bft, a1, e1, e169, bI_f]
  · rw [if_pos rfl]
    have vg' := q.2.2.2.1.2.1.2.1
    have ok := q.2.2.2.1.2.2
    have o6 := ok.2.1
    have m := q.num (d + 1) (nI 0) (qI (Yg y))
    rw [inF_q n b _ (k := Yg y) (by omega)] at m
    unfold stForget
    cases c1 : inR (nmD b (tkL n b (tkL n b e).2.2)) (Yg y)
    · rw [if_neg (by decide)]
      obtain ⟨h1, e1, f1, k1⟩ := m.2 c1
      refine ⟨h1, ?_, f1, k1⟩
      simp (disch := omega) only [s175_57, s175_58, s175_59, s175_60, s175_64, s175_65, s175_66, s175_67, s175_68, s175_69, s175_70, s175_71, s175_72, s175_73, s175_96, s175_97, ↓reduceIte, Option.bind_some, Option.toList_some, Option.toList_none, List.cons_append, List.nil_append, if_true, if_false, true_or, or_true, true_and, and_true, not_true_eq_false, not_false_eq_true, Nat.reduceLT, Nat.reduceLeDiff, Nat.reduceEqDiff, Nat.reduceAdd, Nat.reduceMul, Nat.reduceSub, Nat.reducePow, Nat.reduceMod, Nat.reduceDiv, l0, l1, l2, l3, l4, l5, l6, l7, l8, l9, l10, l11, l12, l13, l14, l15, l16, l20, l31, l32, l36, l40, l48, l57, l59, l63, l64, l97, l99, l100, l101, l122, l127, l128, l250, l255, l262143, l262144, l30000, l100000, l12345, l1024, l4095, nI_eqs, nI_les, nI_lts, qI_eq, qI_eqn, nI_eqq, qI_lts, nI_ltp, nI_lep, qI_les, nI_add, nI_mul, qI_add, qI_s, qI_def, nI_clamps, bI_z, bI_o, bI_01, n01, n11, rf_some, rf_none, m1, m1n, bft, a1, vg', e1, e169, bI_t, Bool.true_eq_false]
    · rw [if_pos rfl]
      obtain ⟨h1, e1, f1, q1, k1⟩ := m.1 c1
      obtain ⟨c2, g, hg, v1, v2⟩ := inF_v (k := Yg y) (by omega) ((inF_q n b _ (k := Yg y) (by omega)).trans c1)
      rw [v1, nI_clamp (show g < 2 ^ 31 by omega)]
      rw [v2] at k1
      have b1 := q1.1.1
      have b2 := q1.2.2.2.2.1
      have b3 := q1.2.2.2.2.2
      obtain ⟨q2, f2⟩ := q1.fg (g := YU y g)
      refine ⟨_, _, ?_, q2, rfl, f1.trans f2⟩
      have u6 := ok.u6 hg
      obtain ⟨⟨z0, z1, z2, z3, z4, z5, z6, z7, z8, r1, r2, r3, r4, r5, r6, r7, r8⟩, ⟨vc, vg, vn, vt, vz, vK, vA, vU, vF, vM, vW, vC, vP⟩, ok⟩ := q1.2.2.2.1
      have vU' := vU g hg
      have k2 : hI (stI h1 (A + 19) (YU y g) (qI 0)) (A + 25) 0 = nI g := by rw [hI_stI, if_neg (fun w => by omega)]; exact k1
      have k3 : hI (stI h1 (A + 19) (YU y g) (qI 0)) (A + 21) g = nI (YU y g) := by rw [hI_stI, if_neg (fun w => by omega)]; exact vU'
      simp (disch := omega) only [s175_57, s175_58, s175_59, s175_60, s175_64, s175_65, s175_66, s175_67, s175_68, s175_69, s175_70, s175_71, s175_72, s175_73, s175_74, s175_75, s175_76, s175_77, s175_78, s175_79, s175_80, s175_81, s175_82, s175_83, s175_84, s175_85, s175_86, s175_87, s175_88, s175_89, s175_90, s175_91, s175_92, s175_93, s175_94, s175_95, s175_96, s175_97, ↓reduceIte, Option.bind_some, Option.toList_some, Option.toList_none, List.cons_append, List.nil_append, if_true, if_false, true_or, or_true, true_and, and_true, not_true_eq_false, not_false_eq_true, Nat.reduceLT, Nat.reduceLeDiff, Nat.reduceEqDiff, Nat.reduceAdd, Nat.reduceMul, Nat.reduceSub, Nat.reducePow, Nat.reduceMod, Nat.reduceDiv, l0, l1, l2, l3, l4, l5, l6, l7, l8, l9, l10, l11, l12, l13, l14, l15, l16, l20, l31, l32, l36, l40, l48, l57, l59, l63, l64, l97, l99, l100, l101, l122, l127, l128, l250, l255, l262143, l262144, l30000, l100000, l12345, l1024, l4095, nI_eqs, nI_les, nI_lts, qI_eq, qI_eqn, nI_eqq, qI_lts, nI_ltp, nI_lep, qI_les, nI_add, nI_mul, qI_add, qI_s, qI_def, nI_clamps, bI_z, bI_o, bI_01, n01, n11, rf_some, rf_none, m1, m1n, bft, hS_stI, hR_stI, z0, r3, r4, r5, gA z3, gA z4, gI z5, a1, vg', e1, e169, bI_t, Bool.true_eq_false, b2, gI b3, gI (show hS (stI h1 (A + 19) (YU y g) (qI 0)) (A + 25) = some (0, 2) from b3), gI (show hS (stI h1 (A + 19) (YU y g) (qI 0)) (A + 21) = some (0, 6) from z5), gA (show hS (stI h1 (A + 19) (YU y g) (qI 0)) (A + 20) = some (0, 6) from z4), k1, k2, k3, vU']
theorem n175d (d : Nat) {h : AH} {A n e : Nat} {b : Nat → Nat} {y : YS} (q : PN h A n b y e) (hw : WM h) (p1 : Option Value) : MR' A n b h (E (d + 5) 175 50 [some (.ref A), p1] [] h) (if isW b (tkL n b e) wSh = true then stShare n b y (tkL n b e) else if isW b (tkL n b e) wFo = true then stForget n b y (tkL n b e) else .inr (tkL n b e).2.1) := by
  have e169 := fun d => q.w hw.2.2.2.2.2.1 d
  have a1 := q.1.1
  cases w : isW b (tkL n b e) wSh <;> rw [w] at e169
  · rw [if_neg (by decide)]
    have st : E (d + 5) 175 50 [some (.ref A), p1] [] h = E (d + 5) 175 57 [some (.ref A), p1] [] h := by
      simp (disch := omega) only [s175_50, s175_51, s175_52, s175_53, ↓reduceIte, Option.bind_some, Option.toList_some, Option.toList_none, List.cons_append, List.nil_append, if_true, if_false, true_or, or_true, true_and, and_true, not_true_eq_false, not_false_eq_true, Nat.reduceLT, Nat.reduceLeDiff, Nat.reduceEqDiff, Nat.reduceAdd, Nat.reduceMul, Nat.reduceSub, Nat.reducePow, Nat.reduceMod, Nat.reduceDiv, l0, l1, l2, l3, l4, l5, l6, l7, l8, l9, l10, l11, l12, l13, l14, l15, l16, l20, l31, l32, l36, l40, l48, l57, l59, l63, l64, l97, l99, l100, l101, l122, l127, l128, l250, l255, l262143, l262144, l30000, l100000, l12345, l1024, l4095, nI_eqs, nI_les, nI_lts, qI_eq, qI_eqn, nI_eqq, qI_lts, nI_ltp, nI_lep, qI_les, nI_add, nI_mul, qI_add, qI_s, qI_def, nI_clamps, bI_z, bI_o, bI_01, n01, n11, rf_some, rf_none, m1, m1n, bft, a1, e169, bI_f]
    rw [st]
    exact n175e d q hw p1
  · rw [if_pos rfl]
    have m := m174 d q none
    generalize stShare n b y (tkL n b e) = r at *
    cases r with
    | inl r =>
      obtain ⟨h1, e2, e1, q1, t1, f1⟩ := m
      refine ⟨h1, e2, ?_, q1, t1, f1⟩
      simp (disch := omega) only [s175_50, s175_51, s175_52, s175_53, s175_54, s175_55, s175_56, ↓reduceIte, Option.bind_some, Option.toList_some, Option.toList_none, List.cons_append, List.nil_append, if_true, if_false, true_or, or_true, true_and, and_true, not_true_eq_false, not_false_eq_true, Nat.reduceLT, Nat.reduceLeDiff, Nat.reduceEqDiff, Nat.reduceAdd, Nat.reduceMul, Nat.reduceSub, Nat.reducePow, Nat.reduceMod, Nat.reduceDiv, l0, l1, l2, l3, l4, l5, l6, l7, l8, l9, l10, l11, l12, l13, l14, l15, l16, l20, l31, l32, l36, l40, l48, l57, l59, l63, l64, l97, l99, l100, l101, l122, l127, l128, l250, l255, l262143, l262144, l30000, l100000, l12345, l1024, l4095, nI_eqs, nI_les, nI_lts, qI_eq, qI_eqn, nI_eqq, qI_lts, nI_ltp, nI_lep, qI_les, nI_add, nI_mul, qI_add, qI_s, qI_def, nI_clamps, bI_z, bI_o, bI_01, n01, n11, rf_some, rf_none, m1, m1n, bft, a1, e169, e1, bI_t, Bool.true_eq_false]
    | inr p =>
      obtain ⟨h1, e1, f1, k1⟩ := m
      refine ⟨h1, ?_, f1, k1⟩
      simp (disch := omega) only [s175_50, s175_51, s175_52, s175_53, s175_54, s175_55, s175_56, ↓reduceIte, Option.bind_some, Option.toList_some, Option.toList_none, List.cons_append, List.nil_append, if_true, if_false, true_or, or_true, true_and, and_true, not_true_eq_false, not_false_eq_true, Nat.reduceLT, Nat.reduceLeDiff, Nat.reduceEqDiff, Nat.reduceAdd, Nat.reduceMul, Nat.reduceSub, Nat.reducePow, Nat.reduceMod, Nat.reduceDiv, l0, l1, l2, l3, l4, l5, l6, l7, l8, l9, l10, l11, l12, l13, l14, l15, l16, l20, l31, l32, l36, l40, l48, l57, l59, l63, l64, l97, l99, l100, l101, l122, l127, l128, l250, l255, l262143, l262144, l30000, l100000, l12345, l1024, l4095, nI_eqs, nI_les, nI_lts, qI_eq, qI_eqn, nI_eqq, qI_lts, nI_ltp, nI_lep, qI_les, nI_add, nI_mul, qI_add, qI_s, qI_def, nI_clamps, bI_z, bI_o, bI_01, n01, n11, rf_some, rf_none, m1, m1n, bft, a1, e169, e1, bI_t, Bool.true_eq_false]
theorem n175c (d : Nat) {h : AH} {A n e : Nat} {b : Nat → Nat} {y : YS} (q : PN h A n b y e) (hw : WM h) (p1 : Option Value) : MR' A n b h (E (d + 5) 175 39 [some (.ref A), p1] [] h) (if isW b (tkL n b e) wCa = true then stCart n b y (tkL n b e) else if isW b (tkL n b e) wSh = true then stShare n b y (tkL n b e) else if isW b (tkL n b e) wFo = true then stForget n b y (tkL n b e) else .inr (tkL n b e).2.1) := by
  have e169 := fun d => q.w hw.2.2.2.1 d
  have a1 := q.1.1
  have r := n175d d q hw p1
  have vn' := q.2.2.2.1.2.1.2.2.1
  have o7 := q.2.2.2.1.2.2.2.2.1
  cases w : isW b (tkL n b e) wCa <;> rw [w] at e169
  · rw [if_neg (by decide)]
    have st : E (d + 5) 175 39 [some (.ref A), p1] [] h = E (d + 5) 175 50 [some (.ref A), p1] [] h := by
      simp (disch := omega) only [s175_39, s175_40, s175_41, s175_42, ↓reduceIte, Option.bind_some, Option.toList_some, Option.toList_none, List.cons_append, List.nil_append, if_true, if_false, true_or, or_true, true_and, and_true, not_true_eq_false, not_false_eq_true, Nat.reduceLT, Nat.reduceLeDiff, Nat.reduceEqDiff, Nat.reduceAdd, Nat.reduceMul, Nat.reduceSub, Nat.reducePow, Nat.reduceMod, Nat.reduceDiv, l0, l1, l2, l3, l4, l5, l6, l7, l8, l9, l10, l11, l12, l13, l14, l15, l16, l20, l31, l32, l36, l40, l48, l57, l59, l63, l64, l97, l99, l100, l101, l122, l127, l128, l250, l255, l262143, l262144, l30000, l100000, l12345, l1024, l4095, nI_eqs, nI_les, nI_lts, qI_eq, qI_eqn, nI_eqq, qI_lts, nI_ltp, nI_lep, qI_les, nI_add, nI_mul, qI_add, qI_s, qI_def, nI_clamps, bI_z, bI_o, bI_01, n01, n11, rf_some, rf_none, m1, m1n, bft, a1, e169, bI_f]
    rw [st]; exact r
  · rw [if_pos rfl]
    by_cases h6 : Yn y < 6
    · have m := m173 d q hw.2.2.2.2.1 h6
      have n6 : ¬ 6 ≤ Yn y := by omega
      generalize stCart n b y (tkL n b e) = r at *
      cases r with
      | inl r =>
        obtain ⟨h1, e2, e1, q1, t1, f1⟩ := m
        refine ⟨h1, e2, ?_, q1, t1, f1⟩
        simp (disch := omega) only [s175_39, s175_40, s175_41, s175_42, s175_43, s175_44, s175_45, s175_46, s175_47, s175_48, s175_49, ↓reduceIte, Option.bind_some, Option.toList_some, Option.toList_none, List.cons_append, List.nil_append, if_true, if_false, true_or, or_true, true_and, and_true, not_true_eq_false, not_false_eq_true, Nat.reduceLT, Nat.reduceLeDiff, Nat.reduceEqDiff, Nat.reduceAdd, Nat.reduceMul, Nat.reduceSub, Nat.reducePow, Nat.reduceMod, Nat.reduceDiv, l0, l1, l2, l3, l4, l5, l6, l7, l8, l9, l10, l11, l12, l13, l14, l15, l16, l20, l31, l32, l36, l40, l48, l57, l59, l63, l64, l97, l99, l100, l101, l122, l127, l128, l250, l255, l262143, l262144, l30000, l100000, l12345, l1024, l4095, nI_eqs, nI_les, nI_lts, qI_eq, qI_eqn, nI_eqq, qI_lts, nI_ltp, nI_lep, qI_les, nI_add, nI_mul, qI_add, qI_s, qI_def, nI_clamps, bI_z, bI_o, bI_01, n01, n11, rf_some, rf_none, m1, m1n, bft, a1, vn', n6, e169, e1, bI_t, Bool.true_eq_false]
      | inr p =>
        obtain ⟨h1, e1, f1, k1⟩ := m
        refine ⟨h1, ?_, f1, k1⟩
        simp (disch := omega) only [s175_39, s175_40, s175_41, s175_42, s175_43, s175_44, s175_45, s175_46, s175_47, s175_48, s175_49, ↓reduceIte, Option.bind_some, Option.toList_some, Option.toList_none, List.cons_append, List.nil_append, if_true, if_false, true_or, or_true, true_and, and_true, not_true_eq_false, not_false_eq_true, Nat.reduceLT, Nat.reduceLeDiff, Nat.reduceEqDiff, Nat.reduceAdd, Nat.reduceMul, Nat.reduceSub, Nat.reducePow, Nat.reduceMod, Nat.reduceDiv, l0, l1, l2, l3, l4, l5, l6, l7, l8, l9, l10, l11, l12, l13, l14, l15, l16, l20, l31, l32, l36, l40, l48, l57, l59, l63, l64, l97, l99, l100, l101, l122, l127, l128, l250, l255, l262143, l262144, l30000, l100000, l12345, l1024, l4095, nI_eqs, nI_les, nI_lts, qI_eq, qI_eqn, nI_eqq, qI_lts, nI_ltp, nI_lep, qI_les, nI_add, nI_mul, qI_add, qI_s, qI_def, nI_clamps, bI_z, bI_o, bI_01, n01, n11, rf_some, rf_none, m1, m1n, bft, a1, vn', n6, e169, e1, bI_t, Bool.true_eq_false]
    · have n6 : 6 ≤ Yn y := by omega
      have st : E (d + 5) 175 39 [some (.ref A), p1] [] h = E (d + 5) 175 50 [some (.ref A), p1] [] h := by
        simp (disch := omega) only [s175_39, s175_40, s175_41, s175_42, s175_43, s175_44, s175_45, s175_46, ↓reduceIte, Option.bind_some, Option.toList_some, Option.toList_none, List.cons_append, List.nil_append, if_true, if_false, true_or, or_true, true_and, and_true, not_true_eq_false, not_false_eq_true, Nat.reduceLT, Nat.reduceLeDiff, Nat.reduceEqDiff, Nat.reduceAdd, Nat.reduceMul, Nat.reduceSub, Nat.reducePow, Nat.reduceMod, Nat.reduceDiv, l0, l1, l2, l3, l4, l5, l6, l7, l8, l9, l10, l11, l12, l13, l14, l15, l16, l20, l31, l32, l36, l40, l48, l57, l59, l63, l64, l97, l99, l100, l101, l122, l127, l128, l250, l255, l262143, l262144, l30000, l100000, l12345, l1024, l4095, nI_eqs, nI_les, nI_lts, qI_eq, qI_eqn, nI_eqq, qI_lts, nI_ltp, nI_lep, qI_les, nI_add, nI_mul, qI_add, qI_s, qI_def, nI_clamps, bI_z, bI_o, bI_01, n01, n11, rf_some, rf_none, m1, m1n, bft, a1, vn', n6, e169, bI_t, Bool.true_eq_false]
      rw [st]
      have w5 : isW b (tkL n b e) wSh = false := isW_no w (Or.inl (by decide))
      have w6 : isW b (tkL n b e) wFo = false := isW_no w (Or.inl (by decide))
      rw [w5, if_neg (by decide), w6, if_neg (by decide)] at r
      unfold stCart
      rw [if_neg h6]; exact r
theorem n175b (d : Nat) {h : AH} {A n e : Nat} {b : Nat → Nat} {y : YS} (q : PN h A n b y e) (hw : WM h) (p1 : Option Value) : MR' A n b h (E (d + 5) 175 28 [some (.ref A), p1] [] h) (if isW b (tkL n b e) wGa = true then stGate n b y (tkL n b e) else if isW b (tkL n b e) wCa = true then stCart n b y (tkL n b e) else if isW b (tkL n b e) wSh = true then stShare n b y (tkL n b e) else if isW b (tkL n b e) wFo = true then stForget n b y (tkL n b e) else .inr (tkL n b e).2.1) := by
  have e169 := fun d => q.w hw.2.1 d
  have a1 := q.1.1
  have r := n175c d q hw p1
  have vg' := q.2.2.2.1.2.1.2.1
  have o6 := q.2.2.2.1.2.2.2.1
  cases w : isW b (tkL n b e) wGa <;> rw [w] at e169
  · rw [if_neg (by decide)]
    have st : E (d + 5) 175 28 [some (.ref A), p1] [] h = E (d + 5) 175 39 [some (.ref A), p1] [] h := by
      simp (disch := omega) only [s175_28, s175_29, s175_30, s175_31, ↓reduceIte, Option.bind_some, Option.toList_some, Option.toList_none, List.cons_append, List.nil_append, if_true, if_false, true_or, or_true, true_and, and_true, not_true_eq_false, not_false_eq_true, Nat.reduceLT, Nat.reduceLeDiff, Nat.reduceEqDiff, Nat.reduceAdd, Nat.reduceMul, Nat.reduceSub, Nat.reducePow, Nat.reduceMod, Nat.reduceDiv, l0, l1, l2, l3, l4, l5, l6, l7, l8, l9, l10, l11, l12, l13, l14, l15, l16, l20, l31, l32, l36, l40, l48, l57, l59, l63, l64, l97, l99, l100, l101, l122, l127, l128, l250, l255, l262143, l262144, l30000, l100000, l12345, l1024, l4095, nI_eqs, nI_les, nI_lts, qI_eq, qI_eqn, nI_eqq, qI_lts, nI_ltp, nI_lep, qI_les, nI_add, nI_mul, qI_add, qI_s, qI_def, nI_clamps, bI_z, bI_o, bI_01, n01, n11, rf_some, rf_none, m1, m1n, bft, a1, e169, bI_f]
    rw [st]; exact r
  · rw [if_pos rfl]
    by_cases h6 : Yg y < 6
    · have m := m172 d q hw.2.2.1 h6 none
      have n6 : ¬ 6 ≤ Yg y := by omega
      generalize stGate n b y (tkL n b e) = r at *
      cases r with
      | inl r =>
        obtain ⟨h1, e2, e1, q1, t1, f1⟩ := m
        refine ⟨h1, e2, ?_, q1, t1, f1⟩
        simp (disch := omega) only [s175_28, s175_29, s175_30, s175_31, s175_32, s175_33, s175_34, s175_35, s175_36, s175_37, s175_38, ↓reduceIte, Option.bind_some, Option.toList_some, Option.toList_none, List.cons_append, List.nil_append, if_true, if_false, true_or, or_true, true_and, and_true, not_true_eq_false, not_false_eq_true, Nat.reduceLT, Nat.reduceLeDiff, Nat.reduceEqDiff, Nat.reduceAdd, Nat.reduceMul, Nat.reduceSub, Nat.reducePow, Nat.reduceMod, Nat.reduceDiv, l0, l1, l2, l3, l4, l5, l6, l7, l8, l9, l10, l11, l12, l13, l14, l15, l16, l20, l31, l32, l36, l40, l48, l57, l59, l63, l64, l97, l99, l100, l101, l122, l127, l128, l250, l255, l262143, l262144, l30000, l100000, l12345, l1024, l4095, nI_eqs, nI_les, nI_lts, qI_eq, qI_eqn, nI_eqq, qI_lts, nI_ltp, nI_lep, qI_les, nI_add, nI_mul, qI_add, qI_s, qI_def, nI_clamps, bI_z, bI_o, bI_01, n01, n11, rf_some, rf_none, m1, m1n, bft, a1, vg', n6, e169, e1, bI_t, Bool.true_eq_false]
      | inr p =>
        obtain ⟨h1, e1, f1, k1⟩ := m
        refine ⟨h1, ?_, f1, k1⟩
        simp (disch := omega) only [s175_28, s175_29, s175_30, s175_31, s175_32, s175_33, s175_34, s175_35, s175_36, s175_37, s175_38, ↓reduceIte, Option.bind_some, Option.toList_some, Option.toList_none, List.cons_append, List.nil_append, if_true, if_false, true_or, or_true, true_and, and_true, not_true_eq_false, not_false_eq_true, Nat.reduceLT, Nat.reduceLeDiff, Nat.reduceEqDiff, Nat.reduceAdd, Nat.reduceMul, Nat.reduceSub, Nat.reducePow, Nat.reduceMod, Nat.reduceDiv, l0, l1, l2, l3, l4, l5, l6, l7, l8, l9, l10, l11, l12, l13, l14, l15, l16, l20, l31, l32, l36, l40, l48, l57, l59, l63, l64, l97, l99, l100, l101, l122, l127, l128, l250, l255, l262143, l262144, l30000, l100000, l12345, l1024, l4095, nI_eqs, nI_les, nI_lts, qI_eq, qI_eqn, nI_eqq, qI_lts, nI_ltp, nI_lep, qI_les, nI_add, nI_mul, qI_add, qI_s, qI_def, nI_clamps, bI_z, bI_o, bI_01, n01, n11, rf_some, rf_none, m1, m1n, bft, a1, vg', n6, e169, e1, bI_t, Bool.true_eq_false]
    · have n6 : 6 ≤ Yg y := by omega
      have st : E (d + 5) 175 28 [some (.ref A), p1] [] h = E (d + 5) 175 39 [some (.ref A), p1] [] h := by
        simp (disch := omega) only [s175_28, s175_29, s175_30, s175_31, s175_32, s175_33, s175_34, s175_35, ↓reduceIte, Option.bind_some, Option.toList_some, Option.toList_none, List.cons_append, List.nil_append, if_true, if_false, true_or, or_true, true_and, and_true, not_true_eq_false, not_false_eq_true, Nat.reduceLT, Nat.reduceLeDiff, Nat.reduceEqDiff, Nat.reduceAdd, Nat.reduceMul, Nat.reduceSub, Nat.reducePow, Nat.reduceMod, Nat.reduceDiv, l0, l1, l2, l3, l4, l5, l6, l7, l8, l9, l10, l11, l12, l13, l14, l15, l16, l20, l31, l32, l36, l40, l48, l57, l59, l63, l64, l97, l99, l100, l101, l122, l127, l128, l250, l255, l262143, l262144, l30000, l100000, l12345, l1024, l4095, nI_eqs, nI_les, nI_lts, qI_eq, qI_eqn, nI_eqq, qI_lts, nI_ltp, nI_lep, qI_les, nI_add, nI_mul, qI_add, qI_s, qI_def, nI_clamps, bI_z, bI_o, bI_01, n01, n11, rf_some, rf_none, m1, m1n, bft, a1, vg', n6, e169, bI_t, Bool.true_eq_false]
      rw [st]
      have w4 : isW b (tkL n b e) wCa = false := isW_no w (Or.inr ⟨103, 99, 3, 0, 3, rfl, rfl, rfl, rfl, by decide, rfl⟩)
      have w5 : isW b (tkL n b e) wSh = false := isW_no w (Or.inl (by decide))
      have w6 : isW b (tkL n b e) wFo = false := isW_no w (Or.inl (by decide))
      rw [w4, if_neg (by decide), w5, if_neg (by decide), w6, if_neg (by decide)] at r
      unfold stGate
      rw [if_neg h6]; exact r
theorem m175 (d : Nat) {h : AH} {A n e : Nat} {b : Nat → Nat} {y : YS} (q : PN h A n b y e) (hw : WM h) (p1 : Option Value) : MR' A n b h (E (d + 5) 175 0 [some (.ref A), p1] [] h) (stS n b y (tkL n b e)) := by
  have e169 := fun d => q.w hw.1 d
  have a1 := q.1.1
  have r := n175b d q hw p1
  have vg' := q.2.2.2.1.2.1.2.1
  have vn' := q.2.2.2.1.2.1.2.2.1
  have o6 := q.2.2.2.1.2.2.2.1
  have o7 := q.2.2.2.1.2.2.2.2.1
  unfold stS
  cases w : isW b (tkL n b e) wCo <;> rw [w] at e169
  · rw [if_neg (by decide)]
    have st : E (d + 5) 175 0 [some (.ref A), p1] [] h = E (d + 5) 175 28 [some (.ref A), p1] [] h := by
      simp (disch := omega) only [s175_0, s175_1, s175_2, s175_3, ↓reduceIte, Option.bind_some, Option.toList_some, Option.toList_none, List.cons_append, List.nil_append, if_true, if_false, true_or, or_true, true_and, and_true, not_true_eq_false, not_false_eq_true, Nat.reduceLT, Nat.reduceLeDiff, Nat.reduceEqDiff, Nat.reduceAdd, Nat.reduceMul, Nat.reduceSub, Nat.reducePow, Nat.reduceMod, Nat.reduceDiv, l0, l1, l2, l3, l4, l5, l6, l7, l8, l9, l10, l11, l12, l13, l14, l15, l16, l20, l31, l32, l36, l40, l48, l57, l59, l63, l64, l97, l99, l100, l101, l122, l127, l128, l250, l255, l262143, l262144, l30000, l100000, l12345, l1024, l4095, nI_eqs, nI_les, nI_lts, qI_eq, qI_eqn, nI_eqq, qI_lts, nI_ltp, nI_lep, qI_les, nI_add, nI_mul, qI_add, qI_s, qI_def, nI_clamps, bI_z, bI_o, bI_01, n01, n11, rf_some, rf_none, m1, m1n, bft, a1, e169, bI_f]
    rw [st]; exact r
  · rw [if_pos rfl]
    unfold stColours
    by_cases z : Yg y = 0 ∧ Yn y = 0
    · rw [if_pos z]
      obtain ⟨z1, z2⟩ := z
      rw [z1] at vg'
      rw [z2] at vn'
      have m := q.num (d + 1) (nI 2) (nI 3)
      rw [inF_23] at m
      by_cases u : nmD b (tkL n b (tkL n b e).2.2) = nI 2 ∨ nmD b (tkL n b (tkL n b e).2.2) = nI 3
      · rw [if_pos u]
        obtain ⟨h1, e1, f1, q1, k1⟩ := m.1 (decide_eq_true u)
        obtain ⟨k, hk, hk2⟩ : ∃ k, (2 ≤ k ∧ k ≤ 3) ∧ nmD b (tkL n b (tkL n b e).2.2) = nI k := by
          rcases u with u | u
          · exact ⟨2, by decide, u⟩
          · exact ⟨3, by decide, u⟩
        have k2 : fgT n b (tkL n b (tkL n b e).2.2) = k := by
          rcases nm_c n b (tkL n b e).2.2 with ⟨c3, v, hv, w1, w2⟩ | ⟨w1, w2⟩
          · rw [hk2, nI_eqs (by omega) (by omega)] at w1; omega
          · rw [hk2, nI_eqq (by omega) (by decide)] at w1; omega
        rw [k2] at k1
        rw [hk2, nI_clamp (show k < 2 ^ 31 by omega)]
        obtain ⟨q2, f2⟩ := q1.co (YOK.e z1 z2 hk)
        refine ⟨_, _, ?_, q2, rfl, f1.trans f2⟩
        have b1 := q1.1.1
        have b2 := q1.2.2.2.2.1
        have b3 := q1.2.2.2.2.2
        simp (disch := omega) only [s175_0, s175_1, s175_2, s175_3, s175_4, s175_5, s175_6, s175_7, s175_8, s175_9, s175_10, s175_11, s175_12, s175_13, s175_14, s175_15, s175_16, s175_17, s175_18, s175_19, s175_20, s175_21, s175_22, s175_25, s175_26, s175_27, ↓reduceIte, Option.bind_some, Option.toList_some, Option.toList_none, List.cons_append, List.nil_append, if_true, if_false, true_or, or_true, true_and, and_true, not_true_eq_false, not_false_eq_true, Nat.reduceLT, Nat.reduceLeDiff, Nat.reduceEqDiff, Nat.reduceAdd, Nat.reduceMul, Nat.reduceSub, Nat.reducePow, Nat.reduceMod, Nat.reduceDiv, l0, l1, l2, l3, l4, l5, l6, l7, l8, l9, l10, l11, l12, l13, l14, l15, l16, l20, l31, l32, l36, l40, l48, l57, l59, l63, l64, l97, l99, l100, l101, l122, l127, l128, l250, l255, l262143, l262144, l30000, l100000, l12345, l1024, l4095, nI_eqs, nI_les, nI_lts, qI_eq, qI_eqn, nI_eqq, qI_lts, nI_ltp, nI_lep, qI_les, nI_add, nI_mul, qI_add, qI_s, qI_def, nI_clamps, bI_z, bI_o, bI_01, n01, n11, rf_some, rf_none, m1, m1n, bft, a1, vg', vn', b1, b2, gI b3, e1, k1, e169, bI_t, Bool.true_eq_false]
      · rw [if_neg u]
        obtain ⟨h1, e1, f1, k1⟩ := m.2 (decide_eq_false u)
        refine ⟨h1, ?_, f1, k1⟩
        have b1 : hS h1 A = some (105, 0) := by rw [f1.1.2.2.2.2.1]; exact a1
        have sm : stI h1 A 9 (hI h1 A 9) = h1 := stI_same rfl
        simp (disch := omega) only [s175_0, s175_1, s175_2, s175_3, s175_4, s175_5, s175_6, s175_7, s175_8, s175_9, s175_10, s175_11, s175_12, s175_13, s175_14, s175_15, s175_16, s175_17, s175_23, s175_24, s175_25, s175_26, s175_27, ↓reduceIte, Option.bind_some, Option.toList_some, Option.toList_none, List.cons_append, List.nil_append, if_true, if_false, true_or, or_true, true_and, and_true, not_true_eq_false, not_false_eq_true, Nat.reduceLT, Nat.reduceLeDiff, Nat.reduceEqDiff, Nat.reduceAdd, Nat.reduceMul, Nat.reduceSub, Nat.reducePow, Nat.reduceMod, Nat.reduceDiv, l0, l1, l2, l3, l4, l5, l6, l7, l8, l9, l10, l11, l12, l13, l14, l15, l16, l20, l31, l32, l36, l40, l48, l57, l59, l63, l64, l97, l99, l100, l101, l122, l127, l128, l250, l255, l262143, l262144, l30000, l100000, l12345, l1024, l4095, nI_eqs, nI_les, nI_lts, qI_eq, qI_eqn, nI_eqq, qI_lts, nI_ltp, nI_lep, qI_les, nI_add, nI_mul, qI_add, qI_s, qI_def, nI_clamps, bI_z, bI_o, bI_01, n01, n11, rf_some, rf_none, m1, m1n, bft, a1, vg', vn', b1, e1, sm, e169, bI_t, Bool.true_eq_false]
    · rw [if_neg z]
      have w3 : isW b (tkL n b e) wGa = false := isW_no w (Or.inl (by decide))
      have w4 : isW b (tkL n b e) wCa = false := isW_no w (Or.inl (by decide))
      have w5 : isW b (tkL n b e) wSh = false := isW_no w (Or.inl (by decide))
      have w6 : isW b (tkL n b e) wFo = false := isW_no w (Or.inl (by decide))
      rw [w3, if_neg (by decide), w4, if_neg (by decide), w5, if_neg (by decide), w6, if_neg (by decide)] at r
      have st : E (d + 5) 175 0 [some (.ref A), p1] [] h = E (d + 5) 175 28 [some (.ref A), p1] [] h := by
        by_cases z1 : Yg y = 0
        · have z2 : ¬ Yn y = 0 := fun w => z ⟨z1, w⟩
          rw [z1] at vg'
          simp (disch := omega) only [s175_0, s175_1, s175_2, s175_3, s175_4, s175_5, s175_6, s175_7, s175_8, s175_9, ↓reduceIte, Option.bind_some, Option.toList_some, Option.toList_none, List.cons_append, List.nil_append, if_true, if_false, true_or, or_true, true_and, and_true, not_true_eq_false, not_false_eq_true, Nat.reduceLT, Nat.reduceLeDiff, Nat.reduceEqDiff, Nat.reduceAdd, Nat.reduceMul, Nat.reduceSub, Nat.reducePow, Nat.reduceMod, Nat.reduceDiv, l0, l1, l2, l3, l4, l5, l6, l7, l8, l9, l10, l11, l12, l13, l14, l15, l16, l20, l31, l32, l36, l40, l48, l57, l59, l63, l64, l97, l99, l100, l101, l122, l127, l128, l250, l255, l262143, l262144, l30000, l100000, l12345, l1024, l4095, nI_eqs, nI_les, nI_lts, qI_eq, qI_eqn, nI_eqq, qI_lts, nI_ltp, nI_lep, qI_les, nI_add, nI_mul, qI_add, qI_s, qI_def, nI_clamps, bI_z, bI_o, bI_01, n01, n11, rf_some, rf_none, m1, m1n, bft, a1, vg', vn', z2, e169, bI_t, Bool.true_eq_false]
        · simp (disch := omega) only [s175_0, s175_1, s175_2, s175_3, s175_4, s175_5, s175_6, ↓reduceIte, Option.bind_some, Option.toList_some, Option.toList_none, List.cons_append, List.nil_append, if_true, if_false, true_or, or_true, true_and, and_true, not_true_eq_false, not_false_eq_true, Nat.reduceLT, Nat.reduceLeDiff, Nat.reduceEqDiff, Nat.reduceAdd, Nat.reduceMul, Nat.reduceSub, Nat.reducePow, Nat.reduceMod, Nat.reduceDiv, l0, l1, l2, l3, l4, l5, l6, l7, l8, l9, l10, l11, l12, l13, l14, l15, l16, l20, l31, l32, l36, l40, l48, l57, l59, l63, l64, l97, l99, l100, l101, l122, l127, l128, l250, l255, l262143, l262144, l30000, l100000, l12345, l1024, l4095, nI_eqs, nI_les, nI_lts, qI_eq, qI_eqn, nI_eqq, qI_lts, nI_ltp, nI_lep, qI_les, nI_add, nI_mul, qI_add, qI_s, qI_def, nI_clamps, bI_z, bI_o, bI_01, n01, n11, rf_some, rf_none, m1, m1n, bft, a1, vg', z1, e169, bI_t, Bool.true_eq_false]
      rw [st]; exact r
