/-! STATEMENTS, the developers: knows -/
def kn : List Nat := [107, 110, 111, 119, 115]
def stKnows2 (n : Nat) (b : Nat → Nat) (y : YS) (g c : Nat) (t : Nat × Nat × Nat) : (YS × (Nat × Nat × Nat)) ⊕ Nat := if isW b t kn = true then (if inR (nmD b (tkL n b t.2.2)) (Yc y) = true then .inl (sM y (YU y g) (c + 1) ((nmD b (tkL n b t.2.2)).toNatClampNeg + 1), tkL n b (tkL n b t.2.2).2.2) else .inr (tkL n b t.2.2).2.1) else .inl (y, t)
def stKnows (n : Nat) (b : Nat → Nat) (y : YS) (g : Nat) (t : Nat × Nat × Nat) : (YS × (Nat × Nat × Nat)) ⊕ Nat := if isW b t kn = true then (if inR (nmD b (tkL n b t.2.2)) (Yc y) = true then stKnows2 n b (sM y (YU y g) ((nmD b (tkL n b t.2.2)).toNatClampNeg + 1) 0) g (nmD b (tkL n b t.2.2)).toNatClampNeg (tkL n b (tkL n b t.2.2).2.2) else .inr (tkL n b t.2.2).2.1) else .inl (y, t)
theorem HX.fp {h h' : AH} {T Y k : Nat} {w : List Nat} (q : HX h (hK h k) w) (f : FP T Y h h') : HX h' (hK h' k) w := by
  unfold HX at q ⊢
  rw [f.2.2.1, f.2.2.2.1]; exact q
theorem x39b (d : Nat) {h : AH} {T Y n : Nat} {b : Nat → Nat} {y : YS} {t : Nat × Nat × Nat} (q : PY h T Y n b y t) (hw : HX h (hK h 2) kn) {g c : Nat} (hg : g < Yg y) (hc : c < Yc y) (p4 : Option Value) : PR T Y n b h (E (d + 3) 39 25 [some (.ref T), some (.ref Y), some (.int (nI g)), some (.int (nI c)), p4] [] h) (stKnows2 n b y g c t) := by
  obtain ⟨h1, e1, q1, f1⟩ := q.look (d + 1)
  have c0 := q.1.1
  have c1 := q1.1.1
  have y1 := q1.2.2.2.2.1.1.1
  have ok := q1.2.2.2.2.1.2.2
  have o3 := ok.1.2
  have e46 := fun d => x46 d q.1 q.2.1 q.2.2.1 hw none
  have e47 := fun d => q1.num d
  have e64 := fun d => x64 d q1.2.2.2.2.1 (nmD b (tkL n b t.2.2))
  unfold stKnows2
  generalize nmD b (tkL n b t.2.2) = x at *
  cases w : isW b t kn <;> rw [w] at e46
  · rw [if_neg (by decide)]
    refine ⟨h, ?_, q, Fr0.refl _ _⟩
    simp (disch := omega) only [s39_25, s39_26, s39_27, s39_28, s39_29, s39_30, ↓reduceIte, Option.bind_some, Option.toList_some, Option.toList_none, List.cons_append, List.nil_append, if_true, if_false, true_or, or_true, true_and, and_true, not_true_eq_false, not_false_eq_true, Nat.reduceLT, Nat.reduceLeDiff, Nat.reduceEqDiff, Nat.reduceAdd, Nat.reduceMul, Nat.reduceSub, Nat.reducePow, Nat.reduceMod, Nat.reduceDiv, l0, l1, l2, l3, l4, l5, l6, l7, l8, l9, l10, l11, l12, l13, l14, l15, l16, l20, l31, l32, l36, l40, l48, l57, l59, l63, l64, l97, l99, l100, l101, l122, l127, l128, l250, l255, l262143, l262144, l30000, l100000, l12345, l1024, l4095, nI_eqs, nI_les, nI_lts, qI_eq, qI_eqn, nI_eqq, qI_lts, nI_ltp, nI_lep, qI_les, nI_add, nI_mul, qI_add, qI_s, qI_def, nI_clamps, bI_z, bI_o, bI_01, n01, n11, rf_some, rf_none, m1, m1n, bft, c0, e46, bI_f]
  · rw [if_pos rfl]
    cases a : inR x (Yc y) <;> rw [a] at e64
    · rw [if_neg (by decide)]
      refine ⟨h1, y, _, ?_, q1, f1, rfl⟩
      simp (disch := omega) only [s39_25, s39_26, s39_27, s39_28, s39_29, s39_30, s39_31, s39_32, s39_33, s39_34, s39_35, s39_36, s39_37, s39_38, s39_39, s39_40, s39_41, ↓reduceIte, Option.bind_some, Option.toList_some, Option.toList_none, List.cons_append, List.nil_append, if_true, if_false, true_or, or_true, true_and, and_true, not_true_eq_false, not_false_eq_true, Nat.reduceLT, Nat.reduceLeDiff, Nat.reduceEqDiff, Nat.reduceAdd, Nat.reduceMul, Nat.reduceSub, Nat.reducePow, Nat.reduceMod, Nat.reduceDiv, l0, l1, l2, l3, l4, l5, l6, l7, l8, l9, l10, l11, l12, l13, l14, l15, l16, l20, l31, l32, l36, l40, l48, l57, l59, l63, l64, l97, l99, l100, l101, l122, l127, l128, l250, l255, l262143, l262144, l30000, l100000, l12345, l1024, l4095, nI_eqs, nI_les, nI_lts, qI_eq, qI_eqn, nI_eqq, qI_lts, nI_ltp, nI_lep, qI_les, nI_add, nI_mul, qI_add, qI_s, qI_def, nI_clamps, bI_z, bI_o, bI_01, n01, n11, rf_some, rf_none, m1, m1n, bft, c0, c1, y1, e46, e1, e47, e64, bI_t, bI_f, Bool.true_eq_false]
    · rw [if_pos rfl]
      obtain ⟨k, hk, rfl⟩ := inR_of (by omega) a
      rw [nI_clamp (show k < 2 ^ 31 by omega)]
      have e2 := fun d h => x2 d h (f := c + 1) (s := k + 1) (by omega) (by omega)
      rw [qI_s, qI_s] at e2
      have e69 := fun d => x69 d q1.2.2.2.2.1 (g := g) (f := c + 1) (s := k + 1) hg
      obtain ⟨q2, f2⟩ := q1.mem (g := YU y g) (f := c + 1) (s := k + 1) (by omega) (by omega)
      obtain ⟨h3, e3, q3, f3⟩ := q2.look (d + 1)
      refine ⟨h3, ?_, q3, (f1.trans f2).trans f3⟩
      simp (disch := omega) only [s39_25, s39_26, s39_27, s39_28, s39_29, s39_30, s39_31, s39_32, s39_33, s39_34, s39_35, s39_36, s39_37, s39_38, s39_39, s39_40, s39_41, s39_42, s39_43, s39_44, s39_45, s39_46, s39_47, s39_48, s39_49, s39_50, s39_51, ↓reduceIte, Option.bind_some, Option.toList_some, Option.toList_none, List.cons_append, List.nil_append, if_true, if_false, true_or, or_true, true_and, and_true, not_true_eq_false, not_false_eq_true, Nat.reduceLT, Nat.reduceLeDiff, Nat.reduceEqDiff, Nat.reduceAdd, Nat.reduceMul, Nat.reduceSub, Nat.reducePow, Nat.reduceMod, Nat.reduceDiv, l0, l1, l2, l3, l4, l5, l6, l7, l8, l9, l10, l11, l12, l13, l14, l15, l16, l20, l31, l32, l36, l40, l48, l57, l59, l63, l64, l97, l99, l100, l101, l122, l127, l128, l250, l255, l262143, l262144, l30000, l100000, l12345, l1024, l4095, nI_eqs, nI_les, nI_lts, qI_eq, qI_eqn, nI_eqq, qI_lts, nI_ltp, nI_lep, qI_les, nI_add, nI_mul, qI_add, qI_s, qI_def, nI_clamps, bI_z, bI_o, bI_01, n01, n11, rf_some, rf_none, m1, m1n, bft, hS_stI, c0, c1, y1, e46, e1, e47, e64, e2, e69, e3, bI_t, Bool.true_eq_false]
theorem PR.pre {T Y n : Nat} {b : Nat → Nat} {h h1 : AH} {e : Option (Option Value × AH)} {r : (YS × (Nat × Nat × Nat)) ⊕ Nat} (f : FP T Y h h1) (q : PR T Y n b h1 e r) : PR T Y n b h e r := by
  cases r with
  | inl z =>
    obtain ⟨h', a1, a2, a3⟩ := q
    exact ⟨h', a1, a2, f.trans a3⟩
  | inr p =>
    obtain ⟨h', y, t, a1, a2, a3, a4⟩ := q
    exact ⟨h', y, t, a1, a2, f.trans a3, a4⟩
theorem x39 (d : Nat) {h : AH} {T Y n : Nat} {b : Nat → Nat} {y : YS} {t : Nat × Nat × Nat} (q : PY h T Y n b y t) (hw : HX h (hK h 2) kn) {g : Nat} (hg : g < Yg y) (p3 p4 : Option Value) : PR T Y n b h (E (d + 3) 39 0 [some (.ref T), some (.ref Y), some (.int (nI g)), p3, p4] [] h) (stKnows n b y g t) := by
  obtain ⟨h1, e1, q1, f1⟩ := q.look (d + 1)
  have c0 := q.1.1
  have c1 := q1.1.1
  have y1 := q1.2.2.2.2.1.1.1
  have ok := q1.2.2.2.2.1.2.2
  have o3 := ok.1.2
  have e46 := fun d => x46 d q.1 q.2.1 q.2.2.1 hw none
  have e47 := fun d => q1.num d
  have e64 := fun d => x64 d q1.2.2.2.2.1 (nmD b (tkL n b t.2.2))
  unfold stKnows
  generalize nmD b (tkL n b t.2.2) = x at *
  cases w : isW b t kn <;> rw [w] at e46
  · rw [if_neg (by decide)]
    refine ⟨h, ?_, q, Fr0.refl _ _⟩
    simp (disch := omega) only [s39_0, s39_1, s39_2, s39_3, s39_4, s39_5, ↓reduceIte, Option.bind_some, Option.toList_some, Option.toList_none, List.cons_append, List.nil_append, if_true, if_false, true_or, or_true, true_and, and_true, not_true_eq_false, not_false_eq_true, Nat.reduceLT, Nat.reduceLeDiff, Nat.reduceEqDiff, Nat.reduceAdd, Nat.reduceMul, Nat.reduceSub, Nat.reducePow, Nat.reduceMod, Nat.reduceDiv, l0, l1, l2, l3, l4, l5, l6, l7, l8, l9, l10, l11, l12, l13, l14, l15, l16, l20, l31, l32, l36, l40, l48, l57, l59, l63, l64, l97, l99, l100, l101, l122, l127, l128, l250, l255, l262143, l262144, l30000, l100000, l12345, l1024, l4095, nI_eqs, nI_les, nI_lts, qI_eq, qI_eqn, nI_eqq, qI_lts, nI_ltp, nI_lep, qI_les, nI_add, nI_mul, qI_add, qI_s, qI_def, nI_clamps, bI_z, bI_o, bI_01, n01, n11, rf_some, rf_none, m1, m1n, bft, c0, e46, bI_f]
  · rw [if_pos rfl]
    cases a : inR x (Yc y) <;> rw [a] at e64
    · rw [if_neg (by decide)]
      refine ⟨h1, y, _, ?_, q1, f1, rfl⟩
      simp (disch := omega) only [s39_0, s39_1, s39_2, s39_3, s39_4, s39_5, s39_6, s39_7, s39_8, s39_9, s39_10, s39_11, s39_12, s39_13, s39_14, s39_15, s39_16, ↓reduceIte, Option.bind_some, Option.toList_some, Option.toList_none, List.cons_append, List.nil_append, if_true, if_false, true_or, or_true, true_and, and_true, not_true_eq_false, not_false_eq_true, Nat.reduceLT, Nat.reduceLeDiff, Nat.reduceEqDiff, Nat.reduceAdd, Nat.reduceMul, Nat.reduceSub, Nat.reducePow, Nat.reduceMod, Nat.reduceDiv, l0, l1, l2, l3, l4, l5, l6, l7, l8, l9, l10, l11, l12, l13, l14, l15, l16, l20, l31, l32, l36, l40, l48, l57, l59, l63, l64, l97, l99, l100, l101, l122, l127, l128, l250, l255, l262143, l262144, l30000, l100000, l12345, l1024, l4095, nI_eqs, nI_les, nI_lts, qI_eq, qI_eqn, nI_eqq, qI_lts, nI_ltp, nI_lep, qI_les, nI_add, nI_mul, qI_add, qI_s, qI_def, nI_clamps, bI_z, bI_o, bI_01, n01, n11, rf_some, rf_none, m1, m1n, bft, c0, c1, y1, e46, e1, e47, e64, bI_t, bI_f, Bool.true_eq_false]
    · rw [if_pos rfl]
      obtain ⟨k, hk, rfl⟩ := inR_of (by omega) a
      rw [nI_clamp (show k < 2 ^ 31 by omega)]
      have e2 := fun d h => x2 d h (f := k + 1) (s := 0) (by omega) (by omega)
      rw [qI_s] at e2
      have e69 := fun d => x69 d q1.2.2.2.2.1 (g := g) (f := k + 1) (s := 0) hg
      obtain ⟨q2, f2⟩ := q1.mem (g := YU y g) (f := k + 1) (s := 0) (by omega) (by omega)
      obtain ⟨h3, e3, q3, f3⟩ := q2.look (d + 1)
      have f13 := (f1.trans f2).trans f3
      have st : E (d + 3) 39 0 [some (.ref T), some (.ref Y), some (.int (nI g)), p3, p4] [] h = E (d + 3) 39 25 [some (.ref T), some (.ref Y), some (.int (nI g)), some (.int (nI k)), p4] [] h3 := by
        simp only [Nat.mul_zero, Nat.add_zero] at e2 e69 e3
        simp (disch := omega) only [s39_0, s39_1, s39_2, s39_3, s39_4, s39_5, s39_6, s39_7, s39_8, s39_9, s39_10, s39_11, s39_12, s39_13, s39_14, s39_15, s39_16, s39_17, s39_18, s39_19, s39_20, s39_21, s39_22, s39_23, s39_24, ↓reduceIte, Option.bind_some, Option.toList_some, Option.toList_none, List.cons_append, List.nil_append, if_true, if_false, true_or, or_true, true_and, and_true, not_true_eq_false, not_false_eq_true, Nat.reduceLT, Nat.reduceLeDiff, Nat.reduceEqDiff, Nat.reduceAdd, Nat.reduceMul, Nat.reduceSub, Nat.reducePow, Nat.reduceMod, Nat.reduceDiv, l0, l1, l2, l3, l4, l5, l6, l7, l8, l9, l10, l11, l12, l13, l14, l15, l16, l20, l31, l32, l36, l40, l48, l57, l59, l63, l64, l97, l99, l100, l101, l122, l127, l128, l250, l255, l262143, l262144, l30000, l100000, l12345, l1024, l4095, nI_eqs, nI_les, nI_lts, qI_eq, qI_eqn, nI_eqq, qI_lts, nI_ltp, nI_lep, qI_les, nI_add, nI_mul, qI_add, qI_s, qI_def, nI_clamps, bI_z, bI_o, bI_01, n01, n11, rf_some, rf_none, m1, m1n, bft, hS_stI, c0, c1, y1, e46, e1, e47, e64, e2, e69, e3, bI_t, Bool.true_eq_false]
      rw [st]
      exact PR.pre f13 (x39b d q3 (hw.fp f13) (y := sM y (YU y g) (k + 1) 0) hg hk p4)
