/-! FOE and WAY of the reference -/
def BM (r : (Nat × Nat) ⊕ Nat) : Int32 × Int32 := match r with
  | .inl a => (qI a.2, qI a.1)
  | .inr v => (nI v, nI 300)
/-- what is best so far -/
def BK (r : (Nat × Nat) ⊕ Nat) : Prop := match r with
  | .inl a => aOK a
  | .inr _ => True
def fcS (y : YS) (g m c : Nat) (r : (Nat × Nat) ⊕ Nat) : (Nat × Nat) ⊕ Nat := match r with
  | .inl a => .inl a
  | .inr v => .inr v
noncomputable def fc1 (y : YS) (g c : Nat) (r : (Nat × Nat) ⊕ Nat) : (Nat × Nat) ⊕ Nat := match r with
  | .inl a => (match dsY y (tcN y (ndY y) g c) with
    | some D => .inl (if a.1 < D - lsY y (tcN y (ndY y) g c) + 1 then (D - lsY y (tcN y (ndY y) g c) + 1, 10 * g + c + 1) else a)
    | none => .inr (10 * g + c))
  | .inr v => .inr v
theorem fcY_i (y : YS) (g : Nat) : ∀ m c a, fcY y g m c a = itr (fun c r => fc1 y g c r) m c (.inl a) := by
  have inr : ∀ m c v, itr (fun c r => fc1 y g c r) m c (.inr v) = .inr v := by
    intro m
    induction m with
    | zero => intro c v; rfl
    | succ m ih => intro c v; rw [itr_s]; exact ih _ _
  intro m
  induction m with
  | zero => intro c a; rfl
  | succ m ih =>
    intro c a
    rw [itr_s]
    show (match dsY y (tcN y (ndY y) g c) with
      | some D => fcY y g m (c + 1) (if a.1 < D - lsY y (tcN y (ndY y) g c) + 1 then (D - lsY y (tcN y (ndY y) g c) + 1, 10 * g + c + 1) else a)
      | none => .inr (10 * g + c)) = itr (fun c r => fc1 y g c r) m (c + 1) (match dsY y (tcN y (ndY y) g c) with
      | some D => .inl (if a.1 < D - lsY y (tcN y (ndY y) g c) + 1 then (D - lsY y (tcN y (ndY y) g c) + 1, 10 * g + c + 1) else a)
      | none => .inr (10 * g + c))
    cases dsY y (tcN y (ndY y) g c) with
    | none => exact (inr _ _ _).symm
    | some D => exact ih _ _
theorem fgY_i (y : YS) : ∀ m g a, fgY y m g a = itr (fun g r => itr (fun c r => fc1 y g c r) (Yc y) 0 r) m g (.inl a) := by
  have inr : ∀ g m c v, itr (fun c r => fc1 y g c r) m c (.inr v) = .inr v := by
    intro g m
    induction m with
    | zero => intro c v; rfl
    | succ m ih => intro c v; rw [itr_s]; exact ih _ _
  have inr2 : ∀ m g v, itr (fun g r => itr (fun c r => fc1 y g c r) (Yc y) 0 r) m g (.inr v) = .inr v := by
    intro m
    induction m with
    | zero => intro g v; rfl
    | succ m ih => intro g v; rw [itr_s, inr]; exact ih _ _
  intro m
  induction m with
  | zero => intro g a; rfl
  | succ m ih =>
    intro g a
    rw [itr_s, fgY_s, fcY_i]
    generalize itr (fun c r => fc1 y g c r) (Yc y) 0 (.inl a) = r
    cases r with
    | inl a' => exact ih _ _
    | inr v => exact (inr2 _ _ _).symm
theorem m206c (d : Nat) {h0 : AH} {A : Nat} {s : GS} {W : Nat → Prop} {fa qa n : Nat} {f : Nat → Int32} {q : Nat} {Q : Nat → Nat} (h3 : Yg (gY s) ≤ 3) (n3 : Yn (gY s) ≤ 3) {g : Nat} (hg : g < Yg (gY s)) (tb : ∀ k, k < Yc (gY s) → TBL (gY s) f (tcN (gY s) (ndY (gY s)) g k)) : ∀ m k h r p5, k + m = Yc (gY s) → FH h0 h A s W fa qa n f q Q → BK r → ∃ h' p5', E (d + 6) 206 27 [some (.ref A), some (.int (BM r).1), some (.int (BM r).2), some (.int (nI g)), some (.int (nI k)), p5] [] h = E (d + 6) 206 21 [some (.ref A), some (.int (BM (itr (fun c r => fc1 (gY s) g c r) m k r)).1), some (.int (BM (itr (fun c r => fc1 (gY s) g c r) m k r)).2), some (.int (nI (g + 1))), some (.int (nI (Yc (gY s)))), p5'] [] h' ∧ FH h0 h' A s W fa qa n f q Q ∧ BK (itr (fun c r => fc1 (gY s) g c r) m k r) := by
  intro m
  induction m with
  | zero =>
    intro k h r p5 hk x br
    have hk' : k = Yc (gY s) := hk
    subst hk'
    have a0 := x.1.1.1.1
    have a9 := x.1.1.2.1.1
    have oc := x.1.1.2.2.1
    refine ⟨h, p5, ?_, x, br⟩
    rw [itr_0, s206_27]
    simp (disch := omega) only [s206_28, s206_29, s206_30, s206_51, s206_52, ↓reduceIte, Option.bind_some, Option.toList_some, Option.toList_none, List.cons_append, List.nil_append, if_true, if_false, true_or, or_true, true_and, and_true, not_true_eq_false, not_false_eq_true, Nat.reduceLT, Nat.reduceLeDiff, Nat.reduceEqDiff, Nat.reduceAdd, Nat.reduceMul, Nat.reduceSub, Nat.reducePow, Nat.reduceMod, Nat.reduceDiv, l0, l1, l2, l3, l4, l5, l6, l7, l8, l9, l10, l11, l12, l13, l14, l15, l16, l20, l31, l32, l36, l40, l48, l57, l59, l63, l64, l97, l99, l100, l101, l122, l127, l128, l250, l255, l262143, l262144, l30000, l100000, l12345, l1024, l4095, nI_eqs, nI_les, nI_lts, qI_eq, qI_eqn, nI_eqq, qI_lts, nI_ltp, nI_lep, qI_les, nI_add, nI_mul, qI_add, qI_s, qI_def, nI_clamps, bI_z, bI_o, bI_01, n01, n11, rf_some, rf_none, m1, m1n, bft, a0, a9, Nat.le_refl]
  | succ m ih =>
    intro k h r p5 hk x br
    have kl : ¬ Yc (gY s) ≤ k := by omega
    have a0 := x.1.1.1.1
    have a9 := x.1.1.2.1.1
    have oc := x.1.1.2.2.1
    obtain ⟨h1, o, Y, e1, x1, y1⟩ := m205 (d + 2) x h3 n3 hg (show k < Yc (gY s) by omega) none
    have t := tb k (by omega)
    have key : BK (fc1 (gY s) g k r) ∧ ∃ p5', E (d + 6) 206 27 [some (.ref A), some (.int (BM r).1), some (.int (BM r).2), some (.int (nI g)), some (.int (nI k)), p5] [] h = E (d + 6) 206 27 [some (.ref A), some (.int (BM (fc1 (gY s) g k r)).1), some (.int (BM (fc1 (gY s) g k r)).2), some (.int (nI g)), some (.int (nI (k + 1))), p5'] [] h1 := by
      rcases t.c with ⟨D, hD, t1, t2, t3⟩ | ⟨hD, t3⟩
      · rw [t3] at e1
        have hr : D - lsY (gY s) (tcN (gY s) (ndY (gY s)) g k) ≤ 63 := by omega
        have E1 : ∀ a, fc1 (gY s) g k (.inl a) = .inl (if a.1 < D - lsY (gY s) (tcN (gY s) (ndY (gY s)) g k) + 1 then (D - lsY (gY s) (tcN (gY s) (ndY (gY s)) g k) + 1, 10 * g + k + 1) else a) := fun a => by
          show (match dsY (gY s) (tcN (gY s) (ndY (gY s)) g k) with
            | some D => _
            | none => _) = _
          rw [hD]
        generalize D - lsY (gY s) (tcN (gY s) (ndY (gY s)) g k) = v at *
        have vd := vdiv (r := v) t2
        have dd : nI (100 * v + D) / nI 100 = nI v := by rw [nI_d100 (by omega), vd]
        cases r with
        | inl a =>
          have ha : aOK a := br
          rw [E1]
          by_cases c : a.1 < v + 1
          · rw [if_pos c]
            have c' : ¬ v + 1 ≤ a.1 := by omega
            have l1' := ha.1
            refine ⟨⟨by show v + 1 < 100; omega, by show 10 * g + k + 1 < 100; omega⟩, some (.int (nI v)), ?_⟩
            show E (d + 6) 206 27 [some (.ref A), some (.int (qI a.2)), some (.int (qI a.1)), some (.int (nI g)), some (.int (nI k)), p5] [] h = E (d + 6) 206 27 [some (.ref A), some (.int (qI (10 * g + k + 1))), some (.int (qI (v + 1))), some (.int (nI g)), some (.int (nI (k + 1))), _] [] h1
            rw [s206_27]
            simp (disch := omega) only [s206_28, s206_29, s206_30, s206_31, s206_32, s206_33, s206_34, s206_35, s206_36, s206_37, s206_38, s206_39, s206_40, s206_41, s206_42, s206_43, s206_44, s206_45, s206_46, s206_47, s206_48, s206_49, s206_50, ↓reduceIte, Option.bind_some, Option.toList_some, Option.toList_none, List.cons_append, List.nil_append, if_true, if_false, true_or, or_true, true_and, and_true, not_true_eq_false, not_false_eq_true, Nat.reduceLT, Nat.reduceLeDiff, Nat.reduceEqDiff, Nat.reduceAdd, Nat.reduceMul, Nat.reduceSub, Nat.reducePow, Nat.reduceMod, Nat.reduceDiv, l0, l1, l2, l3, l4, l5, l6, l7, l8, l9, l10, l11, l12, l13, l14, l15, l16, l20, l31, l32, l36, l40, l48, l57, l59, l63, l64, l97, l99, l100, l101, l122, l127, l128, l250, l255, l262143, l262144, l30000, l100000, l12345, l1024, l4095, nI_eqs, nI_les, nI_lts, qI_eq, qI_eqn, nI_eqq, qI_lts, nI_ltp, nI_lep, qI_les, nI_add, nI_mul, qI_add, qI_s, qI_def, nI_clamps, bI_z, bI_o, bI_01, n01, n11, rf_some, rf_none, m1, m1n, bft, a0, a9, kl, e1, dd, c']
          · rw [if_neg c]
            have c' : v + 1 ≤ a.1 := by omega
            have l1' := ha.1
            refine ⟨br, some (.int (nI v)), ?_⟩
            show E (d + 6) 206 27 [some (.ref A), some (.int (qI a.2)), some (.int (qI a.1)), some (.int (nI g)), some (.int (nI k)), p5] [] h = E (d + 6) 206 27 [some (.ref A), some (.int (qI a.2)), some (.int (qI a.1)), some (.int (nI g)), some (.int (nI (k + 1))), _] [] h1
            rw [s206_27]
            simp (disch := omega) only [s206_28, s206_29, s206_30, s206_31, s206_32, s206_33, s206_34, s206_35, s206_36, s206_37, s206_38, s206_39, s206_40, s206_49, s206_50, ↓reduceIte, Option.bind_some, Option.toList_some, Option.toList_none, List.cons_append, List.nil_append, if_true, if_false, true_or, or_true, true_and, and_true, not_true_eq_false, not_false_eq_true, Nat.reduceLT, Nat.reduceLeDiff, Nat.reduceEqDiff, Nat.reduceAdd, Nat.reduceMul, Nat.reduceSub, Nat.reducePow, Nat.reduceMod, Nat.reduceDiv, l0, l1, l2, l3, l4, l5, l6, l7, l8, l9, l10, l11, l12, l13, l14, l15, l16, l20, l31, l32, l36, l40, l48, l57, l59, l63, l64, l97, l99, l100, l101, l122, l127, l128, l250, l255, l262143, l262144, l30000, l100000, l12345, l1024, l4095, nI_eqs, nI_les, nI_lts, qI_eq, qI_eqn, nI_eqq, qI_lts, nI_ltp, nI_lep, qI_les, nI_add, nI_mul, qI_add, qI_s, qI_def, nI_clamps, bI_z, bI_o, bI_01, n01, n11, rf_some, rf_none, m1, m1n, bft, a0, a9, kl, e1, dd, c']
        | inr u =>
          refine ⟨trivial, some (.int (nI v)), ?_⟩
          show E (d + 6) 206 27 [some (.ref A), some (.int (nI u)), some (.int (nI 300)), some (.int (nI g)), some (.int (nI k)), p5] [] h = E (d + 6) 206 27 [some (.ref A), some (.int (nI u)), some (.int (nI 300)), some (.int (nI g)), some (.int (nI (k + 1))), _] [] h1
          have c' : v ≤ 300 := by omega
          rw [s206_27]
          simp (disch := omega) only [s206_28, s206_29, s206_30, s206_31, s206_32, s206_33, s206_34, s206_35, s206_36, s206_37, s206_38, s206_39, s206_40, s206_49, s206_50, ↓reduceIte, Option.bind_some, Option.toList_some, Option.toList_none, List.cons_append, List.nil_append, if_true, if_false, true_or, or_true, true_and, and_true, not_true_eq_false, not_false_eq_true, Nat.reduceLT, Nat.reduceLeDiff, Nat.reduceEqDiff, Nat.reduceAdd, Nat.reduceMul, Nat.reduceSub, Nat.reducePow, Nat.reduceMod, Nat.reduceDiv, l0, l1, l2, l3, l4, l5, l6, l7, l8, l9, l10, l11, l12, l13, l14, l15, l16, l20, l31, l32, l36, l40, l48, l57, l59, l63, l64, l97, l99, l100, l101, l122, l127, l128, l250, l255, l262143, l262144, l30000, l100000, l12345, l1024, l4095, nI_eqs, nI_les, nI_lts, qI_eq, qI_eqn, nI_eqq, qI_lts, nI_ltp, nI_lep, qI_les, nI_add, nI_mul, qI_add, qI_s, qI_def, nI_clamps, bI_z, bI_o, bI_01, n01, n11, rf_some, rf_none, m1, m1n, bft, a0, a9, kl, e1, dd, c']
      · rw [t3] at e1
        have dd : nI 30000 / nI 100 = nI 300 := by decide
        cases r with
        | inl a =>
          have ha : aOK a := br
          have E1 : fc1 (gY s) g k (.inl a) = .inr (10 * g + k) := by
            show (match dsY (gY s) (tcN (gY s) (ndY (gY s)) g k) with
              | some D => _
              | none => _) = _
            rw [hD]
          rw [E1]
          have l1' := ha.1
          have c' : ¬ 300 + 1 ≤ a.1 := by omega
          refine ⟨trivial, some (.int (nI 300)), ?_⟩
          show E (d + 6) 206 27 [some (.ref A), some (.int (qI a.2)), some (.int (qI a.1)), some (.int (nI g)), some (.int (nI k)), p5] [] h = E (d + 6) 206 27 [some (.ref A), some (.int (nI (10 * g + k))), some (.int (nI 300)), some (.int (nI g)), some (.int (nI (k + 1))), _] [] h1
          have c2 : ¬ nI 300 ≤ qI a.1 := fun w => by rw [nI_lep (by omega) (by omega)] at w; omega
          rw [s206_27]
          simp (disch := omega) only [s206_28, s206_29, s206_30, s206_31, s206_32, s206_33, s206_34, s206_35, s206_36, s206_37, s206_38, s206_39, s206_40, s206_41, s206_42, s206_43, s206_44, s206_45, s206_46, s206_47, s206_48, s206_49, s206_50, ↓reduceIte, Option.bind_some, Option.toList_some, Option.toList_none, List.cons_append, List.nil_append, if_true, if_false, true_or, or_true, true_and, and_true, not_true_eq_false, not_false_eq_true, Nat.reduceLT, Nat.reduceLeDiff, Nat.reduceEqDiff, Nat.reduceAdd, Nat.reduceMul, Nat.reduceSub, Nat.reducePow, Nat.reduceMod, Nat.reduceDiv, l0, l1, l2, l3, l4, l5, l6, l7, l8, l9, l10, l11, l12, l13, l14, l15, l16, l20, l31, l32, l36, l40, l48, l57, l59, l63, l64, l97, l99, l100, l101, l122, l127, l128, l250, l255, l262143, l262144, l30000, l100000, l12345, l1024, l4095, nI_eqs, nI_les, nI_lts, nI_add, nI_mul, rf_some, a0, a9, kl, e1, dd, c2]
        | inr u =>
          refine ⟨trivial, some (.int (nI 300)), ?_⟩
          show E (d + 6) 206 27 [some (.ref A), some (.int (nI u)), some (.int (nI 300)), some (.int (nI g)), some (.int (nI k)), p5] [] h = E (d + 6) 206 27 [some (.ref A), some (.int (nI u)), some (.int (nI 300)), some (.int (nI g)), some (.int (nI (k + 1))), _] [] h1
          rw [s206_27]
          simp (disch := omega) only [s206_28, s206_29, s206_30, s206_31, s206_32, s206_33, s206_34, s206_35, s206_36, s206_37, s206_38, s206_39, s206_40, s206_49, s206_50, ↓reduceIte, Option.bind_some, Option.toList_some, Option.toList_none, List.cons_append, List.nil_append, if_true, if_false, true_or, or_true, true_and, and_true, not_true_eq_false, not_false_eq_true, Nat.reduceLT, Nat.reduceLeDiff, Nat.reduceEqDiff, Nat.reduceAdd, Nat.reduceMul, Nat.reduceSub, Nat.reducePow, Nat.reduceMod, Nat.reduceDiv, l0, l1, l2, l3, l4, l5, l6, l7, l8, l9, l10, l11, l12, l13, l14, l15, l16, l20, l31, l32, l36, l40, l48, l57, l59, l63, l64, l97, l99, l100, l101, l122, l127, l128, l250, l255, l262143, l262144, l30000, l100000, l12345, l1024, l4095, nI_eqs, nI_les, nI_lts, qI_eq, qI_eqn, nI_eqq, qI_lts, nI_ltp, nI_lep, qI_les, nI_add, nI_mul, qI_add, qI_s, qI_def, nI_clamps, bI_z, bI_o, bI_01, n01, n11, rf_some, rf_none, m1, m1n, bft, a0, a9, kl, e1, dd, Nat.le_refl]
    obtain ⟨bk, p5', st⟩ := key
    obtain ⟨h', p5'', e2, x2, b2⟩ := ih (k + 1) h1 (fc1 (gY s) g k r) p5' (by omega) x1 bk
    exact ⟨h', p5'', by rw [st, e2, itr_s], x2, by rw [itr_s]; exact b2⟩
theorem m206g (d : Nat) {h0 : AH} {A : Nat} {s : GS} {W : Nat → Prop} {fa qa n : Nat} {f : Nat → Int32} {q : Nat} {Q : Nat → Nat} (h3 : Yg (gY s) ≤ 3) (n3 : Yn (gY s) ≤ 3) (tb : ∀ g k, g < Yg (gY s) → k < Yc (gY s) → TBL (gY s) f (tcN (gY s) (ndY (gY s)) g k)) : ∀ m g h r p4 p5, g + m = Yg (gY s) → FH h0 h A s W fa qa n f q Q → BK r → ∃ h', E (d + 6) 206 21 [some (.ref A), some (.int (BM r).1), some (.int (BM r).2), some (.int (nI g)), p4, p5] [] h = some (some (.int (BM (itr (fun g r => itr (fun c r => fc1 (gY s) g c r) (Yc (gY s)) 0 r) m g r)).1), h') ∧ FH h0 h' A s W fa qa n f q Q := by
  intro m
  induction m with
  | zero =>
    intro g h r p4 p5 hg x br
    have hg' : g = Yg (gY s) := hg
    subst hg'
    have a0 := x.1.1.1.1
    have a10 := x.1.1.2.1.2.1
    refine ⟨h, ?_, x⟩
    rw [itr_0, s206_21]
    simp (disch := omega) only [s206_22, s206_23, s206_24, s206_53, s206_54, ↓reduceIte, Option.bind_some, Option.toList_some, Option.toList_none, List.cons_append, List.nil_append, if_true, if_false, true_or, or_true, true_and, and_true, not_true_eq_false, not_false_eq_true, Nat.reduceLT, Nat.reduceLeDiff, Nat.reduceEqDiff, Nat.reduceAdd, Nat.reduceMul, Nat.reduceSub, Nat.reducePow, Nat.reduceMod, Nat.reduceDiv, l0, l1, l2, l3, l4, l5, l6, l7, l8, l9, l10, l11, l12, l13, l14, l15, l16, l20, l31, l32, l36, l40, l48, l57, l59, l63, l64, l97, l99, l100, l101, l122, l127, l128, l250, l255, l262143, l262144, l30000, l100000, l12345, l1024, l4095, nI_eqs, nI_les, nI_lts, qI_eq, qI_eqn, nI_eqq, qI_lts, nI_ltp, nI_lep, qI_les, nI_add, nI_mul, qI_add, qI_s, qI_def, nI_clamps, bI_z, bI_o, bI_01, n01, n11, rf_some, rf_none, m1, m1n, bft, a0, a10, Nat.le_refl]
  | succ m ih =>
    intro g h r p4 p5 hg x br
    have gl : ¬ Yg (gY s) ≤ g := by omega
    have a0 := x.1.1.1.1
    have a10 := x.1.1.2.1.2.1
    obtain ⟨h1, p5', e1, x1, b1⟩ := m206c d h3 n3 (show g < Yg (gY s) by omega) (fun k hk => tb g k (by omega) hk) (Yc (gY s)) 0 h r p5 (by omega) x br
    obtain ⟨h', e2, x2⟩ := ih (g + 1) h1 _ (some (.int (nI (Yc (gY s))))) p5' (by omega) x1 b1
    refine ⟨h', ?_, x2⟩
    rw [itr_s, ← e2, ← e1, s206_21]
    simp (disch := omega) only [s206_22, s206_23, s206_24, s206_25, s206_26, ↓reduceIte, Option.bind_some, Option.toList_some, Option.toList_none, List.cons_append, List.nil_append, if_true, if_false, true_or, or_true, true_and, and_true, not_true_eq_false, not_false_eq_true, Nat.reduceLT, Nat.reduceLeDiff, Nat.reduceEqDiff, Nat.reduceAdd, Nat.reduceMul, Nat.reduceSub, Nat.reducePow, Nat.reduceMod, Nat.reduceDiv, l0, l1, l2, l3, l4, l5, l6, l7, l8, l9, l10, l11, l12, l13, l14, l15, l16, l20, l31, l32, l36, l40, l48, l57, l59, l63, l64, l97, l99, l100, l101, l122, l127, l128, l250, l255, l262143, l262144, l30000, l100000, l12345, l1024, l4095, nI_eqs, nI_les, nI_lts, qI_eq, qI_eqn, nI_eqq, qI_lts, nI_ltp, nI_lep, qI_les, nI_add, nI_mul, qI_add, qI_s, qI_def, nI_clamps, bI_z, bI_o, bI_01, n01, n11, rf_some, rf_none, m1, m1n, bft, a0, a10, gl]
theorem c206 (d : Nat) {h : AH} {A : Nat} {s : GS} {W : Nat → Prop} (hx : MX h A s W) (p1 p2 p3 p4 p5 : Option Value) : MC (d + 6) 206 [some (.ref A), p1, p2, p3, p4, p5] h A W (s_foe s) := by
  have b0 := hx.1.1.1
  have e136 := c136e hx
  have e202 := fun d => m202 d hx.1
  have vg := hx.1.2.1.2.1
  have o6 := hx.1.2.2.2.1
  unfold s_foe
  by_cases g0 : Yg (gY s) = 0
  · rw [if_pos g0]
    rw [g0] at vg
    refine (MC0.same hx ?_).mc hx
    simp (disch := omega) only [s206_0, s206_1, s206_2, s206_3, s206_4, ↓reduceIte, Option.bind_some, Option.toList_some, Option.toList_none, List.cons_append, List.nil_append, if_true, if_false, true_or, or_true, true_and, and_true, not_true_eq_false, not_false_eq_true, Nat.reduceLT, Nat.reduceLeDiff, Nat.reduceEqDiff, Nat.reduceAdd, Nat.reduceMul, Nat.reduceSub, Nat.reducePow, Nat.reduceMod, Nat.reduceDiv, l0, l1, l2, l3, l4, l5, l6, l7, l8, l9, l10, l11, l12, l13, l14, l15, l16, l20, l31, l32, l36, l40, l48, l57, l59, l63, l64, l97, l99, l100, l101, l122, l127, l128, l250, l255, l262143, l262144, l30000, l100000, l12345, l1024, l4095, nI_eqs, nI_les, nI_lts, qI_eq, qI_eqn, nI_eqq, qI_lts, nI_ltp, nI_lep, qI_les, nI_add, nI_mul, qI_add, qI_s, qI_def, nI_clamps, bI_z, bI_o, bI_01, n01, n11, rf_some, rf_none, m1, m1n, bft, b0, vg]
  · rw [if_neg g0]
    by_cases sm : Yg (gY s) ≤ 3 ∧ Yn (gY s) ≤ 3
    · rw [if_pos sm]
      rw [decide_eq_true sm] at e202
      obtain ⟨h1, fa, qa, n, f, q, Q, o, Y, e1, fh, fo, tb, cl, -, foe⟩ := c201 d hx sm.1 sm.2 true none none none none none none
      rw [bI_t] at e1
      obtain ⟨h2, e2, fh2⟩ := m206g d sm.1 sm.2 (fun g k hg hk => by
        obtain ⟨i, i1, i2⟩ := foe rfl g k hg hk
        have := tb i i1
        rw [i2] at this; exact this) (Yg (gY s)) 0 h1 (.inl (0, 0)) p4 p5 (by omega) fh ⟨by decide, by decide⟩
      have ans : E (d + 6) 206 0 [some (.ref A), p1, p2, p3, p4, p5] [] h = some (some (.int (BM (fgY (gY s) (Yg (gY s)) 0 (0, 0))).1), h2) := by
        rw [fgY_i, ← e2]
        simp (disch := omega) only [s206_0, s206_1, s206_2, s206_5, s206_6, s206_7, s206_12, s206_13, s206_14, s206_15, s206_16, s206_17, s206_18, s206_19, s206_20, ↓reduceIte, Option.bind_some, Option.toList_some, Option.toList_none, List.cons_append, List.nil_append, if_true, if_false, true_or, or_true, true_and, and_true, not_true_eq_false, not_false_eq_true, Nat.reduceLT, Nat.reduceLeDiff, Nat.reduceEqDiff, Nat.reduceAdd, Nat.reduceMul, Nat.reduceSub, Nat.reducePow, Nat.reduceMod, Nat.reduceDiv, l0, l1, l2, l3, l4, l5, l6, l7, l8, l9, l10, l11, l12, l13, l14, l15, l16, l20, l31, l32, l36, l40, l48, l57, l59, l63, l64, l97, l99, l100, l101, l122, l127, l128, l250, l255, l262143, l262144, l30000, l100000, l12345, l1024, l4095, nI_eqs, nI_les, nI_lts, qI_eq, qI_eqn, nI_eqq, qI_lts, nI_ltp, nI_lep, qI_les, nI_add, nI_mul, qI_add, qI_s, qI_def, nI_clamps, bI_z, bI_o, bI_01, n01, n11, rf_some, rf_none, m1, m1n, bft, b0, vg, g0, e202, e1, bI_t, Bool.true_eq_false]
        rfl
      generalize fgY (gY s) (Yg (gY s)) 0 (0, 0) = r at *
      cases r with
      | inl a => exact MC.of fh2 ans
      | inr v => exact MC.of fh2 ans
    · rw [if_neg sm]
      rw [decide_eq_false sm] at e202
      refine (MC0.rf hx (k := 5) (by decide) (by decide) ?_).mc hx
      simp (disch := omega) only [s206_0, s206_1, s206_2, s206_5, s206_6, s206_7, s206_8, s206_9, s206_10, s206_11, ↓reduceIte, Option.bind_some, Option.toList_some, Option.toList_none, List.cons_append, List.nil_append, if_true, if_false, true_or, or_true, true_and, and_true, not_true_eq_false, not_false_eq_true, Nat.reduceLT, Nat.reduceLeDiff, Nat.reduceEqDiff, Nat.reduceAdd, Nat.reduceMul, Nat.reduceSub, Nat.reducePow, Nat.reduceMod, Nat.reduceDiv, l0, l1, l2, l3, l4, l5, l6, l7, l8, l9, l10, l11, l12, l13, l14, l15, l16, l20, l31, l32, l36, l40, l48, l57, l59, l63, l64, l97, l99, l100, l101, l122, l127, l128, l250, l255, l262143, l262144, l30000, l100000, l12345, l1024, l4095, nI_eqs, nI_les, nI_lts, qI_eq, qI_eqn, nI_eqq, qI_lts, nI_ltp, nI_lep, qI_les, nI_add, nI_mul, qI_add, qI_s, qI_def, nI_clamps, bI_z, bI_o, bI_01, n01, n11, rf_some, rf_none, m1, m1n, bft, b0, vg, g0, e202, bI_f, rN_d, e136]
