/-! FOE of the developers -/
def aOK (a : Nat × Nat) : Prop := a.1 < 100 ∧ a.2 < 100
/-- where a part of foe's loops comes to -/
def FE (d : Nat) (h : AH) (B lh0 e0 : Nat) (s : GS) (e : Option (Option Value × AH)) (r : (Nat × Nat) ⊕ Nat) (K : Nat × Nat → AH → Option (Option Value × AH)) : Prop := match r with
  | .inl a => aOK a ∧ ∃ h' l e', e = K a h' ∧ DX h' B s ∧ DB B h h' lh0 e0 l e'
  | .inr v => ∃ h' l e', e = some (some (.int (nI v)), h') ∧ DX h' B s ∧ DB B h h' lh0 e0 l e'
theorem x112c (d : Nat) {h : AH} {B lh0 e0 : Nat} {s : GS} (hB : B + 48 ≤ hN h) (h3 : Yg (gY s) ≤ 3) (n3 : Yn (gY s) ≤ 3) {g : Nat} (hg : g < Yg (gY s)) : ∀ m k h1 lh1 e1 a, k + m = Yc (gY s) → DX h1 B s → DB B h h1 lh0 e0 lh1 e1 → aOK a → FE d h B lh0 e0 s (E (d + 5) 112 29 [some (.ref B), some (.int (qI a.1)), some (.int (qI a.2)), some (.int (nI g)), some (.int (nI k))] [] h1) (fcY (gY s) g m k a) (fun a' h' => E (d + 5) 112 22 [some (.ref B), some (.int (qI a'.1)), some (.int (qI a'.2)), some (.int (nI (g + 1))), some (.int (nI (Yc (gY s))))] [] h') := by
  intro m
  induction m with
  | zero =>
    intro k h1 lh1 e1 a hk hx db ha
    have hk' : k = Yc (gY s) := hk
    subst hk'
    refine ⟨ha, h1, lh1, e1, ?_, hx, db⟩
    have w1 := hx.1.1
    have w2 := hx.1.2.1
    obtain ⟨⟨z0, -⟩, ⟨vc, vg, -⟩, ok⟩ := hx.2.1
    obtain ⟨⟨o2, o3⟩, o6, on, og, oc⟩ := id ok
    rw [s112_29]
    simp (disch := omega) only [s112_30, s112_31, s112_32, s112_33, s112_72, s112_73, ↓reduceIte, Option.bind_some, Option.toList_some, Option.toList_none, List.cons_append, List.nil_append, if_true, if_false, true_or, or_true, true_and, and_true, not_true_eq_false, not_false_eq_true, Nat.reduceLT, Nat.reduceLeDiff, Nat.reduceEqDiff, Nat.reduceAdd, Nat.reduceMul, Nat.reduceSub, Nat.reducePow, Nat.reduceMod, Nat.reduceDiv, l0, l1, l2, l3, l4, l5, l6, l7, l8, l9, l10, l11, l12, l13, l14, l15, l16, l20, l31, l32, l36, l40, l48, l57, l59, l63, l64, l97, l99, l100, l101, l122, l127, l128, l250, l255, l262143, l262144, l30000, l100000, l12345, l1024, l4095, nI_eqs, nI_les, nI_lts, qI_eq, qI_eqn, nI_eqq, qI_lts, nI_ltp, nI_lep, qI_les, nI_add, nI_mul, qI_add, qI_s, qI_def, nI_clamps, bI_z, bI_o, bI_01, n01, n11, rf_some, rf_none, m1, m1n, bft, w1, w2, z0, vc, Nat.le_refl]
  | succ m ih =>
    intro k h1 lh1 e1 a hk hx db ha
    have hk2 : k < Yc (gY s) := by omega
    have kl : ¬ Yc (gY s) ≤ k := by omega
    have ok := hx.2.1.2.2
    have nd := ndY_ok ok h3 n3
    have e10 := fun d => x10 d hx.2.1 h3 n3 hg hk2
    have vt := (nd.1.tc ok h3 hg hk2).1
    have hB1 : B + 48 ≤ hN h1 := by have := db.2.2.1.2.2.1; omega
    obtain ⟨h2, lh2, e2, e11, z, dx2, db2⟩ := c11 d hx db.1 h3 n3 hB1 vt none none none none
    have DB2 := db.trans db2
    have o1 := hx.1.1
    have o2 := hx.1.2.1
    have o3 := hx.1.2.2.2.2.2.1
    have o4 := hx.2.2.2.2.2.2.1
    have u1 := dx2.1.1
    have u2 := dx2.1.2.1
    have u3 := dx2.1.2.2.2.2.2.1
    have u4 := dx2.2.2.2.2.2.2.1
    obtain ⟨⟨z0, -⟩, ⟨vc, -⟩, -⟩ := hx.2.1
    obtain ⟨⟨o2', o3'⟩, o6, -⟩ := id ok
    show FE d h B lh0 e0 s _ (match dsY (gY s) (tcN (gY s) (ndY (gY s)) g k) with
      | some D => fcY (gY s) g m (k + 1) (if a.1 < D - lsY (gY s) (tcN (gY s) (ndY (gY s)) g k) + 1 then (D - lsY (gY s) (tcN (gY s) (ndY (gY s)) g k) + 1, 10 * g + k + 1) else a)
      | none => .inr (10 * g + k)) _
    cases hD : dsY (gY s) (tcN (gY s) (ndY (gY s)) g k) with
    | none =>
      rw [hD] at e11
      refine ⟨h2, lh2, e2, ?_, dx2, DB2⟩
      rw [s112_29]
      simp (disch := omega) only [s112_30, s112_31, s112_32, s112_33, s112_34, s112_35, s112_36, s112_37, s112_38, s112_39, s112_40, s112_41, s112_42, s112_43, s112_44, s112_45, s112_46, s112_47, s112_48, s112_49, s112_50, ↓reduceIte, Option.bind_some, Option.toList_some, Option.toList_none, List.cons_append, List.nil_append, if_true, if_false, true_or, or_true, true_and, and_true, not_true_eq_false, not_false_eq_true, Nat.reduceLT, Nat.reduceLeDiff, Nat.reduceEqDiff, Nat.reduceAdd, Nat.reduceMul, Nat.reduceSub, Nat.reducePow, Nat.reduceMod, Nat.reduceDiv, l0, l1, l2, l3, l4, l5, l6, l7, l8, l9, l10, l11, l12, l13, l14, l15, l16, l20, l31, l32, l36, l40, l48, l57, l59, l63, l64, l97, l99, l100, l101, l122, l127, l128, l250, l255, l262143, l262144, l30000, l100000, l12345, l1024, l4095, nI_eqs, nI_les, nI_lts, qI_eq, qI_eqn, nI_eqq, qI_lts, nI_ltp, nI_lep, qI_les, nI_add, nI_mul, qI_add, qI_s, qI_def, nI_clamps, bI_z, bI_o, bI_01, n01, n11, rf_some, rf_none, m1, m1n, bft, o1, o2, o3, o4, z0, vc, kl, e10, e11, bI_f, Option.isSome_none]
      first | rfl | done
    | some D =>
      rw [hD] at e11
      have e20 := fun d => z.ref dx2.2.1 h3 n3 vt hD d
      have w := dsY_ls ok h3 n3 vt hD
      dsimp only
      have r63 : D - lsY (gY s) (tcN (gY s) (ndY (gY s)) g k) ≤ 63 := by omega
      generalize D - lsY (gY s) (tcN (gY s) (ndY (gY s)) g k) = r at *
      by_cases c : a.1 < r + 1
      · rw [if_pos c]
        have c' : ¬ r + 1 ≤ a.1 := by omega
        have st : E (d + 5) 112 29 [some (.ref B), some (.int (qI a.1)), some (.int (qI a.2)), some (.int (nI g)), some (.int (nI k))] [] h1 = E (d + 5) 112 29 [some (.ref B), some (.int (qI (r + 1))), some (.int (qI (10 * g + k + 1))), some (.int (nI g)), some (.int (nI (k + 1)))] [] h2 := by
          rw [s112_29]
          simp (disch := omega) only [s112_30, s112_31, s112_32, s112_33, s112_34, s112_35, s112_36, s112_37, s112_38, s112_39, s112_40, s112_41, s112_42, s112_43, s112_44, s112_51, s112_52, s112_53, s112_54, s112_55, s112_56, s112_57, s112_58, s112_59, s112_60, s112_61, s112_62, s112_63, s112_64, s112_65, s112_66, s112_67, s112_68, s112_69, s112_70, s112_71, ↓reduceIte, Option.bind_some, Option.toList_some, Option.toList_none, List.cons_append, List.nil_append, if_true, if_false, true_or, or_true, true_and, and_true, not_true_eq_false, not_false_eq_true, Nat.reduceLT, Nat.reduceLeDiff, Nat.reduceEqDiff, Nat.reduceAdd, Nat.reduceMul, Nat.reduceSub, Nat.reducePow, Nat.reduceMod, Nat.reduceDiv, l0, l1, l2, l3, l4, l5, l6, l7, l8, l9, l10, l11, l12, l13, l14, l15, l16, l20, l31, l32, l36, l40, l48, l57, l59, l63, l64, l97, l99, l100, l101, l122, l127, l128, l250, l255, l262143, l262144, l30000, l100000, l12345, l1024, l4095, nI_eqs, nI_les, nI_lts, qI_eq, qI_eqn, nI_eqq, qI_lts, nI_ltp, nI_lep, qI_les, nI_add, nI_mul, qI_add, qI_s, qI_def, nI_clamps, bI_z, bI_o, bI_01, n01, n11, rf_some, rf_none, m1, m1n, bft, o1, o2, o3, o4, u1, u2, u3, u4, z0, vc, kl, e10, e11, e20, c', bI_t, Bool.true_eq_false, Option.isSome_some]
        rw [st]
        exact ih (k + 1) h2 lh2 e2 (r + 1, 10 * g + k + 1) (by omega) dx2 DB2 ⟨by show r + 1 < 100; omega, by show 10 * g + k + 1 < 100; omega⟩
      · rw [if_neg c]
        have c' : r + 1 ≤ a.1 := by omega
        have a1 := ha.1
        have st : E (d + 5) 112 29 [some (.ref B), some (.int (qI a.1)), some (.int (qI a.2)), some (.int (nI g)), some (.int (nI k))] [] h1 = E (d + 5) 112 29 [some (.ref B), some (.int (qI a.1)), some (.int (qI a.2)), some (.int (nI g)), some (.int (nI (k + 1)))] [] h2 := by
          rw [s112_29]
          simp (disch := omega) only [s112_30, s112_31, s112_32, s112_33, s112_34, s112_35, s112_36, s112_37, s112_38, s112_39, s112_40, s112_41, s112_42, s112_43, s112_44, s112_51, s112_52, s112_53, s112_54, s112_55, s112_56, s112_57, s112_70, s112_71, ↓reduceIte, Option.bind_some, Option.toList_some, Option.toList_none, List.cons_append, List.nil_append, if_true, if_false, true_or, or_true, true_and, and_true, not_true_eq_false, not_false_eq_true, Nat.reduceLT, Nat.reduceLeDiff, Nat.reduceEqDiff, Nat.reduceAdd, Nat.reduceMul, Nat.reduceSub, Nat.reducePow, Nat.reduceMod, Nat.reduceDiv, l0, l1, l2, l3, l4, l5, l6, l7, l8, l9, l10, l11, l12, l13, l14, l15, l16, l20, l31, l32, l36, l40, l48, l57, l59, l63, l64, l97, l99, l100, l101, l122, l127, l128, l250, l255, l262143, l262144, l30000, l100000, l12345, l1024, l4095, nI_eqs, nI_les, nI_lts, qI_eq, qI_eqn, nI_eqq, qI_lts, nI_ltp, nI_lep, qI_les, nI_add, nI_mul, qI_add, qI_s, qI_def, nI_clamps, bI_z, bI_o, bI_01, n01, n11, rf_some, rf_none, m1, m1n, bft, o1, o2, o3, o4, u1, u2, u3, u4, z0, vc, kl, e10, e11, e20, c', bI_t, Bool.true_eq_false, Option.isSome_some]
        rw [st]
        exact ih (k + 1) h2 lh2 e2 a (by omega) dx2 DB2 ha
theorem fgY_s (y : YS) (m g : Nat) (a : Nat × Nat) : fgY y (m + 1) g a = match fcY y g (Yc y) 0 a with
    | .inl a' => fgY y m (g + 1) a'
    | .inr v => .inr v := rfl
theorem x112g (d : Nat) {h : AH} {B lh0 e0 : Nat} {s : GS} (hB : B + 48 ≤ hN h) (h3 : Yg (gY s) ≤ 3) (n3 : Yn (gY s) ≤ 3) : ∀ m g h1 lh1 e1 a p4, g + m = Yg (gY s) → DX h1 B s → DB B h h1 lh0 e0 lh1 e1 → aOK a → ∃ h' l e', E (d + 5) 112 22 [some (.ref B), some (.int (qI a.1)), some (.int (qI a.2)), some (.int (nI g)), p4] [] h1 = some (some (.int (match fgY (gY s) m g a with
  | .inl a => qI a.2
  | .inr v => nI v)), h') ∧ DX h' B s ∧ DB B h h' lh0 e0 l e' := by
  intro m
  induction m with
  | zero =>
    intro g h1 lh1 e1 a p4 hg hx db ha
    have hg' : g = Yg (gY s) := hg
    subst hg'
    refine ⟨h1, lh1, e1, ?_, hx, db⟩
    have w1 := hx.1.1
    have w2 := hx.1.2.1
    obtain ⟨⟨z0, -⟩, ⟨vc, vg, -⟩, ok⟩ := hx.2.1
    obtain ⟨⟨o2, o3⟩, o6, on, og, oc⟩ := id ok
    rw [s112_22]
    simp (disch := omega) only [s112_23, s112_24, s112_25, s112_26, s112_74, s112_75, ↓reduceIte, Option.bind_some, Option.toList_some, Option.toList_none, List.cons_append, List.nil_append, if_true, if_false, true_or, or_true, true_and, and_true, not_true_eq_false, not_false_eq_true, Nat.reduceLT, Nat.reduceLeDiff, Nat.reduceEqDiff, Nat.reduceAdd, Nat.reduceMul, Nat.reduceSub, Nat.reducePow, Nat.reduceMod, Nat.reduceDiv, l0, l1, l2, l3, l4, l5, l6, l7, l8, l9, l10, l11, l12, l13, l14, l15, l16, l20, l31, l32, l36, l40, l48, l57, l59, l63, l64, l97, l99, l100, l101, l122, l127, l128, l250, l255, l262143, l262144, l30000, l100000, l12345, l1024, l4095, nI_eqs, nI_les, nI_lts, qI_eq, qI_eqn, nI_eqq, qI_lts, nI_ltp, nI_lep, qI_les, nI_add, nI_mul, qI_add, qI_s, qI_def, nI_clamps, bI_z, bI_o, bI_01, n01, n11, rf_some, rf_none, m1, m1n, bft, w1, w2, z0, vg, Nat.le_refl]
    rfl
  | succ m ih =>
    intro g h1 lh1 e1 a p4 hg hx db ha
    have gl : ¬ Yg (gY s) ≤ g := by omega
    have f := x112c d hB h3 n3 (show g < Yg (gY s) by omega) (Yc (gY s)) 0 h1 lh1 e1 a (by omega) hx db ha
    have st : E (d + 5) 112 22 [some (.ref B), some (.int (qI a.1)), some (.int (qI a.2)), some (.int (nI g)), p4] [] h1 = E (d + 5) 112 29 [some (.ref B), some (.int (qI a.1)), some (.int (qI a.2)), some (.int (nI g)), some (.int (nI 0))] [] h1 := by
      have w1 := hx.1.1
      have w2 := hx.1.2.1
      obtain ⟨⟨z0, -⟩, ⟨vc, vg, -⟩, ok⟩ := hx.2.1
      obtain ⟨⟨o2, o3⟩, o6, on, og, oc⟩ := id ok
      rw [s112_22]
      simp (disch := omega) only [s112_23, s112_24, s112_25, s112_26, s112_27, s112_28, ↓reduceIte, Option.bind_some, Option.toList_some, Option.toList_none, List.cons_append, List.nil_append, if_true, if_false, true_or, or_true, true_and, and_true, not_true_eq_false, not_false_eq_true, Nat.reduceLT, Nat.reduceLeDiff, Nat.reduceEqDiff, Nat.reduceAdd, Nat.reduceMul, Nat.reduceSub, Nat.reducePow, Nat.reduceMod, Nat.reduceDiv, l0, l1, l2, l3, l4, l5, l6, l7, l8, l9, l10, l11, l12, l13, l14, l15, l16, l20, l31, l32, l36, l40, l48, l57, l59, l63, l64, l97, l99, l100, l101, l122, l127, l128, l250, l255, l262143, l262144, l30000, l100000, l12345, l1024, l4095, nI_eqs, nI_les, nI_lts, qI_eq, qI_eqn, nI_eqq, qI_lts, nI_ltp, nI_lep, qI_les, nI_add, nI_mul, qI_add, qI_s, qI_def, nI_clamps, bI_z, bI_o, bI_01, n01, n11, rf_some, rf_none, m1, m1n, bft, w1, w2, z0, vg, gl]
    rw [st]
    rw [fgY_s]
    generalize fcY (gY s) g (Yc (gY s)) 0 a = r at *
    cases r with
    | inl a' =>
      obtain ⟨ha', h2, lh2, e2, e, dx2, db2⟩ := f
      rw [e]
      exact ih (g + 1) h2 lh2 e2 a' _ (by omega) dx2 db2 ha'
    | inr v =>
      obtain ⟨h2, lh2, e2, e, dx2, db2⟩ := f
      exact ⟨h2, lh2, e2, e, dx2, db2⟩
theorem c112 (d : Nat) {h : AH} {B : Nat} {s : GS} (hx : DX h B s) (hB : B + 48 ≤ hN h) (p1 p2 p3 p4 : Option Value) : DQ (d + 5) 112 [some (.ref B), p1, p2, p3, p4] h B (s_foe s) := by
  intro lh0 e0 le
  have hx' := hx
  obtain ⟨⟨b0, b1, b2, b3, b4, b5, b6, b7⟩, xy, ⟨k0, k1⟩, xh, ⟨t0, t1, t2, t3, t4, t5⟩, rx, qx⟩ := id hx; have e131 := c131e hx
  have e8 := fun d => x8 d xy (some (.ref (B + 28)))
  obtain ⟨⟨z0, -⟩, ⟨vc, vg, -⟩, ok⟩ := id xy
  obtain ⟨⟨o2, o3⟩, o6, on, og, oc⟩ := id ok
  unfold s_foe
  by_cases g0 : Yg (gY s) = 0
  · rw [if_pos g0]
    rw [g0] at vg
    refine DC.dq (DC.same hx ?_) lh0 e0 le
    simp (disch := omega) only [s112_0, s112_1, s112_2, s112_3, s112_4, s112_5, ↓reduceIte, Option.bind_some, Option.toList_some, Option.toList_none, List.cons_append, List.nil_append, if_true, if_false, true_or, or_true, true_and, and_true, not_true_eq_false, not_false_eq_true, Nat.reduceLT, Nat.reduceLeDiff, Nat.reduceEqDiff, Nat.reduceAdd, Nat.reduceMul, Nat.reduceSub, Nat.reducePow, Nat.reduceMod, Nat.reduceDiv, l0, l1, l2, l3, l4, l5, l6, l7, l8, l9, l10, l11, l12, l13, l14, l15, l16, l20, l31, l32, l36, l40, l48, l57, l59, l63, l64, l97, l99, l100, l101, l122, l127, l128, l250, l255, l262143, l262144, l30000, l100000, l12345, l1024, l4095, nI_eqs, nI_les, nI_lts, qI_eq, qI_eqn, nI_eqq, qI_lts, nI_ltp, nI_lep, qI_les, nI_add, nI_mul, qI_add, qI_s, qI_def, nI_clamps, bI_z, bI_o, bI_01, n01, n11, rf_some, rf_none, m1, m1n, bft, b0, b1, z0, vg]
  · rw [if_neg g0]
    by_cases sm : Yg (gY s) ≤ 3 ∧ Yn (gY s) ≤ 3
    · rw [if_pos sm]
      rw [decide_eq_true sm] at e8
      obtain ⟨h', l, e', e, dx, db⟩ := x112g d hB sm.1 sm.2 (lh0 := lh0) (e0 := e0) (Yg (gY s)) 0 h lh0 e0 (0, 0) p4 (by omega) hx' ((Fr0.refl (dA B) h).db le) ⟨by decide, by decide⟩
      have st : E (d + 5) 112 0 [some (.ref B), p1, p2, p3, p4] [] h = E (d + 5) 112 22 [some (.ref B), some (.int (qI 0)), some (.int (qI 0)), some (.int (nI 0)), p4] [] h := by
        simp (disch := omega) only [s112_0, s112_1, s112_2, s112_3, s112_6, s112_7, s112_8, s112_9, s112_10, s112_11, s112_16, s112_17, s112_18, s112_19, s112_20, s112_21, ↓reduceIte, Option.bind_some, Option.toList_some, Option.toList_none, List.cons_append, List.nil_append, if_true, if_false, true_or, or_true, true_and, and_true, not_true_eq_false, not_false_eq_true, Nat.reduceLT, Nat.reduceLeDiff, Nat.reduceEqDiff, Nat.reduceAdd, Nat.reduceMul, Nat.reduceSub, Nat.reducePow, Nat.reduceMod, Nat.reduceDiv, l0, l1, l2, l3, l4, l5, l6, l7, l8, l9, l10, l11, l12, l13, l14, l15, l16, l20, l31, l32, l36, l40, l48, l57, l59, l63, l64, l97, l99, l100, l101, l122, l127, l128, l250, l255, l262143, l262144, l30000, l100000, l12345, l1024, l4095, nI_eqs, nI_les, nI_lts, qI_eq, qI_eqn, nI_eqq, qI_lts, nI_ltp, nI_lep, qI_les, nI_add, nI_mul, qI_add, qI_s, qI_def, nI_clamps, bI_z, bI_o, bI_01, n01, n11, rf_some, rf_none, m1, m1n, bft, b0, b1, b5, z0, vg, g0, qx.1, e8, bI_t, Bool.true_eq_false]
      refine ⟨h', l, e', ?_, ?_, db⟩
      · rw [st, e]
        generalize fgY (gY s) (Yg (gY s)) 0 (0, 0) = r
        cases r <;> rfl
      · generalize fgY (gY s) (Yg (gY s)) 0 (0, 0) = r
        cases r <;> exact dx
    · rw [if_neg sm]
      rw [decide_eq_false sm] at e8
      refine DC.dq (DC.rf hx' (k := 5) (by decide) (by decide) ?_) lh0 e0 le
      simp (disch := omega) only [s112_0, s112_1, s112_2, s112_3, s112_6, s112_7, s112_8, s112_9, s112_10, s112_11, s112_12, s112_13, s112_14, s112_15, ↓reduceIte, Option.bind_some, Option.toList_some, Option.toList_none, List.cons_append, List.nil_append, if_true, if_false, true_or, or_true, true_and, and_true, not_true_eq_false, not_false_eq_true, Nat.reduceLT, Nat.reduceLeDiff, Nat.reduceEqDiff, Nat.reduceAdd, Nat.reduceMul, Nat.reduceSub, Nat.reducePow, Nat.reduceMod, Nat.reduceDiv, l0, l1, l2, l3, l4, l5, l6, l7, l8, l9, l10, l11, l12, l13, l14, l15, l16, l20, l31, l32, l36, l40, l48, l57, l59, l63, l64, l97, l99, l100, l101, l122, l127, l128, l250, l255, l262143, l262144, l30000, l100000, l12345, l1024, l4095, nI_eqs, nI_les, nI_lts, qI_eq, qI_eqn, nI_eqq, qI_lts, nI_ltp, nI_lep, qI_les, nI_add, nI_mul, qI_add, qI_s, qI_def, nI_clamps, bI_z, bI_o, bI_01, n01, n11, rf_some, rf_none, m1, m1n, bft, b0, b1, b5, z0, vg, g0, qx.1, e8, bI_f, rN_d, e131]
