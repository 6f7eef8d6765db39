/-! KNOW of the developers, the command -/
def gsI (m f a : Nat) : Nat := itr (fun f a => a ||| f * 2 ^ (4 * f)) m f a
def kwF (lt : Nat × Nat → Nat → Bool) (sf : Nat × Nat → Nat → Nat × Nat) (C G L : Nat) (m n : Nat) : Int32 := match m with
  | 0 => qI 0
  | m + 1 => if knT lt sf C n G L = true then nI n else kwF lt sf C G L m (n + 1)
def s_know (s : GS) (g : Int32) : Int32 × GS := if inR g (Yg (gY s)) = true then (kwF (lt1 (gY s) g.toNatClampNeg) (stp (gY s) g.toNatClampNeg) (Yc (gY s)) (gsI (Yc (gY s) + 1) 0 0) (2 ^ (Yc (gY s) + 1) - 1) 7 0, s) else rfS s 2
theorem gs_ok {y : YS} (h : 2 ≤ Yc y ∧ Yc y ≤ 3) : KOK y (gsI (Yc y + 1) 0 0) ∧ ∀ f, f ≤ Yc y → uq (dg (gsI (Yc y + 1) 0 0) f) = (f, 0) := by
  have a : gsI (Yc y + 1) 0 0 < 2 ^ 16 ∧ ∀ f, f ≤ Yc y → uq (dg (gsI (Yc y + 1) 0 0) f) = (f, 0) := by
    have : Yc y = 2 ∨ Yc y = 3 := by omega
    rcases this with e | e <;> rw [e]
    · refine ⟨by decide, fun f hf => ?_⟩
      rcases zz_3 (show f < 3 by omega) with rfl | rfl | rfl <;> decide
    · refine ⟨by decide, fun f hf => ?_⟩
      have : f = 0 ∨ f = 1 ∨ f = 2 ∨ f = 3 := by omega
      rcases this with rfl | rfl | rfl | rfl <;> decide
  exact ⟨⟨a.1, fun f hf => by rw [a.2 f hf]; exact ⟨hf, Nat.zero_le _⟩⟩, a.2⟩
theorem c115 (d : Nat) {h : AH} {B : Nat} {s : GS} (hx : DX h B s) (g : Int32) (p2 p3 p4 : Option Value) : DC (d + 11) 115 [some (.ref B), some (.int g), p2, p3, p4] h B (s_know s g) := by
  obtain ⟨⟨b0, b1, b2, b3, b4, b5, b6, b7⟩, xy, ⟨k0, k1⟩, xh, ⟨t0, t1, t2, t3, t4, t5⟩, rx, qx⟩ := id hx; have e131 := c131e hx; obtain ⟨⟨z0, z1, z2, z3, z4, z5, z6, z7, r1, r2, r3, r4, r5, r6, r7⟩, ⟨vc, vg, vn, vt, vz, vK, vA, vU, vM, vW, vC, vP⟩, ok⟩ := id xy; obtain ⟨⟨o2, o3⟩, o6, on, og, oc⟩ := id ok
  have yc := xy.2.1.1
  have e62 := fun d => x62 d xy g
  unfold s_know
  cases a : inR g (Yg (gY s))
  · rw [a] at e62
    rw [if_neg (by decide)]
    refine ⟨_, ?_, hx.rf (k := 2) (by decide) (by decide)⟩
    simp (disch := omega) only [s115_0, s115_1, s115_2, s115_3, s115_4, s115_5, s115_6, s115_7, s115_8, s115_9, s115_10, s115_11, s115_12, ↓reduceIte, Option.bind_some, Option.toList_some, Option.toList_none, List.cons_append, List.nil_append, if_true, if_false, true_or, or_true, true_and, and_true, not_true_eq_false, not_false_eq_true, Nat.reduceLT, Nat.reduceLeDiff, Nat.reduceEqDiff, Nat.reduceAdd, Nat.reduceMul, Nat.reduceSub, Nat.reducePow, Nat.reduceMod, Nat.reduceDiv, l0, l1, l2, l3, l4, l5, l6, l7, l8, l9, l10, l11, l12, l13, l14, l15, l16, l20, l31, l32, l36, l40, l48, l57, l59, l63, l64, l97, l99, l100, l101, l122, l127, l128, l250, l255, l262143, l262144, l30000, l100000, l12345, l1024, l4095, nI_eqs, nI_les, nI_lts, qI_eq, qI_eqn, nI_eqq, qI_lts, nI_ltp, nI_lep, qI_les, nI_add, nI_mul, qI_add, qI_s, qI_def, nI_clamps, bI_z, bI_o, bI_01, n01, n11, rf_some, rf_none, m1, m1n, bft, b0, b1, z0, e62, rN_d, e131]
    rfl
  · rw [a] at e62
    rw [if_pos rfl]
    obtain ⟨j, hj, rfl⟩ := inR_of (by omega) a
    rw [nI_clamp (show j < 2 ^ 31 by omega)]
    obtain ⟨gk, -⟩ := gs_ok (y := gY s) (by omega)
    have al : nI (2 ^ (Yc (gY s) + 1)) - nI 1 = nI (2 ^ (Yc (gY s) + 1) - 1) := nI_sub (Nat.one_le_two_pow)
    have p4' : 2 ^ (Yc (gY s) + 1) ≤ 2 ^ 4 := Nat.pow_le_pow_right (by decide) (by omega)
    have lq : ∀ m f a, f + m = Yc (gY s) + 1 → E (d + 11) 115 13 [some (.ref B), some (.int (nI j)), some (.int (nI a)), some (.int (qI f)), p4] [] h = E (d + 11) 115 32 [some (.ref B), some (.int (nI j)), some (.int (nI (gsI m f a))), some (.int (nI (Yc (gY s)))), p4] [] h := by
      intro m
      induction m with
      | zero =>
        intro f a hf
        have hf' : f = Yc (gY s) + 1 := hf
        rw [s115_13, hf', qI_s]
        simp (disch := omega) only [s115_14, s115_15, s115_16, s115_17, ↓reduceIte, Option.bind_some, Option.toList_some, Option.toList_none, List.cons_append, List.nil_append, if_true, if_false, true_or, or_true, true_and, and_true, not_true_eq_false, not_false_eq_true, Nat.reduceLT, Nat.reduceLeDiff, Nat.reduceEqDiff, Nat.reduceAdd, Nat.reduceMul, Nat.reduceSub, Nat.reducePow, Nat.reduceMod, Nat.reduceDiv, l0, l1, l2, l3, l4, l5, l6, l7, l8, l9, l10, l11, l12, l13, l14, l15, l16, l20, l31, l32, l36, l40, l48, l57, l59, l63, l64, l97, l99, l100, l101, l122, l127, l128, l250, l255, l262143, l262144, l30000, l100000, l12345, l1024, l4095, nI_eqs, nI_les, nI_lts, qI_eq, qI_eqn, nI_eqq, qI_lts, nI_ltp, nI_lep, qI_les, nI_add, nI_mul, qI_add, qI_s, qI_def, nI_clamps, bI_z, bI_o, bI_01, n01, n11, rf_some, rf_none, m1, m1n, bft, b0, b1, z0, yc, Nat.le_refl]
        rfl
      | succ m ih =>
        intro f a hf
        have h1' : ¬ Yc (gY s) < f := by omega
        have h2' : f ≤ Yc (gY s) := by omega
        have h3' : ¬ Yc (gY s) + 1 ≤ f := by omega
        have e2 := fun d => x2 d h (f := f) (s := 0) (by omega) (by decide)
        have S : gsI (m + 1) f a = gsI m (f + 1) (a ||| f * 2 ^ (4 * f)) := rfl
        have i1 := ih (f + 1) (a ||| f * 2 ^ (4 * f)) (by omega)
        rw [qI_s] at i1
        rw [S, ← i1, s115_13]
        simp (disch := omega) only [s115_14, s115_15, s115_16, s115_17, s115_18, s115_19, s115_20, s115_21, s115_22, s115_23, s115_24, s115_25, s115_26, s115_27, s115_28, s115_29, s115_30, s115_31, ↓reduceIte, Option.bind_some, Option.toList_some, Option.toList_none, List.cons_append, List.nil_append, if_true, if_false, true_or, or_true, true_and, and_true, not_true_eq_false, not_false_eq_true, Nat.reduceLT, Nat.reduceLeDiff, Nat.reduceEqDiff, Nat.reduceAdd, Nat.reduceMul, Nat.reduceSub, Nat.reducePow, Nat.reduceMod, Nat.reduceDiv, l0, l1, l2, l3, l4, l5, l6, l7, l8, l9, l10, l11, l12, l13, l14, l15, l16, l20, l31, l32, l36, l40, l48, l57, l59, l63, l64, l97, l99, l100, l101, l122, l127, l128, l250, l255, l262143, l262144, l30000, l100000, l12345, l1024, l4095, nI_eqs, nI_les, nI_lts, qI_eq, qI_eqn, nI_eqq, qI_lts, nI_ltp, nI_lep, qI_les, nI_add, nI_mul, qI_add, qI_s, qI_def, nI_clamps, bI_z, bI_o, bI_01, n01, n11, rf_some, rf_none, m1, m1n, bft, nI_and, nI_or, nI_shl', nI_shr', a31, b0, b1, z0, yc, h1', h2', h3', e2, Nat.mul_zero, Nat.add_zero]
    have lp : ∀ m n, n + m = 7 → E (d + 11) 115 44 [some (.ref B), some (.int (nI j)), some (.int (nI (gsI (Yc (gY s) + 1) 0 0))), some (.int (nI (2 ^ (Yc (gY s) + 1) - 1))), some (.int (nI n))] [] h = some (some (.int (kwF (lt1 (gY s) j) (stp (gY s) j) (Yc (gY s)) (gsI (Yc (gY s) + 1) 0 0) (2 ^ (Yc (gY s) + 1) - 1) m n)), h) := by
      intro m
      induction m with
      | zero =>
        intro n hn
        have hn' : n = 7 := hn
        subst hn'
        rw [s115_44]
        simp (disch := omega) only [s115_45, s115_46, s115_59, s115_60, ↓reduceIte, Option.bind_some, Option.toList_some, Option.toList_none, List.cons_append, List.nil_append, if_true, if_false, true_or, or_true, true_and, and_true, not_true_eq_false, not_false_eq_true, Nat.reduceLT, Nat.reduceLeDiff, Nat.reduceEqDiff, Nat.reduceAdd, Nat.reduceMul, Nat.reduceSub, Nat.reducePow, Nat.reduceMod, Nat.reduceDiv, l0, l1, l2, l3, l4, l5, l6, l7, l8, l9, l10, l11, l12, l13, l14, l15, l16, l20, l31, l32, l36, l40, l48, l57, l59, l63, l64, l97, l99, l100, l101, l122, l127, l128, l250, l255, l262143, l262144, l30000, l100000, l12345, l1024, l4095, nI_eqs, nI_les, nI_lts, qI_eq, qI_eqn, nI_eqq, qI_lts, nI_ltp, nI_lep, qI_les, nI_add, nI_mul, qI_add, qI_s, qI_def, nI_clamps, bI_z, bI_o, bI_01, n01, n11, rf_some, rf_none, m1, m1n, bft]
        rfl
      | succ m ih =>
        intro n hn
        have h1' : ¬ 6 < n := by omega
        have e51 := x51 (d + 6 - n) xy hj n _ _ none none none none none gk (show 2 ^ (Yc (gY s) + 1) - 1 < 16 by omega) (by omega)
        rw [show d + 6 - n + n + 4 = d + 10 by omega] at e51
        have S : kwF (lt1 (gY s) j) (stp (gY s) j) (Yc (gY s)) (gsI (Yc (gY s) + 1) 0 0) (2 ^ (Yc (gY s) + 1) - 1) (m + 1) n = if knT (lt1 (gY s) j) (stp (gY s) j) (Yc (gY s)) n (gsI (Yc (gY s) + 1) 0 0) (2 ^ (Yc (gY s) + 1) - 1) = true then nI n else kwF (lt1 (gY s) j) (stp (gY s) j) (Yc (gY s)) (gsI (Yc (gY s) + 1) 0 0) (2 ^ (Yc (gY s) + 1) - 1) m (n + 1) := rfl
        rw [s115_44, S]
        cases q : knT (lt1 (gY s) j) (stp (gY s) j) (Yc (gY s)) n (gsI (Yc (gY s) + 1) 0 0) (2 ^ (Yc (gY s) + 1) - 1) <;> rw [q] at e51
        · rw [if_neg (by decide), ← ih (n + 1) (by omega)]
          simp (disch := omega) only [s115_45, s115_46, s115_47, s115_48, s115_49, s115_50, s115_51, s115_52, s115_53, s115_54, s115_55, s115_56, s115_57, s115_58, ↓reduceIte, Option.bind_some, Option.toList_some, Option.toList_none, List.cons_append, List.nil_append, if_true, if_false, true_or, or_true, true_and, and_true, not_true_eq_false, not_false_eq_true, Nat.reduceLT, Nat.reduceLeDiff, Nat.reduceEqDiff, Nat.reduceAdd, Nat.reduceMul, Nat.reduceSub, Nat.reducePow, Nat.reduceMod, Nat.reduceDiv, l0, l1, l2, l3, l4, l5, l6, l7, l8, l9, l10, l11, l12, l13, l14, l15, l16, l20, l31, l32, l36, l40, l48, l57, l59, l63, l64, l97, l99, l100, l101, l122, l127, l128, l250, l255, l262143, l262144, l30000, l100000, l12345, l1024, l4095, nI_eqs, nI_les, nI_lts, qI_eq, qI_eqn, nI_eqq, qI_lts, nI_ltp, nI_lep, qI_les, nI_add, nI_mul, qI_add, qI_s, qI_def, nI_clamps, bI_z, bI_o, bI_01, n01, n11, rf_some, rf_none, m1, m1n, bft, b0, b1, z0, h1', e51, bI_f]
        · rw [if_pos rfl]
          simp (disch := omega) only [s115_45, s115_46, s115_47, s115_48, s115_49, s115_50, s115_51, s115_52, s115_53, s115_54, s115_55, s115_56, s115_57, s115_58, ↓reduceIte, Option.bind_some, Option.toList_some, Option.toList_none, List.cons_append, List.nil_append, if_true, if_false, true_or, or_true, true_and, and_true, not_true_eq_false, not_false_eq_true, Nat.reduceLT, Nat.reduceLeDiff, Nat.reduceEqDiff, Nat.reduceAdd, Nat.reduceMul, Nat.reduceSub, Nat.reducePow, Nat.reduceMod, Nat.reduceDiv, l0, l1, l2, l3, l4, l5, l6, l7, l8, l9, l10, l11, l12, l13, l14, l15, l16, l20, l31, l32, l36, l40, l48, l57, l59, l63, l64, l97, l99, l100, l101, l122, l127, l128, l250, l255, l262143, l262144, l30000, l100000, l12345, l1024, l4095, nI_eqs, nI_les, nI_lts, qI_eq, qI_eqn, nI_eqq, qI_lts, nI_ltp, nI_lep, qI_les, nI_add, nI_mul, qI_add, qI_s, qI_def, nI_clamps, bI_z, bI_o, bI_01, n01, n11, rf_some, rf_none, m1, m1n, bft, b0, b1, z0, h1', e51, bI_t, Bool.true_eq_false]
    refine ⟨h, ?_, hx, Fr0.refl _ _⟩
    have e1 := lq (Yc (gY s) + 1) 0 0 (by omega)
    simp (disch := omega) only [s115_0, s115_1, s115_2, s115_3, s115_4, s115_9, s115_10, s115_11, s115_12, ↓reduceIte, Option.bind_some, Option.toList_some, Option.toList_none, List.cons_append, List.nil_append, if_true, if_false, true_or, or_true, true_and, and_true, not_true_eq_false, not_false_eq_true, Nat.reduceLT, Nat.reduceLeDiff, Nat.reduceEqDiff, Nat.reduceAdd, Nat.reduceMul, Nat.reduceSub, Nat.reducePow, Nat.reduceMod, Nat.reduceDiv, l0, l1, l2, l3, l4, l5, l6, l7, l8, l9, l10, l11, l12, l13, l14, l15, l16, l20, l31, l32, l36, l40, l48, l57, l59, l63, l64, l97, l99, l100, l101, l122, l127, l128, l250, l255, l262143, l262144, l30000, l100000, l12345, l1024, l4095, nI_eqs, nI_les, nI_lts, qI_eq, qI_eqn, nI_eqq, qI_lts, nI_ltp, nI_lep, qI_les, nI_add, nI_mul, qI_add, qI_s, qI_def, nI_clamps, bI_z, bI_o, bI_01, n01, n11, rf_some, rf_none, m1, m1n, bft, b0, b1, z0, e62, Bool.true_eq_false]
    rw [e1]
    simp (disch := omega) only [s115_32, s115_33, s115_34, s115_35, s115_36, s115_37, s115_38, s115_39, s115_40, s115_41, s115_42, s115_43, ↓reduceIte, Option.bind_some, Option.toList_some, Option.toList_none, List.cons_append, List.nil_append, if_true, if_false, true_or, or_true, true_and, and_true, not_true_eq_false, not_false_eq_true, Nat.reduceLT, Nat.reduceLeDiff, Nat.reduceEqDiff, Nat.reduceAdd, Nat.reduceMul, Nat.reduceSub, Nat.reducePow, Nat.reduceMod, Nat.reduceDiv, l0, l1, l2, l3, l4, l5, l6, l7, l8, l9, l10, l11, l12, l13, l14, l15, l16, l20, l31, l32, l36, l40, l48, l57, l59, l63, l64, l97, l99, l100, l101, l122, l127, l128, l250, l255, l262143, l262144, l30000, l100000, l12345, l1024, l4095, nI_eqs, nI_les, nI_lts, qI_eq, qI_eqn, nI_eqq, qI_lts, nI_ltp, nI_lep, qI_les, nI_add, nI_mul, qI_add, qI_s, qI_def, nI_clamps, bI_z, bI_o, bI_01, n01, n11, rf_some, rf_none, m1, m1n, bft, nI_and, nI_or, nI_shl', nI_shr', a31, b0, b1, z0, yc, al, Nat.one_mul]
    exact lp 7 0 (by omega)
