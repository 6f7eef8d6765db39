/-! KNOW of the reference, the command -/
theorem kw_eq {y : YS} (h3 : 2 ≤ Yc y ∧ Yc y ≤ 3) (g n : Nat) : knT (lt1 y g) (stp y g) (Yc y) n (gsI (Yc y + 1) 0 0) (2 ^ (Yc y + 1) - 1) = kS (lt1 y g) (stp y g) (Yc y) n (fun k => (k, 0)) (fun _ => true) := by
  obtain ⟨g1, g2⟩ := gs_ok h3
  rw [know_eq h3 g n _ _ g1 (by have := Nat.two_pow_pos (Yc y + 1); omega)]
  refine kS_cg _ _ _ _ _ _ _ _ (fun k hk => ⟨?_, fun _ => g2 k hk⟩)
  rw [Nat.testBit_two_pow_sub_one, decide_eq_true (by omega)]
def XM (h0 h : AH) (A : Nat) (s : GS) (W : Nat → Prop) : Prop := MX h A s W ∧ KW W h0 h ∧ RM A h0 h 0 0
theorem XM.c {h0 h : AH} {A : Nat} {s : GS} {W : Nat → Prop} (q : XM h0 h A s W) {a : Nat} (a1 : A + 25 ≤ a) (a2 : a < A + 53) (k : Nat) (v : Int32) : XM h0 (stI h a k v) A s W := by
  obtain ⟨x1, kw, rm⟩ := q
  have f : Fr0 (fun b => b = A ∨ b = A + 13 ∨ (A + 25 ≤ b ∧ b < A + 53)) h (stI h a k v) := Fr0.stI _ (Or.inr (Or.inr ⟨a1, a2⟩)) _ _
  have z := x1.w f (fun j hj => by rw [hI_stI, if_neg (fun w => by omega)])
  exact ⟨z.1, kw.trans (z.2.kw x1.2.2.2.2.2.2.1), rm.trans (z.2.rm A)⟩
theorem c211 (d : Nat) {h : AH} {A : Nat} {s : GS} {W : Nat → Prop} (hx : MX h A s W) (g : Int32) (p2 p3 : Option Value) : MC (d + 18) 211 [some (.ref A), some (.int g), p2, p3] h A W (s_know s g) := by
  obtain ⟨my, mh, ⟨t1, t2, t3, t4, t5⟩, mr, mz, mg, mw, mn, mwn⟩ := id hx; have e136 := c136e hx; have b0 := my.1.1; obtain ⟨⟨z0, z1, z2, z3, z4, z5, z6, z7, z8, r1, r2, r3, r4, r5, r6, r7, r8⟩, ⟨vc, vg, vn, vt, vz, vK, vA, vU, vF, vM, vW, vC, vP⟩, ok⟩ := id my; obtain ⟨⟨o2, o3⟩, o6, on, og, oc⟩ := id ok
  have e138 := fun d => m138 d my g
  unfold s_know
  cases a : inR g (Yg (gY s))
  · rw [if_neg (by decide)]
    rw [a] at e138
    refine MC.rf hx (by decide) (by decide) ?_
    simp (disch := omega) only [s211_0, s211_1, s211_2, s211_3, s211_4, s211_5, s211_6, s211_7, s211_8, s211_9, ↓reduceIte, Option.bind_some, Option.toList_some, Option.toList_none, List.cons_append, List.nil_append, if_true, if_false, true_or, or_true, true_and, and_true, not_true_eq_false, not_false_eq_true, Nat.reduceLT, Nat.reduceLeDiff, Nat.reduceEqDiff, Nat.reduceAdd, Nat.reduceMul, Nat.reduceSub, Nat.reducePow, Nat.reduceMod, Nat.reduceDiv, l0, l1, l2, l3, l4, l5, l6, l7, l8, l9, l10, l11, l12, l13, l14, l15, l16, l20, l31, l32, l36, l40, l48, l57, l59, l63, l64, l97, l99, l100, l101, l122, l127, l128, l250, l255, l262143, l262144, l30000, l100000, l12345, l1024, l4095, nI_eqs, nI_les, nI_lts, qI_eq, qI_eqn, nI_eqq, qI_lts, nI_ltp, nI_lep, qI_les, nI_add, nI_mul, qI_add, qI_s, qI_def, nI_clamps, bI_z, bI_o, bI_01, n01, n11, rf_some, rf_none, m1, m1n, bft, b0, e138, rN_d, e136]
  · rw [if_pos rfl]
    rw [a] at e138
    obtain ⟨j, hj, rfl⟩ := inR_of (by omega) a
    rw [nI_clamp (show j < 2 ^ 31 by omega)]
    have lk : ∀ t, t ≤ 6 → ∀ m k h1, k + m = Yc (gY s) + 1 → XM h h1 A s W → (∀ i, i < k → hI h1 (A + 30 + t) i = qI i ∧ hI h1 (A + 38 + t) i = qI 0 ∧ hI h1 (A + 46 + t) i = nI 1) → ∃ h2, E (d + 18) 211 15 [some (.ref A), some (.int (nI j)), some (.int (nI t)), some (.int (nI k))] [] h1 = E (d + 18) 211 44 [some (.ref A), some (.int (nI j)), some (.int (nI t)), some (.int (nI (Yc (gY s) + 1)))] [] h2 ∧ XM h h2 A s W ∧ ∀ i, i < Yc (gY s) + 1 → hI h2 (A + 30 + t) i = qI i ∧ hI h2 (A + 38 + t) i = qI 0 ∧ hI h2 (A + 46 + t) i = nI 1 := by
      intro t ht m
      induction m with
      | zero =>
        intro k h1 hk X hf
        have hk' : k = Yc (gY s) + 1 := hk
        subst hk'
        have c0 := X.1.1.1.1
        have yc : hI h1 A 9 = nI (Yc (gY s)) := X.1.1.2.1.1
        refine ⟨h1, ?_, X, hf⟩
        rw [s211_15]
        simp (disch := omega) only [s211_16, s211_17, s211_18, ↓reduceIte, Option.bind_some, Option.toList_some, Option.toList_none, List.cons_append, List.nil_append, if_true, if_false, true_or, or_true, true_and, and_true, not_true_eq_false, not_false_eq_true, Nat.reduceLT, Nat.reduceLeDiff, Nat.reduceEqDiff, Nat.reduceAdd, Nat.reduceMul, Nat.reduceSub, Nat.reducePow, Nat.reduceMod, Nat.reduceDiv, l0, l1, l2, l3, l4, l5, l6, l7, l8, l9, l10, l11, l12, l13, l14, l15, l16, l20, l31, l32, l36, l40, l48, l57, l59, l63, l64, l97, l99, l100, l101, l122, l127, l128, l250, l255, l262143, l262144, l30000, l100000, l12345, l1024, l4095, nI_eqs, nI_les, nI_lts, qI_eq, qI_eqn, nI_eqq, qI_lts, nI_ltp, nI_lep, qI_les, nI_add, nI_mul, qI_add, qI_s, qI_def, nI_clamps, bI_z, bI_o, bI_01, n01, n11, rf_some, rf_none, m1, m1n, bft, c0, yc, Nat.lt_succ_self]
      | succ m ih =>
        intro k h1 hk X hf
        have h1' : ¬ Yc (gY s) < k := by omega
        have k4 : k < 4 := by omega
        have c0 := X.1.1.1.1
        have yc : hI h1 A 9 = nI (Yc (gY s)) := X.1.1.2.1.1
        obtain ⟨-, -, -, -, m1, m2, m3, m4, m5, m6, m7⟩ := X.1.2.2.2.2.1
        obtain ⟨n1, n2, n3, n4, n5, n6⟩ := m7 t (by omega)
        have X1 := X.c (a := A + 30 + t) (by omega) (by omega) k (qI k)
        have X2 := X1.c (a := A + 38 + t) (by omega) (by omega) k (qI 0)
        have X3 := X2.c (a := A + 46 + t) (by omega) (by omega) k (nI 1)
        obtain ⟨h2, e2, Y⟩ := ih (k + 1) _ (by omega) X3 (fun i hi => by
          by_cases e : i = k
          · subst e
            refine ⟨?_, ?_, ?_⟩
            · rw [hI_stI, hI_stI, hI_stI, if_neg (fun w => by omega), if_neg (fun w => by omega), if_pos ⟨rfl, rfl⟩]
            · rw [hI_stI, hI_stI, if_neg (fun w => by omega), if_pos ⟨rfl, rfl⟩]
            · rw [hI_stI, if_pos ⟨rfl, rfl⟩]
          · obtain ⟨a1, a2, a3⟩ := hf i (by omega)
            refine ⟨?_, ?_, ?_⟩
            · rw [hI_stI, hI_stI, hI_stI, if_neg (fun w => e w.2), if_neg (fun w => e w.2), if_neg (fun w => e w.2)]; exact a1
            · rw [hI_stI, hI_stI, hI_stI, if_neg (fun w => e w.2), if_neg (fun w => e w.2), if_neg (fun w => e w.2)]; exact a2
            · rw [hI_stI, hI_stI, hI_stI, if_neg (fun w => e w.2), if_neg (fun w => e w.2), if_neg (fun w => e w.2)]; exact a3)
        refine ⟨h2, ?_, Y⟩
        rw [← e2, s211_15]
        simp (disch := omega) only [s211_16, s211_17, s211_18, s211_19, s211_20, s211_21, s211_22, s211_23, s211_24, s211_25, s211_26, s211_27, s211_28, s211_29, s211_30, s211_31, s211_32, s211_33, s211_34, s211_35, s211_36, s211_37, s211_38, s211_39, s211_40, s211_41, s211_42, s211_43, ↓reduceIte, Option.bind_some, Option.toList_some, Option.toList_none, List.cons_append, List.nil_append, if_true, if_false, true_or, or_true, true_and, and_true, not_true_eq_false, not_false_eq_true, Nat.reduceLT, Nat.reduceLeDiff, Nat.reduceEqDiff, Nat.reduceAdd, Nat.reduceMul, Nat.reduceSub, Nat.reducePow, Nat.reduceMod, Nat.reduceDiv, l0, l1, l2, l3, l4, l5, l6, l7, l8, l9, l10, l11, l12, l13, l14, l15, l16, l20, l31, l32, l36, l40, l48, l57, l59, l63, l64, l97, l99, l100, l101, l122, l127, l128, l250, l255, l262143, l262144, l30000, l100000, l12345, l1024, l4095, nI_eqs, nI_les, nI_lts, qI_eq, qI_eqn, nI_eqq, qI_lts, nI_ltp, nI_lep, qI_les, nI_add, nI_mul, qI_add, qI_s, qI_def, nI_clamps, bI_z, bI_o, bI_01, n01, n11, rf_some, rf_none, m1, m1n, bft, ad1, hS_stI, hR_stI, alen_stI, nar_1, h1', c0, yc, m1, gR m2, m3, gR m4, m5, gR m6, n1, gI n2, gA n2, n3, gA n4, n5, gA n6]
    have lp : ∀ m t h1 x3, t + m = 7 → XM h h1 A s W → ∃ h2, E (d + 18) 211 10 [some (.ref A), some (.int (nI j)), some (.int (nI t)), x3] [] h1 = some (some (.int (kwF (lt1 (gY s) j) (stp (gY s) j) (Yc (gY s)) (gsI (Yc (gY s) + 1) 0 0) (2 ^ (Yc (gY s) + 1) - 1) m t)), h2) ∧ XM h h2 A s W := by
      intro m
      induction m with
      | zero =>
        intro t h1 x3 ht X
        have ht' : t = 7 := ht
        subst ht'
        refine ⟨h1, ?_, X⟩
        rw [s211_10]
        simp (disch := omega) only [s211_11, s211_12, s211_55, s211_56, ↓reduceIte, Option.bind_some, Option.toList_some, Option.toList_none, List.cons_append, List.nil_append, if_true, if_false, true_or, or_true, true_and, and_true, not_true_eq_false, not_false_eq_true, Nat.reduceLT, Nat.reduceLeDiff, Nat.reduceEqDiff, Nat.reduceAdd, Nat.reduceMul, Nat.reduceSub, Nat.reducePow, Nat.reduceMod, Nat.reduceDiv, l0, l1, l2, l3, l4, l5, l6, l7, l8, l9, l10, l11, l12, l13, l14, l15, l16, l20, l31, l32, l36, l40, l48, l57, l59, l63, l64, l97, l99, l100, l101, l122, l127, l128, l250, l255, l262143, l262144, l30000, l100000, l12345, l1024, l4095, nI_eqs, nI_les, nI_lts, qI_eq, qI_eqn, nI_eqq, qI_lts, nI_ltp, nI_lep, qI_les, nI_add, nI_mul, qI_add, qI_s, qI_def, nI_clamps, bI_z, bI_o, bI_01, n01, n11, rf_some, rf_none, m1, m1n, bft]
        rfl
      | succ m ih =>
        intro t h1 x3 ht X
        have h1' : ¬ 6 < t := by omega
        obtain ⟨h2, e2, X2, f2⟩ := lk t (by omega) (Yc (gY s) + 1) 0 h1 (by omega) X (fun i hi => absurd hi (Nat.not_lt_zero i))
        obtain ⟨h3, o, e225, x3', q3, y3, a3, kw3, rm3, i3⟩ := c225i (d + 15) X2.1
        have K : KH h h3 A s W o j (memP (gY s) j) t (fun l k => hI h3 (A + 30 + l) k) (fun l k => hI h3 (A + 38 + l) k) (fun l k => hI h3 (A + 46 + l) k) := ⟨⟨x3', q3, by rw [wM_0]; exact y3, X2.2.1.trans kw3, X2.2.2.trans rm3⟩, fun l _ _ k => ⟨rfl, rfl, rfl⟩⟩
        have L : LV (gY s) (fun l k => hI h3 (A + 30 + l) k) (fun l k => hI h3 (A + 38 + l) k) (fun l k => hI h3 (A + 46 + l) k) t (fun k => (k, 0)) (fun _ => true) := fun k hk => by
          obtain ⟨a1, a2, a3⟩ := f2 k (by omega)
          have b1 := (i3 (A + 30 + t) k (by omega) (by omega)).1
          have b2 := (i3 (A + 38 + t) k (by omega) (by omega)).1
          have b3 := (i3 (A + 46 + t) k (by omega) (by omega)).1
          dsimp only
          rw [b1, b2, b3, a1, a2, a3]
          exact ⟨rfl, fun _ => ⟨rfl, rfl, hk, Nat.zero_le _⟩⟩
        obtain ⟨h4, p4, e4, K4⟩ := n209 (d + 13 - 2 * t) hj t h3 _ _ _ _ _ _ none none (by omega) K L
        rw [show d + 13 - 2 * t + 2 * t + 4 = d + 17 by omega, ← kw_eq (y := gY s) (by omega) j t] at e4
        have c0 := X2.1.1.1.1
        have c3 := x3'.1.1.1
        have T : kwF (lt1 (gY s) j) (stp (gY s) j) (Yc (gY s)) (gsI (Yc (gY s) + 1) 0 0) (2 ^ (Yc (gY s) + 1) - 1) (m + 1) t = if knT (lt1 (gY s) j) (stp (gY s) j) (Yc (gY s)) t (gsI (Yc (gY s) + 1) 0 0) (2 ^ (Yc (gY s) + 1) - 1) = true then nI t else kwF (lt1 (gY s) j) (stp (gY s) j) (Yc (gY s)) (gsI (Yc (gY s) + 1) 0 0) (2 ^ (Yc (gY s) + 1) - 1) m (t + 1) := rfl
        rw [T]
        have X4 : XM h h4 A s W := ⟨K4.1.1, K4.1.2.2.2.1, K4.1.2.2.2.2⟩
        cases kb : knT (lt1 (gY s) j) (stp (gY s) j) (Yc (gY s)) t (gsI (Yc (gY s) + 1) 0 0) (2 ^ (Yc (gY s) + 1) - 1) <;> rw [kb] at e4
        · rw [if_neg (by decide)]
          obtain ⟨h5, e5, X5⟩ := ih (t + 1) h4 (some (.int (nI (Yc (gY s) + 1)))) (by omega) X4
          refine ⟨h5, ?_, X5⟩
          rw [← e5, s211_10]
          simp (disch := omega) only [s211_11, s211_12, s211_13, s211_14, ↓reduceIte, Option.bind_some, Option.toList_some, Option.toList_none, List.cons_append, List.nil_append, if_true, if_false, true_or, or_true, true_and, and_true, not_true_eq_false, not_false_eq_true, Nat.reduceLT, Nat.reduceLeDiff, Nat.reduceEqDiff, Nat.reduceAdd, Nat.reduceMul, Nat.reduceSub, Nat.reducePow, Nat.reduceMod, Nat.reduceDiv, l0, l1, l2, l3, l4, l5, l6, l7, l8, l9, l10, l11, l12, l13, l14, l15, l16, l20, l31, l32, l36, l40, l48, l57, l59, l63, l64, l97, l99, l100, l101, l122, l127, l128, l250, l255, l262143, l262144, l30000, l100000, l12345, l1024, l4095, nI_eqs, nI_les, nI_lts, qI_eq, qI_eqn, nI_eqq, qI_lts, nI_ltp, nI_lep, qI_les, nI_add, nI_mul, qI_add, qI_s, qI_def, nI_clamps, bI_z, bI_o, bI_01, n01, n11, rf_some, rf_none, m1, m1n, bft, h1']
          rw [e2]
          simp (disch := omega) only [s211_44, s211_45, s211_46, s211_47, s211_48, s211_49, s211_50, s211_51, s211_52, s211_53, s211_54, ↓reduceIte, Option.bind_some, Option.toList_some, Option.toList_none, List.cons_append, List.nil_append, if_true, if_false, true_or, or_true, true_and, and_true, not_true_eq_false, not_false_eq_true, Nat.reduceLT, Nat.reduceLeDiff, Nat.reduceEqDiff, Nat.reduceAdd, Nat.reduceMul, Nat.reduceSub, Nat.reducePow, Nat.reduceMod, Nat.reduceDiv, l0, l1, l2, l3, l4, l5, l6, l7, l8, l9, l10, l11, l12, l13, l14, l15, l16, l20, l31, l32, l36, l40, l48, l57, l59, l63, l64, l97, l99, l100, l101, l122, l127, l128, l250, l255, l262143, l262144, l30000, l100000, l12345, l1024, l4095, nI_eqs, nI_les, nI_lts, qI_eq, qI_eqn, nI_eqq, qI_lts, nI_ltp, nI_lep, qI_les, nI_add, nI_mul, qI_add, qI_s, qI_def, nI_clamps, bI_z, bI_o, bI_01, n01, n11, rf_some, rf_none, m1, m1n, bft, c0, c3, e225, e4, bI_f]
        · rw [if_pos rfl]
          refine ⟨h4, ?_, X4⟩
          rw [s211_10]
          simp (disch := omega) only [s211_11, s211_12, s211_13, s211_14, ↓reduceIte, Option.bind_some, Option.toList_some, Option.toList_none, List.cons_append, List.nil_append, if_true, if_false, true_or, or_true, true_and, and_true, not_true_eq_false, not_false_eq_true, Nat.reduceLT, Nat.reduceLeDiff, Nat.reduceEqDiff, Nat.reduceAdd, Nat.reduceMul, Nat.reduceSub, Nat.reducePow, Nat.reduceMod, Nat.reduceDiv, l0, l1, l2, l3, l4, l5, l6, l7, l8, l9, l10, l11, l12, l13, l14, l15, l16, l20, l31, l32, l36, l40, l48, l57, l59, l63, l64, l97, l99, l100, l101, l122, l127, l128, l250, l255, l262143, l262144, l30000, l100000, l12345, l1024, l4095, nI_eqs, nI_les, nI_lts, qI_eq, qI_eqn, nI_eqq, qI_lts, nI_ltp, nI_lep, qI_les, nI_add, nI_mul, qI_add, qI_s, qI_def, nI_clamps, bI_z, bI_o, bI_01, n01, n11, rf_some, rf_none, m1, m1n, bft, h1']
          rw [e2]
          simp (disch := omega) only [s211_44, s211_45, s211_46, s211_47, s211_48, s211_49, s211_50, s211_51, s211_52, s211_53, s211_54, ↓reduceIte, Option.bind_some, Option.toList_some, Option.toList_none, List.cons_append, List.nil_append, if_true, if_false, true_or, or_true, true_and, and_true, not_true_eq_false, not_false_eq_true, Nat.reduceLT, Nat.reduceLeDiff, Nat.reduceEqDiff, Nat.reduceAdd, Nat.reduceMul, Nat.reduceSub, Nat.reducePow, Nat.reduceMod, Nat.reduceDiv, l0, l1, l2, l3, l4, l5, l6, l7, l8, l9, l10, l11, l12, l13, l14, l15, l16, l20, l31, l32, l36, l40, l48, l57, l59, l63, l64, l97, l99, l100, l101, l122, l127, l128, l250, l255, l262143, l262144, l30000, l100000, l12345, l1024, l4095, nI_eqs, nI_les, nI_lts, qI_eq, qI_eqn, nI_eqq, qI_lts, nI_ltp, nI_lep, qI_les, nI_add, nI_mul, qI_add, qI_s, qI_def, nI_clamps, bI_z, bI_o, bI_01, n01, n11, rf_some, rf_none, m1, m1n, bft, c0, c3, e225, e4, bI_t, Bool.true_eq_false]
    obtain ⟨h2, e2, X⟩ := lp 7 0 h p3 (by omega) ⟨hx, KW.refl _ _, RM.refl _ _⟩
    refine ⟨h2, ?_, X.1, X.2.1, by have := X.2.2; unfold RM at *; omega⟩
    simp (disch := omega) only [s211_0, s211_1, s211_2, s211_3, s211_4, s211_5, s211_6, s211_7, s211_8, s211_9, ↓reduceIte, Option.bind_some, Option.toList_some, Option.toList_none, List.cons_append, List.nil_append, if_true, if_false, true_or, or_true, true_and, and_true, not_true_eq_false, not_false_eq_true, Nat.reduceLT, Nat.reduceLeDiff, Nat.reduceEqDiff, Nat.reduceAdd, Nat.reduceMul, Nat.reduceSub, Nat.reducePow, Nat.reduceMod, Nat.reduceDiv, l0, l1, l2, l3, l4, l5, l6, l7, l8, l9, l10, l11, l12, l13, l14, l15, l16, l20, l31, l32, l36, l40, l48, l57, l59, l63, l64, l97, l99, l100, l101, l122, l127, l128, l250, l255, l262143, l262144, l30000, l100000, l12345, l1024, l4095, nI_eqs, nI_les, nI_lts, qI_eq, qI_eqn, nI_eqq, qI_lts, nI_ltp, nI_lep, qI_les, nI_add, nI_mul, qI_add, qI_s, qI_def, nI_clamps, bI_z, bI_o, bI_01, n01, n11, rf_some, rf_none, m1, m1n, bft, b0, e138, Bool.true_eq_false]
    exact e2
