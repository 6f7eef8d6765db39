/-! LOCK and KEY of the reference, the commands -/
theorem pw_le {C : Nat} (h3 : C ≤ 3) {k : Nat} (hk : k ≤ 6) : C ^ k < 730 := by
  have a1 : C ^ k ≤ 3 ^ k := Nat.pow_le_pow_left h3 k
  have a2 : 3 ^ k ≤ 3 ^ 6 := Nat.pow_le_pow_right (by decide) hk
  have : (3 : Nat) ^ 6 = 729 := by decide
  omega
theorem c214 (d : Nat) {h : AH} {A : Nat} {s : GS} {W : Nat → Prop} (hx : MX h A s W) (m : Int32) (p2 p3 : Option Value) : MC (d + 5) 214 [some (.ref A), some (.int m), p2, p3] h A W (s_lock s m) := by
  obtain ⟨my, mh, ⟨t1, t2, t3, t4, t5⟩, mr, mz, mg, mw, mn, mwn⟩ := id hx; have e136 := c136e hx; have b0 := my.1.1; obtain ⟨⟨z0, z1, z2, z3, z4, z5, z6, z7, z8, r1, r2, r3, r4, r5, r6, r7, r8⟩, ⟨vc, vg, vn, vt, vz, vK, vA, vU, vF, vM, vW, vC, vP⟩, ok⟩ := id my; obtain ⟨⟨o2, o3⟩, o6, on, og, oc⟩ := id ok
  unfold s_lock
  cases a : inR m 7
  · rw [if_neg (by decide)]
    refine MC.rf hx (by decide) (by decide) ?_
    simp (disch := omega) only [s214_0, s214_1, s214_2, s214_3, s214_4, s214_5, s214_6, s214_7, s214_8, s214_9, ↓reduceIte, Option.bind_some, Option.toList_some, Option.toList_none, List.cons_append, List.nil_append, if_true, if_false, true_or, or_true, true_and, and_true, not_true_eq_false, not_false_eq_true, Nat.reduceLT, Nat.reduceLeDiff, Nat.reduceEqDiff, Nat.reduceAdd, Nat.reduceMul, Nat.reduceSub, Nat.reducePow, Nat.reduceMod, Nat.reduceDiv, l0, l1, l2, l3, l4, l5, l6, l7, l8, l9, l10, l11, l12, l13, l14, l15, l16, l20, l31, l32, l36, l40, l48, l57, l59, l63, l64, l97, l99, l100, l101, l122, l127, l128, l250, l255, l262143, l262144, l30000, l100000, l12345, l1024, l4095, nI_eqs, nI_les, nI_lts, qI_eq, qI_eqn, nI_eqq, qI_lts, nI_ltp, nI_lep, qI_les, nI_add, nI_mul, qI_add, qI_s, qI_def, nI_clamps, bI_z, bI_o, bI_01, n01, n11, rf_some, rf_none, m1, m1n, bft, j0, j6, m137, in_n, a, b0, rN_d, e136]
  · rw [if_pos rfl]
    have a' := a
    obtain ⟨j, hj, rfl⟩ := inR_of (by decide) a
    rw [nI_clamp (show j < 2 ^ 31 by omega), ← cnK_rw]
    have pl := pw_le o3 (show j ≤ 6 by omega)
    have lp : ∀ l i a h1, i + l = Yc (gY s) ^ j → XM h h1 A s W → ∃ h2, E (d + 5) 214 14 [some (.ref A), some (.int (nI j)), some (.int (nI a)), some (.int (nI i))] [] h1 = some (some (.int (nI (cnK (gY s) j (r0 (gY s)) l i a))), h2) ∧ XM h h2 A s W := by
      intro l
      induction l with
      | zero =>
        intro i a h1 hi X
        have hi' : i = Yc (gY s) ^ j := hi
        have c0 := X.1.1.1.1
        have e213 := fun d => m213 d X.1 (show j ≤ 6 by omega) none none
        refine ⟨h1, ?_, X⟩
        rw [s214_14, hi']
        simp (disch := omega) only [s214_15, s214_16, s214_17, s214_18, s214_32, s214_33, ↓reduceIte, Option.bind_some, Option.toList_some, Option.toList_none, List.cons_append, List.nil_append, if_true, if_false, true_or, or_true, true_and, and_true, not_true_eq_false, not_false_eq_true, Nat.reduceLT, Nat.reduceLeDiff, Nat.reduceEqDiff, Nat.reduceAdd, Nat.reduceMul, Nat.reduceSub, Nat.reducePow, Nat.reduceMod, Nat.reduceDiv, l0, l1, l2, l3, l4, l5, l6, l7, l8, l9, l10, l11, l12, l13, l14, l15, l16, l20, l31, l32, l36, l40, l48, l57, l59, l63, l64, l97, l99, l100, l101, l122, l127, l128, l250, l255, l262143, l262144, l30000, l100000, l12345, l1024, l4095, nI_eqs, nI_les, nI_lts, qI_eq, qI_eqn, nI_eqq, qI_lts, nI_ltp, nI_lep, qI_les, nI_add, nI_mul, qI_add, qI_s, qI_def, nI_clamps, bI_z, bI_o, bI_01, n01, n11, rf_some, rf_none, m1, m1n, bft, c0, e213, Nat.le_refl]
        rfl
      | succ l ih =>
        intro i a h1 hi X
        have h1' : ¬ Yc (gY s) ^ j ≤ i := by omega
        have c0 := X.1.1.1.1
        have e213 := fun d => m213 d X.1 (show j ≤ 6 by omega) none none
        obtain ⟨h2, e212, X2⟩ := m212 d X (m := j) (row := i) (by omega) (by omega) none none none none none
        have S : cnK (gY s) j (r0 (gY s)) (l + 1) i a = cnK (gY s) j (r0 (gY s)) l (i + 1) (if ky (gY s) j i (r0 (gY s)) = true then a + 1 else a) := rfl
        rw [S]
        cases q : ky (gY s) j i (r0 (gY s)) <;> rw [q] at e212
        · rw [if_neg (by decide)]
          obtain ⟨h3, e3, X3⟩ := ih (i + 1) a h2 (by omega) X2
          refine ⟨h3, ?_, X3⟩
          rw [← e3, s214_14]
          simp (disch := omega) only [s214_15, s214_16, s214_17, s214_18, s214_19, s214_20, s214_21, s214_22, s214_23, s214_24, s214_25, s214_26, s214_27, s214_28, s214_29, s214_30, s214_31, ↓reduceIte, Option.bind_some, Option.toList_some, Option.toList_none, List.cons_append, List.nil_append, if_true, if_false, true_or, or_true, true_and, and_true, not_true_eq_false, not_false_eq_true, Nat.reduceLT, Nat.reduceLeDiff, Nat.reduceEqDiff, Nat.reduceAdd, Nat.reduceMul, Nat.reduceSub, Nat.reducePow, Nat.reduceMod, Nat.reduceDiv, l0, l1, l2, l3, l4, l5, l6, l7, l8, l9, l10, l11, l12, l13, l14, l15, l16, l20, l31, l32, l36, l40, l48, l57, l59, l63, l64, l97, l99, l100, l101, l122, l127, l128, l250, l255, l262143, l262144, l30000, l100000, l12345, l1024, l4095, nI_eqs, nI_les, nI_lts, qI_eq, qI_eqn, nI_eqq, qI_lts, nI_ltp, nI_lep, qI_les, nI_add, nI_mul, qI_add, qI_s, qI_def, nI_clamps, bI_z, bI_o, bI_01, n01, n11, rf_some, rf_none, m1, m1n, bft, c0, e213, h1', e212, bI_f, Nat.add_zero]
        · rw [if_pos rfl]
          obtain ⟨h3, e3, X3⟩ := ih (i + 1) (a + 1) h2 (by omega) X2
          refine ⟨h3, ?_, X3⟩
          rw [← e3, s214_14]
          simp (disch := omega) only [s214_15, s214_16, s214_17, s214_18, s214_19, s214_20, s214_21, s214_22, s214_23, s214_24, s214_25, s214_26, s214_27, s214_28, s214_29, s214_30, s214_31, ↓reduceIte, Option.bind_some, Option.toList_some, Option.toList_none, List.cons_append, List.nil_append, if_true, if_false, true_or, or_true, true_and, and_true, not_true_eq_false, not_false_eq_true, Nat.reduceLT, Nat.reduceLeDiff, Nat.reduceEqDiff, Nat.reduceAdd, Nat.reduceMul, Nat.reduceSub, Nat.reducePow, Nat.reduceMod, Nat.reduceDiv, l0, l1, l2, l3, l4, l5, l6, l7, l8, l9, l10, l11, l12, l13, l14, l15, l16, l20, l31, l32, l36, l40, l48, l57, l59, l63, l64, l97, l99, l100, l101, l122, l127, l128, l250, l255, l262143, l262144, l30000, l100000, l12345, l1024, l4095, nI_eqs, nI_les, nI_lts, qI_eq, qI_eqn, nI_eqq, qI_lts, nI_ltp, nI_lep, qI_les, nI_add, nI_mul, qI_add, qI_s, qI_def, nI_clamps, bI_z, bI_o, bI_01, n01, n11, rf_some, rf_none, m1, m1n, bft, c0, e213, h1', e212, bI_t]
    obtain ⟨h2, e2, X⟩ := lp (Yc (gY s) ^ j) 0 0 h (by omega) ⟨hx, KW.refl _ _, RM.refl _ _⟩
    refine ⟨h2, ?_, X.1, X.2.1, by have := X.2.2; unfold RM at *; omega⟩
    simp (disch := omega) only [s214_0, s214_1, s214_2, s214_3, s214_4, s214_5, s214_10, s214_11, s214_12, s214_13, ↓reduceIte, Option.bind_some, Option.toList_some, Option.toList_none, List.cons_append, List.nil_append, if_true, if_false, true_or, or_true, true_and, and_true, not_true_eq_false, not_false_eq_true, Nat.reduceLT, Nat.reduceLeDiff, Nat.reduceEqDiff, Nat.reduceAdd, Nat.reduceMul, Nat.reduceSub, Nat.reducePow, Nat.reduceMod, Nat.reduceDiv, l0, l1, l2, l3, l4, l5, l6, l7, l8, l9, l10, l11, l12, l13, l14, l15, l16, l20, l31, l32, l36, l40, l48, l57, l59, l63, l64, l97, l99, l100, l101, l122, l127, l128, l250, l255, l262143, l262144, l30000, l100000, l12345, l1024, l4095, nI_eqs, nI_les, nI_lts, qI_eq, qI_eqn, nI_eqq, qI_lts, nI_ltp, nI_lep, qI_les, nI_add, nI_mul, qI_add, qI_s, qI_def, nI_clamps, bI_z, bI_o, bI_01, n01, n11, rf_some, rf_none, m1, m1n, bft, j0, j6, m137, in_n, a', b0, Bool.true_eq_false]
    exact e2
theorem c215 (d : Nat) {h : AH} {A : Nat} {s : GS} {W : Nat → Prop} (hx : MX h A s W) (m i : Int32) (p3 : Option Value) : MC (d + 5) 215 [some (.ref A), some (.int m), some (.int i), p3] h A W (s_key s m i) := by
  obtain ⟨my, mh, ⟨t1, t2, t3, t4, t5⟩, mr, mz, mg, mw, mn, mwn⟩ := id hx; have e136 := c136e hx; have b0 := my.1.1; obtain ⟨⟨z0, z1, z2, z3, z4, z5, z6, z7, z8, r1, r2, r3, r4, r5, r6, r7, r8⟩, ⟨vc, vg, vn, vt, vz, vK, vA, vU, vF, vM, vW, vC, vP⟩, ok⟩ := id my; obtain ⟨⟨o2, o3⟩, o6, on, og, oc⟩ := id ok
  unfold s_key
  cases a : inR m 7
  · rw [if_neg (fun w => absurd w.1 (by decide))]
    refine MC.rf hx (by decide) (by decide) ?_
    simp (disch := omega) only [s215_0, s215_1, s215_2, s215_3, s215_4, s215_5, s215_6, s215_7, s215_8, s215_9, s215_10, s215_11, s215_12, s215_13, s215_14, s215_15, s215_16, s215_17, s215_18, ↓reduceIte, Option.bind_some, Option.toList_some, Option.toList_none, List.cons_append, List.nil_append, if_true, if_false, true_or, or_true, true_and, and_true, not_true_eq_false, not_false_eq_true, Nat.reduceLT, Nat.reduceLeDiff, Nat.reduceEqDiff, Nat.reduceAdd, Nat.reduceMul, Nat.reduceSub, Nat.reducePow, Nat.reduceMod, Nat.reduceDiv, l0, l1, l2, l3, l4, l5, l6, l7, l8, l9, l10, l11, l12, l13, l14, l15, l16, l20, l31, l32, l36, l40, l48, l57, l59, l63, l64, l97, l99, l100, l101, l122, l127, l128, l250, l255, l262143, l262144, l30000, l100000, l12345, l1024, l4095, nI_eqs, nI_les, nI_lts, qI_eq, qI_eqn, nI_eqq, qI_lts, nI_ltp, nI_lep, qI_les, nI_add, nI_mul, qI_add, qI_s, qI_def, nI_clamps, bI_z, bI_o, bI_01, n01, n11, rf_some, rf_none, m1, m1n, bft, j0, j6, m137, in_n, a, b0, rN_d, e136]
  · have a' := a
    obtain ⟨j, hj, rfl⟩ := inR_of (by decide) a
    rw [nI_clamp (show j < 2 ^ 31 by omega)]
    cases c : inR i j
    · rw [if_neg (fun w => absurd w.2 (by decide))]
      refine MC.rf hx (by decide) (by decide) ?_
      simp (disch := omega) only [s215_0, s215_1, s215_2, s215_3, s215_4, s215_5, s215_6, s215_7, s215_8, s215_9, s215_10, s215_11, s215_12, s215_13, s215_14, s215_15, s215_16, s215_17, s215_18, ↓reduceIte, Option.bind_some, Option.toList_some, Option.toList_none, List.cons_append, List.nil_append, if_true, if_false, true_or, or_true, true_and, and_true, not_true_eq_false, not_false_eq_true, Nat.reduceLT, Nat.reduceLeDiff, Nat.reduceEqDiff, Nat.reduceAdd, Nat.reduceMul, Nat.reduceSub, Nat.reducePow, Nat.reduceMod, Nat.reduceDiv, l0, l1, l2, l3, l4, l5, l6, l7, l8, l9, l10, l11, l12, l13, l14, l15, l16, l20, l31, l32, l36, l40, l48, l57, l59, l63, l64, l97, l99, l100, l101, l122, l127, l128, l250, l255, l262143, l262144, l30000, l100000, l12345, l1024, l4095, nI_eqs, nI_les, nI_lts, qI_eq, qI_eqn, nI_eqq, qI_lts, nI_ltp, nI_lep, qI_les, nI_add, nI_mul, qI_add, qI_s, qI_def, nI_clamps, bI_z, bI_o, bI_01, n01, n11, rf_some, rf_none, m1, m1n, bft, j0, j6, m137, in_n, in_m, a', c, b0, rN_d, e136, Bool.true_eq_false]
    · rw [if_pos ⟨rfl, rfl⟩]
      have c' := c
      obtain ⟨k, hk, rfl⟩ := inR_of (by omega) c
      rw [nI_clamp (show k < 2 ^ 31 by omega)]
      have pl := pw_le o3 (show j ≤ 6 by omega)
      have lp : ∀ l t h1, t + l = Yc (gY s) ^ j → XM h h1 A s W → ∃ h2, XM h h2 A s W ∧ match fsK (gY s) j (r0 (gY s)) l t with
          | none => E (d + 5) 215 21 [some (.ref A), some (.int (nI j)), some (.int (nI k)), some (.int (nI t))] [] h1 = E (d + 5) 215 46 [some (.ref A), some (.int (nI j)), some (.int (nI k)), some (.int (nI (Yc (gY s) ^ j)))] [] h2
          | some row => E (d + 5) 215 21 [some (.ref A), some (.int (nI j)), some (.int (nI k)), some (.int (nI t))] [] h1 = some (some (.int (nI (row / Yc (gY s) ^ (j - 1 - k) % Yc (gY s)))), h2) := by
        intro l
        induction l with
        | zero =>
          intro t h1 ht X
          have ht' : t = Yc (gY s) ^ j := ht
          have c0 := X.1.1.1.1
          have e213 := fun d => m213 d X.1 (show j ≤ 6 by omega) none none
          refine ⟨h1, X, ?_⟩
          show E _ 215 21 _ _ _ = _
          rw [s215_21, ht']
          simp (disch := omega) only [s215_22, s215_23, s215_24, s215_25, ↓reduceIte, Option.bind_some, Option.toList_some, Option.toList_none, List.cons_append, List.nil_append, if_true, if_false, true_or, or_true, true_and, and_true, not_true_eq_false, not_false_eq_true, Nat.reduceLT, Nat.reduceLeDiff, Nat.reduceEqDiff, Nat.reduceAdd, Nat.reduceMul, Nat.reduceSub, Nat.reducePow, Nat.reduceMod, Nat.reduceDiv, l0, l1, l2, l3, l4, l5, l6, l7, l8, l9, l10, l11, l12, l13, l14, l15, l16, l20, l31, l32, l36, l40, l48, l57, l59, l63, l64, l97, l99, l100, l101, l122, l127, l128, l250, l255, l262143, l262144, l30000, l100000, l12345, l1024, l4095, nI_eqs, nI_les, nI_lts, qI_eq, qI_eqn, nI_eqq, qI_lts, nI_ltp, nI_lep, qI_les, nI_add, nI_mul, qI_add, qI_s, qI_def, nI_clamps, bI_z, bI_o, bI_01, n01, n11, rf_some, rf_none, m1, m1n, bft, c0, e213, Nat.le_refl]
        | succ l ih =>
          intro t h1 ht X
          have h1' : ¬ Yc (gY s) ^ j ≤ t := by omega
          have c0 := X.1.1.1.1
          have e213 := fun d => m213 d X.1 (show j ≤ 6 by omega) none none
          obtain ⟨h2, e212, X2⟩ := m212 d X (m := j) (row := t) (by omega) (by omega) none none none none none
          have S : fsK (gY s) j (r0 (gY s)) (l + 1) t = if ky (gY s) j t (r0 (gY s)) = true then some t else fsK (gY s) j (r0 (gY s)) l (t + 1) := rfl
          rw [S]
          cases q : ky (gY s) j t (r0 (gY s)) <;> rw [q] at e212
          · rw [if_neg (by decide)]
            obtain ⟨h3, X3, z⟩ := ih (t + 1) h2 (by omega) X2
            refine ⟨h3, X3, ?_⟩
            have st : E (d + 5) 215 21 [some (.ref A), some (.int (nI j)), some (.int (nI k)), some (.int (nI t))] [] h1 = E (d + 5) 215 21 [some (.ref A), some (.int (nI j)), some (.int (nI k)), some (.int (nI (t + 1)))] [] h2 := by
              rw [s215_21]
              simp (disch := omega) only [s215_22, s215_23, s215_24, s215_25, s215_26, s215_27, s215_28, s215_29, s215_30, s215_44, s215_45, ↓reduceIte, Option.bind_some, Option.toList_some, Option.toList_none, List.cons_append, List.nil_append, if_true, if_false, true_or, or_true, true_and, and_true, not_true_eq_false, not_false_eq_true, Nat.reduceLT, Nat.reduceLeDiff, Nat.reduceEqDiff, Nat.reduceAdd, Nat.reduceMul, Nat.reduceSub, Nat.reducePow, Nat.reduceMod, Nat.reduceDiv, l0, l1, l2, l3, l4, l5, l6, l7, l8, l9, l10, l11, l12, l13, l14, l15, l16, l20, l31, l32, l36, l40, l48, l57, l59, l63, l64, l97, l99, l100, l101, l122, l127, l128, l250, l255, l262143, l262144, l30000, l100000, l12345, l1024, l4095, nI_eqs, nI_les, nI_lts, qI_eq, qI_eqn, nI_eqq, qI_lts, nI_ltp, nI_lep, qI_les, nI_add, nI_mul, qI_add, qI_s, qI_def, nI_clamps, bI_z, bI_o, bI_01, n01, n11, rf_some, rf_none, m1, m1n, bft, c0, e213, h1', e212, bI_f]
            rw [st]; exact z
          · rw [if_pos rfl]
            refine ⟨h2, X2, ?_⟩
            have c2 := X2.1.1.1.1
            have yc : hI h2 A 9 = nI (Yc (gY s)) := X2.1.1.2.1.1
            have e213k := fun d => m213 d X2.1 (show j - 1 - k ≤ 6 by omega) none none
            have pk' := pw_le o3 (show j - 1 - k ≤ 6 by omega)
            have pp : 0 < Yc (gY s) ^ (j - 1 - k) := Nat.pow_pos (by omega)
            have sb : nI j - nI 1 - nI k = nI (j - 1 - k) := by rw [nI_sub (by omega), nI_sub (by omega)]
            have sb' : qI j - nI k = nI (j - 1 - k) := sb
            generalize Yc (gY s) ^ (j - 1 - k) = w at *
            have w0 : ¬ w = 0 := by omega
            have y0 : ¬ Yc (gY s) = 0 := by omega
            have dw : t / w ≤ t := Nat.div_le_self _ _
            have dv := nI_div (a := t) (b := w) (by omega) (by omega)
            have dv2 := nI_div (a := t / w) (b := Yc (gY s)) (by omega) (by omega)
            have rm2 : nI (t / w) - nI (t / w / Yc (gY s) * Yc (gY s)) = nI (t / w % Yc (gY s)) := by
              rw [nI_sub (Nat.div_mul_le_self _ _)]
              congr 1
              have := Nat.div_add_mod (t / w) (Yc (gY s))
              rw [Nat.mul_comm] at this
              omega
            show E _ 215 21 _ _ _ = _
            rw [s215_21]
            simp (disch := omega) only [s215_22, s215_23, s215_24, s215_25, s215_26, s215_27, s215_28, s215_29, s215_30, s215_31, s215_32, s215_33, s215_34, s215_35, s215_36, s215_37, s215_38, s215_39, s215_40, s215_41, s215_42, s215_43, ↓reduceIte, Option.bind_some, Option.toList_some, Option.toList_none, List.cons_append, List.nil_append, if_true, if_false, true_or, or_true, true_and, and_true, not_true_eq_false, not_false_eq_true, Nat.reduceLT, Nat.reduceLeDiff, Nat.reduceEqDiff, Nat.reduceAdd, Nat.reduceMul, Nat.reduceSub, Nat.reducePow, Nat.reduceMod, Nat.reduceDiv, l0, l1, l2, l3, l4, l5, l6, l7, l8, l9, l10, l11, l12, l13, l14, l15, l16, l20, l31, l32, l36, l40, l48, l57, l59, l63, l64, l97, l99, l100, l101, l122, l127, l128, l250, l255, l262143, l262144, l30000, l100000, l12345, l1024, l4095, nI_eqs, nI_les, nI_lts, qI_eq, qI_eqn, nI_eqq, qI_lts, nI_ltp, nI_lep, qI_les, nI_add, nI_mul, qI_add, qI_s, qI_def, nI_clamps, bI_z, bI_o, bI_01, n01, n11, rf_some, rf_none, m1, m1n, bft, c0, c2, yc, e213, e213k, h1', e212, bI_t, Bool.true_eq_false, sb, sb', w0, y0, dv, dv2, rm2]
      obtain ⟨h2, X, z⟩ := lp (Yc (gY s) ^ j) 0 h (by omega) ⟨hx, KW.refl _ _, RM.refl _ _⟩
      have hd : E (d + 5) 215 0 [some (.ref A), some (.int (nI j)), some (.int (nI k)), p3] [] h = E (d + 5) 215 21 [some (.ref A), some (.int (nI j)), some (.int (nI k)), some (.int (nI 0))] [] h := by
        simp (disch := omega) only [s215_0, s215_1, s215_2, s215_3, s215_4, s215_5, s215_6, s215_7, s215_8, s215_9, s215_10, s215_11, s215_12, s215_13, s215_14, s215_19, s215_20, ↓reduceIte, Option.bind_some, Option.toList_some, Option.toList_none, List.cons_append, List.nil_append, if_true, if_false, true_or, or_true, true_and, and_true, not_true_eq_false, not_false_eq_true, Nat.reduceLT, Nat.reduceLeDiff, Nat.reduceEqDiff, Nat.reduceAdd, Nat.reduceMul, Nat.reduceSub, Nat.reducePow, Nat.reduceMod, Nat.reduceDiv, l0, l1, l2, l3, l4, l5, l6, l7, l8, l9, l10, l11, l12, l13, l14, l15, l16, l20, l31, l32, l36, l40, l48, l57, l59, l63, l64, l97, l99, l100, l101, l122, l127, l128, l250, l255, l262143, l262144, l30000, l100000, l12345, l1024, l4095, nI_eqs, nI_les, nI_lts, qI_eq, qI_eqn, nI_eqq, qI_lts, nI_ltp, nI_lep, qI_les, nI_add, nI_mul, qI_add, qI_s, qI_def, nI_clamps, bI_z, bI_o, bI_01, n01, n11, rf_some, rf_none, m1, m1n, bft, j0, j6, m137, in_n, in_m, a', c', b0, Bool.true_eq_false]
      by_cases zr : rwR (gY s) j (r0 (gY s)) = 0
      · rw [if_pos zr]
        have fn : fsK (gY s) j (r0 (gY s)) (Yc (gY s) ^ j) 0 = none := by
          rw [← cnK_rw] at zr
          have no := fsK_no _ _ zr
          have g : ∀ p i, i + p ≤ Yc (gY s) ^ j → fsK (gY s) j (r0 (gY s)) p i = none := by
            intro p
            induction p with
            | zero => intro i _; rfl
            | succ p ih =>
              intro i hi
              show (if ky (gY s) j i (r0 (gY s)) = true then some i else fsK (gY s) j (r0 (gY s)) p (i + 1)) = none
              rw [no i (Nat.zero_le _) (by omega), if_neg (by decide)]
              exact ih (i + 1) (by omega)
          exact g _ 0 (by omega)
        rw [fn] at z
        have z : _ = _ := z
        have e136' := c136e X.1
        have mb := MC.rf (d := d + 5) (y := 215) (as := [some (.ref A), some (.int (nI j)), some (.int (nI k)), some (.int (nI (Yc (gY s) ^ j)))]) X.1 (k := 5) (by decide) (by decide)
        have c2 := X.1.1.1.1
        refine ⟨RFM h2 A 5, ?_, ?_⟩
        · rw [hd, z]
          simp (disch := omega) only [s215_46, s215_47, s215_48, s215_49, ↓reduceIte, Option.bind_some, Option.toList_some, Option.toList_none, List.cons_append, List.nil_append, if_true, if_false, true_or, or_true, true_and, and_true, not_true_eq_false, not_false_eq_true, Nat.reduceLT, Nat.reduceLeDiff, Nat.reduceEqDiff, Nat.reduceAdd, Nat.reduceMul, Nat.reduceSub, Nat.reducePow, Nat.reduceMod, Nat.reduceDiv, l0, l1, l2, l3, l4, l5, l6, l7, l8, l9, l10, l11, l12, l13, l14, l15, l16, l20, l31, l32, l36, l40, l48, l57, l59, l63, l64, l97, l99, l100, l101, l122, l127, l128, l250, l255, l262143, l262144, l30000, l100000, l12345, l1024, l4095, nI_eqs, nI_les, nI_lts, qI_eq, qI_eqn, nI_eqq, qI_lts, nI_ltp, nI_lep, qI_les, nI_add, nI_mul, qI_add, qI_s, qI_def, nI_clamps, bI_z, bI_o, bI_01, n01, n11, rf_some, rf_none, m1, m1n, bft, c2, rN_d, e136']
          rfl
        · have zz := X.1.rf (k := 5) (by decide) (by decide)
          exact ⟨zz.1, X.2.1.trans (zz.2.kw X.1.2.2.2.2.2.2.1), by have a1 := X.2.2; have a2 := zz.2.rm A; have a3 := a1.trans a2; unfold RM at *; omega⟩
      · rw [if_neg zr]
        obtain ⟨row, w1, w2, w3, w4⟩ := row_f (y := gY s) (by omega) j (r0 (gY s)) (by omega)
        have fs := fsK_of w2 (Yc (gY s) ^ j) 0 (Nat.zero_le _) (by omega) (fun i _ hi => w3 i hi)
        rw [fs] at z
        have z : _ = _ := z
        have dg := w4 j 0 k (qI 0) rfl (Nat.zero_le _) hk
        rw [Nat.sub_zero] at dg
        rw [dg]
        exact ⟨h2, by rw [hd, z], X.1, X.2.1, by have := X.2.2; unfold RM at *; omega⟩
