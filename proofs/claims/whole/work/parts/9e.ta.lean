/-! NUMBERS on the tape, the developers -/
def vlD (b : Nat → Nat) (m i a : Nat) : Nat := itr (fun i a => 10 * a + b i - 48) m i a
def nmD (b : Nat → Nat) (t : Nat × Nat × Nat) : Int32 := if t.1 = 2 ∧ t.2.2 - t.2.1 ≤ 2 then nI (vlD b (t.2.2 - t.2.1) t.2.1 0) else qI 0
def tDG (b : Nat → Nat) (t : Nat × Nat × Nat) : Prop := t.1 = 2 → ∀ i, t.2.1 ≤ i → i < t.2.2 → 48 ≤ b i ∧ b i ≤ 57
theorem spn_all (p : Nat → Bool) (b : Nat → Nat) : ∀ m i j, i ≤ j → j < spn p b m i → p (b j) = true := by
  intro m
  induction m with
  | zero => intro i j h1 h2; have h2 : j < i := h2; omega
  | succ m ih =>
    intro i j h1 h2
    have h2 : j < (if p (b i) = true then spn p b m (i + 1) else i) := h2
    by_cases c : p (b i) = true
    · rw [if_pos c] at h2
      by_cases e : j = i
      · subst e; exact c
      · exact ih (i + 1) j (by omega) h2
    · rw [if_neg c] at h2; omega
theorem tkL_dg (n : Nat) (b : Nat → Nat) (e : Nat) : tDG b (tkL n b e) := by
  unfold tDG tkL
  generalize spn isS b (n - e) e = f at *
  intro h i h1 h2
  split at h
  · exact absurd h (by dsimp only; omega)
  · split at h
    · exact absurd h (by dsimp only; omega)
    · split at h
      · rename_i z1 z2 z3
        rw [if_neg z1, if_neg z2, if_pos z3] at h1 h2
        exact of_decide_eq_true (spn_all isD b _ _ i h1 h2)
      · dsimp only at h
        split at h <;> omega
theorem x47 (d : Nat) {h : AH} {T n : Nat} {b : Nat → Nat} {t : Nat × Nat × Nat} (q : TP h T n b) (tt : TT h T t) (ok : tOK n t) (dg : tDG b t) (p1 p2 : Option Value) : E d 47 0 [some (.ref T), p1, p2] [] h = some (some (.int (nmD b t)), h) := by
  obtain ⟨a1, a2, a3, a4, a5, a6⟩ := q
  obtain ⟨t1, t2, t3⟩ := tt
  obtain ⟨k1, k2, k3, k4⟩ := ok
  obtain ⟨s, f, e⟩ := t
  unfold tDG at dg
  dsimp only at *
  have sb : nI e - nI f = nI (e - f) := nI_sub k2
  unfold nmD
  by_cases c : s = 2
  · subst c
    by_cases c2 : e - f ≤ 2
    · rw [if_pos ⟨rfl, c2⟩]
      have lp : ∀ m i a, i + m = e → f ≤ i → E d 47 18 [some (.ref T), some (.int (nI a)), some (.int (nI i))] [] h = some (some (.int (nI (vlD b m i a))), h) := by
        intro m
        induction m with
        | zero =>
          intro i a hi hf
          have hi' : i = e := hi
          rw [s47_18]
          simp (disch := omega) only [s47_19, s47_20, s47_21, s47_39, s47_40, ↓reduceIte, Option.bind_some, Option.toList_some, Option.toList_none, List.cons_append, List.nil_append, if_true, if_false, true_or, or_true, true_and, and_true, not_true_eq_false, not_false_eq_true, Nat.reduceLT, Nat.reduceLeDiff, Nat.reduceEqDiff, Nat.reduceAdd, Nat.reduceMul, Nat.reduceSub, Nat.reducePow, Nat.reduceMod, Nat.reduceDiv, l0, l1, l2, l3, l4, l5, l6, l7, l8, l9, l10, l11, l12, l13, l14, l15, l16, l20, l31, l32, l36, l40, l48, l57, l59, l63, l64, l97, l99, l100, l101, l122, l127, l128, l250, l255, l262143, l262144, l30000, l100000, l12345, l1024, l4095, nI_eqs, nI_les, nI_lts, qI_eq, qI_eqn, nI_eqq, qI_lts, nI_ltp, nI_lep, qI_les, nI_add, nI_mul, qI_add, qI_s, qI_def, nI_clamps, bI_z, bI_o, bI_01, n01, n11, rf_some, rf_none, m1, m1n, bft, a1, t3, hi', Nat.le_refl]
          rfl
        | succ m ih =>
          intro i a hi hf
          have h1' : ¬ e ≤ i := by omega
          have h2' : ¬ n ≤ i := by omega
          obtain ⟨b1, b2⟩ := a6 i (by omega)
          have d1 := dg rfl i hf (by omega)
          have sc : nI (10 * a + b i) - nI 48 = nI (10 * a + b i - 48) := nI_sub (by omega)
          have S : vlD b (m + 1) i a = vlD b m (i + 1) (10 * a + b i - 48) := rfl
          rw [S, ← ih (i + 1) _ (by omega) (by omega), s47_18]
          simp (disch := omega) only [s47_19, s47_20, s47_21, s47_22, s47_23, s47_24, s47_25, s47_26, s47_27, s47_28, s47_29, s47_30, s47_31, s47_32, s47_33, s47_34, s47_35, s47_36, s47_37, s47_38, ↓reduceIte, Option.bind_some, Option.toList_some, Option.toList_none, List.cons_append, List.nil_append, if_true, if_false, true_or, or_true, true_and, and_true, not_true_eq_false, not_false_eq_true, Nat.reduceLT, Nat.reduceLeDiff, Nat.reduceEqDiff, Nat.reduceAdd, Nat.reduceMul, Nat.reduceSub, Nat.reducePow, Nat.reduceMod, Nat.reduceDiv, l0, l1, l2, l3, l4, l5, l6, l7, l8, l9, l10, l11, l12, l13, l14, l15, l16, l20, l31, l32, l36, l40, l48, l57, l59, l63, l64, l97, l99, l100, l101, l122, l127, l128, l250, l255, l262143, l262144, l30000, l100000, l12345, l1024, l4095, nI_eqs, nI_les, nI_lts, qI_eq, qI_eqn, nI_eqq, qI_lts, nI_ltp, nI_lep, qI_les, nI_add, nI_mul, qI_add, qI_s, qI_def, nI_clamps, bI_z, bI_o, bI_01, n01, n11, rf_some, rf_none, m1, m1n, bft, a1, a2, gI a3, a4, t3, h1', h2', b1, sc]
      simp (disch := omega) only [s47_0, s47_1, s47_2, s47_3, s47_4, s47_5, s47_6, s47_7, s47_8, s47_9, s47_10, s47_13, s47_14, s47_15, s47_16, s47_17, ↓reduceIte, Option.bind_some, Option.toList_some, Option.toList_none, List.cons_append, List.nil_append, if_true, if_false, true_or, or_true, true_and, and_true, not_true_eq_false, not_false_eq_true, Nat.reduceLT, Nat.reduceLeDiff, Nat.reduceEqDiff, Nat.reduceAdd, Nat.reduceMul, Nat.reduceSub, Nat.reducePow, Nat.reduceMod, Nat.reduceDiv, l0, l1, l2, l3, l4, l5, l6, l7, l8, l9, l10, l11, l12, l13, l14, l15, l16, l20, l31, l32, l36, l40, l48, l57, l59, l63, l64, l97, l99, l100, l101, l122, l127, l128, l250, l255, l262143, l262144, l30000, l100000, l12345, l1024, l4095, nI_eqs, nI_les, nI_lts, qI_eq, qI_eqn, nI_eqq, qI_lts, nI_ltp, nI_lep, qI_les, nI_add, nI_mul, qI_add, qI_s, qI_def, nI_clamps, bI_z, bI_o, bI_01, n01, n11, rf_some, rf_none, m1, m1n, bft, a1, t1, t2, t3, sb, c2]
      exact lp (e - f) f 0 (by omega) (Nat.le_refl _)
    · rw [if_neg (fun w => c2 w.2)]
      simp (disch := omega) only [s47_0, s47_1, s47_2, s47_3, s47_4, s47_5, s47_6, s47_7, s47_8, s47_9, s47_10, s47_11, s47_12, ↓reduceIte, Option.bind_some, Option.toList_some, Option.toList_none, List.cons_append, List.nil_append, if_true, if_false, true_or, or_true, true_and, and_true, not_true_eq_false, not_false_eq_true, Nat.reduceLT, Nat.reduceLeDiff, Nat.reduceEqDiff, Nat.reduceAdd, Nat.reduceMul, Nat.reduceSub, Nat.reducePow, Nat.reduceMod, Nat.reduceDiv, l0, l1, l2, l3, l4, l5, l6, l7, l8, l9, l10, l11, l12, l13, l14, l15, l16, l20, l31, l32, l36, l40, l48, l57, l59, l63, l64, l97, l99, l100, l101, l122, l127, l128, l250, l255, l262143, l262144, l30000, l100000, l12345, l1024, l4095, nI_eqs, nI_les, nI_lts, qI_eq, qI_eqn, nI_eqq, qI_lts, nI_ltp, nI_lep, qI_les, nI_add, nI_mul, qI_add, qI_s, qI_def, nI_clamps, bI_z, bI_o, bI_01, n01, n11, rf_some, rf_none, m1, m1n, bft, a1, t1, t2, t3, sb, c2]
  · rw [if_neg (fun w => c w.1)]
    simp (disch := omega) only [s47_0, s47_1, s47_2, s47_3, s47_4, s47_5, s47_6, s47_7, s47_8, s47_9, s47_10, s47_11, s47_12, ↓reduceIte, Option.bind_some, Option.toList_some, Option.toList_none, List.cons_append, List.nil_append, if_true, if_false, true_or, or_true, true_and, and_true, not_true_eq_false, not_false_eq_true, Nat.reduceLT, Nat.reduceLeDiff, Nat.reduceEqDiff, Nat.reduceAdd, Nat.reduceMul, Nat.reduceSub, Nat.reducePow, Nat.reduceMod, Nat.reduceDiv, l0, l1, l2, l3, l4, l5, l6, l7, l8, l9, l10, l11, l12, l13, l14, l15, l16, l20, l31, l32, l36, l40, l48, l57, l59, l63, l64, l97, l99, l100, l101, l122, l127, l128, l250, l255, l262143, l262144, l30000, l100000, l12345, l1024, l4095, nI_eqs, nI_les, nI_lts, qI_eq, qI_eqn, nI_eqq, qI_lts, nI_ltp, nI_lep, qI_les, nI_add, nI_mul, qI_add, qI_s, qI_def, nI_clamps, bI_z, bI_o, bI_01, n01, n11, rf_some, rf_none, m1, m1n, bft, a1, t1, c]
