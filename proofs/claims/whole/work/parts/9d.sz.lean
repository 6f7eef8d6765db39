/-! WORDS on the tape, both sides -/
def eqW (b : Nat → Nat) (f : Nat) (w : List Nat) (m i : Nat) : Bool := match m with
  | 0 => true
  | m + 1 => if b (f + i) = w.getD i 0 then eqW b f w m (i + 1) else false
def isW (b : Nat → Nat) (t : Nat × Nat × Nat) (w : List Nat) : Bool := if t.1 = 1 ∧ t.2.2 - t.2.1 = w.length then eqW b t.2.1 w w.length 0 else false
def HX (h : AH) (a : Nat) (w : List Nat) : Prop := hX h a = some (w.map nI) ∧ w.length ≤ 10 ∧ ∀ i, w.getD i 0 < 256
def tOK (n : Nat) (t : Nat × Nat × Nat) : Prop := t.1 ≤ 4 ∧ t.2.1 ≤ t.2.2 ∧ t.2.2 ≤ n ∧ n ≤ 250
theorem tkL_ok {n : Nat} (hn : n ≤ 250) (b : Nat → Nat) {e : Nat} (he : e ≤ n) : tOK n (tkL n b e) := by
  have fl := spn_le isS b (n - e) e
  unfold tkL
  generalize spn isS b (n - e) e = f at *
  have f1 := spn_le isL b (n - f) f
  have f2 := spn_le isD b (n - f) f
  split
  · exact ⟨Nat.zero_le _, Nat.le_refl _, by dsimp only; omega, hn⟩
  · split
    · exact ⟨by dsimp only; omega, f1.1, by dsimp only; omega, hn⟩
    · split
      · exact ⟨by dsimp only; omega, f2.1, by dsimp only; omega, hn⟩
      · refine ⟨?_, Nat.le_succ _, by dsimp only; omega, hn⟩
        dsimp only
        split <;> decide
theorem mapD (w : List Nat) (i : Nat) : (w.map nI).getD i (nI 0) = nI (w.getD i 0) := by
  rw [List.getD_eq_getElem?_getD, List.getD_eq_getElem?_getD, List.getElem?_map]
  cases w[i]? <;> rfl
theorem inbL {i n : Nat} (h : i < n) (hn : n < 2 ^ 31) : (inb (nI i) n = true) = True := by
  have a := gA (h := (0, 0, fun _ => some (0, n), fun _ _ => 0, fun _ _ => 0, fun _ _ => none, fun _ => 0, fun _ => none)) (a := 0) (t := 0) (n := n) rfl h hn
  exact a
theorem x46 (d : Nat) {h : AH} {T n a : Nat} {b : Nat → Nat} {t : Nat × Nat × Nat} {w : List Nat} (q : TP h T n b) (tt : TT h T t) (ok : tOK n t) (hw : HX h a w) (p2 : Option Value) : E (d + 1) 46 0 [some (.ref T), some (.ref a), p2] [] h = some (some (.int (bI (isW b t w))), h) := by
  obtain ⟨a1, a2, a3, a4, a5, a6⟩ := q
  obtain ⟨t1, t2, t3⟩ := tt
  obtain ⟨k1, k2, k3, k4⟩ := ok
  obtain ⟨w1, w2, w3⟩ := hw
  obtain ⟨s, f, e⟩ := t
  dsimp only at *
  have wl : (w.map nI).length = w.length := List.length_map _
  have sb : nI e - nI f = nI (e - f) := nI_sub k2
  unfold isW
  by_cases c : s = 1 ∧ e - f = w.length
  · obtain ⟨c1, c2⟩ := c
    rw [if_pos ⟨c1, c2⟩]
    have lp : ∀ m i, i + m = w.length → E (d + 1) 46 16 [some (.ref T), some (.ref a), some (.int (nI i))] [] h = some (some (.int (bI (eqW b f w m i))), h) := by
      intro m
      induction m with
      | zero =>
        intro i hi
        have hi' : i = w.length := hi
        rw [s46_16]
        simp (disch := omega) only [s46_17, s46_18, s46_19, s46_42, s46_43, ↓reduceIte, Option.bind_some, Option.toList_some, Option.toList_none, List.cons_append, List.nil_append, if_true, if_false, true_or, or_true, true_and, and_true, not_true_eq_false, not_false_eq_true, Nat.reduceLT, Nat.reduceLeDiff, Nat.reduceEqDiff, Nat.reduceAdd, Nat.reduceMul, Nat.reduceSub, Nat.reducePow, Nat.reduceMod, Nat.reduceDiv, l0, l1, l2, l3, l4, l5, l6, l7, l8, l9, l10, l11, l12, l13, l14, l15, l16, l20, l31, l32, l36, l40, l48, l57, l59, l63, l64, l97, l99, l100, l101, l122, l127, l128, l250, l255, l262143, l262144, l30000, l100000, l12345, l1024, l4095, nI_eqs, nI_les, nI_lts, qI_eq, qI_eqn, nI_eqq, qI_lts, nI_ltp, nI_lep, qI_les, nI_add, nI_mul, qI_add, qI_s, qI_def, nI_clamps, bI_z, bI_o, bI_01, n01, n11, rf_some, rf_none, m1, m1n, bft, w1, wl, hi', Nat.le_refl]
        rfl
      | succ m ih =>
        intro i hi
        have h1' : ¬ w.length ≤ i := by omega
        have h2' : ¬ n ≤ f + i := by omega
        obtain ⟨b1, b2⟩ := a6 (f + i) (by omega)
        have b3 := w3 i
        have ib := inbL (i := i) (n := w.length) (by omega) (by omega)
        have S : eqW b f w (m + 1) i = if b (f + i) = w.getD i 0 then eqW b f w m (i + 1) else false := rfl
        have md := mapD w i
        rw [S, s46_16]
        by_cases z : b (f + i) = w.getD i 0
        · rw [if_pos z, ← ih (i + 1) (by omega)]
          simp (disch := omega) only [s46_17, s46_18, s46_19, s46_20, s46_21, s46_22, s46_23, s46_24, s46_25, s46_26, s46_27, s46_28, s46_29, s46_30, s46_31, s46_32, s46_33, s46_34, s46_35, s46_36, s46_37, s46_38, s46_39, s46_40, s46_41, ↓reduceIte, Option.bind_some, Option.toList_some, Option.toList_none, List.cons_append, List.nil_append, if_true, if_false, true_or, or_true, true_and, and_true, not_true_eq_false, not_false_eq_true, Nat.reduceLT, Nat.reduceLeDiff, Nat.reduceEqDiff, Nat.reduceAdd, Nat.reduceMul, Nat.reduceSub, Nat.reducePow, Nat.reduceMod, Nat.reduceDiv, l0, l1, l2, l3, l4, l5, l6, l7, l8, l9, l10, l11, l12, l13, l14, l15, l16, l20, l31, l32, l36, l40, l48, l57, l59, l63, l64, l97, l99, l100, l101, l122, l127, l128, l250, l255, l262143, l262144, l30000, l100000, l12345, l1024, l4095, nI_eqs, nI_les, nI_lts, qI_eq, qI_eqn, nI_eqq, qI_lts, nI_ltp, nI_lep, qI_les, nI_add, nI_mul, qI_add, qI_s, qI_def, nI_clamps, bI_z, bI_o, bI_01, n01, n11, rf_some, rf_none, m1, m1n, bft, w1, wl, h1', h2', a1, a2, gI a3, a4, t2, b1, ib, md, z]
        · rw [if_neg z]
          simp (disch := omega) only [s46_17, s46_18, s46_19, s46_20, s46_21, s46_22, s46_23, s46_24, s46_25, s46_26, s46_27, s46_28, s46_29, s46_30, s46_31, s46_32, s46_33, s46_34, s46_35, s46_36, s46_37, s46_38, s46_39, ↓reduceIte, Option.bind_some, Option.toList_some, Option.toList_none, List.cons_append, List.nil_append, if_true, if_false, true_or, or_true, true_and, and_true, not_true_eq_false, not_false_eq_true, Nat.reduceLT, Nat.reduceLeDiff, Nat.reduceEqDiff, Nat.reduceAdd, Nat.reduceMul, Nat.reduceSub, Nat.reducePow, Nat.reduceMod, Nat.reduceDiv, l0, l1, l2, l3, l4, l5, l6, l7, l8, l9, l10, l11, l12, l13, l14, l15, l16, l20, l31, l32, l36, l40, l48, l57, l59, l63, l64, l97, l99, l100, l101, l122, l127, l128, l250, l255, l262143, l262144, l30000, l100000, l12345, l1024, l4095, nI_eqs, nI_les, nI_lts, qI_eq, qI_eqn, nI_eqq, qI_lts, nI_ltp, nI_lep, qI_les, nI_add, nI_mul, qI_add, qI_s, qI_def, nI_clamps, bI_z, bI_o, bI_01, n01, n11, rf_some, rf_none, m1, m1n, bft, w1, wl, h1', h2', a1, a2, gI a3, a4, t2, b1, ib, md, z, bI_f]
    simp (disch := omega) only [s46_0, s46_1, s46_2, s46_3, s46_4, s46_5, s46_6, s46_7, s46_8, s46_9, s46_10, s46_11, s46_14, s46_15, ↓reduceIte, Option.bind_some, Option.toList_some, Option.toList_none, List.cons_append, List.nil_append, if_true, if_false, true_or, or_true, true_and, and_true, not_true_eq_false, not_false_eq_true, Nat.reduceLT, Nat.reduceLeDiff, Nat.reduceEqDiff, Nat.reduceAdd, Nat.reduceMul, Nat.reduceSub, Nat.reducePow, Nat.reduceMod, Nat.reduceDiv, l0, l1, l2, l3, l4, l5, l6, l7, l8, l9, l10, l11, l12, l13, l14, l15, l16, l20, l31, l32, l36, l40, l48, l57, l59, l63, l64, l97, l99, l100, l101, l122, l127, l128, l250, l255, l262143, l262144, l30000, l100000, l12345, l1024, l4095, nI_eqs, nI_les, nI_lts, qI_eq, qI_eqn, nI_eqq, qI_lts, nI_ltp, nI_lep, qI_les, nI_add, nI_mul, qI_add, qI_s, qI_def, nI_clamps, bI_z, bI_o, bI_01, n01, n11, rf_some, rf_none, m1, m1n, bft, a1, t1, t2, t3, c1, sb, c2, w1, wl]
    exact lp w.length 0 (by omega)
  · rw [if_neg c]
    by_cases c1 : s = 1
    · have c2 : ¬ e - f = w.length := fun z => c ⟨c1, z⟩
      simp (disch := omega) only [s46_0, s46_1, s46_2, s46_3, s46_4, s46_5, s46_6, s46_7, s46_8, s46_9, s46_10, s46_11, s46_12, s46_13, ↓reduceIte, Option.bind_some, Option.toList_some, Option.toList_none, List.cons_append, List.nil_append, if_true, if_false, true_or, or_true, true_and, and_true, not_true_eq_false, not_false_eq_true, Nat.reduceLT, Nat.reduceLeDiff, Nat.reduceEqDiff, Nat.reduceAdd, Nat.reduceMul, Nat.reduceSub, Nat.reducePow, Nat.reduceMod, Nat.reduceDiv, l0, l1, l2, l3, l4, l5, l6, l7, l8, l9, l10, l11, l12, l13, l14, l15, l16, l20, l31, l32, l36, l40, l48, l57, l59, l63, l64, l97, l99, l100, l101, l122, l127, l128, l250, l255, l262143, l262144, l30000, l100000, l12345, l1024, l4095, nI_eqs, nI_les, nI_lts, qI_eq, qI_eqn, nI_eqq, qI_lts, nI_ltp, nI_lep, qI_les, nI_add, nI_mul, qI_add, qI_s, qI_def, nI_clamps, bI_z, bI_o, bI_01, n01, n11, rf_some, rf_none, m1, m1n, bft, a1, t1, t2, t3, c1, sb, c2, w1, wl, bI_f]
    · simp (disch := omega) only [s46_0, s46_1, s46_2, s46_3, s46_4, s46_5, s46_6, s46_7, s46_8, s46_9, s46_10, s46_11, s46_12, s46_13, ↓reduceIte, Option.bind_some, Option.toList_some, Option.toList_none, List.cons_append, List.nil_append, if_true, if_false, true_or, or_true, true_and, and_true, not_true_eq_false, not_false_eq_true, Nat.reduceLT, Nat.reduceLeDiff, Nat.reduceEqDiff, Nat.reduceAdd, Nat.reduceMul, Nat.reduceSub, Nat.reducePow, Nat.reduceMod, Nat.reduceDiv, l0, l1, l2, l3, l4, l5, l6, l7, l8, l9, l10, l11, l12, l13, l14, l15, l16, l20, l31, l32, l36, l40, l48, l57, l59, l63, l64, l97, l99, l100, l101, l122, l127, l128, l250, l255, l262143, l262144, l30000, l100000, l12345, l1024, l4095, nI_eqs, nI_les, nI_lts, qI_eq, qI_eqn, nI_eqq, qI_lts, nI_ltp, nI_lep, qI_les, nI_add, nI_mul, qI_add, qI_s, qI_def, nI_clamps, bI_z, bI_o, bI_01, n01, n11, rf_some, rf_none, m1, m1n, bft, a1, t1, c1, bI_f]
theorem m169 (d : Nat) {h : AH} {A n a : Nat} {b : Nat → Nat} {t : Nat × Nat × Nat} {w : List Nat} (q : AP h A n b) (tt : ATk h A n b t) (ok : tOK n t) (hw : HX h a w) (p2 : Option Value) : E (d + 1) 169 0 [some (.ref A), some (.ref a), p2] [] h = some (some (.int (bI (isW b t w))), h) := by
  obtain ⟨a1, a2, a3, a4, a5, a6⟩ := q
  obtain ⟨t1, t2, t3, -⟩ := tt
  obtain ⟨k1, k2, k3, k4⟩ := ok
  obtain ⟨w1, w2, w3⟩ := hw
  obtain ⟨s, f, e⟩ := t
  dsimp only at *
  have wl : (w.map nI).length = w.length := List.length_map _
  have sb : nI e - nI f = nI (e - f) := nI_sub k2
  unfold isW
  by_cases c : s = 1 ∧ e - f = w.length
  · obtain ⟨c1, c2⟩ := c
    rw [if_pos ⟨c1, c2⟩]
    have lp : ∀ m i, i + m = w.length → E (d + 1) 169 16 [some (.ref A), some (.ref a), some (.int (nI i))] [] h = some (some (.int (bI (eqW b f w m i))), h) := by
      intro m
      induction m with
      | zero =>
        intro i hi
        have hi' : i = w.length := hi
        rw [s169_16]
        simp (disch := omega) only [s169_17, s169_18, s169_19, s169_35, s169_36, ↓reduceIte, Option.bind_some, Option.toList_some, Option.toList_none, List.cons_append, List.nil_append, if_true, if_false, true_or, or_true, true_and, and_true, not_true_eq_false, not_false_eq_true, Nat.reduceLT, Nat.reduceLeDiff, Nat.reduceEqDiff, Nat.reduceAdd, Nat.reduceMul, Nat.reduceSub, Nat.reducePow, Nat.reduceMod, Nat.reduceDiv, l0, l1, l2, l3, l4, l5, l6, l7, l8, l9, l10, l11, l12, l13, l14, l15, l16, l20, l31, l32, l36, l40, l48, l57, l59, l63, l64, l97, l99, l100, l101, l122, l127, l128, l250, l255, l262143, l262144, l30000, l100000, l12345, l1024, l4095, nI_eqs, nI_les, nI_lts, qI_eq, qI_eqn, nI_eqq, qI_lts, nI_ltp, nI_lep, qI_les, nI_add, nI_mul, qI_add, qI_s, qI_def, nI_clamps, bI_z, bI_o, bI_01, n01, n11, rf_some, rf_none, m1, m1n, bft, w1, wl, hi', Nat.le_refl]
        rfl
      | succ m ih =>
        intro i hi
        have h1' : ¬ w.length ≤ i := by omega
        obtain ⟨b1, b2⟩ := a6 (f + i) (by omega)
        have b3 := w3 i
        have ib := inbL (i := i) (n := w.length) (by omega) (by omega)
        have S : eqW b f w (m + 1) i = if b (f + i) = w.getD i 0 then eqW b f w m (i + 1) else false := rfl
        have md := mapD w i
        rw [S, s169_16]
        by_cases z : b (f + i) = w.getD i 0
        · rw [if_pos z, ← ih (i + 1) (by omega)]
          simp (disch := omega) only [s169_17, s169_18, s169_19, s169_20, s169_21, s169_22, s169_23, s169_24, s169_25, s169_26, s169_27, s169_28, s169_29, s169_30, s169_31, s169_32, s169_33, s169_34, ↓reduceIte, Option.bind_some, Option.toList_some, Option.toList_none, List.cons_append, List.nil_append, if_true, if_false, true_or, or_true, true_and, and_true, not_true_eq_false, not_false_eq_true, Nat.reduceLT, Nat.reduceLeDiff, Nat.reduceEqDiff, Nat.reduceAdd, Nat.reduceMul, Nat.reduceSub, Nat.reducePow, Nat.reduceMod, Nat.reduceDiv, l0, l1, l2, l3, l4, l5, l6, l7, l8, l9, l10, l11, l12, l13, l14, l15, l16, l20, l31, l32, l36, l40, l48, l57, l59, l63, l64, l97, l99, l100, l101, l122, l127, l128, l250, l255, l262143, l262144, l30000, l100000, l12345, l1024, l4095, nI_eqs, nI_les, nI_lts, qI_eq, qI_eqn, nI_eqq, qI_lts, nI_ltp, nI_lep, qI_les, nI_add, nI_mul, qI_add, qI_s, qI_def, nI_clamps, bI_z, bI_o, bI_01, n01, n11, rf_some, rf_none, m1, m1n, bft, w1, wl, h1', a1, a2, gI a3, a4, t2, b1, ib, md, z]
        · rw [if_neg z]
          simp (disch := omega) only [s169_17, s169_18, s169_19, s169_20, s169_21, s169_22, s169_23, s169_24, s169_25, s169_26, s169_27, s169_28, s169_29, s169_30, s169_31, s169_32, ↓reduceIte, Option.bind_some, Option.toList_some, Option.toList_none, List.cons_append, List.nil_append, if_true, if_false, true_or, or_true, true_and, and_true, not_true_eq_false, not_false_eq_true, Nat.reduceLT, Nat.reduceLeDiff, Nat.reduceEqDiff, Nat.reduceAdd, Nat.reduceMul, Nat.reduceSub, Nat.reducePow, Nat.reduceMod, Nat.reduceDiv, l0, l1, l2, l3, l4, l5, l6, l7, l8, l9, l10, l11, l12, l13, l14, l15, l16, l20, l31, l32, l36, l40, l48, l57, l59, l63, l64, l97, l99, l100, l101, l122, l127, l128, l250, l255, l262143, l262144, l30000, l100000, l12345, l1024, l4095, nI_eqs, nI_les, nI_lts, qI_eq, qI_eqn, nI_eqq, qI_lts, nI_ltp, nI_lep, qI_les, nI_add, nI_mul, qI_add, qI_s, qI_def, nI_clamps, bI_z, bI_o, bI_01, n01, n11, rf_some, rf_none, m1, m1n, bft, w1, wl, h1', a1, a2, gI a3, a4, t2, b1, ib, md, z, bI_f]
    simp (disch := omega) only [s169_0, s169_1, s169_2, s169_3, s169_4, s169_5, s169_6, s169_7, s169_8, s169_9, s169_10, s169_11, s169_14, s169_15, ↓reduceIte, Option.bind_some, Option.toList_some, Option.toList_none, List.cons_append, List.nil_append, if_true, if_false, true_or, or_true, true_and, and_true, not_true_eq_false, not_false_eq_true, Nat.reduceLT, Nat.reduceLeDiff, Nat.reduceEqDiff, Nat.reduceAdd, Nat.reduceMul, Nat.reduceSub, Nat.reducePow, Nat.reduceMod, Nat.reduceDiv, l0, l1, l2, l3, l4, l5, l6, l7, l8, l9, l10, l11, l12, l13, l14, l15, l16, l20, l31, l32, l36, l40, l48, l57, l59, l63, l64, l97, l99, l100, l101, l122, l127, l128, l250, l255, l262143, l262144, l30000, l100000, l12345, l1024, l4095, nI_eqs, nI_les, nI_lts, qI_eq, qI_eqn, nI_eqq, qI_lts, nI_ltp, nI_lep, qI_les, nI_add, nI_mul, qI_add, qI_s, qI_def, nI_clamps, bI_z, bI_o, bI_01, n01, n11, rf_some, rf_none, m1, m1n, bft, a1, t1, t2, t3, c1, sb, c2, w1, wl]
    exact lp w.length 0 (by omega)
  · rw [if_neg c]
    by_cases c1 : s = 1
    · have c2 : ¬ e - f = w.length := fun z => c ⟨c1, z⟩
      simp (disch := omega) only [s169_0, s169_1, s169_2, s169_3, s169_4, s169_5, s169_6, s169_7, s169_8, s169_9, s169_10, s169_11, s169_12, s169_13, ↓reduceIte, Option.bind_some, Option.toList_some, Option.toList_none, List.cons_append, List.nil_append, if_true, if_false, true_or, or_true, true_and, and_true, not_true_eq_false, not_false_eq_true, Nat.reduceLT, Nat.reduceLeDiff, Nat.reduceEqDiff, Nat.reduceAdd, Nat.reduceMul, Nat.reduceSub, Nat.reducePow, Nat.reduceMod, Nat.reduceDiv, l0, l1, l2, l3, l4, l5, l6, l7, l8, l9, l10, l11, l12, l13, l14, l15, l16, l20, l31, l32, l36, l40, l48, l57, l59, l63, l64, l97, l99, l100, l101, l122, l127, l128, l250, l255, l262143, l262144, l30000, l100000, l12345, l1024, l4095, nI_eqs, nI_les, nI_lts, qI_eq, qI_eqn, nI_eqq, qI_lts, nI_ltp, nI_lep, qI_les, nI_add, nI_mul, qI_add, qI_s, qI_def, nI_clamps, bI_z, bI_o, bI_01, n01, n11, rf_some, rf_none, m1, m1n, bft, a1, t1, t2, t3, c1, sb, c2, w1, wl, bI_f]
    · simp (disch := omega) only [s169_0, s169_1, s169_2, s169_3, s169_4, s169_5, s169_6, s169_7, s169_8, s169_9, s169_10, s169_11, s169_12, s169_13, ↓reduceIte, Option.bind_some, Option.toList_some, Option.toList_none, List.cons_append, List.nil_append, if_true, if_false, true_or, or_true, true_and, and_true, not_true_eq_false, not_false_eq_true, Nat.reduceLT, Nat.reduceLeDiff, Nat.reduceEqDiff, Nat.reduceAdd, Nat.reduceMul, Nat.reduceSub, Nat.reducePow, Nat.reduceMod, Nat.reduceDiv, l0, l1, l2, l3, l4, l5, l6, l7, l8, l9, l10, l11, l12, l13, l14, l15, l16, l20, l31, l32, l36, l40, l48, l57, l59, l63, l64, l97, l99, l100, l101, l122, l127, l128, l250, l255, l262143, l262144, l30000, l100000, l12345, l1024, l4095, nI_eqs, nI_les, nI_lts, qI_eq, qI_eqn, nI_eqq, qI_lts, nI_ltp, nI_lep, qI_les, nI_add, nI_mul, qI_add, qI_s, qI_def, nI_clamps, bI_z, bI_o, bI_01, n01, n11, rf_some, rf_none, m1, m1n, bft, a1, t1, c1, bI_f]
