/-! A SHELF, and the developers' shelf at o -/
/-- 0 nothing, 1 a row, 2 a gate; the row's sort, its size, the gate, the elements -/
abbrev SHT : Type := Nat × Nat × Nat × Nat × (Nat → Int64)
def Hk (t : SHT) : Nat := t.1
def Hs (t : SHT) : Nat := t.2.1
def Hn (t : SHT) : Nat := t.2.2.1
def Hg (t : SHT) : Nat := t.2.2.2.1
def He (t : SHT) : Nat → Int64 := t.2.2.2.2
def sMk (k s n g : Nat) (e : Nat → Int64) : SHT := (k, s, n, g, e)
def SOK (t : SHT) : Prop := Hk t < 3 ∧ (Hk t = 1 → Hs t < 5) ∧ (Hk t = 1 → Hn t ≤ 40) ∧ (Hk t ≠ 1 → Hn t = 0) ∧ (Hk t = 2 → Hg t < 6)
def SS (h : AH) (o : Nat) : Prop := hS h o = some (101, 0) ∧ hS h (o + 1) = some (1, 40) ∧ hR h o 3 = some (o + 1)
def SV (h : AH) (o : Nat) (t : SHT) : Prop := hI h o 0 = (if Hk t = 0 then qI 0 else if Hk t = 1 then nI (Hs t) else nI 10) ∧ (Hk t = 2 → hI h o 1 = nI (Hg t)) ∧ hI h o 2 = nI (Hn t) ∧ (∀ i, i < Hn t → hL h (o + 1) i = He t i)
def SX (h : AH) (o : Nat) (t : SHT) : Prop := SS h o ∧ SV h o t ∧ SOK t
theorem k3 {k : Nat} (h : k < 3) : k = 0 ∨ k = 1 ∨ k = 2 := by omega
theorem SOK.n {t : SHT} (k : SOK t) : Hn t ≤ 40 := by
  obtain ⟨k0, k1, k2, k3, k4⟩ := k
  by_cases q : Hk t = 1
  · exact k2 q
  · rw [k3 q]; omega
theorem x23 (d : Nat) {h : AH} {o : Nat} {t : SHT} (hx : SX h o t) : E d 23 0 [some (.ref o)] [] h = some (some (.int (bI (decide (Hk t = 1)))), h) := by
  obtain ⟨⟨z0, z1, r1⟩, ⟨v0, v1, v2, v3⟩, ⟨k0, k1, k2, k3, k4⟩⟩ := hx
  rcases zz_3 k0 with e | e | e
  · simp (disch := omega) only [s23_0, s23_1, s23_2, s23_3, s23_4, s23_5, s23_6, s23_7, s23_8, s23_9, s23_10, ↓reduceIte, Option.bind_some, Option.toList_some, Option.toList_none, List.cons_append, List.nil_append, if_true, if_false, true_or, or_true, true_and, and_true, not_true_eq_false, not_false_eq_true, Nat.reduceLT, Nat.reduceLeDiff, Nat.reduceEqDiff, Nat.reduceAdd, Nat.reduceMul, Nat.reduceSub, Nat.reducePow, Nat.reduceMod, Nat.reduceDiv, l0, l1, l2, l3, l4, l5, l6, l7, l8, l9, l10, l11, l12, l13, l14, l15, l16, l20, l31, l32, l36, l40, l48, l57, l59, l63, l64, l97, l99, l100, l101, l122, l127, l128, l250, l255, l262143, l262144, l30000, l100000, l12345, l1024, l4095, nI_eqs, nI_les, nI_lts, qI_eq, qI_eqn, nI_eqq, qI_lts, nI_ltp, nI_lep, qI_les, nI_add, nI_mul, qI_add, qI_s, qI_def, nI_clamps, bI_z, bI_o, bI_01, n01, n11, rf_some, rf_none, m1, m1n, bft, z0, v0, e, if_true, decide_true, decide_false, bI_t, bI_f]
  · have := k1 e
    rw [e] at v0
    rw [if_neg (by decide), if_pos rfl] at v0
    have q : ¬ 4 < Hs t := by omega
    simp (disch := omega) only [s23_0, s23_1, s23_2, s23_3, s23_4, s23_5, s23_6, s23_7, s23_8, s23_9, s23_10, ↓reduceIte, Option.bind_some, Option.toList_some, Option.toList_none, List.cons_append, List.nil_append, if_true, if_false, true_or, or_true, true_and, and_true, not_true_eq_false, not_false_eq_true, Nat.reduceLT, Nat.reduceLeDiff, Nat.reduceEqDiff, Nat.reduceAdd, Nat.reduceMul, Nat.reduceSub, Nat.reducePow, Nat.reduceMod, Nat.reduceDiv, l0, l1, l2, l3, l4, l5, l6, l7, l8, l9, l10, l11, l12, l13, l14, l15, l16, l20, l31, l32, l36, l40, l48, l57, l59, l63, l64, l97, l99, l100, l101, l122, l127, l128, l250, l255, l262143, l262144, l30000, l100000, l12345, l1024, l4095, nI_eqs, nI_les, nI_lts, qI_eq, qI_eqn, nI_eqq, qI_lts, nI_ltp, nI_lep, qI_les, nI_add, nI_mul, qI_add, qI_s, qI_def, nI_clamps, bI_z, bI_o, bI_01, n01, n11, rf_some, rf_none, m1, m1n, bft, z0, v0, e, Nat.not_lt_zero, q, decide_true, bI_t]
  · rw [e] at v0
    rw [if_neg (by decide), if_neg (by decide)] at v0
    simp (disch := omega) only [s23_0, s23_1, s23_2, s23_3, s23_4, s23_5, s23_6, s23_7, s23_8, s23_9, s23_10, ↓reduceIte, Option.bind_some, Option.toList_some, Option.toList_none, List.cons_append, List.nil_append, if_true, if_false, true_or, or_true, true_and, and_true, not_true_eq_false, not_false_eq_true, Nat.reduceLT, Nat.reduceLeDiff, Nat.reduceEqDiff, Nat.reduceAdd, Nat.reduceMul, Nat.reduceSub, Nat.reducePow, Nat.reduceMod, Nat.reduceDiv, l0, l1, l2, l3, l4, l5, l6, l7, l8, l9, l10, l11, l12, l13, l14, l15, l16, l20, l31, l32, l36, l40, l48, l57, l59, l63, l64, l97, l99, l100, l101, l122, l127, l128, l250, l255, l262143, l262144, l30000, l100000, l12345, l1024, l4095, nI_eqs, nI_les, nI_lts, qI_eq, qI_eqn, nI_eqq, qI_lts, nI_ltp, nI_lep, qI_les, nI_add, nI_mul, qI_add, qI_s, qI_def, nI_clamps, bI_z, bI_o, bI_01, n01, n11, rf_some, rf_none, m1, m1n, bft, z0, v0, e, Nat.not_lt_zero, decide_true, decide_false, bI_t, bI_f]
theorem x24 (d : Nat) {h : AH} {o : Nat} {t : SHT} (hx : SX h o t) : E d 24 0 [some (.ref o)] [] h = some (some (.int (bI (decide (Hk t = 2)))), h) := by
  obtain ⟨⟨z0, z1, r1⟩, ⟨v0, v1, v2, v3⟩, ⟨k0, k1, k2, k3, k4⟩⟩ := hx
  rcases zz_3 k0 with e | e | e
  · simp (disch := omega) only [s24_0, s24_1, s24_2, s24_3, s24_4, s24_5, s24_6, s24_7, ↓reduceIte, Option.bind_some, Option.toList_some, Option.toList_none, List.cons_append, List.nil_append, if_true, if_false, true_or, or_true, true_and, and_true, not_true_eq_false, not_false_eq_true, Nat.reduceLT, Nat.reduceLeDiff, Nat.reduceEqDiff, Nat.reduceAdd, Nat.reduceMul, Nat.reduceSub, Nat.reducePow, Nat.reduceMod, Nat.reduceDiv, l0, l1, l2, l3, l4, l5, l6, l7, l8, l9, l10, l11, l12, l13, l14, l15, l16, l20, l31, l32, l36, l40, l48, l57, l59, l63, l64, l97, l99, l100, l101, l122, l127, l128, l250, l255, l262143, l262144, l30000, l100000, l12345, l1024, l4095, nI_eqs, nI_les, nI_lts, qI_eq, qI_eqn, nI_eqq, qI_lts, nI_ltp, nI_lep, qI_les, nI_add, nI_mul, qI_add, qI_s, qI_def, nI_clamps, bI_z, bI_o, bI_01, n01, n11, rf_some, rf_none, m1, m1n, bft, z0, v0, e, if_true, decide_true, decide_false, bI_t, bI_f]
  · have := k1 e
    rw [e] at v0
    rw [if_neg (by decide), if_pos rfl] at v0
    have q : ¬ Hs t = 10 := by omega
    simp (disch := omega) only [s24_0, s24_1, s24_2, s24_3, s24_4, s24_5, s24_6, s24_7, ↓reduceIte, Option.bind_some, Option.toList_some, Option.toList_none, List.cons_append, List.nil_append, if_true, if_false, true_or, or_true, true_and, and_true, not_true_eq_false, not_false_eq_true, Nat.reduceLT, Nat.reduceLeDiff, Nat.reduceEqDiff, Nat.reduceAdd, Nat.reduceMul, Nat.reduceSub, Nat.reducePow, Nat.reduceMod, Nat.reduceDiv, l0, l1, l2, l3, l4, l5, l6, l7, l8, l9, l10, l11, l12, l13, l14, l15, l16, l20, l31, l32, l36, l40, l48, l57, l59, l63, l64, l97, l99, l100, l101, l122, l127, l128, l250, l255, l262143, l262144, l30000, l100000, l12345, l1024, l4095, nI_eqs, nI_les, nI_lts, qI_eq, qI_eqn, nI_eqq, qI_lts, nI_ltp, nI_lep, qI_les, nI_add, nI_mul, qI_add, qI_s, qI_def, nI_clamps, bI_z, bI_o, bI_01, n01, n11, rf_some, rf_none, m1, m1n, bft, z0, v0, e, q, decide_true, decide_false, bI_t, bI_f]
  · rw [e] at v0
    rw [if_neg (by decide), if_neg (by decide)] at v0
    simp (disch := omega) only [s24_0, s24_1, s24_2, s24_3, s24_4, s24_5, s24_6, s24_7, ↓reduceIte, Option.bind_some, Option.toList_some, Option.toList_none, List.cons_append, List.nil_append, if_true, if_false, true_or, or_true, true_and, and_true, not_true_eq_false, not_false_eq_true, Nat.reduceLT, Nat.reduceLeDiff, Nat.reduceEqDiff, Nat.reduceAdd, Nat.reduceMul, Nat.reduceSub, Nat.reducePow, Nat.reduceMod, Nat.reduceDiv, l0, l1, l2, l3, l4, l5, l6, l7, l8, l9, l10, l11, l12, l13, l14, l15, l16, l20, l31, l32, l36, l40, l48, l57, l59, l63, l64, l97, l99, l100, l101, l122, l127, l128, l250, l255, l262143, l262144, l30000, l100000, l12345, l1024, l4095, nI_eqs, nI_les, nI_lts, qI_eq, qI_eqn, nI_eqq, qI_lts, nI_ltp, nI_lep, qI_les, nI_add, nI_mul, qI_add, qI_s, qI_def, nI_clamps, bI_z, bI_o, bI_01, n01, n11, rf_some, rf_none, m1, m1n, bft, z0, v0, e, decide_true, decide_false, bI_t, bI_f]
theorem x25 (d : Nat) {h : AH} {o : Nat} {t : SHT} (hx : SX h o t) (x : Int32) : E d 25 0 [some (.ref o), some (.int x)] [] h = some (some (.int (bI (inR x (Hn t)))), h) := by
  have n40 := hx.2.2.n
  obtain ⟨⟨z0, z1, r1⟩, ⟨v0, v1, v2, v3⟩, ⟨k0, k1, k2, k3, k4⟩⟩ := hx
  rcases inR_cases x (n := Hn t) (by omega) with ⟨g, hg, rfl⟩ | ⟨e, e1, e2⟩ | ⟨e, e1, e2, e3, e4, e5⟩
  · have := inR_nI (g := g) (n := Hn t) (by omega) (by omega)
    simp (disch := omega) only [s25_0, s25_1, s25_2, s25_3, s25_4, s25_5, s25_6, s25_7, s25_8, s25_9, ↓reduceIte, Option.bind_some, Option.toList_some, Option.toList_none, List.cons_append, List.nil_append, if_true, if_false, true_or, or_true, true_and, and_true, not_true_eq_false, not_false_eq_true, Nat.reduceLT, Nat.reduceLeDiff, Nat.reduceEqDiff, Nat.reduceAdd, Nat.reduceMul, Nat.reduceSub, Nat.reducePow, Nat.reduceMod, Nat.reduceDiv, l0, l1, l2, l3, l4, l5, l6, l7, l8, l9, l10, l11, l12, l13, l14, l15, l16, l20, l31, l32, l36, l40, l48, l57, l59, l63, l64, l97, l99, l100, l101, l122, l127, l128, l250, l255, l262143, l262144, l30000, l100000, l12345, l1024, l4095, nI_eqs, nI_les, nI_lts, qI_eq, qI_eqn, nI_eqq, qI_lts, nI_ltp, nI_lep, qI_les, nI_add, nI_mul, qI_add, qI_s, qI_def, nI_clamps, bI_z, bI_o, bI_01, n01, n11, rf_some, rf_none, m1, m1n, bft, z0, v2, this, Nat.not_lt_zero, Nat.not_le.mpr hg, hg, decide_true, bI_t]
  · simp (disch := omega) only [s25_0, s25_1, s25_2, s25_3, s25_4, s25_5, s25_6, s25_7, s25_8, s25_9, ↓reduceIte, Option.bind_some, Option.toList_some, Option.toList_none, List.cons_append, List.nil_append, if_true, if_false, true_or, or_true, true_and, and_true, not_true_eq_false, not_false_eq_true, Nat.reduceLT, Nat.reduceLeDiff, Nat.reduceEqDiff, Nat.reduceAdd, Nat.reduceMul, Nat.reduceSub, Nat.reducePow, Nat.reduceMod, Nat.reduceDiv, l0, l1, l2, l3, l4, l5, l6, l7, l8, l9, l10, l11, l12, l13, l14, l15, l16, l20, l31, l32, l36, l40, l48, l57, l59, l63, l64, l97, l99, l100, l101, l122, l127, l128, l250, l255, l262143, l262144, l30000, l100000, l12345, l1024, l4095, nI_eqs, nI_les, nI_lts, qI_eq, qI_eqn, nI_eqq, qI_lts, nI_ltp, nI_lep, qI_les, nI_add, nI_mul, qI_add, qI_s, qI_def, nI_clamps, bI_z, bI_o, bI_01, n01, n11, rf_some, rf_none, m1, m1n, bft, z0, v2, e, e1, bI_f]
  · simp (disch := omega) only [s25_0, s25_1, s25_2, s25_3, s25_4, s25_5, s25_6, s25_7, s25_8, s25_9, ↓reduceIte, Option.bind_some, Option.toList_some, Option.toList_none, List.cons_append, List.nil_append, if_true, if_false, true_or, or_true, true_and, and_true, not_true_eq_false, not_false_eq_true, Nat.reduceLT, Nat.reduceLeDiff, Nat.reduceEqDiff, Nat.reduceAdd, Nat.reduceMul, Nat.reduceSub, Nat.reducePow, Nat.reduceMod, Nat.reduceDiv, l0, l1, l2, l3, l4, l5, l6, l7, l8, l9, l10, l11, l12, l13, l14, l15, l16, l20, l31, l32, l36, l40, l48, l57, l59, l63, l64, l97, l99, l100, l101, l122, l127, l128, l250, l255, l262143, l262144, l30000, l100000, l12345, l1024, l4095, nI_eqs, nI_les, nI_lts, qI_eq, qI_eqn, nI_eqq, qI_lts, nI_ltp, nI_lep, qI_les, nI_add, nI_mul, qI_add, qI_s, qI_def, nI_clamps, bI_z, bI_o, bI_01, n01, n11, rf_some, rf_none, m1, m1n, bft, z0, v2, e, e1, e4, bI_f]
theorem x27 (d : Nat) {h : AH} {o : Nat} {t : SHT} (hx : SX h o t) : ∃ h', E d 27 0 [some (.ref o)] [] h = some (none, h') ∧ SX h' o (sMk 0 0 0 0 (He t)) ∧ Fr0 (blk o 2) h h' := by
  have hA : ∀ j, j < 2 → blk o 2 (o + j) := fun j hj => ⟨by omega, by omega⟩
  have xs := hx.1
  obtain ⟨⟨z0, z1, r1⟩, ⟨v0, v1, v2, v3⟩, ⟨k0, k1, k2, k3, k4⟩⟩ := hx
  refine ⟨stI (stI (stI h o 0 (qI 0)) o 1 (qI 0)) o 2 (nI 0), ?_, ⟨xs, ?_, ?_⟩, ?_⟩
  · simp (disch := omega) only [s27_0, s27_1, s27_2, s27_3, s27_4, s27_5, s27_6, s27_7, s27_8, s27_9, ↓reduceIte, Option.bind_some, Option.toList_some, Option.toList_none, List.cons_append, List.nil_append, if_true, if_false, true_or, or_true, true_and, and_true, not_true_eq_false, not_false_eq_true, Nat.reduceLT, Nat.reduceLeDiff, Nat.reduceEqDiff, Nat.reduceAdd, Nat.reduceMul, Nat.reduceSub, Nat.reducePow, Nat.reduceMod, Nat.reduceDiv, l0, l1, l2, l3, l4, l5, l6, l7, l8, l9, l10, l11, l12, l13, l14, l15, l16, l20, l31, l32, l36, l40, l48, l57, l59, l63, l64, l97, l99, l100, l101, l122, l127, l128, l250, l255, l262143, l262144, l30000, l100000, l12345, l1024, l4095, nI_eqs, nI_les, nI_lts, qI_eq, qI_eqn, nI_eqq, qI_lts, nI_ltp, nI_lep, qI_les, nI_add, nI_mul, qI_add, qI_s, qI_def, nI_clamps, bI_z, bI_o, bI_01, n01, n11, rf_some, rf_none, m1, m1n, bft, z0, ad1, ad2, hI_stI, hS_stI, hR_stI, hL_stI, alen_stI, hI_stL, hL_stL, hS_stL, hR_stL, alen_stL, false_and, and_false, and_self, eq_self]
  · refine ⟨?_, fun q => absurd (show (0 : Nat) = 2 from q) (by decide), ?_, fun i hi => absurd hi (Nat.not_lt_zero i)⟩
    · simp only [hI_stI, Hk, sMk]; rfl
    · simp only [hI_stI, Hn, sMk]; rfl
  · refine ⟨show (0 : Nat) < 3 by decide, fun q => absurd (show (0 : Nat) = 1 from q) (by decide), fun q => absurd (show (0 : Nat) = 1 from q) (by decide), fun _ => rfl, fun q => absurd (show (0 : Nat) = 2 from q) (by decide)⟩
  · exact ((Fr0.stI _ (hA 0 (by decide)) _ _).trans (Fr0.stI _ (hA 0 (by decide)) _ _)).trans (Fr0.stI _ (hA 0 (by decide)) _ _)
theorem x28 (d : Nat) {h : AH} {o : Nat} {t : SHT} (hx : SX h o t) {g : Nat} (hg : g < 6) : ∃ h', E d 28 0 [some (.ref o), some (.int (nI g))] [] h = some (none, h') ∧ SX h' o (sMk 2 0 0 g (He t)) ∧ Fr0 (blk o 2) h h' := by
  have hA : ∀ j, j < 2 → blk o 2 (o + j) := fun j hj => ⟨by omega, by omega⟩
  have xs := hx.1
  obtain ⟨⟨z0, z1, r1⟩, ⟨v0, v1, v2, v3⟩, ⟨k0, k1, k2, k3, k4⟩⟩ := hx
  refine ⟨stI (stI (stI h o 0 (nI 10)) o 1 (nI g)) o 2 (nI 0), ?_, ⟨xs, ?_, ?_⟩, ?_⟩
  · simp (disch := omega) only [s28_0, s28_1, s28_2, s28_3, s28_4, s28_5, s28_6, s28_7, s28_8, s28_9, ↓reduceIte, Option.bind_some, Option.toList_some, Option.toList_none, List.cons_append, List.nil_append, if_true, if_false, true_or, or_true, true_and, and_true, not_true_eq_false, not_false_eq_true, Nat.reduceLT, Nat.reduceLeDiff, Nat.reduceEqDiff, Nat.reduceAdd, Nat.reduceMul, Nat.reduceSub, Nat.reducePow, Nat.reduceMod, Nat.reduceDiv, l0, l1, l2, l3, l4, l5, l6, l7, l8, l9, l10, l11, l12, l13, l14, l15, l16, l20, l31, l32, l36, l40, l48, l57, l59, l63, l64, l97, l99, l100, l101, l122, l127, l128, l250, l255, l262143, l262144, l30000, l100000, l12345, l1024, l4095, nI_eqs, nI_les, nI_lts, qI_eq, qI_eqn, nI_eqq, qI_lts, nI_ltp, nI_lep, qI_les, nI_add, nI_mul, qI_add, qI_s, qI_def, nI_clamps, bI_z, bI_o, bI_01, n01, n11, rf_some, rf_none, m1, m1n, bft, z0, ad1, ad2, hI_stI, hS_stI, hR_stI, hL_stI, alen_stI, hI_stL, hL_stL, hS_stL, hR_stL, alen_stL, false_and, and_false, and_self, eq_self]
  · refine ⟨?_, fun _ => ?_, ?_, fun i hi => absurd hi (Nat.not_lt_zero i)⟩
    · simp only [hI_stI, Hk, sMk]; rfl
    · simp only [hI_stI, Hg, sMk]; rfl
    · simp only [hI_stI, Hn, sMk]; rfl
  · refine ⟨show (2 : Nat) < 3 by decide, fun q => absurd (show (2 : Nat) = 1 from q) (by decide), fun q => absurd (show (2 : Nat) = 1 from q) (by decide), fun _ => rfl, fun _ => hg⟩
  · exact ((Fr0.stI _ (hA 0 (by decide)) _ _).trans (Fr0.stI _ (hA 0 (by decide)) _ _)).trans (Fr0.stI _ (hA 0 (by decide)) _ _)
