/-! SEARCHES of the developers: the run -/
theorem anc_s (P : Nat → Nat) : ∀ n q, anc P (n + 1) q = anc P n (P q) := by
  intro n
  induction n with
  | zero => intro q; rfl
  | succ n ih => intro q; show P (anc P (n + 1) q) = P (anc P n (P q)); rw [ih]
theorem anc_ex {P : Nat → Nat} {c : Nat} (hP : ∀ j, 0 < j → j < c → P j < j) : ∀ q, q < c → ∃ D, D ≤ q ∧ anc P D q = 0 ∧ ∀ t, t < D → 0 < anc P t q := by
  intro q
  induction q using Nat.strongRecOn with
  | ind q ih =>
    intro hq
    rcases Nat.eq_zero_or_pos q with z | z
    · exact ⟨0, Nat.zero_le _, z, fun t ht => absurd ht (Nat.not_lt_zero _)⟩
    · have l := hP q z hq
      obtain ⟨D, d1, d2, d3⟩ := ih (P q) l (by omega)
      refine ⟨D + 1, by omega, by rw [anc_s]; exact d2, fun t ht => ?_⟩
      cases t with
      | zero => exact z
      | succ t => rw [anc_s]; exact d3 t (by omega)
theorem QL.fr {h0 h : AH} {B lh0 e0 c : Nat} {S P C : Nat → Nat} (q : QL h0 h B lh0 e0 c S P C) {i : Nat} (hi : i < c) (d : Nat) : E d 17 0 [some (.ref (B + 28)), some (.int (nI i))] [] h = some (some (.int (nI (P i))), h) := by
  obtain ⟨l, e, sa, ln, sn, k2, kc, fq, hl, hn, hu⟩ := q
  exact x17 d sa ln hi kc
theorem QL.at {h0 h : AH} {B lh0 e0 c : Nat} {S P C : Nat → Nat} (q : QL h0 h B lh0 e0 c S P C) {i : Nat} (hi : i < c) (d : Nat) : E d 16 0 [some (.ref (B + 28)), some (.int (nI i))] [] h = some (some (.int (nI (S i))), h) := by
  obtain ⟨l, e, sa, ln, sn, k2, kc, fq, hl, hn, hu⟩ := q
  rw [← stA_16 ln hi]
  exact x16 d sa (by omega)
theorem QL.c {h0 h : AH} {B lh0 e0 c : Nat} {S P C : Nat → Nat} (q : QL h0 h B lh0 e0 c S P C) : hS h (B + 28) = some (100, 0) ∧ hI h (B + 28) 2 = nI c ∧ c ≤ 262144 ∧ (∀ i, i < c → S i < 262144) := by
  obtain ⟨l, e, sa, ln, sn, k2, kc, fq, hl, hn, hu⟩ := q
  have e9 : 2 ^ e ≤ 2 ^ 8 := Nat.pow_le_pow_right (by decide) sa.2.2.2.2.2.2.2
  exact ⟨sa.1, k2, by omega, fun i hi => (ln i hi).2.1⟩
theorem QL.st {h0 h : AH} {B lh0 e0 c : Nat} {S P C : Nat → Nat} (q : QL h0 h B lh0 e0 c S P C) {k : Nat} (hk : k ≠ 2) (v : Int32) : QL h0 (stI h (B + 28) k v) B lh0 e0 c S P C := by
  obtain ⟨l, e, sa, ln, sn, k2, kc, fq, hl, hn, hu⟩ := q
  have f : Fr0 (fun b => b = B + 28) h (stI h (B + 28) k v) := Fr0.stI (A := fun b => b = B + 28) h rfl k v
  exact ⟨l, e, sa.fr0 f, ln, sn, by rw [hI_stI, if_neg (fun w => hk w.2.symm)]; exact k2, kc, fq.trans (f.fq (l := l) (fun b w => Or.inl w)) hl, hl, hn, hu⟩
theorem QL.xy {h0 h : AH} {B lh0 e0 c : Nat} {S P C : Nat → Nat} (q : QL h0 h B lh0 e0 c S P C) (hl : lh0 = B + 30 ∨ B + 48 ≤ lh0) (hB : B + 48 ≤ hN h0) {y : YS} (x : XY h0 (B + 1) y) : XY h (B + 1) y := by
  obtain ⟨l, e, sa, ln, sn, k2, kc, fq, -⟩ := q
  exact x.kw fq.1 (fun a h1 h2 => ⟨by omega, by omega, by omega, by omega⟩)
theorem x18 (d : Nat) {h0 h : AH} {B lh0 e0 c : Nat} {S P C : Nat → Nat} (q : QL h0 h B lh0 e0 c S P C) {i D : Nat} (hi : i < c) (hD : D ≤ i) (d0 : anc P D i = 0) (d1 : ∀ t, t < D → 0 < anc P t i) (al : ∀ t, anc P t i ≤ i) (p2 p3 : Option Value) : E (d + 1) 18 0 [some (.ref (B + 28)), some (.int (nI i)), p2, p3] [] h = some (some (.int (nI D)), h) := by
  obtain ⟨c1, c2, c3, -⟩ := q.c
  have lp : ∀ m t, t + m = D → E (d + 1) 18 4 [some (.ref (B + 28)), some (.int (nI i)), some (.int (nI t)), some (.int (nI (anc P t i)))] [] h = some (some (.int (nI D)), h) := by
    intro m
    induction m with
    | zero =>
      intro t ht
      have ht' : t = D := ht
      subst ht'
      rw [s18_4, d0]
      simp (disch := omega) only [s18_5, s18_16, s18_17, ↓reduceIte, Option.bind_some, Option.toList_some, Option.toList_none, List.cons_append, List.nil_append, if_true, if_false, true_or, or_true, true_and, and_true, not_true_eq_false, not_false_eq_true, Nat.reduceLT, Nat.reduceLeDiff, Nat.reduceEqDiff, Nat.reduceAdd, Nat.reduceMul, Nat.reduceSub, Nat.reducePow, Nat.reduceMod, Nat.reduceDiv, l0, l1, l2, l3, l4, l5, l6, l7, l8, l9, l10, l11, l12, l13, l14, l15, l16, l20, l31, l32, l36, l40, l48, l57, l59, l63, l64, l97, l99, l100, l101, l122, l127, l128, l250, l255, l262143, l262144, l30000, l100000, l12345, l1024, l4095, nI_eqs, nI_les, nI_lts, qI_eq, qI_eqn, nI_eqq, qI_lts, nI_ltp, nI_lep, qI_les, nI_add, nI_mul, qI_add, qI_s, qI_def, nI_clamps, bI_z, bI_o, bI_01, n01, n11, rf_some, rf_none, m1, m1n, bft, Nat.le_refl]
    | succ m ih =>
      intro t ht
      have z := d1 t (by omega)
      have z' : ¬ anc P t i ≤ 0 := by omega
      have lh1 := al t
      have n1 : ¬ c ≤ t := by omega
      have e17 := fun d => q.fr (i := anc P t i) (by omega) d
      rw [s18_4, ← ih (t + 1) (by omega)]
      simp (disch := omega) only [s18_5, s18_6, s18_7, s18_8, s18_9, s18_10, s18_11, s18_12, s18_13, s18_14, s18_15, ↓reduceIte, Option.bind_some, Option.toList_some, Option.toList_none, List.cons_append, List.nil_append, if_true, if_false, true_or, or_true, true_and, and_true, not_true_eq_false, not_false_eq_true, Nat.reduceLT, Nat.reduceLeDiff, Nat.reduceEqDiff, Nat.reduceAdd, Nat.reduceMul, Nat.reduceSub, Nat.reducePow, Nat.reduceMod, Nat.reduceDiv, l0, l1, l2, l3, l4, l5, l6, l7, l8, l9, l10, l11, l12, l13, l14, l15, l16, l20, l31, l32, l36, l40, l48, l57, l59, l63, l64, l97, l99, l100, l101, l122, l127, l128, l250, l255, l262143, l262144, l30000, l100000, l12345, l1024, l4095, nI_eqs, nI_les, nI_lts, qI_eq, qI_eqn, nI_eqq, qI_lts, nI_ltp, nI_lep, qI_les, nI_add, nI_mul, qI_add, qI_s, qI_def, nI_clamps, bI_z, bI_o, bI_01, n01, n11, rf_some, rf_none, m1, m1n, bft, z', n1, c1, c2, e17]
      rfl
  have e := lp D 0 (by omega)
  simp (disch := omega) only [s18_0, s18_1, s18_2, s18_3, ↓reduceIte, Option.bind_some, Option.toList_some, Option.toList_none, List.cons_append, List.nil_append, if_true, if_false, true_or, or_true, true_and, and_true, not_true_eq_false, not_false_eq_true, Nat.reduceLT, Nat.reduceLeDiff, Nat.reduceEqDiff, Nat.reduceAdd, Nat.reduceMul, Nat.reduceSub, Nat.reducePow, Nat.reduceMod, Nat.reduceDiv, l0, l1, l2, l3, l4, l5, l6, l7, l8, l9, l10, l11, l12, l13, l14, l15, l16, l20, l31, l32, l36, l40, l48, l57, l59, l63, l64, l97, l99, l100, l101, l122, l127, l128, l250, l255, l262143, l262144, l30000, l100000, l12345, l1024, l4095, nI_eqs, nI_les, nI_lts, qI_eq, qI_eqn, nI_eqq, qI_lts, nI_ltp, nI_lep, qI_les, nI_add, nI_mul, qI_add, qI_s, qI_def, nI_clamps, bI_z, bI_o, bI_01, n01, n11, rf_some, rf_none, m1, m1n, bft]
  exact e
theorem x21 (d : Nat) {h0 h : AH} {B lh0 e0 c : Nat} {S P C : Nat → Nat} (q : QL h0 h B lh0 e0 c S P C) {G D m : Nat} (hG : G < c) (hD : D ≤ G) (hm : m < D) (k3 : hI h (B + 28) 3 = nI G) (k4 : hI h (B + 28) 4 = nI D) (d1 : ∀ t, t < D → 0 < anc P t G) (al : ∀ t, anc P t G ≤ G) (p2 p3 : Option Value) : E (d + 1) 21 0 [some (.ref (B + 28)), some (.int (nI m)), p2, p3] [] h = some (some (.int (nI (C (anc P (D - 1 - m) G)))), h) := by
  obtain ⟨c1, c2, c3, -⟩ := q.c
  have lp : ∀ n t, t + n = D - 1 - m → E (d + 1) 21 10 [some (.ref (B + 28)), some (.int (nI m)), some (.int (nI (anc P t G))), some (.int (nI n))] [] h = some (some (.int (nI (C (anc P (D - 1 - m) G)))), h) := by
    intro n
    induction n with
    | zero =>
      intro t ht
      have ht' : t = D - 1 - m := ht
      rw [← ht']
      have lh1 := al t
      obtain ⟨l, e, sa, ln, sn, k2, kc, fq, hl, hn, hu⟩ := q
      have e9 : 2 ^ e ≤ 2 ^ 8 := Nat.pow_le_pow_right (by decide) sa.2.2.2.2.2.2.2
      obtain ⟨b1, b2, b3, b4⟩ := ln (anc P t G) (by omega)
      obtain ⟨w1, w2, w3, w4⟩ := wk3_f b2 b3 b4
      obtain ⟨a1, a2, a3, a4, a5, a6, a7, a8⟩ := sa
      have sh : lN (wk3 (S (anc P t G)) (P (anc P t G)) (C (anc P t G))) >>> (lN 36 &&& lN 63) = lN (C (anc P t G)) := by
        have := lN_shr (k := 36) w1 (by decide)
        rw [this]
        exact congrArg lN w4
      rw [s21_10]
      simp (disch := omega) only [s21_11, s21_20, s21_21, s21_22, s21_23, s21_24, s21_25, s21_26, s21_27, ↓reduceIte, Option.bind_some, Option.toList_some, Option.toList_none, List.cons_append, List.nil_append, if_true, if_false, true_or, or_true, true_and, and_true, not_true_eq_false, not_false_eq_true, Nat.reduceLT, Nat.reduceLeDiff, Nat.reduceEqDiff, Nat.reduceAdd, Nat.reduceMul, Nat.reduceSub, Nat.reducePow, Nat.reduceMod, Nat.reduceDiv, l0, l1, l2, l3, l4, l5, l6, l7, l8, l9, l10, l11, l12, l13, l14, l15, l16, l20, l31, l32, l36, l40, l48, l57, l59, l63, l64, l97, l99, l100, l101, l122, l127, l128, l250, l255, l262143, l262144, l30000, l100000, l12345, l1024, l4095, nI_eqs, nI_les, nI_lts, qI_eq, qI_eqn, nI_eqq, qI_lts, nI_ltp, nI_lep, qI_les, nI_add, nI_mul, qI_add, qI_s, qI_def, nI_clamps, bI_z, bI_o, bI_01, n01, n11, rf_some, rf_none, m1, m1n, bft, Nat.le_refl, j63, nI_l, a1, a4, gA a7, b1, sh, lN_i3]
    | succ n ih =>
      intro t ht
      have z := d1 t (by omega)
      have z' : ¬ anc P t G ≤ 0 := by omega
      have lh1 := al t
      have n1 : ¬ n + 1 ≤ 0 := by omega
      have e17 := fun d => q.fr (i := anc P t G) (by omega) d
      have dc : nI (n + 1) + qI 0 = nI n := by
        rw [← nI_add n 1]
        show nI n + nI 1 + (nI 0 - nI 1) = nI n
        rw [Int32.add_assoc, show nI 1 + (nI 0 - nI 1) = nI 0 by decide, nI_add]; rfl
      rw [s21_10, ← ih (t + 1) (by omega)]
      simp (disch := omega) only [s21_11, s21_12, s21_13, s21_14, s21_15, s21_16, s21_17, s21_18, s21_19, ↓reduceIte, Option.bind_some, Option.toList_some, Option.toList_none, List.cons_append, List.nil_append, if_true, if_false, true_or, or_true, true_and, and_true, not_true_eq_false, not_false_eq_true, Nat.reduceLT, Nat.reduceLeDiff, Nat.reduceEqDiff, Nat.reduceAdd, Nat.reduceMul, Nat.reduceSub, Nat.reducePow, Nat.reduceMod, Nat.reduceDiv, l0, l1, l2, l3, l4, l5, l6, l7, l8, l9, l10, l11, l12, l13, l14, l15, l16, l20, l31, l32, l36, l40, l48, l57, l59, l63, l64, l97, l99, l100, l101, l122, l127, l128, l250, l255, l262143, l262144, l30000, l100000, l12345, l1024, l4095, nI_eqs, nI_les, nI_lts, qI_eq, qI_eqn, nI_eqq, qI_lts, nI_ltp, nI_lep, qI_les, nI_add, nI_mul, qI_add, qI_s, qI_def, nI_clamps, bI_z, bI_o, bI_01, n01, n11, rf_some, rf_none, m1, m1n, bft, z', n1, c1, e17, dc]
      rfl
  have e := lp (D - 1 - m) 0 (by omega)
  have sb : qI D - nI m = nI (D - 1 - m) := by
    obtain ⟨D', rfl⟩ : ∃ D', D = D' + 1 := ⟨D - 1, by omega⟩
    rw [qI_s, nI_sub (by omega)]; congr 1
  simp (disch := omega) only [s21_0, s21_1, s21_2, s21_3, s21_4, s21_5, s21_6, s21_7, s21_8, s21_9, ↓reduceIte, Option.bind_some, Option.toList_some, Option.toList_none, List.cons_append, List.nil_append, if_true, if_false, true_or, or_true, true_and, and_true, not_true_eq_false, not_false_eq_true, Nat.reduceLT, Nat.reduceLeDiff, Nat.reduceEqDiff, Nat.reduceAdd, Nat.reduceMul, Nat.reduceSub, Nat.reducePow, Nat.reduceMod, Nat.reduceDiv, l0, l1, l2, l3, l4, l5, l6, l7, l8, l9, l10, l11, l12, l13, l14, l15, l16, l20, l31, l32, l36, l40, l48, l57, l59, l63, l64, l97, l99, l100, l101, l122, l127, l128, l250, l255, l262143, l262144, l30000, l100000, l12345, l1024, l4095, nI_eqs, nI_les, nI_lts, qI_eq, qI_eqn, nI_eqq, qI_lts, nI_ltp, nI_lep, qI_les, nI_add, nI_mul, qI_add, qI_s, qI_def, nI_clamps, bI_z, bI_o, bI_01, n01, n11, rf_some, rf_none, m1, m1n, bft, c1, k3, k4, sb]
  exact e
theorem x20 (d : Nat) {h0 h : AH} {B lh0 e0 c : Nat} {S P C : Nat → Nat} {y : YS} (q : QL h0 h B lh0 e0 c S P C) (xy : XY h (B + 1) y) (h3 : Yg y ≤ 3) (n3 : Yn y ≤ 3) (hc : 0 < c) (v : VN y (S 0)) {D : Nat} (k4 : hI h (B + 28) 4 = nI D) (p2 p3 : Option Value) : E (d + 1) 20 0 [some (.ref (B + 28)), some (.ref (B + 1)), p2, p3] [] h = some (some (.int (nI D - nI (LSu y (plc (S 0)) (Yn y)))), h) := by
  obtain ⟨c1, c2, -⟩ := q.c
  have e16 := fun d => q.at hc d
  have s18 := v.1
  obtain ⟨⟨z0, -⟩, ⟨-, vg, vn, -⟩, -⟩ := xy
  have lp : ∀ m i, i + m = Yn y → E (d + 1) 20 4 [some (.ref (B + 28)), some (.ref (B + 1)), some (.int (nI (LSu y (plc (S 0)) i))), some (.int (nI i))] [] h = some (some (.int (nI D - nI (LSu y (plc (S 0)) (Yn y)))), h) := by
    intro m
    induction m with
    | zero =>
      intro i hi
      have hi' : i = Yn y := hi
      subst hi'
      rw [s20_4]
      simp (disch := omega) only [s20_5, s20_6, s20_7, s20_27, s20_28, s20_29, s20_30, s20_31, ↓reduceIte, Option.bind_some, Option.toList_some, Option.toList_none, List.cons_append, List.nil_append, if_true, if_false, true_or, or_true, true_and, and_true, not_true_eq_false, not_false_eq_true, Nat.reduceLT, Nat.reduceLeDiff, Nat.reduceEqDiff, Nat.reduceAdd, Nat.reduceMul, Nat.reduceSub, Nat.reducePow, Nat.reduceMod, Nat.reduceDiv, l0, l1, l2, l3, l4, l5, l6, l7, l8, l9, l10, l11, l12, l13, l14, l15, l16, l20, l31, l32, l36, l40, l48, l57, l59, l63, l64, l97, l99, l100, l101, l122, l127, l128, l250, l255, l262143, l262144, l30000, l100000, l12345, l1024, l4095, nI_eqs, nI_les, nI_lts, qI_eq, qI_eqn, nI_eqq, qI_lts, nI_ltp, nI_lep, qI_les, nI_add, nI_mul, qI_add, qI_s, qI_def, nI_clamps, bI_z, bI_o, bI_01, n01, n11, rf_some, rf_none, m1, m1n, bft, z0, vn, c1, k4, Nat.le_refl]
    | succ m ih =>
      intro i hi
      have h1' : ¬ Yn y ≤ i := by omega
      have sh : nI (S 0) >>> (nI (12 + 2 * i) &&& nI 31) = nI (S 0 / 2 ^ (12 + 2 * i)) := nI_shr (by omega) (by omega)
      have an : nI (S 0 / 2 ^ (12 + 2 * i)) &&& nI 3 = nI (plc (S 0) i) := by rw [nI_and, and3m]; rfl
      have sb : nI (Yg y) - nI (plc (S 0) i) = nI (Yg y - plc (S 0) i) := nI_sub ((v.2.2 i (by omega)).1 (by omega))
      have L : LSu y (plc (S 0)) (i + 1) = LSu y (plc (S 0)) i + (Yg y - plc (S 0) i) := rfl
      rw [s20_4, ← ih (i + 1) (by omega), L]
      simp (disch := omega) only [s20_5, s20_6, s20_7, s20_8, s20_9, s20_10, s20_11, s20_12, s20_13, s20_14, s20_15, s20_16, s20_17, s20_18, s20_19, s20_20, s20_21, s20_22, s20_23, s20_24, s20_25, s20_26, ↓reduceIte, Option.bind_some, Option.toList_some, Option.toList_none, List.cons_append, List.nil_append, if_true, if_false, true_or, or_true, true_and, and_true, not_true_eq_false, not_false_eq_true, Nat.reduceLT, Nat.reduceLeDiff, Nat.reduceEqDiff, Nat.reduceAdd, Nat.reduceMul, Nat.reduceSub, Nat.reducePow, Nat.reduceMod, Nat.reduceDiv, l0, l1, l2, l3, l4, l5, l6, l7, l8, l9, l10, l11, l12, l13, l14, l15, l16, l20, l31, l32, l36, l40, l48, l57, l59, l63, l64, l97, l99, l100, l101, l122, l127, l128, l250, l255, l262143, l262144, l30000, l100000, l12345, l1024, l4095, nI_eqs, nI_les, nI_lts, qI_eq, qI_eqn, nI_eqq, qI_lts, nI_ltp, nI_lep, qI_les, nI_add, nI_mul, qI_add, qI_s, qI_def, nI_clamps, bI_z, bI_o, bI_01, n01, n11, rf_some, rf_none, m1, m1n, bft, z0, vg, vn, h1', c1, e16, sh, an, sb]
  have e := lp (Yn y) 0 (by omega)
  simp (disch := omega) only [s20_0, s20_1, s20_2, s20_3, ↓reduceIte, Option.bind_some, Option.toList_some, Option.toList_none, List.cons_append, List.nil_append, if_true, if_false, true_or, or_true, true_and, and_true, not_true_eq_false, not_false_eq_true, Nat.reduceLT, Nat.reduceLeDiff, Nat.reduceEqDiff, Nat.reduceAdd, Nat.reduceMul, Nat.reduceSub, Nat.reducePow, Nat.reduceMod, Nat.reduceDiv, l0, l1, l2, l3, l4, l5, l6, l7, l8, l9, l10, l11, l12, l13, l14, l15, l16, l20, l31, l32, l36, l40, l48, l57, l59, l63, l64, l97, l99, l100, l101, l122, l127, l128, l250, l255, l262143, l262144, l30000, l100000, l12345, l1024, l4095, nI_eqs, nI_les, nI_lts, qI_eq, qI_eqn, nI_eqq, qI_lts, nI_ltp, nI_lep, qI_les, nI_add, nI_mul, qI_add, qI_s, qI_def, nI_clamps, bI_z, bI_o, bI_01, n01, n11, rf_some, rf_none, m1, m1n, bft]
  exact e
