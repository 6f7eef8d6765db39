/-! THE DEVELOPERS' MORNINGS: the calls -/
theorem stY_no (y : YS) : stY y (qI 0) = y := by
  unfold stY
  rw [if_neg]
  intro h
  unfold inR at h
  rw [Bool.and_eq_true, decide_eq_true_iff] at h
  exact absurd h.1 (by decide)
theorem wI_no (o : Option Nat) (h : ∀ i, o = some i → i < 2 ^ 30) : (wI o = qI 0) = (o = none) := by
  cases o with
  | none => exact propext ⟨fun _ => rfl, fun _ => rfl⟩
  | some i =>
    have := h i rfl
    show (nI i = qI 0) = _
    rw [nI_eqq (by omega) (by decide)]
    exact propext ⟨fun q => absurd q (by omega), fun q => by cases q⟩
theorem gW_lt (e : Nat → Int64) : ∀ (m i : Nat) (y : YS) (j : Nat), (gW e m i y).1 = some j → j < i + m := by
  intro m
  induction m with
  | zero => intro i y j h; cases h
  | succ m ih =>
    intro i y j h
    unfold gW at h
    split at h
    · split at h
      · split at h
        · have := ih _ _ _ h; omega
        · cases h; omega
      · cases h; omega
    · cases h; omega
def s_judge (s : GS) (x n : Int32) : Int32 × GS := if mrK (gH s) true x n = 0 then (wI (gW (He (gH s x.toNatClampNeg)) n.toNatClampNeg 0 (gY s)).1, s) else rfS s (mrK (gH s) true x n)
theorem c104 (d : Nat) {h : AH} {B : Nat} {s : GS} (hx : DX h B s) (x n : Int32) (p : Option Value) : DC (d + 5) 104 [some (.ref B), some (.int x), some (.int n), p] h B (s_judge s x n) := by
  obtain ⟨⟨b0, b1, b2, b3, b4, b5, b6, b7⟩, xy, ⟨k0, k1⟩, xh, ⟨t0, t1, t2, t3, t4, t5⟩, rx, qx⟩ := id hx; have e131 := c131e hx
  have e108 := fun d => x108 d xh true x n
  simp only [bI_t] at e108
  unfold s_judge
  have kl := strK_lt (gH s) (true && inR n 41) x n
  change mrK (gH s) true x n ≤ 6 ∧ _ at kl
  by_cases a : mrK (gH s) true x n = 0
  · rw [if_pos a]
    simp only [a, if_true] at e108
    obtain ⟨-, k, hk, rfl, w, hn⟩ := strK_0 a; have sx := (xh.2.2.2 k hk).2; have n40 := sx.2.2.n; obtain ⟨n', hn', rfl⟩ := inR_of (by omega) hn; rw [nI_clamp (show k < 2 ^ 31 by omega), nI_clamp (show n' < 2 ^ 31 by omega)]
    obtain ⟨h', e, q, f⟩ := x109 d hx hk w (show n' ≤ Hn (gH s k) by omega) (qI 0) none none none none
    rw [stY_no] at e q
    have D := hx.th f
    refine ⟨h', ?_, D⟩
    simp (disch := omega) only [s104_0, s104_1, s104_2, s104_3, s104_4, s104_5, s104_6, s104_7, s104_8, s104_9, s104_10, s104_11, s104_12, s104_13, s104_14, s104_15, s104_16, s104_17, ↓reduceIte, Option.bind_some, Option.toList_some, Option.toList_none, List.cons_append, List.nil_append, if_true, if_false, true_or, or_true, true_and, and_true, not_true_eq_false, not_false_eq_true, Nat.reduceLT, Nat.reduceLeDiff, Nat.reduceEqDiff, Nat.reduceAdd, Nat.reduceMul, Nat.reduceSub, Nat.reducePow, Nat.reduceMod, Nat.reduceDiv, l0, l1, l2, l3, l4, l5, l6, l7, l8, l9, l10, l11, l12, l13, l14, l15, l16, l20, l31, l32, l36, l40, l48, l57, l59, l63, l64, l97, l99, l100, l101, l122, l127, l128, l250, l255, l262143, l262144, l30000, l100000, l12345, l1024, l4095, nI_eqs, nI_les, nI_lts, qI_eq, qI_eqn, nI_eqq, qI_lts, nI_ltp, nI_lep, qI_les, nI_add, nI_mul, qI_add, qI_s, qI_def, nI_clamps, bI_z, bI_o, bI_01, n01, n11, rf_some, rf_none, m1, m1n, bft, b0, e108, e]
  · rw [if_neg a]
    simp only [a, if_false] at e108
    have k2 : 2 ≤ mrK (gH s) true x n := kl.2 a
    have k6 : mrK (gH s) true x n ≤ 6 := kl.1
    refine DC.rf hx k2 k6 ?_
    have ne := rN_ne k2 k6
    simp (disch := omega) only [s104_0, s104_1, s104_2, s104_3, s104_4, s104_5, s104_6, s104_7, s104_8, s104_9, s104_10, s104_11, s104_12, s104_13, s104_14, s104_15, s104_16, s104_17, ↓reduceIte, Option.bind_some, Option.toList_some, Option.toList_none, List.cons_append, List.nil_append, if_true, if_false, true_or, or_true, true_and, and_true, not_true_eq_false, not_false_eq_true, Nat.reduceLT, Nat.reduceLeDiff, Nat.reduceEqDiff, Nat.reduceAdd, Nat.reduceMul, Nat.reduceSub, Nat.reducePow, Nat.reduceMod, Nat.reduceDiv, l0, l1, l2, l3, l4, l5, l6, l7, l8, l9, l10, l11, l12, l13, l14, l15, l16, l20, l31, l32, l36, l40, l48, l57, l59, l63, l64, l97, l99, l100, l101, l122, l127, l128, l250, l255, l262143, l262144, l30000, l100000, l12345, l1024, l4095, nI_eqs, nI_les, nI_lts, qI_eq, qI_eqn, nI_eqq, qI_lts, nI_ltp, nI_lep, qI_les, nI_add, nI_mul, qI_add, qI_s, qI_def, nI_clamps, bI_z, bI_o, bI_01, n01, n11, rf_some, rf_none, m1, m1n, bft, b0, e108, ne, e131]
def s_morning (s : GS) (x n : Int32) : Int32 × GS := if mrK (gH s) true x n = 0 then (if (gW (He (gH s x.toNatClampNeg)) n.toNatClampNeg 0 (gY s)).1 = none then (scrN (gW (He (gH s x.toNatClampNeg)) n.toNatClampNeg 0 (gY s)).2 - scrN (gY s), pY s (gW (He (gH s x.toNatClampNeg)) n.toNatClampNeg 0 (gY s)).2) else rfS s 5) else rfS s (mrK (gH s) true x n)
theorem c105 (d : Nat) {h : AH} {B : Nat} {s : GS} (hx : DX h B s) (x n : Int32) (p3 p4 : Option Value) : DC (d + 5) 105 [some (.ref B), some (.int x), some (.int n), p3, p4] h B (s_morning s x n) := by
  obtain ⟨⟨b0, b1, b2, b3, b4, b5, b6, b7⟩, xy, ⟨k0, k1⟩, xh, ⟨t0, t1, t2, t3, t4, t5⟩, rx, qx⟩ := id hx; have e131 := c131e hx
  have e108 := fun d => x108 d xh true x n
  simp only [bI_t] at e108
  unfold s_morning
  have kl := strK_lt (gH s) (true && inR n 41) x n
  change mrK (gH s) true x n ≤ 6 ∧ _ at kl
  by_cases a : mrK (gH s) true x n = 0
  · rw [if_pos a]
    simp only [a, if_true] at e108
    obtain ⟨-, k, hk, rfl, w, hn⟩ := strK_0 a; have sx := (xh.2.2.2 k hk).2; have n40 := sx.2.2.n; obtain ⟨n', hn', rfl⟩ := inR_of (by omega) hn; rw [nI_clamp (show k < 2 ^ 31 by omega), nI_clamp (show n' < 2 ^ 31 by omega)]
    obtain ⟨h', e, q, f⟩ := x109 d hx hk w (show n' ≤ Hn (gH s k) by omega) (qI 0) none none none none
    rw [stY_no] at e q
    have D := hx.th f
    have gl := gW_lt (He (gH s k)) n' 0 (gY s)
    have wn := wI_no (gW (He (gH s k)) n' 0 (gY s)).1 (fun i hi => by have := gl i hi; omega)
    generalize gW (He (gH s k)) n' 0 (gY s) = r at *
    have c0 := D.1.1.1
    have c1 := D.1.1.2.1
    have c2 := D.1.1.2.2.1
    have y0 := q.1.1
    have y1 := D.1.2.1.1.1
    by_cases v : r.1 = none
    · rw [if_pos v]
      have wq := wn.mpr v
      have e73 := fun d => x73 d q none none
      have e73' := fun d => x73 d D.1.2.1 none none
      obtain ⟨h2, e59, q2, f2⟩ := x59 (d + 4) D.1.2.1.1 q (Or.inr (by omega))
      have D2 := D.1.y q2 f2
      refine ⟨h2, ?_, D2.1, D.2.trans D2.2⟩
      simp (disch := omega) only [s105_0, s105_1, s105_2, s105_3, s105_4, s105_5, s105_6, s105_7, s105_8, s105_9, s105_10, s105_11, s105_12, s105_13, s105_14, s105_15, s105_16, s105_17, s105_18, s105_19, s105_20, s105_21, s105_22, s105_23, s105_24, s105_25, s105_26, s105_27, s105_28, s105_29, s105_30, s105_31, s105_32, s105_33, s105_34, s105_35, s105_36, s105_37, ↓reduceIte, Option.bind_some, Option.toList_some, Option.toList_none, List.cons_append, List.nil_append, if_true, if_false, true_or, or_true, true_and, and_true, not_true_eq_false, not_false_eq_true, Nat.reduceLT, Nat.reduceLeDiff, Nat.reduceEqDiff, Nat.reduceAdd, Nat.reduceMul, Nat.reduceSub, Nat.reducePow, Nat.reduceMod, Nat.reduceDiv, l0, l1, l2, l3, l4, l5, l6, l7, l8, l9, l10, l11, l12, l13, l14, l15, l16, l20, l31, l32, l36, l40, l48, l57, l59, l63, l64, l97, l99, l100, l101, l122, l127, l128, l250, l255, l262143, l262144, l30000, l100000, l12345, l1024, l4095, nI_eqs, nI_les, nI_lts, qI_eq, qI_eqn, nI_eqq, qI_lts, nI_ltp, nI_lep, qI_les, nI_add, nI_mul, qI_add, qI_s, qI_def, nI_clamps, bI_z, bI_o, bI_01, n01, n11, rf_some, rf_none, m1, m1n, bft, b0, e108, e, wq, c0, c1, c2, y0, y1, e73, e73', e59]
    · rw [if_neg v]
      have wq : ¬ wI r.1 = qI 0 := fun q => v (wn.mp q)
      have e131' := c131e D.1
      have D2 := D.1.rf (k := 5) (by decide) (by decide)
      refine ⟨_, ?_, D2.1, D.2.trans D2.2⟩
      simp (disch := omega) only [s105_0, s105_1, s105_2, s105_3, s105_4, s105_5, s105_6, s105_7, s105_8, s105_9, s105_10, s105_11, s105_12, s105_13, s105_14, s105_15, s105_16, s105_17, s105_18, s105_19, s105_20, s105_21, s105_22, s105_23, s105_24, s105_25, s105_26, s105_27, s105_28, s105_29, s105_30, s105_31, s105_32, s105_33, s105_34, s105_35, s105_36, s105_37, ↓reduceIte, Option.bind_some, Option.toList_some, Option.toList_none, List.cons_append, List.nil_append, if_true, if_false, true_or, or_true, true_and, and_true, not_true_eq_false, not_false_eq_true, Nat.reduceLT, Nat.reduceLeDiff, Nat.reduceEqDiff, Nat.reduceAdd, Nat.reduceMul, Nat.reduceSub, Nat.reducePow, Nat.reduceMod, Nat.reduceDiv, l0, l1, l2, l3, l4, l5, l6, l7, l8, l9, l10, l11, l12, l13, l14, l15, l16, l20, l31, l32, l36, l40, l48, l57, l59, l63, l64, l97, l99, l100, l101, l122, l127, l128, l250, l255, l262143, l262144, l30000, l100000, l12345, l1024, l4095, nI_eqs, nI_les, nI_lts, qI_eq, qI_eqn, nI_eqq, qI_lts, nI_ltp, nI_lep, qI_les, nI_add, nI_mul, qI_add, qI_s, qI_def, nI_clamps, bI_z, bI_o, bI_01, n01, n11, rf_some, rf_none, m1, m1n, bft, b0, e108, e, wq, c0, rN_d, e131']
      rfl
  · rw [if_neg a]
    simp only [a, if_false] at e108
    have k2 : 2 ≤ mrK (gH s) true x n := kl.2 a
    have k6 : mrK (gH s) true x n ≤ 6 := kl.1
    refine DC.rf hx k2 k6 ?_
    have ne := rN_ne k2 k6
    simp (disch := omega) only [s105_0, s105_1, s105_2, s105_3, s105_4, s105_5, s105_6, s105_7, s105_8, s105_9, s105_10, s105_11, s105_12, s105_13, s105_14, s105_15, s105_16, s105_17, s105_18, s105_19, s105_20, s105_21, s105_22, s105_23, s105_24, s105_25, s105_26, s105_27, s105_28, s105_29, s105_30, s105_31, s105_32, s105_33, s105_34, s105_35, s105_36, s105_37, ↓reduceIte, Option.bind_some, Option.toList_some, Option.toList_none, List.cons_append, List.nil_append, if_true, if_false, true_or, or_true, true_and, and_true, not_true_eq_false, not_false_eq_true, Nat.reduceLT, Nat.reduceLeDiff, Nat.reduceEqDiff, Nat.reduceAdd, Nat.reduceMul, Nat.reduceSub, Nat.reducePow, Nat.reduceMod, Nat.reduceDiv, l0, l1, l2, l3, l4, l5, l6, l7, l8, l9, l10, l11, l12, l13, l14, l15, l16, l20, l31, l32, l36, l40, l48, l57, l59, l63, l64, l97, l99, l100, l101, l122, l127, l128, l250, l255, l262143, l262144, l30000, l100000, l12345, l1024, l4095, nI_eqs, nI_les, nI_lts, qI_eq, qI_eqn, nI_eqq, qI_lts, nI_ltp, nI_lep, qI_les, nI_add, nI_mul, qI_add, qI_s, qI_def, nI_clamps, bI_z, bI_o, bI_01, n01, n11, rf_some, rf_none, m1, m1n, bft, b0, e108, ne, e131]
def s_behind (s : GS) (x n c : Int32) : Int32 × GS := if mrK (gH s) (inR c (Yn (gY s))) x n = 0 then (if (gW (He (gH s x.toNatClampNeg)) n.toNatClampNeg 0 (gY s)).1 = none then (nI (YP (gW (He (gH s x.toNatClampNeg)) n.toNatClampNeg 0 (gY s)).2 c.toNatClampNeg), s) else rfS s 5) else rfS s (mrK (gH s) (inR c (Yn (gY s))) x n)
theorem gW_n (e : Nat → Int64) : ∀ (m i : Nat) (y : YS), Yn (gW e m i y).2 = Yn y ∧ Yg (gW e m i y).2 = Yg y ∧ Yc (gW e m i y).2 = Yc y := by
  intro m
  induction m with
  | zero => intro i y; exact ⟨rfl, rfl, rfl⟩
  | succ m ih =>
    intro i y
    unfold gW
    split
    · split
      · split
        · have a := ih (i + 1) (tryY y ((e i).toInt.toNat / 2))
          have b := tryY_n y ((e i).toInt.toNat / 2)
          exact ⟨a.1.trans b.1, a.2.1.trans b.2.1, a.2.2.trans b.2.2⟩
        · exact tryY_n y _
      · exact ⟨rfl, rfl, rfl⟩
    · exact ⟨rfl, rfl, rfl⟩
theorem c106 (d : Nat) {h : AH} {B : Nat} {s : GS} (hx : DX h B s) (x n c : Int32) (p4 : Option Value) : DC (d + 5) 106 [some (.ref B), some (.int x), some (.int n), some (.int c), p4] h B (s_behind s x n c) := by
  obtain ⟨⟨b0, b1, b2, b3, b4, b5, b6, b7⟩, xy, ⟨k0, k1⟩, xh, ⟨t0, t1, t2, t3, t4, t5⟩, rx, qx⟩ := id hx; have e131 := c131e hx
  have e63 := fun d => x63 d xy c
  have yy0 := xy.1.1
  have e108 := fun d => x108 d xh (inR c (Yn (gY s))) x n
  unfold s_behind
  have kl := strK_lt (gH s) (inR c (Yn (gY s)) && inR n 41) x n
  change mrK (gH s) (inR c (Yn (gY s))) x n ≤ 6 ∧ _ at kl
  by_cases a : mrK (gH s) (inR c (Yn (gY s))) x n = 0
  · rw [if_pos a]
    simp only [a, if_true] at e108
    have cc : inR c (Yn (gY s)) = true := by
      have := (strK_0 a).1
      rw [Bool.and_eq_true] at this
      exact this.1
    obtain ⟨-, k, hk, rfl, w, hn⟩ := strK_0 a; have sx := (xh.2.2.2 k hk).2; have n40 := sx.2.2.n; obtain ⟨n', hn', rfl⟩ := inR_of (by omega) hn; rw [nI_clamp (show k < 2 ^ 31 by omega), nI_clamp (show n' < 2 ^ 31 by omega)]
    obtain ⟨h', e, q, f⟩ := x109 d hx hk w (show n' ≤ Hn (gH s k) by omega) (qI 0) none none none none
    rw [stY_no] at e q
    have D := hx.th f
    have gl := gW_lt (He (gH s k)) n' 0 (gY s)
    have gn := gW_n (He (gH s k)) n' 0 (gY s)
    have wn := wI_no (gW (He (gH s k)) n' 0 (gY s)).1 (fun i hi => by have := gl i hi; omega)
    generalize gW (He (gH s k)) n' 0 (gY s) = r at *
    have c0 := D.1.1.1
    have c2 := D.1.1.2.2.1
    have y0 := q.1.1
    by_cases v : r.1 = none
    · rw [if_pos v]
      have wq := wn.mpr v
      have on := q.2.2.2.2.1
      obtain ⟨j, hj, rfl⟩ := inR_of (by omega) cc
      rw [nI_clamp (show j < 2 ^ 31 by omega)]
      have k1 : hR h' (B + 9) 11 = some (B + 9 + 7) := q.1.2.2.2.2.2.2.2.2.2.2.2.2.2.2
      have k2 : hS h' (B + 9 + 7) = some (0, 6) := q.1.2.2.2.2.2.2.2.1
      have k3 := q.2.1.2.2.2.2.2.2.2.2.2.2.2 j (by omega)
      refine ⟨h', ?_, D.1, D.2⟩
      simp (disch := omega) only [s106_0, s106_1, s106_2, s106_3, s106_4, s106_5, s106_6, s106_7, s106_8, s106_9, s106_10, s106_11, s106_12, s106_13, s106_14, s106_15, s106_16, s106_17, s106_18, s106_19, s106_20, s106_21, s106_22, s106_23, s106_24, s106_25, s106_26, s106_27, s106_28, s106_29, s106_30, s106_31, ↓reduceIte, Option.bind_some, Option.toList_some, Option.toList_none, List.cons_append, List.nil_append, if_true, if_false, true_or, or_true, true_and, and_true, not_true_eq_false, not_false_eq_true, Nat.reduceLT, Nat.reduceLeDiff, Nat.reduceEqDiff, Nat.reduceAdd, Nat.reduceMul, Nat.reduceSub, Nat.reducePow, Nat.reduceMod, Nat.reduceDiv, l0, l1, l2, l3, l4, l5, l6, l7, l8, l9, l10, l11, l12, l13, l14, l15, l16, l20, l31, l32, l36, l40, l48, l57, l59, l63, l64, l97, l99, l100, l101, l122, l127, l128, l250, l255, l262143, l262144, l30000, l100000, l12345, l1024, l4095, nI_eqs, nI_les, nI_lts, qI_eq, qI_eqn, nI_eqq, qI_lts, nI_ltp, nI_lep, qI_les, nI_add, nI_mul, qI_add, qI_s, qI_def, nI_clamps, bI_z, bI_o, bI_01, n01, n11, rf_some, rf_none, m1, m1n, bft, b0, b1, yy0, e63, e108, e, wq, c0, c2, y0, k1, gI k2, k3]
    · rw [if_neg v]
      have wq : ¬ wI r.1 = qI 0 := fun q => v (wn.mp q)
      have e131' := c131e D.1
      have D2 := D.1.rf (k := 5) (by decide) (by decide)
      refine ⟨_, ?_, D2.1, D.2.trans D2.2⟩
      simp (disch := omega) only [s106_0, s106_1, s106_2, s106_3, s106_4, s106_5, s106_6, s106_7, s106_8, s106_9, s106_10, s106_11, s106_12, s106_13, s106_14, s106_15, s106_16, s106_17, s106_18, s106_19, s106_20, s106_21, s106_22, s106_23, s106_24, s106_25, s106_26, s106_27, s106_28, s106_29, s106_30, s106_31, ↓reduceIte, Option.bind_some, Option.toList_some, Option.toList_none, List.cons_append, List.nil_append, if_true, if_false, true_or, or_true, true_and, and_true, not_true_eq_false, not_false_eq_true, Nat.reduceLT, Nat.reduceLeDiff, Nat.reduceEqDiff, Nat.reduceAdd, Nat.reduceMul, Nat.reduceSub, Nat.reducePow, Nat.reduceMod, Nat.reduceDiv, l0, l1, l2, l3, l4, l5, l6, l7, l8, l9, l10, l11, l12, l13, l14, l15, l16, l20, l31, l32, l36, l40, l48, l57, l59, l63, l64, l97, l99, l100, l101, l122, l127, l128, l250, l255, l262143, l262144, l30000, l100000, l12345, l1024, l4095, nI_eqs, nI_les, nI_lts, qI_eq, qI_eqn, nI_eqq, qI_lts, nI_ltp, nI_lep, qI_les, nI_add, nI_mul, qI_add, qI_s, qI_def, nI_clamps, bI_z, bI_o, bI_01, n01, n11, rf_some, rf_none, m1, m1n, bft, b0, b1, yy0, e63, e108, e, wq, c0, rN_d, e131']
      rfl
  · rw [if_neg a]
    simp only [a, if_false] at e108
    have k2 : 2 ≤ mrK (gH s) (inR c (Yn (gY s))) x n := kl.2 a
    have k6 : mrK (gH s) (inR c (Yn (gY s))) x n ≤ 6 := kl.1
    refine DC.rf hx k2 k6 ?_
    have ne := rN_ne k2 k6
    simp (disch := omega) only [s106_0, s106_1, s106_2, s106_3, s106_4, s106_5, s106_6, s106_7, s106_8, s106_9, s106_10, s106_11, s106_12, s106_13, s106_14, s106_15, s106_16, s106_17, s106_18, s106_19, s106_20, s106_21, s106_22, s106_23, s106_24, s106_25, s106_26, s106_27, s106_28, s106_29, s106_30, s106_31, ↓reduceIte, Option.bind_some, Option.toList_some, Option.toList_none, List.cons_append, List.nil_append, if_true, if_false, true_or, or_true, true_and, and_true, not_true_eq_false, not_false_eq_true, Nat.reduceLT, Nat.reduceLeDiff, Nat.reduceEqDiff, Nat.reduceAdd, Nat.reduceMul, Nat.reduceSub, Nat.reducePow, Nat.reduceMod, Nat.reduceDiv, l0, l1, l2, l3, l4, l5, l6, l7, l8, l9, l10, l11, l12, l13, l14, l15, l16, l20, l31, l32, l36, l40, l48, l57, l59, l63, l64, l97, l99, l100, l101, l122, l127, l128, l250, l255, l262143, l262144, l30000, l100000, l12345, l1024, l4095, nI_eqs, nI_les, nI_lts, qI_eq, qI_eqn, nI_eqq, qI_lts, nI_ltp, nI_lep, qI_les, nI_add, nI_mul, qI_add, qI_s, qI_def, nI_clamps, bI_z, bI_o, bI_01, n01, n11, rf_some, rf_none, m1, m1n, bft, b0, b1, yy0, e63, e108, ne, e131]
def skN (e : Nat → Int64) (n : Nat) (y : YS) : Nat := itr (fun g t => if (gW e n 0 (stY y (nI g))).1 = none then t ||| 2 ^ g else t) (Yg y) 0 0
def s_stuck (s : GS) (x n : Int32) : Int32 × GS := if mrK (gH s) true x n = 0 then (nI (skN (He (gH s x.toNatClampNeg)) n.toNatClampNeg (gY s)), s) else rfS s (mrK (gH s) true x n)
theorem c107 (d : Nat) {h : AH} {B : Nat} {s : GS} (hx : DX h B s) (x n : Int32) (p3 p4 p5 : Option Value) : DC (d + 5) 107 [some (.ref B), some (.int x), some (.int n), p3, p4, p5] h B (s_stuck s x n) := by
  obtain ⟨⟨b0, b1, b2, b3, b4, b5, b6, b7⟩, xy, ⟨k0, k1⟩, xh, ⟨t0, t1, t2, t3, t4, t5⟩, rx, qx⟩ := id hx; have e131 := c131e hx
  have e108 := fun d => x108 d xh true x n
  simp only [bI_t] at e108
  unfold s_stuck
  have kl := strK_lt (gH s) (true && inR n 41) x n
  change mrK (gH s) true x n ≤ 6 ∧ _ at kl
  by_cases a : mrK (gH s) true x n = 0
  · rw [if_pos a]
    simp only [a, if_true] at e108
    obtain ⟨-, k, hk, rfl, w, hn⟩ := strK_0 a; have sx := (xh.2.2.2 k hk).2; have n40 := sx.2.2.n; obtain ⟨n', hn', rfl⟩ := inR_of (by omega) hn; rw [nI_clamp (show k < 2 ^ 31 by omega), nI_clamp (show n' < 2 ^ 31 by omega)]
    have gg := xy.2.2.2.1
    have lp : ∀ m i t p h1, i + m = Yg (gY s) → DX h1 B s → Fr0 (dA B) h h1 → ∃ h2, E (d + 5) 107 16 [some (.ref B), some (.int (nI k)), some (.int (nI n')), p, some (.int (nI t)), some (.int (nI i))] [] h1 = some (some (.int (nI (itr (fun g t => if (gW (He (gH s k)) n' 0 (stY (gY s) (nI g))).1 = none then t ||| 2 ^ g else t) m i t))), h2) ∧ DX h2 B s ∧ Fr0 (dA B) h h2 := by
      intro m
      induction m with
      | zero =>
        intro i t p h1 hi D f
        have hi' : i = Yg (gY s) := hi
        subst hi'
        refine ⟨h1, ?_, D, f⟩
        have c0 := D.1.1
        have c1 := D.1.2.1
        have y0 := D.2.1.1.1
        have y1 := D.2.1.2.1.2.1
        rw [s107_16]
        simp (disch := omega) only [s107_0, s107_1, s107_2, s107_3, s107_4, s107_5, s107_6, s107_7, s107_8, s107_9, s107_10, s107_11, s107_12, s107_13, s107_14, s107_15, s107_17, s107_18, s107_19, s107_20, s107_21, s107_22, s107_23, s107_24, s107_25, s107_26, s107_27, s107_28, s107_29, s107_30, s107_31, s107_32, s107_33, s107_34, s107_35, s107_36, s107_37, ↓reduceIte, Option.bind_some, Option.toList_some, Option.toList_none, List.cons_append, List.nil_append, if_true, if_false, true_or, or_true, true_and, and_true, not_true_eq_false, not_false_eq_true, Nat.reduceLT, Nat.reduceLeDiff, Nat.reduceEqDiff, Nat.reduceAdd, Nat.reduceMul, Nat.reduceSub, Nat.reducePow, Nat.reduceMod, Nat.reduceDiv, l0, l1, l2, l3, l4, l5, l6, l7, l8, l9, l10, l11, l12, l13, l14, l15, l16, l20, l31, l32, l36, l40, l48, l57, l59, l63, l64, l97, l99, l100, l101, l122, l127, l128, l250, l255, l262143, l262144, l30000, l100000, l12345, l1024, l4095, nI_eqs, nI_les, nI_lts, qI_eq, qI_eqn, nI_eqq, qI_lts, nI_ltp, nI_lep, qI_les, nI_add, nI_mul, qI_add, qI_s, qI_def, nI_clamps, bI_z, bI_o, bI_01, n01, n11, rf_some, rf_none, m1, m1n, bft, c0, c1, y0, y1, Nat.le_refl, itr_0]
      | succ m ih =>
        intro i t p h1 hi D f
        have h1' : ¬ Yg (gY s) ≤ i := by omega
        have c0 := D.1.1
        have c1 := D.1.2.1
        have y0 := D.2.1.1.1
        have y1 := D.2.1.2.1.2.1
        obtain ⟨h2, e, q, f2⟩ := x109 d D hk w (show n' ≤ Hn (gH s k) by omega) (nI i) none none none none
        have D2 := D.th f2
        have gl := gW_lt (He (gH s k)) n' 0 (stY (gY s) (nI i))
        have wn := wI_no (gW (He (gH s k)) n' 0 (stY (gY s) (nI i))).1 (fun i hi => by have := gl i hi; omega)
        rw [s107_16, itr_s]
        by_cases v : (gW (He (gH s k)) n' 0 (stY (gY s) (nI i))).1 = none
        · rw [if_pos v]
          have wq := wn.mpr v
          obtain ⟨h3, e3, D3, f3⟩ := ih (i + 1) (t ||| 2 ^ i) p h2 (by omega) D2.1 (f.trans D2.2)
          refine ⟨h3, ?_, D3, f3⟩
          simp (disch := omega) only [s107_0, s107_1, s107_2, s107_3, s107_4, s107_5, s107_6, s107_7, s107_8, s107_9, s107_10, s107_11, s107_12, s107_13, s107_14, s107_15, s107_17, s107_18, s107_19, s107_20, s107_21, s107_22, s107_23, s107_24, s107_25, s107_26, s107_27, s107_28, s107_29, s107_30, s107_31, s107_32, s107_33, s107_34, s107_35, s107_36, s107_37, ↓reduceIte, Option.bind_some, Option.toList_some, Option.toList_none, List.cons_append, List.nil_append, if_true, if_false, true_or, or_true, true_and, and_true, not_true_eq_false, not_false_eq_true, Nat.reduceLT, Nat.reduceLeDiff, Nat.reduceEqDiff, Nat.reduceAdd, Nat.reduceMul, Nat.reduceSub, Nat.reducePow, Nat.reduceMod, Nat.reduceDiv, l0, l1, l2, l3, l4, l5, l6, l7, l8, l9, l10, l11, l12, l13, l14, l15, l16, l20, l31, l32, l36, l40, l48, l57, l59, l63, l64, l97, l99, l100, l101, l122, l127, l128, l250, l255, l262143, l262144, l30000, l100000, l12345, l1024, l4095, nI_eqs, nI_les, nI_lts, qI_eq, qI_eqn, nI_eqq, qI_lts, nI_ltp, nI_lep, qI_les, nI_add, nI_mul, qI_add, qI_s, qI_def, nI_clamps, bI_z, bI_o, bI_01, n01, n11, rf_some, rf_none, m1, m1n, bft, nI_and, nI_or, nI_shl', nI_shr', a31, h1', c0, c1, y0, y1, e, wq, Nat.one_mul]
          exact e3
        · rw [if_neg v]
          have wq : ¬ wI (gW (He (gH s k)) n' 0 (stY (gY s) (nI i))).1 = qI 0 := fun q => v (wn.mp q)
          obtain ⟨h3, e3, D3, f3⟩ := ih (i + 1) t p h2 (by omega) D2.1 (f.trans D2.2)
          refine ⟨h3, ?_, D3, f3⟩
          simp (disch := omega) only [s107_0, s107_1, s107_2, s107_3, s107_4, s107_5, s107_6, s107_7, s107_8, s107_9, s107_10, s107_11, s107_12, s107_13, s107_14, s107_15, s107_17, s107_18, s107_19, s107_20, s107_21, s107_22, s107_23, s107_24, s107_25, s107_26, s107_27, s107_28, s107_29, s107_30, s107_31, s107_32, s107_33, s107_34, s107_35, s107_36, s107_37, ↓reduceIte, Option.bind_some, Option.toList_some, Option.toList_none, List.cons_append, List.nil_append, if_true, if_false, true_or, or_true, true_and, and_true, not_true_eq_false, not_false_eq_true, Nat.reduceLT, Nat.reduceLeDiff, Nat.reduceEqDiff, Nat.reduceAdd, Nat.reduceMul, Nat.reduceSub, Nat.reducePow, Nat.reduceMod, Nat.reduceDiv, l0, l1, l2, l3, l4, l5, l6, l7, l8, l9, l10, l11, l12, l13, l14, l15, l16, l20, l31, l32, l36, l40, l48, l57, l59, l63, l64, l97, l99, l100, l101, l122, l127, l128, l250, l255, l262143, l262144, l30000, l100000, l12345, l1024, l4095, nI_eqs, nI_les, nI_lts, qI_eq, qI_eqn, nI_eqq, qI_lts, nI_ltp, nI_lep, qI_les, nI_add, nI_mul, qI_add, qI_s, qI_def, nI_clamps, bI_z, bI_o, bI_01, n01, n11, rf_some, rf_none, m1, m1n, bft, h1', c0, c1, y0, y1, e, wq]
          exact e3
    obtain ⟨h2, e2, D2, f2⟩ := lp (Yg (gY s)) 0 0 (some (.int (nI 0))) h (by omega) hx (Fr0.refl _ _)
    refine ⟨h2, ?_, D2, f2⟩
    simp (disch := omega) only [s107_0, s107_1, s107_2, s107_3, s107_4, s107_5, s107_6, s107_7, s107_8, s107_9, s107_10, s107_11, s107_12, s107_13, s107_14, s107_15, ↓reduceIte, Option.bind_some, Option.toList_some, Option.toList_none, List.cons_append, List.nil_append, if_true, if_false, true_or, or_true, true_and, and_true, not_true_eq_false, not_false_eq_true, Nat.reduceLT, Nat.reduceLeDiff, Nat.reduceEqDiff, Nat.reduceAdd, Nat.reduceMul, Nat.reduceSub, Nat.reducePow, Nat.reduceMod, Nat.reduceDiv, l0, l1, l2, l3, l4, l5, l6, l7, l8, l9, l10, l11, l12, l13, l14, l15, l16, l20, l31, l32, l36, l40, l48, l57, l59, l63, l64, l97, l99, l100, l101, l122, l127, l128, l250, l255, l262143, l262144, l30000, l100000, l12345, l1024, l4095, nI_eqs, nI_les, nI_lts, qI_eq, qI_eqn, nI_eqq, qI_lts, nI_ltp, nI_lep, qI_les, nI_add, nI_mul, qI_add, qI_s, qI_def, nI_clamps, bI_z, bI_o, bI_01, n01, n11, rf_some, rf_none, m1, m1n, bft, b0, e108]
    exact e2
  · rw [if_neg a]
    simp only [a, if_false] at e108
    have k2 : 2 ≤ mrK (gH s) true x n := kl.2 a
    have k6 : mrK (gH s) true x n ≤ 6 := kl.1
    refine DC.rf hx k2 k6 ?_
    have ne := rN_ne k2 k6
    simp (disch := omega) only [s107_0, s107_1, s107_2, s107_3, s107_4, s107_5, s107_6, s107_7, s107_8, s107_9, s107_10, s107_11, s107_12, s107_13, s107_14, s107_15, s107_17, s107_18, s107_19, s107_20, s107_21, s107_22, s107_23, s107_24, s107_25, s107_26, s107_27, s107_28, s107_29, s107_30, s107_31, s107_32, s107_33, s107_34, s107_35, s107_36, s107_37, ↓reduceIte, Option.bind_some, Option.toList_some, Option.toList_none, List.cons_append, List.nil_append, if_true, if_false, true_or, or_true, true_and, and_true, not_true_eq_false, not_false_eq_true, Nat.reduceLT, Nat.reduceLeDiff, Nat.reduceEqDiff, Nat.reduceAdd, Nat.reduceMul, Nat.reduceSub, Nat.reducePow, Nat.reduceMod, Nat.reduceDiv, l0, l1, l2, l3, l4, l5, l6, l7, l8, l9, l10, l11, l12, l13, l14, l15, l16, l20, l31, l32, l36, l40, l48, l57, l59, l63, l64, l97, l99, l100, l101, l122, l127, l128, l250, l255, l262143, l262144, l30000, l100000, l12345, l1024, l4095, nI_eqs, nI_les, nI_lts, qI_eq, qI_eqn, nI_eqq, qI_lts, nI_ltp, nI_lep, qI_les, nI_add, nI_mul, qI_add, qI_s, qI_def, nI_clamps, bI_z, bI_o, bI_01, n01, n11, rf_some, rf_none, m1, m1n, bft, b0, e108, ne, e131]
