/-! THE REFERENCE'S MORNINGS: the calls -/
theorem c136f {h : AH} {A : Nat} {s : GS} {W : Nat → Prop} (x : MX h A s W) {h1 : AH} (q : KW W h h1) (r : RM A h h1 0 0) (x1 : MX h1 A s W) {k : Nat} (h2 : 2 ≤ k) (h6 : k ≤ 6) : MX (RFM h1 A k) A (bm s k) W ∧ KW W h (RFM h1 A k) ∧ RM A h (RFM h1 A k) 1 3 := by
  have z := x1.rf h2 h6
  have r2 := z.2.rm A
  exact ⟨z.1, q.trans (z.2.kw x1.2.2.2.2.2.2.1), by unfold RM at *; omega⟩
theorem MC.rf {d y : Nat} {as : LL} {h : AH} {A k : Nat} {s : GS} {W : Nat → Prop} (x : MX h A s W) (h2 : 2 ≤ k) (h6 : k ≤ 6) (e : E d y 0 as [] h = some (some (.int (rN k)), RFM h A k)) : MC d y as h A W (rfS s k) := (MC0.rf x h2 h6 e).mc x
theorem c190 (d : Nat) {h : AH} {A : Nat} {s : GS} {W : Nat → Prop} (hx : MX h A s W) (x n : Int32) (p : Option Value) : MC (d + 5) 190 [some (.ref A), some (.int x), some (.int n), p] h A W (s_judge s x n) := by
  obtain ⟨my, mh, ⟨t1, t2, t3, t4, t5⟩, mr, mz, mg, mw, mn, mwn⟩ := id hx; have e136 := c136e hx; have b0 := my.1.1
  have e188 := fun d => m188 d hx x n none
  unfold s_judge
  have kl := strK_lt (gH s) (true && inR n 41) x n
  change mrK (gH s) true x n ≤ 6 ∧ _ at kl
  by_cases a : mrK (gH s) true x n = 0
  · rw [if_pos a]
    simp only [a, if_true] at e188
    obtain ⟨-, k, hk, rfl, w, hn⟩ := strK_0 a; obtain ⟨rs, ze, vk, v1, v2, ve, sok⟩ := mh.2 k hk; have n40 := sok.n; obtain ⟨n', hn', rfl⟩ := inR_of (by omega) hn; rw [nI_clamp (show k < 2 ^ 31 by omega), nI_clamp (show n' < 2 ^ 31 by omega)]
    obtain ⟨h1, o, e225, x1, q1, y1, a1, kw1, rm1⟩ := c225 (d + 2) hx
    have c0 := x1.1.1.1
    obtain ⟨⟨z0, z1, z2, z3, z4, z5, z6, r0, r1, r2, r3, r4, r5⟩, hs⟩ := id x1.2.1
    obtain ⟨rs1, ze1, -, -, -, ve1, -⟩ := hs k hk
    have g4 := gR (h := h1) z4 (Or.inl rfl) (i := k)
    have oy := y1.1.1
    obtain ⟨h2, e189, q2, f2⟩ := m189 d y1 ze1 (fun w => by unfold yA at w; omega) (show n' ≤ 40 by omega) (f := He (gH s k)) (fun i hi => ve1 i (by omega)) none
    have z := x1.o q1 f2.bk
    refine ⟨h2, ?_, z.1, kw1.trans z.2.1, by have := rm1.trans z.2.2; unfold RM at *; omega⟩
    simp (disch := omega) only [s190_0, s190_1, s190_2, s190_3, s190_4, s190_5, s190_6, s190_7, s190_8, s190_9, s190_10, s190_11, s190_12, s190_13, s190_14, s190_15, s190_16, s190_17, ↓reduceIte, Option.bind_some, Option.toList_some, Option.toList_none, List.cons_append, List.nil_append, if_true, if_false, true_or, or_true, true_and, and_true, not_true_eq_false, not_false_eq_true, Nat.reduceLT, Nat.reduceLeDiff, Nat.reduceEqDiff, Nat.reduceAdd, Nat.reduceMul, Nat.reduceSub, Nat.reducePow, Nat.reduceMod, Nat.reduceDiv, l0, l1, l2, l3, l4, l5, l6, l7, l8, l9, l10, l11, l12, l13, l14, l15, l16, l20, l31, l32, l36, l40, l48, l57, l59, l63, l64, l97, l99, l100, l101, l122, l127, l128, l250, l255, l262143, l262144, l30000, l100000, l12345, l1024, l4095, nI_eqs, nI_les, nI_lts, qI_eq, qI_eqn, nI_eqq, qI_lts, nI_ltp, nI_lep, qI_les, nI_add, nI_mul, qI_add, qI_s, qI_def, nI_clamps, bI_z, bI_o, bI_01, n01, n11, rf_some, rf_none, m1, m1n, bft, b0, e188, e225, c0, r3, g4, rs1, oy, e189]
  · rw [if_neg a]
    simp only [a, if_false] at e188
    have k2 : 2 ≤ mrK (gH s) true x n := kl.2 a
    have k6 : mrK (gH s) true x n ≤ 6 := kl.1
    refine MC.rf hx k2 k6 ?_
    have ne := rN_ne k2 k6
    simp (disch := omega) only [s190_0, s190_1, s190_2, s190_3, s190_4, s190_5, s190_6, s190_7, s190_8, s190_9, s190_10, s190_11, s190_12, s190_13, s190_14, s190_15, s190_16, s190_17, ↓reduceIte, Option.bind_some, Option.toList_some, Option.toList_none, List.cons_append, List.nil_append, if_true, if_false, true_or, or_true, true_and, and_true, not_true_eq_false, not_false_eq_true, Nat.reduceLT, Nat.reduceLeDiff, Nat.reduceEqDiff, Nat.reduceAdd, Nat.reduceMul, Nat.reduceSub, Nat.reducePow, Nat.reduceMod, Nat.reduceDiv, l0, l1, l2, l3, l4, l5, l6, l7, l8, l9, l10, l11, l12, l13, l14, l15, l16, l20, l31, l32, l36, l40, l48, l57, l59, l63, l64, l97, l99, l100, l101, l122, l127, l128, l250, l255, l262143, l262144, l30000, l100000, l12345, l1024, l4095, nI_eqs, nI_les, nI_lts, qI_eq, qI_eqn, nI_eqq, qI_lts, nI_ltp, nI_lep, qI_les, nI_add, nI_mul, qI_add, qI_s, qI_def, nI_clamps, bI_z, bI_o, bI_01, n01, n11, rf_some, rf_none, m1, m1n, bft, b0, e188, ne]
theorem c192 (d : Nat) {h : AH} {A : Nat} {s : GS} {W : Nat → Prop} (hx : MX h A s W) (x n : Int32) (p3 p4 : Option Value) : MC (d + 5) 192 [some (.ref A), some (.int x), some (.int n), p3, p4] h A W (s_morning s x n) := by
  obtain ⟨my, mh, ⟨t1, t2, t3, t4, t5⟩, mr, mz, mg, mw, mn, mwn⟩ := id hx; have e136 := c136e hx; have b0 := my.1.1
  have e188 := fun d => m188 d hx x n none
  unfold s_morning
  have kl := strK_lt (gH s) (true && inR n 41) x n
  change mrK (gH s) true x n ≤ 6 ∧ _ at kl
  by_cases a : mrK (gH s) true x n = 0
  · rw [if_pos a]
    simp only [a, if_true] at e188
    obtain ⟨-, k, hk, rfl, w, hn⟩ := strK_0 a; obtain ⟨rs, ze, vk, v1, v2, ve, sok⟩ := mh.2 k hk; have n40 := sok.n; obtain ⟨n', hn', rfl⟩ := inR_of (by omega) hn; rw [nI_clamp (show k < 2 ^ 31 by omega), nI_clamp (show n' < 2 ^ 31 by omega)]
    obtain ⟨h1, o, e225, x1, q1, y1, a1, kw1, rm1⟩ := c225 (d + 2) hx
    have c0 := x1.1.1.1
    obtain ⟨⟨z0, z1, z2, z3, z4, z5, z6, r0, r1, r2, r3, r4, r5⟩, hs⟩ := id x1.2.1
    obtain ⟨rs1, ze1, -, -, -, ve1, -⟩ := hs k hk
    have g4 := gR (h := h1) z4 (Or.inl rfl) (i := k)
    have oy := y1.1.1
    obtain ⟨h2, e189, q2, f2⟩ := m189 d y1 ze1 (fun w => by unfold yA at w; omega) (show n' ≤ 40 by omega) (f := He (gH s k)) (fun i hi => ve1 i (by omega)) none
    have z := x1.o q1 f2.bk
    have gl := gW_lt (He (gH s k)) n' 0 (gY s)
    have wn := wI_no (gW (He (gH s k)) n' 0 (gY s)).1 (fun i hi => by have := gl i hi; omega)
    have d0 := z.1.1.1.1
    by_cases v : (gW (He (gH s k)) n' 0 (gY s)).1 = none
    · rw [if_pos v]
      have wq := wn.mpr v
      have e191 := fun d => m191 d z.1.1 none none
      have hs2 := z.1.2.1.2 k hk
      obtain ⟨h3, e189', q3, f3⟩ := m189 d z.1.1 hs2.2.1 (fun w => by unfold yA at w; omega) (show n' ≤ 40 by omega) (f := He (gH s k)) (fun i hi => hs2.2.2.2.2.2.1 i (by omega)) none
      have z2 := z.1.y q3 f3
      have e191' := fun d => m191 d q3 none none
      have y3 : hR h2 A 3 = some (A + 4) := z.1.2.1.1.2.2.2.2.2.2.2.2.2.2.1
      have y4 : hS h2 (A + 4) = some (4, 8) := z.1.2.1.1.2.2.2.2.1
      have g4' := gR (h := h2) y4 (Or.inl rfl) (i := k)
      have rs2 := hs2.1
      refine ⟨h3, ?_, z2.1, (kw1.trans z.2.1).trans (z2.2.kw z.1.2.2.2.2.2.2.1), by have := (rm1.trans z.2.2).trans (z2.2.rm A); unfold RM at *; omega⟩
      simp (disch := omega) only [s192_0, s192_1, s192_2, s192_3, s192_4, s192_5, s192_6, s192_7, s192_8, s192_9, s192_10, s192_11, s192_12, s192_13, s192_14, s192_15, s192_16, s192_17, s192_18, s192_19, s192_20, s192_21, s192_22, s192_23, s192_24, s192_25, s192_26, s192_27, s192_28, s192_29, s192_30, s192_31, s192_32, s192_33, s192_34, s192_35, s192_36, s192_37, s192_38, ↓reduceIte, Option.bind_some, Option.toList_some, Option.toList_none, List.cons_append, List.nil_append, if_true, if_false, true_or, or_true, true_and, and_true, not_true_eq_false, not_false_eq_true, Nat.reduceLT, Nat.reduceLeDiff, Nat.reduceEqDiff, Nat.reduceAdd, Nat.reduceMul, Nat.reduceSub, Nat.reducePow, Nat.reduceMod, Nat.reduceDiv, l0, l1, l2, l3, l4, l5, l6, l7, l8, l9, l10, l11, l12, l13, l14, l15, l16, l20, l31, l32, l36, l40, l48, l57, l59, l63, l64, l97, l99, l100, l101, l122, l127, l128, l250, l255, l262143, l262144, l30000, l100000, l12345, l1024, l4095, nI_eqs, nI_les, nI_lts, qI_eq, qI_eqn, nI_eqq, qI_lts, nI_ltp, nI_lep, qI_les, nI_add, nI_mul, qI_add, qI_s, qI_def, nI_clamps, bI_z, bI_o, bI_01, n01, n11, rf_some, rf_none, m1, m1n, bft, b0, e188, e225, c0, r3, g4, rs1, oy, e189, wq, d0, e191, y3, g4', rs2, e189', e191']
    · rw [if_neg v]
      have wq : ¬ wI (gW (He (gH s k)) n' 0 (gY s)).1 = qI 0 := fun q => v (wn.mp q)
      have e136' := c136e z.1
      have z2 := c136f hx (kw1.trans z.2.1) (by have := rm1.trans z.2.2; exact this) z.1 (k := 5) (by decide) (by decide)
      refine ⟨_, ?_, z2⟩
      simp (disch := omega) only [s192_0, s192_1, s192_2, s192_3, s192_4, s192_5, s192_6, s192_7, s192_8, s192_9, s192_10, s192_11, s192_12, s192_13, s192_14, s192_15, s192_16, s192_17, s192_18, s192_19, s192_20, s192_21, s192_22, s192_23, s192_24, s192_25, s192_26, s192_27, s192_28, s192_29, s192_30, s192_31, s192_32, s192_33, s192_34, s192_35, s192_36, s192_37, s192_38, ↓reduceIte, Option.bind_some, Option.toList_some, Option.toList_none, List.cons_append, List.nil_append, if_true, if_false, true_or, or_true, true_and, and_true, not_true_eq_false, not_false_eq_true, Nat.reduceLT, Nat.reduceLeDiff, Nat.reduceEqDiff, Nat.reduceAdd, Nat.reduceMul, Nat.reduceSub, Nat.reducePow, Nat.reduceMod, Nat.reduceDiv, l0, l1, l2, l3, l4, l5, l6, l7, l8, l9, l10, l11, l12, l13, l14, l15, l16, l20, l31, l32, l36, l40, l48, l57, l59, l63, l64, l97, l99, l100, l101, l122, l127, l128, l250, l255, l262143, l262144, l30000, l100000, l12345, l1024, l4095, nI_eqs, nI_les, nI_lts, qI_eq, qI_eqn, nI_eqq, qI_lts, nI_ltp, nI_lep, qI_les, nI_add, nI_mul, qI_add, qI_s, qI_def, nI_clamps, bI_z, bI_o, bI_01, n01, n11, rf_some, rf_none, m1, m1n, bft, b0, e188, e225, c0, r3, g4, rs1, oy, e189, wq, d0, rN_d, e136']
      rfl
  · rw [if_neg a]
    simp only [a, if_false] at e188
    have k2 : 2 ≤ mrK (gH s) true x n := kl.2 a
    have k6 : mrK (gH s) true x n ≤ 6 := kl.1
    refine MC.rf hx k2 k6 ?_
    have ne := rN_ne k2 k6
    simp (disch := omega) only [s192_0, s192_1, s192_2, s192_3, s192_4, s192_5, s192_6, s192_7, s192_8, s192_9, s192_10, s192_11, s192_12, s192_13, s192_14, s192_15, s192_16, s192_17, s192_18, s192_19, s192_20, s192_21, s192_22, s192_23, s192_24, s192_25, s192_26, s192_27, s192_28, s192_29, s192_30, s192_31, s192_32, s192_33, s192_34, s192_35, s192_36, s192_37, s192_38, ↓reduceIte, Option.bind_some, Option.toList_some, Option.toList_none, List.cons_append, List.nil_append, if_true, if_false, true_or, or_true, true_and, and_true, not_true_eq_false, not_false_eq_true, Nat.reduceLT, Nat.reduceLeDiff, Nat.reduceEqDiff, Nat.reduceAdd, Nat.reduceMul, Nat.reduceSub, Nat.reducePow, Nat.reduceMod, Nat.reduceDiv, l0, l1, l2, l3, l4, l5, l6, l7, l8, l9, l10, l11, l12, l13, l14, l15, l16, l20, l31, l32, l36, l40, l48, l57, l59, l63, l64, l97, l99, l100, l101, l122, l127, l128, l250, l255, l262143, l262144, l30000, l100000, l12345, l1024, l4095, nI_eqs, nI_les, nI_lts, qI_eq, qI_eqn, nI_eqq, qI_lts, nI_ltp, nI_lep, qI_les, nI_add, nI_mul, qI_add, qI_s, qI_def, nI_clamps, bI_z, bI_o, bI_01, n01, n11, rf_some, rf_none, m1, m1n, bft, b0, e188, ne]
theorem c193 (d : Nat) {h : AH} {A : Nat} {s : GS} {W : Nat → Prop} (hx : MX h A s W) (x n c : Int32) (p4 p5 : Option Value) : MC (d + 5) 193 [some (.ref A), some (.int x), some (.int n), some (.int c), p4, p5] h A W (s_behind s x n c) := by
  obtain ⟨my, mh, ⟨t1, t2, t3, t4, t5⟩, mr, mz, mg, mw, mn, mwn⟩ := id hx; have e136 := c136e hx; have b0 := my.1.1
  have e139 := fun d => m139 d my c
  have e188 := fun d => m188 d hx x n none
  unfold s_behind
  cases cc : inR c (Yn (gY s))
  · have k0 : mrK (gH s) false x n = 2 := by unfold mrK strK; rw [Bool.false_and, if_neg (fun w => absurd w.1 (by decide))]
    rw [k0, if_neg (by decide)]
    rw [cc] at e139
    refine MC.rf hx (by decide) (by decide) ?_
    simp (disch := omega) only [s193_0, s193_1, s193_2, s193_3, s193_4, s193_5, s193_6, s193_7, s193_8, s193_9, s193_10, s193_11, s193_12, s193_13, s193_14, s193_15, s193_16, s193_17, s193_18, s193_19, s193_20, s193_21, s193_22, s193_23, s193_24, s193_25, s193_26, s193_27, s193_28, s193_29, s193_30, s193_31, s193_32, s193_33, s193_34, s193_35, s193_36, s193_37, ↓reduceIte, Option.bind_some, Option.toList_some, Option.toList_none, List.cons_append, List.nil_append, if_true, if_false, true_or, or_true, true_and, and_true, not_true_eq_false, not_false_eq_true, Nat.reduceLT, Nat.reduceLeDiff, Nat.reduceEqDiff, Nat.reduceAdd, Nat.reduceMul, Nat.reduceSub, Nat.reducePow, Nat.reduceMod, Nat.reduceDiv, l0, l1, l2, l3, l4, l5, l6, l7, l8, l9, l10, l11, l12, l13, l14, l15, l16, l20, l31, l32, l36, l40, l48, l57, l59, l63, l64, l97, l99, l100, l101, l122, l127, l128, l250, l255, l262143, l262144, l30000, l100000, l12345, l1024, l4095, nI_eqs, nI_les, nI_lts, qI_eq, qI_eqn, nI_eqq, qI_lts, nI_ltp, nI_lep, qI_les, nI_add, nI_mul, qI_add, qI_s, qI_def, nI_clamps, bI_z, bI_o, bI_01, n01, n11, rf_some, rf_none, m1, m1n, bft, b0, e139, rN_d, e136]
  · rw [cc] at e139
    have kl := strK_lt (gH s) (true && inR n 41) x n
    change mrK (gH s) true x n ≤ 6 ∧ _ at kl
    by_cases a : mrK (gH s) true x n = 0
    · rw [if_pos a]
      simp only [a, if_true] at e188
      obtain ⟨-, k, hk, rfl, w, hn⟩ := strK_0 a; obtain ⟨rs, ze, vk, v1, v2, ve, sok⟩ := mh.2 k hk; have n40 := sok.n; obtain ⟨n', hn', rfl⟩ := inR_of (by omega) hn; rw [nI_clamp (show k < 2 ^ 31 by omega), nI_clamp (show n' < 2 ^ 31 by omega)]
      obtain ⟨h1, o, e225, x1, q1, y1, a1, kw1, rm1⟩ := c225 (d + 2) hx
      have c0 := x1.1.1.1
      obtain ⟨⟨z0, z1, z2, z3, z4, z5, z6, r0, r1, r2, r3, r4, r5⟩, hs⟩ := id x1.2.1
      obtain ⟨rs1, ze1, -, -, -, ve1, -⟩ := hs k hk
      have g4 := gR (h := h1) z4 (Or.inl rfl) (i := k)
      have oy := y1.1.1
      obtain ⟨h2, e189, q2, f2⟩ := m189 d y1 ze1 (fun w => by unfold yA at w; omega) (show n' ≤ 40 by omega) (f := He (gH s k)) (fun i hi => ve1 i (by omega)) none
      have z := x1.o q1 f2.bk
      have gl := gW_lt (He (gH s k)) n' 0 (gY s)
      have gnn := gW_n (He (gH s k)) n' 0 (gY s)
      have wn := wI_no (gW (He (gH s k)) n' 0 (gY s)).1 (fun i hi => by have := gl i hi; omega)
      have d0 := z.1.1.1.1
      have oy2 := q2.1.1
      by_cases v : (gW (He (gH s k)) n' 0 (gY s)).1 = none
      · rw [if_pos v]
        have wq := wn.mpr v
        have on := q2.2.2.2.2.1
        obtain ⟨j, hj, rfl⟩ := inR_of (by omega) cc
        rw [nI_clamp (show j < 2 ^ 31 by omega)]
        have t1 : hR h2 o 19 = some (o + 24) := q2.1.2.2.2.2.2.2.2.2.2.2.2.2.2.2.2.2
        have t2 : hS h2 (o + 24) = some (0, 6) := q2.1.2.2.2.2.2.2.2.2.1
        have t3 := q2.2.1.2.2.2.2.2.2.2.2.2.2.2.2 j (by omega)
        refine ⟨h2, ?_, z.1, kw1.trans z.2.1, by have := rm1.trans z.2.2; unfold RM at *; omega⟩
        simp (disch := omega) only [s193_0, s193_1, s193_2, s193_3, s193_4, s193_5, s193_6, s193_7, s193_8, s193_9, s193_10, s193_11, s193_12, s193_13, s193_14, s193_15, s193_16, s193_17, s193_18, s193_19, s193_20, s193_21, s193_22, s193_23, s193_24, s193_25, s193_26, s193_27, s193_28, s193_29, s193_30, s193_31, s193_32, s193_33, s193_34, s193_35, s193_36, s193_37, ↓reduceIte, Option.bind_some, Option.toList_some, Option.toList_none, List.cons_append, List.nil_append, if_true, if_false, true_or, or_true, true_and, and_true, not_true_eq_false, not_false_eq_true, Nat.reduceLT, Nat.reduceLeDiff, Nat.reduceEqDiff, Nat.reduceAdd, Nat.reduceMul, Nat.reduceSub, Nat.reducePow, Nat.reduceMod, Nat.reduceDiv, l0, l1, l2, l3, l4, l5, l6, l7, l8, l9, l10, l11, l12, l13, l14, l15, l16, l20, l31, l32, l36, l40, l48, l57, l59, l63, l64, l97, l99, l100, l101, l122, l127, l128, l250, l255, l262143, l262144, l30000, l100000, l12345, l1024, l4095, nI_eqs, nI_les, nI_lts, qI_eq, qI_eqn, nI_eqq, qI_lts, nI_ltp, nI_lep, qI_les, nI_add, nI_mul, qI_add, qI_s, qI_def, nI_clamps, bI_z, bI_o, bI_01, n01, n11, rf_some, rf_none, m1, m1n, bft, b0, e139, e188, e225, c0, r3, g4, rs1, oy, oy2, e189, wq, t1, gI t2, t3, Bool.true_eq_false]
      · rw [if_neg v]
        have wq : ¬ wI (gW (He (gH s k)) n' 0 (gY s)).1 = qI 0 := fun q => v (wn.mp q)
        have e136' := c136e z.1
        have z2 := c136f hx (kw1.trans z.2.1) (by have := rm1.trans z.2.2; exact this) z.1 (k := 5) (by decide) (by decide)
        refine ⟨_, ?_, z2⟩
        simp (disch := omega) only [s193_0, s193_1, s193_2, s193_3, s193_4, s193_5, s193_6, s193_7, s193_8, s193_9, s193_10, s193_11, s193_12, s193_13, s193_14, s193_15, s193_16, s193_17, s193_18, s193_19, s193_20, s193_21, s193_22, s193_23, s193_24, s193_25, s193_26, s193_27, s193_28, s193_29, s193_30, s193_31, s193_32, s193_33, s193_34, s193_35, s193_36, s193_37, ↓reduceIte, Option.bind_some, Option.toList_some, Option.toList_none, List.cons_append, List.nil_append, if_true, if_false, true_or, or_true, true_and, and_true, not_true_eq_false, not_false_eq_true, Nat.reduceLT, Nat.reduceLeDiff, Nat.reduceEqDiff, Nat.reduceAdd, Nat.reduceMul, Nat.reduceSub, Nat.reducePow, Nat.reduceMod, Nat.reduceDiv, l0, l1, l2, l3, l4, l5, l6, l7, l8, l9, l10, l11, l12, l13, l14, l15, l16, l20, l31, l32, l36, l40, l48, l57, l59, l63, l64, l97, l99, l100, l101, l122, l127, l128, l250, l255, l262143, l262144, l30000, l100000, l12345, l1024, l4095, nI_eqs, nI_les, nI_lts, qI_eq, qI_eqn, nI_eqq, qI_lts, nI_ltp, nI_lep, qI_les, nI_add, nI_mul, qI_add, qI_s, qI_def, nI_clamps, bI_z, bI_o, bI_01, n01, n11, rf_some, rf_none, m1, m1n, bft, b0, e139, e188, e225, c0, r3, g4, rs1, oy, e189, wq, d0, rN_d, e136', Bool.true_eq_false]
        rfl
    · rw [if_neg a]
      simp only [a, if_false] at e188
      have k2 : 2 ≤ mrK (gH s) true x n := kl.2 a
      have k6 : mrK (gH s) true x n ≤ 6 := kl.1
      refine MC.rf hx k2 k6 ?_
      have ne := rN_ne k2 k6
      simp (disch := omega) only [s193_0, s193_1, s193_2, s193_3, s193_4, s193_5, s193_6, s193_7, s193_8, s193_9, s193_10, s193_11, s193_12, s193_13, s193_14, s193_15, s193_16, s193_17, s193_18, s193_19, s193_20, s193_21, s193_22, s193_23, s193_24, s193_25, s193_26, s193_27, s193_28, s193_29, s193_30, s193_31, s193_32, s193_33, s193_34, s193_35, s193_36, s193_37, ↓reduceIte, Option.bind_some, Option.toList_some, Option.toList_none, List.cons_append, List.nil_append, if_true, if_false, true_or, or_true, true_and, and_true, not_true_eq_false, not_false_eq_true, Nat.reduceLT, Nat.reduceLeDiff, Nat.reduceEqDiff, Nat.reduceAdd, Nat.reduceMul, Nat.reduceSub, Nat.reducePow, Nat.reduceMod, Nat.reduceDiv, l0, l1, l2, l3, l4, l5, l6, l7, l8, l9, l10, l11, l12, l13, l14, l15, l16, l20, l31, l32, l36, l40, l48, l57, l59, l63, l64, l97, l99, l100, l101, l122, l127, l128, l250, l255, l262143, l262144, l30000, l100000, l12345, l1024, l4095, nI_eqs, nI_les, nI_lts, qI_eq, qI_eqn, nI_eqq, qI_lts, nI_ltp, nI_lep, qI_les, nI_add, nI_mul, qI_add, qI_s, qI_def, nI_clamps, bI_z, bI_o, bI_01, n01, n11, rf_some, rf_none, m1, m1n, bft, b0, e139, e188, ne, Bool.true_eq_false]
theorem MY.st {h : AH} {a : Nat} {y : YS} (x : MY h a y) {g : Nat} (hg : g < Yg y) : MY (stI (stI h (a + 17) g (nI 5)) (a + 18) g (nI 0)) a (stY y (nI g)) := by
  have ok := x.2.2
  have okn := ok.st (nI g)
  obtain ⟨⟨o2, o3⟩, o6, on, og, oc⟩ := id ok
  unfold stY at okn ⊢
  have c : inR (nI g) (Yg y) = true := by rw [inR_nI (by omega) (by omega), decide_eq_true hg]
  rw [if_pos c, nI_clamp (show g < 2 ^ 31 by omega)] at okn ⊢
  exact ⟨x.1, (x.2.1.K g 5).A g 0, okn⟩
theorem c194 (d : Nat) {h : AH} {A : Nat} {s : GS} {W : Nat → Prop} (hx : MX h A s W) (x n : Int32) (p3 p4 p5 p6 : Option Value) : MC (d + 5) 194 [some (.ref A), some (.int x), some (.int n), p3, p4, p5, p6] h A W (s_stuck s x n) := by
  obtain ⟨my, mh, ⟨t1, t2, t3, t4, t5⟩, mr, mz, mg, mw, mn, mwn⟩ := id hx; have e136 := c136e hx; have b0 := my.1.1
  have e188 := fun d => m188 d hx x n none
  unfold s_stuck
  have kl := strK_lt (gH s) (true && inR n 41) x n
  change mrK (gH s) true x n ≤ 6 ∧ _ at kl
  by_cases a : mrK (gH s) true x n = 0
  · rw [if_pos a]
    simp only [a, if_true] at e188
    obtain ⟨-, k, hk, rfl, w, hn⟩ := strK_0 a; obtain ⟨rs, ze, vk, v1, v2, ve, sok⟩ := mh.2 k hk; have n40 := sok.n; obtain ⟨n', hn', rfl⟩ := inR_of (by omega) hn; rw [nI_clamp (show k < 2 ^ 31 by omega), nI_clamp (show n' < 2 ^ 31 by omega)]
    have gg := my.2.2.2.1
    have lp : ∀ m i t p6 h1, i + m = Yg (gY s) → MX h1 A s W → KW W h h1 → RM A h h1 0 0 → ∃ h2, E (d + 5) 194 13 [some (.ref A), some (.int (nI k)), some (.int (nI n')), some (.int (nI 0)), some (.int (nI t)), some (.int (nI i)), p6] [] h1 = some (some (.int (nI (itr (fun g t => if (gW (He (gH s k)) n' 0 (stY (gY s) (nI g))).1 = none then t ||| 2 ^ g else t) m i t))), h2) ∧ MX h2 A s W ∧ KW W h h2 ∧ RM A h h2 0 0 := by
      intro m
      induction m with
      | zero =>
        intro i t p6 h1 hi x1 kw1 rm1
        have hi' : i = Yg (gY s) := hi
        subst hi'
        refine ⟨h1, ?_, x1, kw1, rm1⟩
        have c0 := x1.1.1.1
        have c1 : hI h1 A 10 = nI (Yg (gY s)) := x1.1.2.1.2.1
        rw [s194_13]
        simp (disch := omega) only [s194_0, s194_1, s194_2, s194_3, s194_4, s194_5, s194_6, s194_7, s194_8, s194_9, s194_10, s194_11, s194_12, s194_14, s194_15, s194_16, s194_17, s194_18, s194_19, s194_20, s194_21, s194_22, s194_23, s194_24, s194_25, s194_26, s194_27, s194_28, s194_29, s194_30, s194_31, s194_32, s194_33, s194_34, s194_35, s194_36, s194_37, s194_38, s194_39, s194_40, s194_41, s194_42, s194_43, s194_44, s194_45, s194_46, s194_47, s194_48, s194_49, s194_50, ↓reduceIte, Option.bind_some, Option.toList_some, Option.toList_none, List.cons_append, List.nil_append, if_true, if_false, true_or, or_true, true_and, and_true, not_true_eq_false, not_false_eq_true, Nat.reduceLT, Nat.reduceLeDiff, Nat.reduceEqDiff, Nat.reduceAdd, Nat.reduceMul, Nat.reduceSub, Nat.reducePow, Nat.reduceMod, Nat.reduceDiv, l0, l1, l2, l3, l4, l5, l6, l7, l8, l9, l10, l11, l12, l13, l14, l15, l16, l20, l31, l32, l36, l40, l48, l57, l59, l63, l64, l97, l99, l100, l101, l122, l127, l128, l250, l255, l262143, l262144, l30000, l100000, l12345, l1024, l4095, nI_eqs, nI_les, nI_lts, qI_eq, qI_eqn, nI_eqq, qI_lts, nI_ltp, nI_lep, qI_les, nI_add, nI_mul, qI_add, qI_s, qI_def, nI_clamps, bI_z, bI_o, bI_01, n01, n11, rf_some, rf_none, m1, m1n, bft, c0, c1, Nat.le_refl, itr_0]
      | succ m ih =>
        intro i t p6 h0 hi x0 kw0 rm0
        have h1' : ¬ Yg (gY s) ≤ i := by omega
        have c0 := x0.1.1.1
        have c1 : hI h0 A 10 = nI (Yg (gY s)) := x0.1.2.1.2.1
        obtain ⟨h1, o, e225, x1, q1, y1, a1, kw1, rm1⟩ := c225 (d + 2) x0
        have oy := y1.1.1
        have t1 : hR h1 o 11 = some (o + 17) := y1.1.2.2.2.2.2.2.2.2.2.1
        have t2 : hR h1 o 12 = some (o + 18) := y1.1.2.2.2.2.2.2.2.2.2.2.1
        have t3 : hS h1 (o + 17) = some (0, 6) := y1.1.2.1
        have t4 : hS h1 (o + 18) = some (0, 6) := y1.1.2.2.1
        have y2 := y1.st (g := i) (by omega)
        have f1 : Fr0 (blk o 25) h1 (stI (stI h1 (o + 17) i (nI 5)) (o + 18) i (nI 0)) := (blkI _ (by omega) (by omega) _ _).trans (blkI _ (by omega) (by omega) _ _)
        have zo := x1.o q1 f1
        generalize hH : stI (stI h1 (o + 17) i (nI 5)) (o + 18) i (nI 0) = H at *
        have d0 := zo.1.1.1.1
        obtain ⟨⟨z0, z1, z2, z3, z4, z5, z6, r0, r1, r2, r3, r4, r5⟩, hs⟩ := id zo.1.2.1
        obtain ⟨rs1, ze1, -, -, -, ve1, -⟩ := hs k hk
        have g4 := gR (h := H) z4 (Or.inl rfl) (i := k)
        have oy2 := y2.1.1
        obtain ⟨h2, e189, q2, f2⟩ := m189 d y2 ze1 (fun w => by unfold yA at w; omega) (show n' ≤ 40 by omega) (f := He (gH s k)) (fun i hi => ve1 i (by omega)) none
        have q1' : hR H A 23 = some o := by rw [f1.2.2.2.2.2.1]; exact q1
        have z2 := zo.1.o q1' f2.bk
        have gl := gW_lt (He (gH s k)) n' 0 (stY (gY s) (nI i))
        have wn := wI_no (gW (He (gH s k)) n' 0 (stY (gY s) (nI i))).1 (fun i hi => by have := gl i hi; omega)
        have kw2 := ((kw0.trans kw1).trans zo.2.1).trans z2.2.1
        have rm2 : RM A h h2 0 0 := ((rm0.trans rm1).trans zo.2.2).trans z2.2.2
        rw [s194_13, itr_s]
        by_cases v : (gW (He (gH s k)) n' 0 (stY (gY s) (nI i))).1 = none
        · rw [if_pos v]
          have wq := wn.mpr v
          obtain ⟨h3, e3, x3, kw3, rm3⟩ := ih (i + 1) (t ||| 2 ^ i) (some (.ref o)) h2 (by omega) z2.1 kw2 rm2
          refine ⟨h3, ?_, x3, kw3, rm3⟩
          simp (disch := omega) only [s194_0, s194_1, s194_2, s194_3, s194_4, s194_5, s194_6, s194_7, s194_8, s194_9, s194_10, s194_11, s194_12, s194_14, s194_15, s194_16, s194_17, s194_18, s194_19, s194_20, s194_21, s194_22, s194_23, s194_24, s194_25, s194_26, s194_27, s194_28, s194_29, s194_30, s194_31, s194_32, s194_33, s194_34, s194_35, s194_36, s194_37, s194_38, s194_39, s194_40, s194_41, s194_42, s194_43, s194_44, s194_45, s194_46, s194_47, s194_48, s194_49, s194_50, ↓reduceIte, Option.bind_some, Option.toList_some, Option.toList_none, List.cons_append, List.nil_append, if_true, if_false, true_or, or_true, true_and, and_true, not_true_eq_false, not_false_eq_true, Nat.reduceLT, Nat.reduceLeDiff, Nat.reduceEqDiff, Nat.reduceAdd, Nat.reduceMul, Nat.reduceSub, Nat.reducePow, Nat.reduceMod, Nat.reduceDiv, l0, l1, l2, l3, l4, l5, l6, l7, l8, l9, l10, l11, l12, l13, l14, l15, l16, l20, l31, l32, l36, l40, l48, l57, l59, l63, l64, l97, l99, l100, l101, l122, l127, l128, l250, l255, l262143, l262144, l30000, l100000, l12345, l1024, l4095, nI_eqs, nI_les, nI_lts, qI_eq, qI_eqn, nI_eqq, qI_lts, nI_ltp, nI_lep, qI_les, nI_add, nI_mul, qI_add, qI_s, qI_def, nI_clamps, bI_z, bI_o, bI_01, n01, n11, rf_some, rf_none, m1, m1n, bft, ad1, ad2, hI_stI, hS_stI, hR_stI, hL_stI, alen_stI, hI_stL, hL_stL, hS_stL, hR_stL, alen_stL, false_and, and_false, and_self, eq_self, nI_and, nI_or, nI_shl', nI_shr', a31, h1', c0, c1, e225, oy, t1, t2, gA t3, gA t4, hH, d0, r3, g4, rs1, oy2, e189, wq, Nat.one_mul]
          exact e3
        · rw [if_neg v]
          have wq : ¬ wI (gW (He (gH s k)) n' 0 (stY (gY s) (nI i))).1 = qI 0 := fun q => v (wn.mp q)
          obtain ⟨h3, e3, x3, kw3, rm3⟩ := ih (i + 1) t (some (.ref o)) h2 (by omega) z2.1 kw2 rm2
          refine ⟨h3, ?_, x3, kw3, rm3⟩
          simp (disch := omega) only [s194_0, s194_1, s194_2, s194_3, s194_4, s194_5, s194_6, s194_7, s194_8, s194_9, s194_10, s194_11, s194_12, s194_14, s194_15, s194_16, s194_17, s194_18, s194_19, s194_20, s194_21, s194_22, s194_23, s194_24, s194_25, s194_26, s194_27, s194_28, s194_29, s194_30, s194_31, s194_32, s194_33, s194_34, s194_35, s194_36, s194_37, s194_38, s194_39, s194_40, s194_41, s194_42, s194_43, s194_44, s194_45, s194_46, s194_47, s194_48, s194_49, s194_50, ↓reduceIte, Option.bind_some, Option.toList_some, Option.toList_none, List.cons_append, List.nil_append, if_true, if_false, true_or, or_true, true_and, and_true, not_true_eq_false, not_false_eq_true, Nat.reduceLT, Nat.reduceLeDiff, Nat.reduceEqDiff, Nat.reduceAdd, Nat.reduceMul, Nat.reduceSub, Nat.reducePow, Nat.reduceMod, Nat.reduceDiv, l0, l1, l2, l3, l4, l5, l6, l7, l8, l9, l10, l11, l12, l13, l14, l15, l16, l20, l31, l32, l36, l40, l48, l57, l59, l63, l64, l97, l99, l100, l101, l122, l127, l128, l250, l255, l262143, l262144, l30000, l100000, l12345, l1024, l4095, nI_eqs, nI_les, nI_lts, qI_eq, qI_eqn, nI_eqq, qI_lts, nI_ltp, nI_lep, qI_les, nI_add, nI_mul, qI_add, qI_s, qI_def, nI_clamps, bI_z, bI_o, bI_01, n01, n11, rf_some, rf_none, m1, m1n, bft, ad1, ad2, hI_stI, hS_stI, hR_stI, hL_stI, alen_stI, hI_stL, hL_stL, hS_stL, hR_stL, alen_stL, false_and, and_false, and_self, eq_self, nI_and, nI_or, nI_shl', nI_shr', a31, h1', c0, c1, e225, oy, t1, t2, gA t3, gA t4, hH, d0, r3, g4, rs1, oy2, e189, wq, Nat.or_zero]
          exact e3
    obtain ⟨h2, e2, x2, kw2, rm2⟩ := lp (Yg (gY s)) 0 0 p6 h (by omega) hx (KW.refl _ _) (RM.refl _ _)
    refine ⟨h2, ?_, x2, kw2, by unfold RM at *; omega⟩
    simp (disch := omega) only [s194_0, s194_1, s194_2, s194_3, s194_4, s194_5, s194_6, s194_7, s194_8, s194_9, s194_10, s194_11, s194_12, ↓reduceIte, Option.bind_some, Option.toList_some, Option.toList_none, List.cons_append, List.nil_append, if_true, if_false, true_or, or_true, true_and, and_true, not_true_eq_false, not_false_eq_true, Nat.reduceLT, Nat.reduceLeDiff, Nat.reduceEqDiff, Nat.reduceAdd, Nat.reduceMul, Nat.reduceSub, Nat.reducePow, Nat.reduceMod, Nat.reduceDiv, l0, l1, l2, l3, l4, l5, l6, l7, l8, l9, l10, l11, l12, l13, l14, l15, l16, l20, l31, l32, l36, l40, l48, l57, l59, l63, l64, l97, l99, l100, l101, l122, l127, l128, l250, l255, l262143, l262144, l30000, l100000, l12345, l1024, l4095, nI_eqs, nI_les, nI_lts, qI_eq, qI_eqn, nI_eqq, qI_lts, nI_ltp, nI_lep, qI_les, nI_add, nI_mul, qI_add, qI_s, qI_def, nI_clamps, bI_z, bI_o, bI_01, n01, n11, rf_some, rf_none, m1, m1n, bft, b0, e188]
    exact e2
  · rw [if_neg a]
    simp only [a, if_false] at e188
    have k2 : 2 ≤ mrK (gH s) true x n := kl.2 a
    have k6 : mrK (gH s) true x n ≤ 6 := kl.1
    refine MC.rf hx k2 k6 ?_
    have ne := rN_ne k2 k6
    simp (disch := omega) only [s194_0, s194_1, s194_2, s194_3, s194_4, s194_5, s194_6, s194_7, s194_8, s194_9, s194_10, s194_11, s194_12, s194_14, s194_15, s194_16, s194_17, s194_18, s194_19, s194_20, s194_21, s194_22, s194_23, s194_24, s194_25, s194_26, s194_27, s194_28, s194_29, s194_30, s194_31, s194_32, s194_33, s194_34, s194_35, s194_36, s194_37, s194_38, s194_39, s194_40, s194_41, s194_42, s194_43, s194_44, s194_45, s194_46, s194_47, s194_48, s194_49, s194_50, ↓reduceIte, Option.bind_some, Option.toList_some, Option.toList_none, List.cons_append, List.nil_append, if_true, if_false, true_or, or_true, true_and, and_true, not_true_eq_false, not_false_eq_true, Nat.reduceLT, Nat.reduceLeDiff, Nat.reduceEqDiff, Nat.reduceAdd, Nat.reduceMul, Nat.reduceSub, Nat.reducePow, Nat.reduceMod, Nat.reduceDiv, l0, l1, l2, l3, l4, l5, l6, l7, l8, l9, l10, l11, l12, l13, l14, l15, l16, l20, l31, l32, l36, l40, l48, l57, l59, l63, l64, l97, l99, l100, l101, l122, l127, l128, l250, l255, l262143, l262144, l30000, l100000, l12345, l1024, l4095, nI_eqs, nI_les, nI_lts, qI_eq, qI_eqn, nI_eqq, qI_lts, nI_ltp, nI_lep, qI_les, nI_add, nI_mul, qI_add, qI_s, qI_def, nI_clamps, bI_z, bI_o, bI_01, n01, n11, rf_some, rf_none, m1, m1n, bft, b0, e188, ne]
