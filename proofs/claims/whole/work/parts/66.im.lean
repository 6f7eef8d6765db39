/-! THE REFERENCE'S image; its mornings -/
theorem c228 (d : Nat) {h : AH} {A : Nat} {s : GS} {W : Nat → Prop} (hx : MX h A s W) : MC (d + 2) 228 [some (.ref A)] h A W (s_image s) := by
  obtain ⟨x1, x2, x3, x4, x5, x6, x7, x8, x9⟩ := id hx
  have z0 : hS h A = some (105, 0) := x1.1.1
  obtain ⟨g1, g2, g3, g4, p, r, m, g5, g6, g7, g8, g9, g10, g11, g12⟩ := x6
  cases ho : hR h A 22 with
  | none =>
    have n1 : hN (newC h (105, 0) 40) = hN h + 1 := rfl
    have s1 : hS (newC h (105, 0) 40) (hN h) = some (105, 0) := by rw [hS_newC, if_pos rfl]
    have e135 := fun d => E135 d n1 s1
    have m0 := ms135 n1 s1
    have f0 := fr135 n1
    have nn := N135_25 n1
    have uu : hU (H135_25 (newC h (105, 0) 40) (hN h)) = hU h + 40 + 829 := U135
    have kx := kx135 (newC h (105, 0) 40) (hN h)
    rw [hK_newC, hX_newC] at kx
    have s0 : hS (newC h (105, 0) 40) A = some (105, 0) := by rw [hS_newC, if_neg (by omega)]; exact z0
    generalize hH : H135_25 (newC h (105, 0) 40) (hN h) = H at *
    have fH : FrN (blk (hN h) 25) (fun b j => b = A ∧ j = 22) h H := by
      refine ⟨by omega, by omega, kx.1, kx.2, fun b hb => ?_, fun b hb _ j => ⟨?_, ?_⟩, fun b j hb _ => ?_⟩
      · rw [(f0 b hb).1, hS_newC, if_neg (by omega)]
      · rw [((f0 b hb).2 j).1, hI_newC, if_neg (by omega)]
      · rw [((f0 b hb).2 j).2.1, hL_newC, if_neg (by omega)]
      · rw [((f0 b hb).2 j).2.2, hR_newC, if_neg (by omega)]
    have f2 : FrN (blk (hN h) 25) (fun b j => b = A ∧ j = 22) h (stR H A 22 (some (hN h))) := fH.trans (FrN.stR H A 22 _ _ ⟨rfl, rfl⟩)
    have m2 : MS (stR H A 22 (some (hN h))) (hN h) := by
      unfold MS at m0 ⊢
      rw [hS_stR]
      simp only [hR_stR, show ¬ hN h = A by omega, false_and, if_false]
      exact m0
    have y2 : MY (stR H A 22 (some (hN h))) A (gY s) := x1.frN f2 (by omega) (fun b h1 h2 q => by unfold blk at q; omega) (fun j hj q => by omega)
    obtain ⟨h', e, q, f⟩ := m227 d m2 y2 (Or.inl (by omega))
    replace f := f.bk
    have rr : hR (stR H A 22 (some (hN h))) A 22 = some (hN h) := by rw [hR_stR, if_pos ⟨rfl, rfl⟩]
    have n2 : hR h' A 22 = some (hN h) := by rw [f.2.2.2.2.2.1, rr]
    have z2 : hS (stR H A 22 (some (hN h))) A = some (105, 0) := y2.1.1
    have z3 : hS H A = some (105, 0) := by rw [hS_stR] at z2; exact z2
    have n3 : hS h' A = some (105, 0) := by rw [f.2.2.2.2.1, z2]
    have z1 := m2.1
    have q1 : hN h' = hN h + 53 := by rw [f.1, hN_stR, nn]
    have q2 : hU h' = hU h + 869 := by rw [f.2.1, hU_stR, uu]
    have kn : gK s = none := by
      cases w : gK s with
      | none => rfl
      | some y => obtain ⟨p', v, -⟩ := g3 y w; rw [ho] at v; cases v
    obtain ⟨f1, f2', f3, f4, f5, f6, f7⟩ := f2.trans (f.n _)
    have nb : ∀ b, b < hN h → ¬ blk (hN h) 25 b := fun b hb w => by unfold blk at w; omega
    have z := MX.congr (h' := h') x1 x2 x3 x4 x5 (fun b h1 h2 => f5 b (by omega)) (fun b j h1 h2 _ => (f6 b (by omega) (nb b (by omega)) j).1) (fun b j h1 h2 => (f6 b (by omega) (nb b (by omega)) j).2) (fun b j h1 h2 => f7 b j (by omega) (fun w => by omega)) (fun j h1 h2 h3 h4 => f7 A j (by omega) (fun w => by omega))
    have r23 : hR h' A 23 = hR h A 23 := f7 A 23 (by omega) (fun w => by omega)
    have r31 : hR h' A 31 = hR h A 31 := f7 A 31 (by omega) (fun w => by omega)
    have r32 : hR h' A 32 = hR h A 32 := f7 A 32 (by omega) (fun w => by omega)
    have wo : ∀ b, blk (hN h) 53 b → ¬ W b := fun b hb w => by have := x9 b w; unfold blk at hb; omega
    have mq : ∀ p, MQ1 h A W p → MQ1 h' A W p := fun p w4 => by
      obtain ⟨v1, v2, v3, v4, v5⟩ := w4
      refine ⟨v1, by omega, v3, by rw [r23]; exact v4, fun o' ho' => ?_⟩
      rw [n2] at ho'
      have e' := Option.some.inj ho'
      subst e'
      intro w5; unfold blk at w5; omega
    refine ⟨h', ?_, ⟨z.1, z.2.1, z.2.2.1, z.2.2.2.1, z.2.2.2.2, ⟨fun o' ho' => ?_, fun w => (by cases w), fun y hy => ?_, fun o' p' h1 h2 => ?_, p, r, m, by rw [r31]; exact g5, by rw [r32]; exact g6, by rw [f5 p g11.2.1]; exact g7, by rw [f5 r g12.2.1]; exact g8, g9, g10, mq _ g11, mq _ g12⟩, x7, by omega, fun b hb => by have := x9 b hb; omega⟩, ⟨f3, f4, f1, f2', fun b hb => ?_⟩, ?_⟩
    · simp only [s228_0, s228_1, s228_2n, s228_2, s228_3, s228_4, s228_5, s228_6, s228_7, s228_8, s228_9, s228_10, s228_11, s228_12, s228_13, ↓reduceIte, Option.bind_some, Option.toList_some, Option.toList_none, List.cons_append, List.nil_append, if_true, if_false, true_or, or_true, true_and, and_true, not_true_eq_false, not_false_eq_true, Nat.reduceLT, Nat.reduceLeDiff, Nat.reduceEqDiff, Nat.reduceAdd, Nat.reduceMul, Nat.reduceSub, Nat.reducePow, Nat.reduceMod, Nat.reduceDiv, z0, z1, z2, z3, ho, rr, rf_some, rf_none, e135, e, n2, n3]
      rfl
    · rw [r23] at ho'
      obtain ⟨v1, v2, v3, v4⟩ := g1 o' ho'
      refine ⟨?_, v2, by omega, v4⟩
      unfold MS at v1 ⊢
      have ev : ∀ k, k < 53 → hS h' (o' + k) = hS h (o' + k) := fun k hk => f5 _ (by omega)
      have er : ∀ j, hR h' o' j = hR h o' j := fun j => f7 _ _ (by omega) (fun w => by omega)
      have e0 := f5 o' (by omega)
      rw [e0, ev 17 (by decide), ev 18 (by decide), ev 19 (by decide), ev 20 (by decide), ev 21 (by decide), ev 22 (by decide), ev 23 (by decide), ev 24 (by decide), er, er, er, er, er, er, er, er]
      exact v1
    · have hy : some (gY s) = some y := hy
      have e' := Option.some.inj hy
      subst e'
      exact ⟨hN h, n2, q, by omega, by omega, wo⟩
    · rw [r23] at h1
      rw [n2] at h2
      have e' := Option.some.inj h2
      subst e'
      have := (g1 o' h1).2.2.1
      omega
    · have hb' := x9 b hb
      have nA : b ≠ A := fun w => x7 A ⟨Nat.le_refl _, by omega⟩ (by rw [← w]; exact hb)
      exact ⟨f5 b hb', fun j => ⟨(f6 b hb' (nb b hb') j).1, (f6 b hb' (nb b hb') j).2, f7 b j hb' (fun w => nA w.1)⟩⟩
    · have e1 : fN h' A = fN h A := by
        unfold fN; rw [r31, g5]
        show alen h' p 2 = alen h p 2
        unfold alen; rw [f5 p g11.2.1]
      have e2 : oB h' A 23 = oB h A 23 := by unfold oB; rw [r23]
      have e3 : oB h' A 22 = 1 := by unfold oB; rw [n2]
      have e4 : oB h A 22 = 0 := by unfold oB; rw [ho]
      unfold RM pU pN
      rw [e1, e2, e3, e4]; omega
  | some o =>
    cases w : gK s with
    | none => rw [g2 w] at ho; cases ho
    | some y =>
      obtain ⟨p', v1, v2, v3, v4, v5⟩ := g3 y w
      rw [ho] at v1
      have e' := Option.some.inj v1
      subst e'
      obtain ⟨h', e, q, f⟩ := m227 d v2.1 x1 (Or.inl (by omega))
      replace f := f.bk
      have n2 : hR h' A 22 = some o := by rw [f.2.2.2.2.2.1, ho]
      have n3 : hS h' A = some (105, 0) := by rw [f.2.2.2.2.1, z0]
      have z1 := v2.1.1
      have rm := f.rm A
      refine ⟨h', ?_, ⟨x1.fr0 f (fun b _ _ w => by unfold blk at w; omega), x2.fr0 f (fun b _ _ w => by unfold blk at w; omega), x3.fr0 f ((f.2.2.2.2.2.2 A (fun w => by unfold blk at w; omega) 7).1) (fun w => by unfold blk at w; omega), x4.fr0 f (fun w => by unfold blk at w; omega), x5.fr0 f, ⟨fun o' ho' => ?_, fun w => (by cases w), fun y' hy => ?_, by rw [f.2.2.2.2.2.1]; exact g4, p, r, m, by rw [f.2.2.2.2.2.1]; exact g5, by rw [f.2.2.2.2.2.1]; exact g6, by rw [f.2.2.2.2.1]; exact g7, by rw [f.2.2.2.2.1]; exact g8, g9, g10, g11.fr0 f, g12.fr0 f⟩, x7, by rw [f.1]; exact x8, by rw [f.1]; exact x9⟩, f.kw (fun b w => v5 b (by unfold blk at w ⊢; omega)), by unfold RM at *; omega⟩
      · simp only [s228_0, s228_1, s228_2n, s228_2, s228_3, s228_4, s228_5, s228_6, s228_7, s228_8, s228_9, s228_10, s228_11, s228_12, s228_13, ↓reduceIte, Option.bind_some, Option.toList_some, Option.toList_none, List.cons_append, List.nil_append, if_true, if_false, true_or, or_true, true_and, and_true, not_true_eq_false, not_false_eq_true, Nat.reduceLT, Nat.reduceLeDiff, Nat.reduceEqDiff, Nat.reduceAdd, Nat.reduceMul, Nat.reduceSub, Nat.reducePow, Nat.reduceMod, Nat.reduceDiv, z0, z1, ho, rf_some, e, n2, n3]
        rfl
      · rw [f.2.2.2.2.2.1] at ho'
        obtain ⟨a1, a2, a3, a4⟩ := g1 o' ho'
        exact ⟨a1.fr0 f, a2, by rw [f.1]; exact a3, a4⟩
      · have hy : some (gY s) = some y' := hy
        have e' := Option.some.inj hy
        subst e'
        exact ⟨o, n2, q, v3, by rw [f.1]; exact v4, v5⟩
theorem lN_rem2 {a b : Nat} (ha : a < 2 ^ 31) (hb : b < 2 ^ 31) : lN a - lN (a / b) * lN b = lN (a % b) := by rw [← lN_div ha hb]; exact lN_rem ha hb
theorem m188 (d : Nat) {h : AH} {A : Nat} {s : GS} {W : Nat → Prop} (hx : MX h A s W) (x n : Int32) (p : Option Value) : E (d + 2) 188 0 [some (.ref A), some (.int x), some (.int n), p] [] h = if mrK (gH s) true x n = 0 then some (some (.int (nI 0)), h) else some (some (.int (rN (mrK (gH s) true x n))), RFM h A (mrK (gH s) true x n)) := by
  obtain ⟨my, mh, ⟨t1, t2, t3, t4, t5⟩, mr, mz, mg, mw, mn, mwn⟩ := id hx; have e136 := c136e hx; have b0 := my.1.1
  obtain ⟨⟨z0, z1, z2, z3, z4, z5, z6, r0, r1, r2, r3, r4, r5⟩, hs⟩ := id mh
  have e144 := fun d => m144 d hx x
  have mk : mrK (gH s) true x n = if inR x 8 = true ∧ inR n 41 = true then (if Hk (gH s x.toNatClampNeg) = 1 then (if inR n (Hn (gH s x.toNatClampNeg) + 1) = true then 0 else 2) else if Hk (gH s x.toNatClampNeg) = 2 then 3 else 4) else 2 := by
    unfold mrK strK
    rw [Bool.true_and]
    by_cases a : inR n 41 = true
    · by_cases b : inR x 8 = true
      · simp only [a, b, and_self, if_true]
      · simp only [a, b, Bool.false_eq_true, and_false, false_and, if_false]
    · simp only [a, Bool.false_eq_true, and_false, false_and, if_false]
  rw [mk]
  cases c : inR x 8
  · simp (disch := omega) only [s188_0, s188_1, s188_2, s188_3, s188_4, s188_5, s188_6, s188_7, s188_8, s188_9, s188_10, s188_11, s188_12, s188_13, s188_14, s188_15, s188_16, s188_17, s188_18, s188_19, s188_20, s188_21, s188_22, s188_23, s188_24, s188_25, s188_26, s188_27, s188_28, s188_29, s188_30, s188_31, s188_32, s188_33, s188_34, s188_35, ↓reduceIte, Option.bind_some, Option.toList_some, Option.toList_none, List.cons_append, List.nil_append, if_true, if_false, true_or, or_true, true_and, and_true, not_true_eq_false, not_false_eq_true, Nat.reduceLT, Nat.reduceLeDiff, Nat.reduceEqDiff, Nat.reduceAdd, Nat.reduceMul, Nat.reduceSub, Nat.reducePow, Nat.reduceMod, Nat.reduceDiv, l0, l1, l2, l3, l4, l5, l6, l7, l8, l9, l10, l11, l12, l13, l14, l15, l16, l20, l31, l32, l36, l40, l48, l57, l59, l63, l64, l97, l99, l100, l101, l122, l127, l128, l250, l255, l262143, l262144, l30000, l100000, l12345, l1024, l4095, nI_eqs, nI_les, nI_lts, qI_eq, qI_eqn, nI_eqq, qI_lts, nI_ltp, nI_lep, qI_les, nI_add, nI_mul, qI_add, qI_s, qI_def, nI_clamps, bI_z, bI_o, bI_01, n01, n11, rf_some, rf_none, m1, m1n, bft, j0, j1, j2, j3, j4, j5, j7, j40, j255, m137, in_m, in_n, in_k, c, b0, rN_d, e136, Bool.false_eq_true, false_and]
  · cases c2 : inR n 41
    · simp (disch := omega) only [s188_0, s188_1, s188_2, s188_3, s188_4, s188_5, s188_6, s188_7, s188_8, s188_9, s188_10, s188_11, s188_12, s188_13, s188_14, s188_15, s188_16, s188_17, s188_18, s188_19, s188_20, s188_21, s188_22, s188_23, s188_24, s188_25, s188_26, s188_27, s188_28, s188_29, s188_30, s188_31, s188_32, s188_33, s188_34, s188_35, ↓reduceIte, Option.bind_some, Option.toList_some, Option.toList_none, List.cons_append, List.nil_append, if_true, if_false, true_or, or_true, true_and, and_true, not_true_eq_false, not_false_eq_true, Nat.reduceLT, Nat.reduceLeDiff, Nat.reduceEqDiff, Nat.reduceAdd, Nat.reduceMul, Nat.reduceSub, Nat.reducePow, Nat.reduceMod, Nat.reduceDiv, l0, l1, l2, l3, l4, l5, l6, l7, l8, l9, l10, l11, l12, l13, l14, l15, l16, l20, l31, l32, l36, l40, l48, l57, l59, l63, l64, l97, l99, l100, l101, l122, l127, l128, l250, l255, l262143, l262144, l30000, l100000, l12345, l1024, l4095, nI_eqs, nI_les, nI_lts, qI_eq, qI_eqn, nI_eqq, qI_lts, nI_ltp, nI_lep, qI_les, nI_add, nI_mul, qI_add, qI_s, qI_def, nI_clamps, bI_z, bI_o, bI_01, n01, n11, rf_some, rf_none, m1, m1n, bft, j0, j1, j2, j3, j4, j5, j7, j40, j255, m137, in_m, in_n, in_k, c, c2, b0, rN_d, e136, Bool.false_eq_true, Bool.true_eq_false, and_false]
    · obtain ⟨k, hk, rfl⟩ := inR_of (by decide) c
      obtain ⟨j, hj, rfl⟩ := inR_of (by decide) c2
      obtain ⟨rs, ze, vk, v1, v2, ve, ok⟩ := hs k hk
      have n40 := ok.n
      simp only [noK_k hk] at e144
      simp only [and_self, if_true]
      rw [nI_clamp (show k < 2 ^ 31 by omega)]
      rcases zz_3 ok.1 with w | w | w
      · simp only [w, Nat.reduceEqDiff, if_true, if_false] at e144 ⊢
        simp (disch := omega) only [s188_0, s188_1, s188_2, s188_3, s188_4, s188_5, s188_6, s188_7, s188_8, s188_9, s188_10, s188_11, s188_12, s188_13, s188_14, s188_15, s188_16, s188_17, s188_18, s188_19, s188_20, s188_21, s188_22, s188_23, s188_24, s188_25, s188_26, s188_27, s188_28, s188_29, s188_30, s188_31, s188_32, s188_33, s188_34, s188_35, ↓reduceIte, Option.bind_some, Option.toList_some, Option.toList_none, List.cons_append, List.nil_append, if_true, if_false, true_or, or_true, true_and, and_true, not_true_eq_false, not_false_eq_true, Nat.reduceLT, Nat.reduceLeDiff, Nat.reduceEqDiff, Nat.reduceAdd, Nat.reduceMul, Nat.reduceSub, Nat.reducePow, Nat.reduceMod, Nat.reduceDiv, l0, l1, l2, l3, l4, l5, l6, l7, l8, l9, l10, l11, l12, l13, l14, l15, l16, l20, l31, l32, l36, l40, l48, l57, l59, l63, l64, l97, l99, l100, l101, l122, l127, l128, l250, l255, l262143, l262144, l30000, l100000, l12345, l1024, l4095, nI_eqs, nI_les, nI_lts, qI_eq, qI_eqn, nI_eqq, qI_lts, nI_ltp, nI_lep, qI_les, nI_add, nI_mul, qI_add, qI_s, qI_def, nI_clamps, bI_z, bI_o, bI_01, n01, n11, rf_some, rf_none, m1, m1n, bft, j0, j1, j2, j3, j4, j5, j7, j40, j255, m137, in_m, in_n, in_k, c, c2, b0, e144, rN_ne, Bool.true_eq_false]
      · simp only [w, Nat.reduceEqDiff, if_true, if_false] at e144 ⊢
        obtain ⟨v3, v4⟩ := v1 w
        rw [inR_nI (by omega) (by omega)]
        by_cases q : j < Hn (gH s k) + 1
        · rw [decide_eq_true q]
          have q' : j ≤ Hn (gH s k) := by omega
          simp (disch := omega) only [s188_0, s188_1, s188_2, s188_3, s188_4, s188_5, s188_6, s188_7, s188_8, s188_9, s188_10, s188_11, s188_12, s188_13, s188_14, s188_15, s188_16, s188_17, s188_18, s188_19, s188_20, s188_21, s188_22, s188_23, s188_24, s188_25, s188_26, s188_27, s188_28, s188_29, s188_30, s188_31, s188_32, s188_33, s188_34, s188_35, ↓reduceIte, Option.bind_some, Option.toList_some, Option.toList_none, List.cons_append, List.nil_append, if_true, if_false, true_or, or_true, true_and, and_true, not_true_eq_false, not_false_eq_true, Nat.reduceLT, Nat.reduceLeDiff, Nat.reduceEqDiff, Nat.reduceAdd, Nat.reduceMul, Nat.reduceSub, Nat.reducePow, Nat.reduceMod, Nat.reduceDiv, l0, l1, l2, l3, l4, l5, l6, l7, l8, l9, l10, l11, l12, l13, l14, l15, l16, l20, l31, l32, l36, l40, l48, l57, l59, l63, l64, l97, l99, l100, l101, l122, l127, l128, l250, l255, l262143, l262144, l30000, l100000, l12345, l1024, l4095, nI_eqs, nI_les, nI_lts, qI_eq, qI_eqn, nI_eqq, qI_lts, nI_ltp, nI_lep, qI_les, nI_add, nI_mul, qI_add, qI_s, qI_def, nI_clamps, bI_z, bI_o, bI_01, n01, n11, rf_some, rf_none, m1, m1n, bft, j0, j1, j2, j3, j4, j5, j7, j40, j255, m137, in_m, in_n, in_k, c, c2, b0, e144, r2, gI z3, v4, q', Bool.true_eq_false]
        · rw [decide_eq_false q]
          have q' : ¬ j ≤ Hn (gH s k) := by omega
          simp (disch := omega) only [s188_0, s188_1, s188_2, s188_3, s188_4, s188_5, s188_6, s188_7, s188_8, s188_9, s188_10, s188_11, s188_12, s188_13, s188_14, s188_15, s188_16, s188_17, s188_18, s188_19, s188_20, s188_21, s188_22, s188_23, s188_24, s188_25, s188_26, s188_27, s188_28, s188_29, s188_30, s188_31, s188_32, s188_33, s188_34, s188_35, ↓reduceIte, Option.bind_some, Option.toList_some, Option.toList_none, List.cons_append, List.nil_append, if_true, if_false, true_or, or_true, true_and, and_true, not_true_eq_false, not_false_eq_true, Nat.reduceLT, Nat.reduceLeDiff, Nat.reduceEqDiff, Nat.reduceAdd, Nat.reduceMul, Nat.reduceSub, Nat.reducePow, Nat.reduceMod, Nat.reduceDiv, l0, l1, l2, l3, l4, l5, l6, l7, l8, l9, l10, l11, l12, l13, l14, l15, l16, l20, l31, l32, l36, l40, l48, l57, l59, l63, l64, l97, l99, l100, l101, l122, l127, l128, l250, l255, l262143, l262144, l30000, l100000, l12345, l1024, l4095, nI_eqs, nI_les, nI_lts, qI_eq, qI_eqn, nI_eqq, qI_lts, nI_ltp, nI_lep, qI_les, nI_add, nI_mul, qI_add, qI_s, qI_def, nI_clamps, bI_z, bI_o, bI_01, n01, n11, rf_some, rf_none, m1, m1n, bft, j0, j1, j2, j3, j4, j5, j7, j40, j255, m137, in_m, in_n, in_k, c, c2, b0, e144, r2, gI z3, v4, q', rN_d, e136, Bool.true_eq_false, Bool.false_eq_true]
      · simp only [w, Nat.reduceEqDiff, if_true, if_false] at e144 ⊢
        simp (disch := omega) only [s188_0, s188_1, s188_2, s188_3, s188_4, s188_5, s188_6, s188_7, s188_8, s188_9, s188_10, s188_11, s188_12, s188_13, s188_14, s188_15, s188_16, s188_17, s188_18, s188_19, s188_20, s188_21, s188_22, s188_23, s188_24, s188_25, s188_26, s188_27, s188_28, s188_29, s188_30, s188_31, s188_32, s188_33, s188_34, s188_35, ↓reduceIte, Option.bind_some, Option.toList_some, Option.toList_none, List.cons_append, List.nil_append, if_true, if_false, true_or, or_true, true_and, and_true, not_true_eq_false, not_false_eq_true, Nat.reduceLT, Nat.reduceLeDiff, Nat.reduceEqDiff, Nat.reduceAdd, Nat.reduceMul, Nat.reduceSub, Nat.reducePow, Nat.reduceMod, Nat.reduceDiv, l0, l1, l2, l3, l4, l5, l6, l7, l8, l9, l10, l11, l12, l13, l14, l15, l16, l20, l31, l32, l36, l40, l48, l57, l59, l63, l64, l97, l99, l100, l101, l122, l127, l128, l250, l255, l262143, l262144, l30000, l100000, l12345, l1024, l4095, nI_eqs, nI_les, nI_lts, qI_eq, qI_eqn, nI_eqq, qI_lts, nI_ltp, nI_lep, qI_les, nI_add, nI_mul, qI_add, qI_s, qI_def, nI_clamps, bI_z, bI_o, bI_01, n01, n11, rf_some, rf_none, m1, m1n, bft, j0, j1, j2, j3, j4, j5, j7, j40, j255, m137, in_m, in_n, in_k, c, c2, b0, e144, rN_ne, Bool.true_eq_false]
theorem m189 (d : Nat) {h : AH} {a e n : Nat} {y : YS} (hx : MY h a y) (ze : hS h e = some (1, 40)) (ne : ¬ yA a e) (hn : n ≤ 40) {f : Nat → Int64} (hf : ∀ i, i < n → hL h e i = f i) (p : Option Value) : ∃ h', E (d + 4) 189 0 [some (.ref a), some (.ref e), some (.int (nI n)), p] [] h = some (some (.int (wI (gW f n 0 y).1)), h') ∧ MY h' a (gW f n 0 y).2 ∧ FY a h h' := by
  have lp : ∀ m i h1 y, i + m = n → MY h1 a y → FY a h h1 → ∃ h2, E (d + 4) 189 2 [some (.ref a), some (.ref e), some (.int (nI n)), some (.int (nI i))] [] h1 = some (some (.int (wI (gW f m i y).1)), h2) ∧ MY h2 a (gW f m i y).2 ∧ FY a h h2 := by
    intro m
    induction m with
    | zero =>
      intro i h1 y hi q fr
      have hi' : i = n := hi
      subst hi'
      refine ⟨h1, ?_, q, fr⟩
      rw [s189_2]
      simp (disch := omega) only [s189_0, s189_1, s189_3, s189_4, s189_5, s189_6, s189_7, s189_8, s189_9, s189_10, s189_11, s189_12, s189_13, s189_14, s189_15, s189_16, s189_17, s189_18, s189_19, s189_20, s189_21, s189_22, s189_23, s189_24, s189_25, s189_26, s189_27, s189_28, s189_29, s189_30, s189_31, s189_32, s189_33, s189_34, s189_35, s189_36, s189_37, s189_38, s189_39, s189_40, s189_41, s189_42, s189_43, s189_44, s189_45, s189_46, s189_47, s189_48, s189_49, s189_50, s189_51, s189_52, s189_53, s189_54, ↓reduceIte, Option.bind_some, Option.toList_some, Option.toList_none, List.cons_append, List.nil_append, if_true, if_false, true_or, or_true, true_and, and_true, not_true_eq_false, not_false_eq_true, Nat.reduceLT, Nat.reduceLeDiff, Nat.reduceEqDiff, Nat.reduceAdd, Nat.reduceMul, Nat.reduceSub, Nat.reducePow, Nat.reduceMod, Nat.reduceDiv, l0, l1, l2, l3, l4, l5, l6, l7, l8, l9, l10, l11, l12, l13, l14, l15, l16, l20, l31, l32, l36, l40, l48, l57, l59, l63, l64, l97, l99, l100, l101, l122, l127, l128, l250, l255, l262143, l262144, l30000, l100000, l12345, l1024, l4095, nI_eqs, nI_les, nI_lts, qI_eq, qI_eqn, nI_eqq, qI_lts, nI_ltp, nI_lep, qI_les, nI_add, nI_mul, qI_add, qI_s, qI_def, nI_clamps, bI_z, bI_o, bI_01, n01, n11, rf_some, rf_none, m1, m1n, bft, Nat.le_refl]
      rfl
    | succ m ih =>
      intro i h1 y hi q fr
      have h1' : ¬ n ≤ i := by omega
      have ze1 : hS h1 e = some (1, 40) := by rw [fr.1.2.2.2.2.1]; exact ze
      have y0 := q.1.1
      have yn : hI h1 a 17 = nI (Yn y) := q.2.1.2.2.1
      have yn6 := q.2.2.2.2.1
      have el : hL h1 e i = f i := by rw [(fr.1.2.2.2.2.2.2 e ne i).2]; exact hf i (by omega)
      rw [s189_2]
      unfold gW
      generalize hv : f i = v at *
      rcases inRL_cases v (n := 2 * Yn y) (by omega) with ⟨t, ht, rfl⟩ | ⟨f0, f1⟩ | ⟨f0, f1, f2⟩
      · have et : (lN t).toInt.toNat = t := by rw [lN_toInt (by omega)]; omega
        have rl : inRL (lN t) (2 * Yn y) = true := by rw [inRL_lN (by omega), decide_eq_true ht]
        rw [rl, if_pos rfl, et]
        have kt : t / 2 < Yn y := by omega
        have e141 := fun d => m141 d q kt
        have o := q.2.2.2.2.2.2 (t / 2) kt
        by_cases b : YP y (t / 2) < Yg y
        · rw [if_pos b]
          have b' : ¬ Yg y ≤ YP y (t / 2) := by omega
          rw [decide_eq_false b'] at e141
          obtain ⟨h2, e184, q2, f2⟩ := m184 d q kt b none none
          have ze2 : hS h2 e = some (1, 40) := by rw [f2.1.2.2.2.2.1]; exact ze1
          have el2 : hL h2 e i = lN t := by rw [(f2.1.2.2.2.2.2.2 e ne i).2]; exact el
          by_cases c : letY y (YP y (t / 2)) (YC y (t / 2)) = decide (t % 2 = 1)
          · rw [if_pos c]
            rw [c] at e184
            obtain ⟨h3, e3, q3, f3⟩ := ih (i + 1) h2 _ (by omega) q2 (fr.trans f2)
            refine ⟨h3, ?_, q3, f3⟩
            by_cases c' : t % 2 = 1
            · rw [decide_eq_true c'] at e184
              simp (disch := omega) only [s189_0, s189_1, s189_3, s189_4, s189_5, s189_6, s189_7, s189_8, s189_9, s189_10, s189_11, s189_12, s189_13, s189_14, s189_15, s189_16, s189_17, s189_18, s189_19, s189_20, s189_21, s189_22, s189_23, s189_24, s189_25, s189_26, s189_27, s189_28, s189_29, s189_30, s189_31, s189_32, s189_33, s189_34, s189_35, s189_36, s189_37, s189_38, s189_39, s189_40, s189_41, s189_42, s189_43, s189_44, s189_45, s189_46, s189_47, s189_48, s189_49, s189_50, s189_51, s189_52, s189_53, s189_54, ↓reduceIte, Option.bind_some, Option.toList_some, Option.toList_none, List.cons_append, List.nil_append, if_true, if_false, true_or, or_true, true_and, and_true, not_true_eq_false, not_false_eq_true, Nat.reduceLT, Nat.reduceLeDiff, Nat.reduceEqDiff, Nat.reduceAdd, Nat.reduceMul, Nat.reduceSub, Nat.reducePow, Nat.reduceMod, Nat.reduceDiv, l0, l1, l2, l3, l4, l5, l6, l7, l8, l9, l10, l11, l12, l13, l14, l15, l16, l20, l31, l32, l36, l40, l48, l57, l59, l63, l64, l97, l99, l100, l101, l122, l127, l128, l250, l255, l262143, l262144, l30000, l100000, l12345, l1024, l4095, nI_eqs, nI_les, nI_lts, qI_eq, qI_eqn, nI_eqq, qI_lts, nI_ltp, nI_lep, qI_les, nI_add, nI_mul, qI_add, qI_s, qI_def, nI_clamps, bI_z, bI_o, bI_01, n01, n11, rf_some, rf_none, m1, m1n, bft, j0, j1, j2, m137, in_q, rl, lN_eqs, lN_div, lN_rem2, lN_i, lce, gA ze1, gA ze2, el, el2, y0, yn, h1', e141, e184, c', Bool.true_eq_false]
              exact e3
            · rw [decide_eq_false c'] at e184
              simp (disch := omega) only [s189_0, s189_1, s189_3, s189_4, s189_5, s189_6, s189_7, s189_8, s189_9, s189_10, s189_11, s189_12, s189_13, s189_14, s189_15, s189_16, s189_17, s189_18, s189_19, s189_20, s189_21, s189_22, s189_23, s189_24, s189_25, s189_26, s189_27, s189_28, s189_29, s189_30, s189_31, s189_32, s189_33, s189_34, s189_35, s189_36, s189_37, s189_38, s189_39, s189_40, s189_41, s189_42, s189_43, s189_44, s189_45, s189_46, s189_47, s189_48, s189_49, s189_50, s189_51, s189_52, s189_53, s189_54, ↓reduceIte, Option.bind_some, Option.toList_some, Option.toList_none, List.cons_append, List.nil_append, if_true, if_false, true_or, or_true, true_and, and_true, not_true_eq_false, not_false_eq_true, Nat.reduceLT, Nat.reduceLeDiff, Nat.reduceEqDiff, Nat.reduceAdd, Nat.reduceMul, Nat.reduceSub, Nat.reducePow, Nat.reduceMod, Nat.reduceDiv, l0, l1, l2, l3, l4, l5, l6, l7, l8, l9, l10, l11, l12, l13, l14, l15, l16, l20, l31, l32, l36, l40, l48, l57, l59, l63, l64, l97, l99, l100, l101, l122, l127, l128, l250, l255, l262143, l262144, l30000, l100000, l12345, l1024, l4095, nI_eqs, nI_les, nI_lts, qI_eq, qI_eqn, nI_eqq, qI_lts, nI_ltp, nI_lep, qI_les, nI_add, nI_mul, qI_add, qI_s, qI_def, nI_clamps, bI_z, bI_o, bI_01, n01, n11, rf_some, rf_none, m1, m1n, bft, j0, j1, j2, m137, in_q, rl, lN_eqs, lN_div, lN_rem2, lN_i, lce, gA ze1, gA ze2, el, el2, y0, yn, h1', e141, e184, c', Bool.true_eq_false]
              exact e3
          · rw [if_neg c]
            refine ⟨h2, ?_, q2, fr.trans f2⟩
            by_cases c' : t % 2 = 1
            · have b2 : letY y (YP y (t / 2)) (YC y (t / 2)) = false := by rw [decide_eq_true c'] at c; simpa using c
              rw [b2] at e184
              simp (disch := omega) only [s189_0, s189_1, s189_3, s189_4, s189_5, s189_6, s189_7, s189_8, s189_9, s189_10, s189_11, s189_12, s189_13, s189_14, s189_15, s189_16, s189_17, s189_18, s189_19, s189_20, s189_21, s189_22, s189_23, s189_24, s189_25, s189_26, s189_27, s189_28, s189_29, s189_30, s189_31, s189_32, s189_33, s189_34, s189_35, s189_36, s189_37, s189_38, s189_39, s189_40, s189_41, s189_42, s189_43, s189_44, s189_45, s189_46, s189_47, s189_48, s189_49, s189_50, s189_51, s189_52, s189_53, s189_54, ↓reduceIte, Option.bind_some, Option.toList_some, Option.toList_none, List.cons_append, List.nil_append, if_true, if_false, true_or, or_true, true_and, and_true, not_true_eq_false, not_false_eq_true, Nat.reduceLT, Nat.reduceLeDiff, Nat.reduceEqDiff, Nat.reduceAdd, Nat.reduceMul, Nat.reduceSub, Nat.reducePow, Nat.reduceMod, Nat.reduceDiv, l0, l1, l2, l3, l4, l5, l6, l7, l8, l9, l10, l11, l12, l13, l14, l15, l16, l20, l31, l32, l36, l40, l48, l57, l59, l63, l64, l97, l99, l100, l101, l122, l127, l128, l250, l255, l262143, l262144, l30000, l100000, l12345, l1024, l4095, nI_eqs, nI_les, nI_lts, qI_eq, qI_eqn, nI_eqq, qI_lts, nI_ltp, nI_lep, qI_les, nI_add, nI_mul, qI_add, qI_s, qI_def, nI_clamps, bI_z, bI_o, bI_01, n01, n11, rf_some, rf_none, m1, m1n, bft, j0, j1, j2, m137, in_q, rl, lN_eqs, lN_div, lN_rem2, lN_i, lce, gA ze1, gA ze2, el, el2, y0, yn, h1', e141, e184, c', Bool.true_eq_false]
              rfl
            · have b2 : letY y (YP y (t / 2)) (YC y (t / 2)) = true := by rw [decide_eq_false c'] at c; simpa using c
              rw [b2] at e184
              simp (disch := omega) only [s189_0, s189_1, s189_3, s189_4, s189_5, s189_6, s189_7, s189_8, s189_9, s189_10, s189_11, s189_12, s189_13, s189_14, s189_15, s189_16, s189_17, s189_18, s189_19, s189_20, s189_21, s189_22, s189_23, s189_24, s189_25, s189_26, s189_27, s189_28, s189_29, s189_30, s189_31, s189_32, s189_33, s189_34, s189_35, s189_36, s189_37, s189_38, s189_39, s189_40, s189_41, s189_42, s189_43, s189_44, s189_45, s189_46, s189_47, s189_48, s189_49, s189_50, s189_51, s189_52, s189_53, s189_54, ↓reduceIte, Option.bind_some, Option.toList_some, Option.toList_none, List.cons_append, List.nil_append, if_true, if_false, true_or, or_true, true_and, and_true, not_true_eq_false, not_false_eq_true, Nat.reduceLT, Nat.reduceLeDiff, Nat.reduceEqDiff, Nat.reduceAdd, Nat.reduceMul, Nat.reduceSub, Nat.reducePow, Nat.reduceMod, Nat.reduceDiv, l0, l1, l2, l3, l4, l5, l6, l7, l8, l9, l10, l11, l12, l13, l14, l15, l16, l20, l31, l32, l36, l40, l48, l57, l59, l63, l64, l97, l99, l100, l101, l122, l127, l128, l250, l255, l262143, l262144, l30000, l100000, l12345, l1024, l4095, nI_eqs, nI_les, nI_lts, qI_eq, qI_eqn, nI_eqq, qI_lts, nI_ltp, nI_lep, qI_les, nI_add, nI_mul, qI_add, qI_s, qI_def, nI_clamps, bI_z, bI_o, bI_01, n01, n11, rf_some, rf_none, m1, m1n, bft, j0, j1, j2, m137, in_q, rl, lN_eqs, lN_div, lN_rem2, lN_i, lce, gA ze1, gA ze2, el, el2, y0, yn, h1', e141, e184, c', Bool.true_eq_false]
              rfl
        · rw [if_neg b]
          have b' : Yg y ≤ YP y (t / 2) := by omega
          rw [decide_eq_true b'] at e141
          refine ⟨h1, ?_, q, fr⟩
          simp (disch := omega) only [s189_0, s189_1, s189_3, s189_4, s189_5, s189_6, s189_7, s189_8, s189_9, s189_10, s189_11, s189_12, s189_13, s189_14, s189_15, s189_16, s189_17, s189_18, s189_19, s189_20, s189_21, s189_22, s189_23, s189_24, s189_25, s189_26, s189_27, s189_28, s189_29, s189_30, s189_31, s189_32, s189_33, s189_34, s189_35, s189_36, s189_37, s189_38, s189_39, s189_40, s189_41, s189_42, s189_43, s189_44, s189_45, s189_46, s189_47, s189_48, s189_49, s189_50, s189_51, s189_52, s189_53, s189_54, ↓reduceIte, Option.bind_some, Option.toList_some, Option.toList_none, List.cons_append, List.nil_append, if_true, if_false, true_or, or_true, true_and, and_true, not_true_eq_false, not_false_eq_true, Nat.reduceLT, Nat.reduceLeDiff, Nat.reduceEqDiff, Nat.reduceAdd, Nat.reduceMul, Nat.reduceSub, Nat.reducePow, Nat.reduceMod, Nat.reduceDiv, l0, l1, l2, l3, l4, l5, l6, l7, l8, l9, l10, l11, l12, l13, l14, l15, l16, l20, l31, l32, l36, l40, l48, l57, l59, l63, l64, l97, l99, l100, l101, l122, l127, l128, l250, l255, l262143, l262144, l30000, l100000, l12345, l1024, l4095, nI_eqs, nI_les, nI_lts, qI_eq, qI_eqn, nI_eqq, qI_lts, nI_ltp, nI_lep, qI_les, nI_add, nI_mul, qI_add, qI_s, qI_def, nI_clamps, bI_z, bI_o, bI_01, n01, n11, rf_some, rf_none, m1, m1n, bft, j0, j1, j2, m137, in_q, rl, lN_eqs, lN_div, lN_i, gA ze1, el, y0, yn, h1', e141, Bool.true_eq_false]
          rfl
      · rw [f0, if_neg (by decide)]
        refine ⟨h1, ?_, q, fr⟩
        simp (disch := omega) only [s189_0, s189_1, s189_3, s189_4, s189_5, s189_6, s189_7, s189_8, s189_9, s189_10, s189_11, s189_12, s189_13, s189_14, s189_15, s189_16, s189_17, s189_18, s189_19, s189_20, s189_21, s189_22, s189_23, s189_24, s189_25, s189_26, s189_27, s189_28, s189_29, s189_30, s189_31, s189_32, s189_33, s189_34, s189_35, s189_36, s189_37, s189_38, s189_39, s189_40, s189_41, s189_42, s189_43, s189_44, s189_45, s189_46, s189_47, s189_48, s189_49, s189_50, s189_51, s189_52, s189_53, s189_54, ↓reduceIte, Option.bind_some, Option.toList_some, Option.toList_none, List.cons_append, List.nil_append, if_true, if_false, true_or, or_true, true_and, and_true, not_true_eq_false, not_false_eq_true, Nat.reduceLT, Nat.reduceLeDiff, Nat.reduceEqDiff, Nat.reduceAdd, Nat.reduceMul, Nat.reduceSub, Nat.reducePow, Nat.reduceMod, Nat.reduceDiv, l0, l1, l2, l3, l4, l5, l6, l7, l8, l9, l10, l11, l12, l13, l14, l15, l16, l20, l31, l32, l36, l40, l48, l57, l59, l63, l64, l97, l99, l100, l101, l122, l127, l128, l250, l255, l262143, l262144, l30000, l100000, l12345, l1024, l4095, nI_eqs, nI_les, nI_lts, qI_eq, qI_eqn, nI_eqq, qI_lts, nI_ltp, nI_lep, qI_les, nI_add, nI_mul, qI_add, qI_s, qI_def, nI_clamps, bI_z, bI_o, bI_01, n01, n11, rf_some, rf_none, m1, m1n, bft, j0, j1, j2, m137, in_q, f0, gA ze1, el, y0, yn, h1', Bool.true_eq_false]
        rfl
      · rw [f0, if_neg (by decide)]
        refine ⟨h1, ?_, q, fr⟩
        simp (disch := omega) only [s189_0, s189_1, s189_3, s189_4, s189_5, s189_6, s189_7, s189_8, s189_9, s189_10, s189_11, s189_12, s189_13, s189_14, s189_15, s189_16, s189_17, s189_18, s189_19, s189_20, s189_21, s189_22, s189_23, s189_24, s189_25, s189_26, s189_27, s189_28, s189_29, s189_30, s189_31, s189_32, s189_33, s189_34, s189_35, s189_36, s189_37, s189_38, s189_39, s189_40, s189_41, s189_42, s189_43, s189_44, s189_45, s189_46, s189_47, s189_48, s189_49, s189_50, s189_51, s189_52, s189_53, s189_54, ↓reduceIte, Option.bind_some, Option.toList_some, Option.toList_none, List.cons_append, List.nil_append, if_true, if_false, true_or, or_true, true_and, and_true, not_true_eq_false, not_false_eq_true, Nat.reduceLT, Nat.reduceLeDiff, Nat.reduceEqDiff, Nat.reduceAdd, Nat.reduceMul, Nat.reduceSub, Nat.reducePow, Nat.reduceMod, Nat.reduceDiv, l0, l1, l2, l3, l4, l5, l6, l7, l8, l9, l10, l11, l12, l13, l14, l15, l16, l20, l31, l32, l36, l40, l48, l57, l59, l63, l64, l97, l99, l100, l101, l122, l127, l128, l250, l255, l262143, l262144, l30000, l100000, l12345, l1024, l4095, nI_eqs, nI_les, nI_lts, qI_eq, qI_eqn, nI_eqq, qI_lts, nI_ltp, nI_lep, qI_les, nI_add, nI_mul, qI_add, qI_s, qI_def, nI_clamps, bI_z, bI_o, bI_01, n01, n11, rf_some, rf_none, m1, m1n, bft, j0, j1, j2, m137, in_q, f0, gA ze1, el, y0, yn, h1', Bool.true_eq_false]
        rfl
  rw [s189_0, s189_1]
  exact lp n 0 h y (by omega) hx (FY.refl _ _)
