/-! SCRATCHED, the reference: the call -/
theorem c225i (d : Nat) {h : AH} {A : Nat} {s : GS} {W : Nat → Prop} (hx : MX h A s W) : ∃ h' o, E (d + 2) 225 0 [some (.ref A)] [] h = some (some (.ref o), h') ∧ MX h' A s W ∧ hR h' A 23 = some o ∧ MY h' o (gY s) ∧ A + 53 ≤ o ∧ KW W h h' ∧ RM A h h' 0 0 ∧ ∀ b j, A ≤ b → b < A + 53 → hI h' b j = hI h b j ∧ hL h' b j = hL h b j := by
  obtain ⟨h', o, e, x1, q1, y1, a1, kw, rm⟩ := c225 d hx
  have x6 := hx.2.2.2.2.2.1
  have oth : OTH h A := by
    unfold OTH
    cases w : hR h A 23 with
    | none => exact Or.inl rfl
    | some o => exact Or.inr ⟨o, rfl, (x6.1 o w).1, (x6.1 o w).2.1, (x6.1 o w).2.2.1⟩
  obtain ⟨h2, o2, e2, q12, q2, q3, q4, q5, f⟩ := m225 d hx.1 oth hx.2.2.2.2.2.2.2.1
  rw [e] at e2
  have e3 := Option.some.inj e2
  have e4 : h' = h2 := (Prod.mk.inj e3).2
  subst e4
  rw [q1] at q12
  have e5 := Option.some.inj q12
  subst e5
  exact ⟨h', o, e, x1, q1, y1, a1, kw, rm, fun b j h1 h2 => f.2.2.2.2.2.1 b (by have := hx.2.2.2.2.2.2.2.1; omega) (fun w => by unfold blk at w; omega) j⟩
theorem newC_old (h : AH) (q : Nat × Nat) (u : Nat) : ∀ b, b < hN h → hS (newC h q u) b = hS h b ∧ ∀ j, hI (newC h q u) b j = hI h b j ∧ hL (newC h q u) b j = hL h b j ∧ hR (newC h q u) b j = hR h b j := by
  intro b hb
  refine ⟨by rw [hS_newC, if_neg (by omega)], fun j => ⟨by rw [hI_newC, if_neg (by omega)], by rw [hL_newC, if_neg (by omega)], by rw [hR_newC, if_neg (by omega)]⟩⟩
theorem MX.alloc {h : AH} {A : Nat} {s : GS} {W : Nat → Prop} (x : MX h A s W) (q : Nat × Nat) (u : Nat) : MX (newC h q u) A s (WL W (hN h)) ∧ KW W h (newC h q u) ∧ RM A h (newC h q u) 1 u := by
  have old := newC_old h q u
  have n1 : hN (newC h q u) = hN h + 1 := rfl
  have u1 : hU (newC h q u) = hU h + u := rfl
  have z := x.ext (h' := newC h q u) (by omega) old
  obtain ⟨x1, x2, x3, x4, x5, x6, x7, x8, x9⟩ := id x
  have eA := fun j => ((old A (by omega)).2 j).2.2
  obtain ⟨g1, g2, g3, g4, p, r, m, g5, g6, g7, g8, g9, g10, g11, g12⟩ := x6
  obtain ⟨z1, z2, z3, z4, z5, ⟨k1, k2, k3, k4, p', r', m', k5, k6, k7, k8, k9, k10, k11, k12⟩, z7, z8, z9⟩ := z
  have pe : p' = p := by rw [eA, g5] at k5; exact (Option.some.inj k5).symm
  have re : r' = r := by rw [eA, g6] at k6; exact (Option.some.inj k6).symm
  subst pe
  subst re
  have mq : ∀ v, v < hN h → MQ1 (newC h q u) A W v → MQ1 (newC h q u) A (WL W (hN h)) v := by
    intro v hv ⟨v1, v2, v3, v4, v5⟩
    refine ⟨v1, v2, fun w => ?_, v4, v5⟩
    rcases w with w | w
    · exact v3 w
    · omega
  refine ⟨⟨z1, z2, z3, z4, z5, ⟨fun o ho => ?_, k2, fun y hy => ?_, k4, p', r', m', k5, k6, k7, k8, k9, k10, mq _ g11.2.1 k11, mq _ g12.2.1 k12⟩, fun b hb w => ?_, z8, fun b hb => ?_⟩, ⟨rfl, rfl, by omega, by omega, fun b hb => old b (x9 b hb)⟩, ?_⟩
  · obtain ⟨v1, v2, v3, v4⟩ := k1 o ho
    rw [eA] at ho
    have := (g1 o ho).2.2.1
    refine ⟨v1, v2, v3, fun b hb w => ?_⟩
    rcases w with w | w
    · exact v4 b hb w
    · unfold blk at hb; omega
  · obtain ⟨v, v1, v2, v3, v4, v5⟩ := k3 y hy
    obtain ⟨v', w1, w2, w3, w4, w5⟩ := g3 y hy
    rw [eA, w1] at v1
    have e := Option.some.inj v1
    subst e
    refine ⟨v', by rw [eA]; exact w1, v2, v3, v4, fun b hb w => ?_⟩
    rcases w with w | w
    · exact v5 b hb w
    · unfold blk at hb; omega
  · rcases w with w | w
    · exact z7 b hb w
    · unfold blk at hb; omega
  · rcases hb with hb | hb
    · exact z9 b hb
    · omega
  · have e1 : fN (newC h q u) A = fN h A := by
      unfold fN; rw [eA, g5]
      show alen (newC h q u) p' 2 = alen h p' 2
      unfold alen; rw [(old p' g11.2.1).1]
    have e2 : ∀ k, oB (newC h q u) A k = oB h A k := fun k => by unfold oB; rw [eA]
    unfold RM pU pN
    rw [e1, e2, e2, n1, u1]; omega
theorem c220 (d : Nat) {h : AH} {A : Nat} {s : GS} {W : Nat → Prop} (hx : MX h A s W) (x n g w : Int32) (p5 p6 p7 : Option Value) : MC (d + 10) 220 [some (.ref A), some (.int x), some (.int n), some (.int g), some (.int w), p5, p6, p7] h A W (s_scratched s x n g w) := by
  obtain ⟨my, mh, ⟨t1, t2, t3, t4, t5⟩, mr, mz, mg, mw, mn, mwn⟩ := id hx; have e136 := c136e hx; have b0 := my.1.1; obtain ⟨⟨z0, z1, z2, z3, z4, z5, z6, z7, z8, r1, r2, r3, r4, r5, r6, r7, r8⟩, ⟨vc, vg, vn, vt, vz, vK, vA, vU, vF, vM, vW, vC, vP⟩, ok⟩ := id my; obtain ⟨⟨o2, o3⟩, o6, on, og, oc⟩ := id ok
  have sok : ∀ k, k < 8 → SOK (gH s k) := fun k hk => (mh.2 k hk).2.2.2.2.2.2
  have e216 := fun d => m216 d hx x n g w (most := 6) (mo := 1) (by decide) (by decide) none none
  unfold s_scratched
  have kl := crK_lt (gH s) (gY s) (qgw s g w 2) x n 6
  by_cases a : crK (gH s) (gY s) (qgw s g w 2) x n 6 = 0
  · rw [if_pos a]
    simp only [Nat.reduceAdd, a, if_true] at e216
    obtain ⟨qq, k, m, hk, rfl, wk, rfl, u1, u2, u3, hc⟩ := crK_0 (by decide) sok a
    unfold qgw at qq
    rw [Bool.and_eq_true] at qq
    obtain ⟨j, hj, rfl⟩ := inR_of (by omega) qq.1
    obtain ⟨v, hv, rfl⟩ := inR_of (by omega) qq.2
    rw [nI_clamp (show k < 2 ^ 31 by omega), nI_clamp (show m < 2 ^ 31 by omega), nI_clamp (show j < 2 ^ 31 by omega), nI_clamp (show v < 2 ^ 31 by omega)]
    have hcc : ∀ i, i < m → cv (He (gH s k)) i < Yc (gY s) ∧ He (gH s k) i = lN (cv (He (gH s k)) i) := fun i hi => cv_of (by omega) (hc i hi)
    have nw : ¬ W (hN h) := fun w => absurd (hx.2.2.2.2.2.2.2.2 _ w) (Nat.lt_irrefl _)
    have lq : ∀ l i t h1, i + l = m → t 0 + t 1 + t 2 = i → (∀ c, Yc (gY s) ≤ c → c < 3 → t c = 0) → MX h1 A s (WL W (hN h)) → KW W h h1 → RM A h h1 1 3 → hS h1 (hN h) = some (0, 3) → (∀ c, c < 3 → hI h1 (hN h) c = nI (t c)) → ∃ h2, E (d + 10) 220 18 [some (.ref A), some (.int (nI k)), some (.int (nI m)), some (.int (nI j)), some (.int (nI v)), some (.int (nI 0)), some (.ref (hN h)), some (.int (nI i))] [] h1 = E (d + 10) 220 36 [some (.ref A), some (.int (nI k)), some (.int (nI m)), some (.int (nI j)), some (.int (nI v)), some (.int (nI 0)), some (.ref (hN h)), some (.int (nI m))] [] h2 ∧ (cnE (He (gH s k)) l i t 0 + cnE (He (gH s k)) l i t 1 + cnE (He (gH s k)) l i t 2 = m) ∧ (∀ c, Yc (gY s) ≤ c → c < 3 → cnE (He (gH s k)) l i t c = 0) ∧ MX h2 A s (WL W (hN h)) ∧ KW W h h2 ∧ RM A h h2 1 3 ∧ hS h2 (hN h) = some (0, 3) ∧ ∀ c, c < 3 → hI h2 (hN h) c = nI (cnE (He (gH s k)) l i t c) := by
      intro l
      induction l with
      | zero =>
        intro i t h1 hi ht hz x1 kw rm sl il
        have hi' : i = m := hi
        subst hi'
        refine ⟨h1, ?_, ht, hz, x1, kw, rm, sl, il⟩
        rw [s220_18]
        simp (disch := omega) only [s220_19, s220_20, ↓reduceIte, Option.bind_some, Option.toList_some, Option.toList_none, List.cons_append, List.nil_append, if_true, if_false, true_or, or_true, true_and, and_true, not_true_eq_false, not_false_eq_true, Nat.reduceLT, Nat.reduceLeDiff, Nat.reduceEqDiff, Nat.reduceAdd, Nat.reduceMul, Nat.reduceSub, Nat.reducePow, Nat.reduceMod, Nat.reduceDiv, l0, l1, l2, l3, l4, l5, l6, l7, l8, l9, l10, l11, l12, l13, l14, l15, l16, l20, l31, l32, l36, l40, l48, l57, l59, l63, l64, l97, l99, l100, l101, l122, l127, l128, l250, l255, l262143, l262144, l30000, l100000, l12345, l1024, l4095, nI_eqs, nI_les, nI_lts, qI_eq, qI_eqn, nI_eqq, qI_lts, nI_ltp, nI_lep, qI_les, nI_add, nI_mul, qI_add, qI_s, qI_def, nI_clamps, bI_z, bI_o, bI_01, n01, n11, rf_some, rf_none, m1, m1n, bft, Nat.le_refl]
      | succ l ih =>
        intro i t h1 hi ht hz x1 kw rm sl il
        have h1' : ¬ m ≤ i := by omega
        obtain ⟨c1, c2⟩ := hcc i (by omega)
        obtain ⟨w1, w2⟩ := pkH_up t (show cv (He (gH s k)) i < 3 by omega)
        have c0 := x1.1.1.1
        obtain ⟨⟨z0, z1, z2, z3, z4, z5, z6, r0, r1, r2, r3, r4, r5⟩, hs⟩ := id x1.2.1
        obtain ⟨rs1, ze1, -, -, -, ve1, -⟩ := hs k hk
        have g4 := gR (h := h1) z4 (Or.inl rfl) (i := k)
        have el : hL h1 (A + 5 + k) i = lN (cv (He (gH s k)) i) := by rw [ve1 i (by omega)]; exact c2
        have f : Fr0 (blk (hN h) 1) h1 (stI h1 (hN h) (cv (He (gH s k)) i) (nI (t (cv (He (gH s k)) i) + 1))) := blkI _ (Nat.le_refl _) (by omega) _ _
        have ic := il _ (show cv (He (gH s k)) i < 3 by omega)
        obtain ⟨h2, e2, z⟩ := ih (i + 1) (fup t (cv (He (gH s k)) i) (t (cv (He (gH s k)) i) + 1)) _ (by omega) (by omega) (fun c' h1 h2 => by unfold fup; rw [if_neg (by omega)]; exact hz c' h1 h2) (x1.free (Or.inr rfl) f) (kw.trans (f.kw fun b hb w => nw (by have e : b = hN h := (by unfold blk at hb; omega); subst e; exact w))) (by have := rm.trans (f.rm A); exact this) sl (fun c' hc => by
          rw [hI_stI]
          unfold fup
          by_cases e : c' = cv (He (gH s k)) i
          · rw [if_pos ⟨rfl, e⟩, if_pos e]
          · rw [if_neg (fun w => e w.2), if_neg e]; exact il c' hc)
        refine ⟨h2, ?_, z⟩
        rw [← e2, s220_18]
        simp (disch := omega) only [s220_19, s220_20, s220_21, s220_22, s220_23, s220_24, s220_25, s220_26, s220_27, s220_28, s220_29, s220_30, s220_31, s220_32, s220_33, s220_34, s220_35, ↓reduceIte, Option.bind_some, Option.toList_some, Option.toList_none, List.cons_append, List.nil_append, if_true, if_false, true_or, or_true, true_and, and_true, not_true_eq_false, not_false_eq_true, Nat.reduceLT, Nat.reduceLeDiff, Nat.reduceEqDiff, Nat.reduceAdd, Nat.reduceMul, Nat.reduceSub, Nat.reducePow, Nat.reduceMod, Nat.reduceDiv, l0, l1, l2, l3, l4, l5, l6, l7, l8, l9, l10, l11, l12, l13, l14, l15, l16, l20, l31, l32, l36, l40, l48, l57, l59, l63, l64, l97, l99, l100, l101, l122, l127, l128, l250, l255, l262143, l262144, l30000, l100000, l12345, l1024, l4095, nI_eqs, nI_les, nI_lts, qI_eq, qI_eqn, nI_eqq, qI_lts, nI_ltp, nI_lep, qI_les, nI_add, nI_mul, qI_add, qI_s, qI_def, nI_clamps, bI_z, bI_o, bI_01, n01, n11, rf_some, rf_none, m1, m1n, bft, h1', c0, r3, g4, rs1, gA ze1, el, lN_i, gI sl, gA sl, ic]
    obtain ⟨x0, kw0, rm0⟩ := hx.alloc (0, 3) 3
    obtain ⟨h2, e2, a2, a3, x2, kw2, rm2, sl2, il2⟩ := lq m 0 (fun _ => 0) (newC h (0, 3) 3) (by omega) rfl (fun _ _ _ => rfl) x0 kw0 rm0 (by rw [hS_newC, if_pos rfl]) (fun c hc => by rw [hI_newC, if_pos rfl]; rfl)
    have fw : ∀ h (k : Nat) (v : Int32), Fr0 (fun b => b = A ∨ b = A + 13 ∨ (A + 25 ≤ b ∧ b < A + 53)) h (stI h A k v) := fun h k v => Fr0.stI h (Or.inl rfl) k v
    have c0 := x2.1.1.1
    have nA : hN h ≠ A := by omega
    have x3 := x2.w ((fw h2 38 (nI 0)).trans (fw _ 39 (nI 0))) (fun j hj => by rw [hI_stI, if_neg (fun w => by omega), hI_stI, if_neg (fun w => by omega)])
    have f3 := (fw h2 38 (nI 0)).trans (fw _ 39 (nI 0))
    generalize hH : stI (stI h2 A 38 (nI 0)) A 39 (nI 0) = H at *
    have i38 : hI H A 38 = nI 0 := by rw [← hH]; simp (disch := omega) only [hI_stI, ↓reduceIte, Option.bind_some, Option.toList_some, Option.toList_none, List.cons_append, List.nil_append, if_true, if_false, true_or, or_true, true_and, and_true, not_true_eq_false, not_false_eq_true, Nat.reduceLT, Nat.reduceLeDiff, Nat.reduceEqDiff, Nat.reduceAdd, Nat.reduceMul, Nat.reduceSub, Nat.reducePow, Nat.reduceMod, Nat.reduceDiv, and_false, and_self]
    have i39 : hI H A 39 = nI 0 := by rw [← hH]; simp (disch := omega) only [hI_stI, ↓reduceIte, Option.bind_some, Option.toList_some, Option.toList_none, List.cons_append, List.nil_append, if_true, if_false, true_or, or_true, true_and, and_true, not_true_eq_false, not_false_eq_true, Nat.reduceLT, Nat.reduceLeDiff, Nat.reduceEqDiff, Nat.reduceAdd, Nat.reduceMul, Nat.reduceSub, Nat.reducePow, Nat.reduceMod, Nat.reduceDiv, and_self]
    obtain ⟨h4, o, e225, x4, q4, y4, a4, kw4, rm4, i4⟩ := c225i (d + 7) x3.1
    have c0' := x3.1.1.1.1
    have nl : ¬ (hN h = A ∨ hN h = A + 13 ∨ (A + 25 ≤ hN h ∧ hN h < A + 53)) := by have := hx.2.2.2.2.2.2.2.1; omega
    have kl4 := kw4.2.2.2.2 (hN h) (Or.inr rfl)
    have S : SQ h4 h4 A s W o j (memP (gY s) j) (hN h) (cnE (He (gH s k)) m 0 (fun _ => 0)) := ⟨⟨x4, q4, by rw [wM_0]; exact y4, KW.refl _ _, RM.refl _ _⟩, KW.refl _ _, RM.refl _ _, by rw [kl4.1, f3.2.2.2.2.1]; exact sl2, fun c hc => by rw [(kl4.2 c).1, (f3.2.2.2.2.2.2 _ nl c).1]; exact il2 c hc⟩
    obtain ⟨h5, p5', e5, q5, r1, r2⟩ := m219 (d + 6 - m) nw hj m (0, 0) (cnE (He (gH s k)) m 0 (fun _ => 0)) h4 (memP (gY s) j) (nI 0) (nI 0) none none none none ⟨Nat.zero_le _, Nat.zero_le _⟩ a2 (by omega) a3 S (by rw [(i4 A 38 (by omega) (by omega)).1]; exact i38) (by rw [(i4 A 39 (by omega) (by omega)).1]; exact i39)
    rw [show d + 6 - m + m + 3 = d + 9 by omega] at e5
    have c5 := q5.1.1.1.1.1
    have c4 := x4.1.1.1
    have kwF : KW W h h5 := ((kw2.trans ((x3.2.kw x2.2.2.2.2.2.2.1).weak fun b w => Or.inl w)).trans (kw4.weak fun b w => Or.inl w)).trans q5.2.1
    have rmF := ((rm2.trans (x3.2.rm A)).trans rm4).trans q5.2.2.1
    have i32 : ∀ a : Nat, nI 0 + nI a = nI a := fun a => by rw [nI_add, Nat.zero_add]
    have i33 : ∀ a : Nat, nI 0 ||| nI a = nI a := fun a => by rw [nI_or, Nat.zero_or]
    rw [i32] at r1
    rw [i33] at r2
    refine ⟨h5, ?_, q5.1.1.weak (fun b w => Or.inl w), kwF, by unfold RM at *; omega⟩
    have nn3 : (¬ (nI 3 < nI 0) ∧ 3 ≤ 67108864) = True := by rw [nI_lt0 (by decide)]; exact eq_true ⟨fun w => w, by decide⟩
    unfold scA
    simp (disch := omega) only [s220_0, s220_1, s220_2, s220_3, s220_4, s220_5, s220_6, s220_7, s220_8, s220_9, s220_10, s220_11, s220_12, s220_13, s220_14, s220_15, s220_16, s220_17, ↓reduceIte, Option.bind_some, Option.toList_some, Option.toList_none, List.cons_append, List.nil_append, if_true, if_false, true_or, or_true, true_and, and_true, not_true_eq_false, not_false_eq_true, Nat.reduceLT, Nat.reduceLeDiff, Nat.reduceEqDiff, Nat.reduceAdd, Nat.reduceMul, Nat.reduceSub, Nat.reducePow, Nat.reduceMod, Nat.reduceDiv, l0, l1, l2, l3, l4, l5, l6, l7, l8, l9, l10, l11, l12, l13, l14, l15, l16, l20, l31, l32, l36, l40, l48, l57, l59, l63, l64, l97, l99, l100, l101, l122, l127, l128, l250, l255, l262143, l262144, l30000, l100000, l12345, l1024, l4095, nI_eqs, nI_les, nI_lts, qI_eq, qI_eqn, nI_eqq, qI_lts, nI_ltp, nI_lep, qI_les, nI_add, nI_mul, qI_add, qI_s, qI_def, nI_clamps, bI_z, bI_o, bI_01, n01, n11, rf_some, rf_none, m1, m1n, bft, b0, e216, nn3]
    rw [e2]
    by_cases v0 : v = 0
    · subst v0
      simp (disch := omega) only [s220_36, s220_37, s220_38, s220_39, s220_40, s220_41, s220_42, s220_43, s220_44, s220_45, s220_46, s220_47, s220_48, s220_49, s220_50, s220_51, s220_52, s220_53, s220_54, s220_55, s220_56, s220_57, ↓reduceIte, Option.bind_some, Option.toList_some, Option.toList_none, List.cons_append, List.nil_append, if_true, if_false, true_or, or_true, true_and, and_true, not_true_eq_false, not_false_eq_true, Nat.reduceLT, Nat.reduceLeDiff, Nat.reduceEqDiff, Nat.reduceAdd, Nat.reduceMul, Nat.reduceSub, Nat.reducePow, Nat.reduceMod, Nat.reduceDiv, l0, l1, l2, l3, l4, l5, l6, l7, l8, l9, l10, l11, l12, l13, l14, l15, l16, l20, l31, l32, l36, l40, l48, l57, l59, l63, l64, l97, l99, l100, l101, l122, l127, l128, l250, l255, l262143, l262144, l30000, l100000, l12345, l1024, l4095, nI_eqs, nI_les, nI_lts, qI_eq, qI_eqn, nI_eqq, qI_lts, nI_ltp, nI_lep, qI_les, nI_add, nI_mul, qI_add, qI_s, qI_def, nI_clamps, bI_z, bI_o, bI_01, n01, n11, rf_some, rf_none, m1, m1n, bft, c0, hS_stI, hH, c0', e225, c4, e5, c5, r1]
    · simp (disch := omega) only [s220_36, s220_37, s220_38, s220_39, s220_40, s220_41, s220_42, s220_43, s220_44, s220_45, s220_46, s220_47, s220_48, s220_49, s220_50, s220_51, s220_52, s220_53, s220_54, s220_55, s220_56, s220_57, ↓reduceIte, Option.bind_some, Option.toList_some, Option.toList_none, List.cons_append, List.nil_append, if_true, if_false, true_or, or_true, true_and, and_true, not_true_eq_false, not_false_eq_true, Nat.reduceLT, Nat.reduceLeDiff, Nat.reduceEqDiff, Nat.reduceAdd, Nat.reduceMul, Nat.reduceSub, Nat.reducePow, Nat.reduceMod, Nat.reduceDiv, l0, l1, l2, l3, l4, l5, l6, l7, l8, l9, l10, l11, l12, l13, l14, l15, l16, l20, l31, l32, l36, l40, l48, l57, l59, l63, l64, l97, l99, l100, l101, l122, l127, l128, l250, l255, l262143, l262144, l30000, l100000, l12345, l1024, l4095, nI_eqs, nI_les, nI_lts, qI_eq, qI_eqn, nI_eqq, qI_lts, nI_ltp, nI_lep, qI_les, nI_add, nI_mul, qI_add, qI_s, qI_def, nI_clamps, bI_z, bI_o, bI_01, n01, n11, rf_some, rf_none, m1, m1n, bft, c0, hS_stI, hH, c0', e225, c4, e5, c5, r2, v0]
  · rw [if_neg a]
    simp only [Nat.reduceAdd, a, if_false] at e216
    have k2 : 2 ≤ crK (gH s) (gY s) (qgw s g w 2) x n 6 := kl.2 a
    have k6 : crK (gH s) (gY s) (qgw s g w 2) x n 6 ≤ 6 := kl.1
    refine MC.rf hx k2 k6 ?_
    have ne := rN_ne k2 k6
    simp (disch := omega) only [s220_0, s220_1, s220_2, s220_3, s220_4, s220_5, s220_6, s220_7, s220_8, s220_9, s220_10, s220_11, s220_12, ↓reduceIte, Option.bind_some, Option.toList_some, Option.toList_none, List.cons_append, List.nil_append, if_true, if_false, true_or, or_true, true_and, and_true, not_true_eq_false, not_false_eq_true, Nat.reduceLT, Nat.reduceLeDiff, Nat.reduceEqDiff, Nat.reduceAdd, Nat.reduceMul, Nat.reduceSub, Nat.reducePow, Nat.reduceMod, Nat.reduceDiv, l0, l1, l2, l3, l4, l5, l6, l7, l8, l9, l10, l11, l12, l13, l14, l15, l16, l20, l31, l32, l36, l40, l48, l57, l59, l63, l64, l97, l99, l100, l101, l122, l127, l128, l250, l255, l262143, l262144, l30000, l100000, l12345, l1024, l4095, nI_eqs, nI_les, nI_lts, qI_eq, qI_eqn, nI_eqq, qI_lts, nI_ltp, nI_lep, qI_les, nI_add, nI_mul, qI_add, qI_s, qI_def, nI_clamps, bI_z, bI_o, bI_01, n01, n11, rf_some, rf_none, m1, m1n, bft, b0, e216, ne]
