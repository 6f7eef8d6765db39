/-! STREAM, the developers -/
theorem or16 {l m : Nat} (hm : m < 16) : l * 2 ^ 4 ||| m = 16 * l + m := by
  have := Nat.two_pow_add_eq_or_of_lt (show m < 2 ^ 4 by omega) l
  rw [Nat.mul_comm]
  simp only [Nat.reducePow] at this ⊢
  omega
theorem and15k {l m : Nat} (hm : m < 16) : 15 &&& (16 * l + m) = m := by
  rw [Nat.and_comm, and15]; omega
theorem x120 (d : Nat) {h : AH} {B : Nat} {sh : Nat → SHT} {y : YS} (xh : XH h B sh) (xy : XY h (B + 1) y) (b1 : hR h B 0 = some (B + 1)) {k n g : Nat} {p : Nat × Nat} (hk : k < 8) (wk : Hk (sh k) = 1) (hn : n ≤ Hn (sh k)) (hg : g < Yg y) (hp : pOK y p) (hc : ∀ i, i < n → inRL (He (sh k) i) (Yc y) = true) (p5 p6 p7 p8 : Option Value) : E (d + 3) 120 0 [some (.ref B), some (.int (nI k)), some (.int (nI n)), some (.int (nI g)), some (.int (nI (pk p))), p5, p6, p7, p8] [] h = some (some (.int (nI (16 * rC y g (He (sh k)) n p + pk (rF y g (He (sh k)) n p)))), h) := by
  have b0 := xh.1
  have z0 := xy.1.1
  have ok := xy.2.2
  obtain ⟨⟨o2, o3⟩, o6, on, og, oc⟩ := id ok
  have n40 := (xh.2.2.2 k hk).2.2.2.n
  have hcc : ∀ i, i < n → cv (He (sh k)) i < Yc y ∧ He (sh k) i = lN (cv (He (sh k)) i) := fun i hi => cv_of (by omega) (hc i hi)
  have lp : ∀ l i p t x4 p8, i + l = n → pOK y p → t ≤ i → E (d + 3) 120 6 [some (.ref B), some (.int (nI k)), some (.int (nI n)), some (.int (nI g)), x4, some (.int (nI (pk p))), some (.int (nI t)), some (.int (nI i)), p8] [] h = some (some (.int (nI (16 * (rdI y g (He (sh k)) l i (p, t)).2 + pk (rdI y g (He (sh k)) l i (p, t)).1))), h) := by
    intro l
    induction l with
    | zero =>
      intro i p t x4 p8 hi hp ht
      have hi' : i = n := hi
      subst hi'
      have q := or16 (l := t) (pk16 o3 hp)
      rw [s120_6]
      simp (disch := omega) only [s120_0, s120_1, s120_2, s120_3, s120_4, s120_5, s120_7, s120_8, s120_9, s120_10, s120_11, s120_12, s120_13, s120_14, s120_15, s120_16, s120_17, s120_18, s120_19, s120_20, s120_21, s120_22, s120_23, s120_24, s120_25, s120_26, s120_27, s120_28, s120_29, s120_30, s120_31, s120_32, s120_33, s120_34, s120_35, s120_36, ↓reduceIte, Option.bind_some, Option.toList_some, Option.toList_none, List.cons_append, List.nil_append, if_true, if_false, true_or, or_true, true_and, and_true, not_true_eq_false, not_false_eq_true, Nat.reduceLT, Nat.reduceLeDiff, Nat.reduceEqDiff, Nat.reduceAdd, Nat.reduceMul, Nat.reduceSub, Nat.reducePow, Nat.reduceMod, Nat.reduceDiv, l0, l1, l2, l3, l4, l5, l6, l7, l8, l9, l10, l11, l12, l13, l14, l15, l16, l20, l31, l32, l36, l40, l48, l57, l59, l63, l64, l97, l99, l100, l101, l122, l127, l128, l250, l255, l262143, l262144, l30000, l100000, l12345, l1024, l4095, nI_eqs, nI_les, nI_lts, qI_eq, qI_eqn, nI_eqq, qI_lts, nI_ltp, nI_lep, qI_les, nI_add, nI_mul, qI_add, qI_s, qI_def, nI_clamps, bI_z, bI_o, bI_01, n01, n11, rf_some, rf_none, m1, m1n, bft, nI_and, nI_or, nI_shl', nI_shr', a31, Nat.le_refl]
      rw [q]; rfl
    | succ l ih =>
      intro i p t x4 p8 hi hp ht
      have h1' : ¬ n ≤ i := by omega
      obtain ⟨c1, c2⟩ := hcc i (by omega)
      have e122 := fun d => x122 d xh hk wk (show i < Hn (sh k) by omega) c2
      have e75 := fun d => x75p d xy hg hp c1
      have e76 := fun d => x76p d xy hg hp c1
      rw [s120_6, rdI_s]
      rw [← ih (i + 1) (stp y g p (cv (He (sh k)) i)) (if lt1 y g p (cv (He (sh k)) i) = true then t + 1 else t) x4 (some (.int (nI (cv (He (sh k)) i)))) (by omega) (stp_ok hp c1) (by split <;> omega)]
      cases q : lt1 y g p (cv (He (sh k)) i) <;> rw [q] at e75 <;> simp only [Bool.false_eq_true, if_true, if_false]
      · simp (disch := omega) only [s120_0, s120_1, s120_2, s120_3, s120_4, s120_5, s120_7, s120_8, s120_9, s120_10, s120_11, s120_12, s120_13, s120_14, s120_15, s120_16, s120_17, s120_18, s120_19, s120_20, s120_21, s120_22, s120_23, s120_24, s120_25, s120_26, s120_27, s120_28, s120_29, s120_30, s120_31, s120_32, s120_33, s120_34, s120_35, s120_36, ↓reduceIte, Option.bind_some, Option.toList_some, Option.toList_none, List.cons_append, List.nil_append, if_true, if_false, true_or, or_true, true_and, and_true, not_true_eq_false, not_false_eq_true, Nat.reduceLT, Nat.reduceLeDiff, Nat.reduceEqDiff, Nat.reduceAdd, Nat.reduceMul, Nat.reduceSub, Nat.reducePow, Nat.reduceMod, Nat.reduceDiv, l0, l1, l2, l3, l4, l5, l6, l7, l8, l9, l10, l11, l12, l13, l14, l15, l16, l20, l31, l32, l36, l40, l48, l57, l59, l63, l64, l97, l99, l100, l101, l122, l127, l128, l250, l255, l262143, l262144, l30000, l100000, l12345, l1024, l4095, nI_eqs, nI_les, nI_lts, qI_eq, qI_eqn, nI_eqq, qI_lts, nI_ltp, nI_lep, qI_les, nI_add, nI_mul, qI_add, qI_s, qI_def, nI_clamps, bI_z, bI_o, bI_01, n01, n11, rf_some, rf_none, m1, m1n, bft, h1', b0, b1, z0, e122, e75, e76]
      · simp (disch := omega) only [s120_0, s120_1, s120_2, s120_3, s120_4, s120_5, s120_7, s120_8, s120_9, s120_10, s120_11, s120_12, s120_13, s120_14, s120_15, s120_16, s120_17, s120_18, s120_19, s120_20, s120_21, s120_22, s120_23, s120_24, s120_25, s120_26, s120_27, s120_28, s120_29, s120_30, s120_31, s120_32, s120_33, s120_34, s120_35, s120_36, ↓reduceIte, Option.bind_some, Option.toList_some, Option.toList_none, List.cons_append, List.nil_append, if_true, if_false, true_or, or_true, true_and, and_true, not_true_eq_false, not_false_eq_true, Nat.reduceLT, Nat.reduceLeDiff, Nat.reduceEqDiff, Nat.reduceAdd, Nat.reduceMul, Nat.reduceSub, Nat.reducePow, Nat.reduceMod, Nat.reduceDiv, l0, l1, l2, l3, l4, l5, l6, l7, l8, l9, l10, l11, l12, l13, l14, l15, l16, l20, l31, l32, l36, l40, l48, l57, l59, l63, l64, l97, l99, l100, l101, l122, l127, l128, l250, l255, l262143, l262144, l30000, l100000, l12345, l1024, l4095, nI_eqs, nI_les, nI_lts, qI_eq, qI_eqn, nI_eqq, qI_lts, nI_ltp, nI_lep, qI_les, nI_add, nI_mul, qI_add, qI_s, qI_def, nI_clamps, bI_z, bI_o, bI_01, n01, n11, rf_some, rf_none, m1, m1n, bft, h1', b0, b1, z0, e122, e75, e76, Bool.true_eq_false]
  have e := lp n 0 p 0 (some (.int (nI (pk p)))) p8 (by omega) hp (Nat.le_refl _)
  rw [(rdI_1 y g (He (sh k)) n 0 p 0).1] at e
  simp (disch := omega) only [s120_0, s120_1, s120_2, s120_3, s120_4, s120_5, ↓reduceIte, Option.bind_some, Option.toList_some, Option.toList_none, List.cons_append, List.nil_append, if_true, if_false, true_or, or_true, true_and, and_true, not_true_eq_false, not_false_eq_true, Nat.reduceLT, Nat.reduceLeDiff, Nat.reduceEqDiff, Nat.reduceAdd, Nat.reduceMul, Nat.reduceSub, Nat.reducePow, Nat.reduceMod, Nat.reduceDiv, l0, l1, l2, l3, l4, l5, l6, l7, l8, l9, l10, l11, l12, l13, l14, l15, l16, l20, l31, l32, l36, l40, l48, l57, l59, l63, l64, l97, l99, l100, l101, l122, l127, l128, l250, l255, l262143, l262144, l30000, l100000, l12345, l1024, l4095, nI_eqs, nI_les, nI_lts, qI_eq, qI_eqn, nI_eqq, qI_lts, nI_ltp, nI_lep, qI_les, nI_add, nI_mul, qI_add, qI_s, qI_def, nI_clamps, bI_z, bI_o, bI_01, n01, n11, rf_some, rf_none, m1, m1n, bft]
  exact e
theorem rC_le (y : YS) (g : Nat) (e : Nat → Int64) (n : Nat) (p : Nat × Nat) : rC y g e n p ≤ n := (rdI_1 y g e n 0 p 0).2.2
def stmR (y : YS) (g : Nat) (e : Nat → Int64) (n : Nat) : Nat × Nat := strA (rF y g e n) (rC y g e n) 16 0 (itF (rF y g e n) 20 (memP y g)) 0 0
def stmA (r : Nat × Nat) (w : Nat) : Int32 := if w = 0 then nI r.1 else nI r.2
def s_stream (s : GS) (x n g w : Int32) : Int32 × GS := if crK (gH s) (gY s) (qgw s g w 2) x n 20 = 0 then (stmA (stmR (gY s) g.toNatClampNeg (He (gH s x.toNatClampNeg)) n.toNatClampNeg) w.toNatClampNeg, s) else rfS s (crK (gH s) (gY s) (qgw s g w 2) x n 20)
theorem c119 (d : Nat) {h : AH} {B : Nat} {s : GS} (hx : DX h B s) (x n g w : Int32) (p5 p6 p7 p8 p9 p10 : Option Value) : DC (d + 4) 119 [some (.ref B), some (.int x), some (.int n), some (.int g), some (.int w), p5, p6, p7, p8, p9, p10] h B (s_stream s x n g w) := by
  obtain ⟨⟨b0, b1, b2, b3, b4, b5, b6, b7⟩, xy, ⟨k0, k1⟩, xh, ⟨t0, t1, t2, t3, t4, t5⟩, rx, qx⟩ := id hx; have e131 := c131e hx; obtain ⟨⟨z0, z1, z2, z3, z4, z5, z6, z7, r1, r2, r3, r4, r5, r6, r7⟩, ⟨vc, vg, vn, vt, vz, vK, vA, vU, vM, vW, vC, vP⟩, ok⟩ := id xy; obtain ⟨⟨o2, o3⟩, o6, on, og, oc⟩ := id ok
  have e62 := fun d => x62 d xy g
  have e123 := fun d q => x123 d xh xy b1 q x n (most := 20) (by decide) none none none none
  have sok : ∀ k, k < 8 → SOK (gH s k) := fun k hk => (xh.2.2.2 k hk).2.2.2
  have hd : E (d + 4) 119 0 [some (.ref B), some (.int x), some (.int n), some (.int g), some (.int w), p5, p6, p7, p8, p9, p10] [] h = E (d + 4) 119 18 [some (.ref B), some (.int x), some (.int n), some (.int g), some (.int w), p5, p6, p7, p8, p9, p10] [.int (if crK (gH s) (gY s) (qgw s g w 2) x n 20 = 0 then nI 0 else rN (crK (gH s) (gY s) (qgw s g w 2) x n 20))] h := by
    unfold qgw
    have ef := fun d => e123 d false
    have et := fun d => e123 d true
    rw [bI_f] at ef
    rw [bI_t] at et
    cases a : inR g (Yg (gY s))
    · rw [a] at e62
      rw [Bool.false_and]
      simp (disch := omega) only [s119_0, s119_1, s119_2, s119_3, s119_4, s119_5, s119_6, s119_7, s119_8, s119_9, s119_10, s119_11, s119_12, s119_13, s119_14, s119_15, s119_16, s119_17, ↓reduceIte, Option.bind_some, Option.toList_some, Option.toList_none, List.cons_append, List.nil_append, if_true, if_false, true_or, or_true, true_and, and_true, not_true_eq_false, not_false_eq_true, Nat.reduceLT, Nat.reduceLeDiff, Nat.reduceEqDiff, Nat.reduceAdd, Nat.reduceMul, Nat.reduceSub, Nat.reducePow, Nat.reduceMod, Nat.reduceDiv, l0, l1, l2, l3, l4, l5, l6, l7, l8, l9, l10, l11, l12, l13, l14, l15, l16, l20, l31, l32, l36, l40, l48, l57, l59, l63, l64, l97, l99, l100, l101, l122, l127, l128, l250, l255, l262143, l262144, l30000, l100000, l12345, l1024, l4095, nI_eqs, nI_les, nI_lts, qI_eq, qI_eqn, nI_eqq, qI_lts, nI_ltp, nI_lep, qI_les, nI_add, nI_mul, qI_add, qI_s, qI_def, nI_clamps, bI_z, bI_o, bI_01, n01, n11, rf_some, rf_none, m1, m1n, bft, b0, b1, z0, e62, ef]
    · rw [a] at e62
      rw [Bool.true_and]
      rcases inR_cases w (n := 2) (by decide) with ⟨j, hj, rfl⟩ | ⟨f, f1, f2⟩ | ⟨f, f1, f2, f3, f4, f5⟩
      · have cg := inR_nI (g := j) (n := 2) (by omega) (by decide)
        rw [decide_eq_true hj] at cg
        rw [cg]
        have g1 : ¬ 1 < j := by omega
        simp (disch := omega) only [s119_0, s119_1, s119_2, s119_3, s119_4, s119_5, s119_6, s119_7, s119_8, s119_9, s119_10, s119_11, s119_12, s119_13, s119_14, s119_15, s119_16, s119_17, ↓reduceIte, Option.bind_some, Option.toList_some, Option.toList_none, List.cons_append, List.nil_append, if_true, if_false, true_or, or_true, true_and, and_true, not_true_eq_false, not_false_eq_true, Nat.reduceLT, Nat.reduceLeDiff, Nat.reduceEqDiff, Nat.reduceAdd, Nat.reduceMul, Nat.reduceSub, Nat.reducePow, Nat.reduceMod, Nat.reduceDiv, l0, l1, l2, l3, l4, l5, l6, l7, l8, l9, l10, l11, l12, l13, l14, l15, l16, l20, l31, l32, l36, l40, l48, l57, l59, l63, l64, l97, l99, l100, l101, l122, l127, l128, l250, l255, l262143, l262144, l30000, l100000, l12345, l1024, l4095, nI_eqs, nI_les, nI_lts, qI_eq, qI_eqn, nI_eqq, qI_lts, nI_ltp, nI_lep, qI_les, nI_add, nI_mul, qI_add, qI_s, qI_def, nI_clamps, bI_z, bI_o, bI_01, n01, n11, rf_some, rf_none, m1, m1n, bft, b0, b1, z0, e62, et, g1, Nat.not_lt_zero, Bool.true_eq_false]
      · rw [f]
        simp (disch := omega) only [s119_0, s119_1, s119_2, s119_3, s119_4, s119_5, s119_6, s119_7, s119_8, s119_9, s119_10, s119_11, s119_12, s119_13, s119_14, s119_15, s119_16, s119_17, ↓reduceIte, Option.bind_some, Option.toList_some, Option.toList_none, List.cons_append, List.nil_append, if_true, if_false, true_or, or_true, true_and, and_true, not_true_eq_false, not_false_eq_true, Nat.reduceLT, Nat.reduceLeDiff, Nat.reduceEqDiff, Nat.reduceAdd, Nat.reduceMul, Nat.reduceSub, Nat.reducePow, Nat.reduceMod, Nat.reduceDiv, l0, l1, l2, l3, l4, l5, l6, l7, l8, l9, l10, l11, l12, l13, l14, l15, l16, l20, l31, l32, l36, l40, l48, l57, l59, l63, l64, l97, l99, l100, l101, l122, l127, l128, l250, l255, l262143, l262144, l30000, l100000, l12345, l1024, l4095, nI_eqs, nI_les, nI_lts, qI_eq, qI_eqn, nI_eqq, qI_lts, nI_ltp, nI_lep, qI_les, nI_add, nI_mul, qI_add, qI_s, qI_def, nI_clamps, bI_z, bI_o, bI_01, n01, n11, rf_some, rf_none, m1, m1n, bft, b0, b1, z0, e62, ef, f1, Bool.true_eq_false]
      · rw [f]
        simp (disch := omega) only [s119_0, s119_1, s119_2, s119_3, s119_4, s119_5, s119_6, s119_7, s119_8, s119_9, s119_10, s119_11, s119_12, s119_13, s119_14, s119_15, s119_16, s119_17, ↓reduceIte, Option.bind_some, Option.toList_some, Option.toList_none, List.cons_append, List.nil_append, if_true, if_false, true_or, or_true, true_and, and_true, not_true_eq_false, not_false_eq_true, Nat.reduceLT, Nat.reduceLeDiff, Nat.reduceEqDiff, Nat.reduceAdd, Nat.reduceMul, Nat.reduceSub, Nat.reducePow, Nat.reduceMod, Nat.reduceDiv, l0, l1, l2, l3, l4, l5, l6, l7, l8, l9, l10, l11, l12, l13, l14, l15, l16, l20, l31, l32, l36, l40, l48, l57, l59, l63, l64, l97, l99, l100, l101, l122, l127, l128, l250, l255, l262143, l262144, l30000, l100000, l12345, l1024, l4095, nI_eqs, nI_les, nI_lts, qI_eq, qI_eqn, nI_eqq, qI_lts, nI_ltp, nI_lep, qI_les, nI_add, nI_mul, qI_add, qI_s, qI_def, nI_clamps, bI_z, bI_o, bI_01, n01, n11, rf_some, rf_none, m1, m1n, bft, b0, b1, z0, e62, ef, f1, (f5 1 rfl).2, Bool.true_eq_false]
  unfold s_stream
  have kl := crK_lt (gH s) (gY s) (qgw s g w 2) x n 20
  unfold DC
  rw [hd]
  by_cases a : crK (gH s) (gY s) (qgw s g w 2) x n 20 = 0
  · rw [if_pos a, if_pos a]
    obtain ⟨qq, k, m, hk, rfl, wk, rfl, u1, u2, u3, hc⟩ := crK_0 (by decide) sok a
    unfold qgw at qq
    rw [Bool.and_eq_true] at qq
    obtain ⟨j, hj, rfl⟩ := inR_of (by omega) qq.1
    obtain ⟨v, hv, rfl⟩ := inR_of (by omega) qq.2
    rw [nI_clamp (show k < 2 ^ 31 by omega), nI_clamp (show m < 2 ^ 31 by omega), nI_clamp (show j < 2 ^ 31 by omega), nI_clamp (show v < 2 ^ 31 by omega)]
    have e68 := fun d => x68p d xy hj
    have mp := memP_ok ok hj
    have hF : ∀ p, pOK (gY s) p → pOK (gY s) (rF (gY s) j (He (gH s k)) m p) := fun p hp => wkI_ok hp (fun i _ hi => hc i (by omega)) o3
    have e120 := fun d p (hp : pOK (gY s) p) => x120 d xh xy b1 hk wk u3 hj hp hc none none none none
    -- twenty rounds
    have lq1 : ∀ l i p p8 p9 p10, i + l = 20 → pOK (gY s) p → E (d + 4) 119 32 [some (.ref B), some (.int (nI k)), some (.int (nI m)), some (.int (nI j)), some (.int (nI v)), some (.int (nI 0)), some (.int (nI (pk p))), some (.int (nI i)), p8, p9, p10] [] h = E (d + 4) 119 46 [some (.ref B), some (.int (nI k)), some (.int (nI m)), some (.int (nI j)), some (.int (nI v)), some (.int (nI 0)), some (.int (nI (pk (itF (rF (gY s) j (He (gH s k)) m) l p)))), some (.int (nI 20)), p8, p9, p10] [] h := by
      intro l
      induction l with
      | zero =>
        intro i p p8 p9 p10 hi hp
        have hi' : i = 20 := hi
        subst hi'
        rw [s119_32]
        simp (disch := omega) only [s119_33, s119_34, s119_35, s119_36, s119_37, s119_38, s119_39, s119_40, s119_41, s119_42, s119_43, s119_44, s119_45, ↓reduceIte, Option.bind_some, Option.toList_some, Option.toList_none, List.cons_append, List.nil_append, if_true, if_false, true_or, or_true, true_and, and_true, not_true_eq_false, not_false_eq_true, Nat.reduceLT, Nat.reduceLeDiff, Nat.reduceEqDiff, Nat.reduceAdd, Nat.reduceMul, Nat.reduceSub, Nat.reducePow, Nat.reduceMod, Nat.reduceDiv, l0, l1, l2, l3, l4, l5, l6, l7, l8, l9, l10, l11, l12, l13, l14, l15, l16, l20, l31, l32, l36, l40, l48, l57, l59, l63, l64, l97, l99, l100, l101, l122, l127, l128, l250, l255, l262143, l262144, l30000, l100000, l12345, l1024, l4095, nI_eqs, nI_les, nI_lts, qI_eq, qI_eqn, nI_eqq, qI_lts, nI_ltp, nI_lep, qI_les, nI_add, nI_mul, qI_add, qI_s, qI_def, nI_clamps, bI_z, bI_o, bI_01, n01, n11, rf_some, rf_none, m1, m1n, bft, Nat.le_refl]
        rfl
      | succ l ih =>
        intro i p p8 p9 p10 hi hp
        have h1' : ¬ 20 ≤ i := by omega
        have p16 := pk16 o3 (hF p hp)
        have a15 := and15k (l := rC (gY s) j (He (gH s k)) m p) p16
        have e := fun d => e120 d p hp
        rw [itF_s, ← ih (i + 1) _ p8 p9 p10 (by omega) (hF p hp)]
        rw [s119_32]
        simp (disch := omega) only [s119_33, s119_34, s119_35, s119_36, s119_37, s119_38, s119_39, s119_40, s119_41, s119_42, s119_43, s119_44, s119_45, ↓reduceIte, Option.bind_some, Option.toList_some, Option.toList_none, List.cons_append, List.nil_append, if_true, if_false, true_or, or_true, true_and, and_true, not_true_eq_false, not_false_eq_true, Nat.reduceLT, Nat.reduceLeDiff, Nat.reduceEqDiff, Nat.reduceAdd, Nat.reduceMul, Nat.reduceSub, Nat.reducePow, Nat.reduceMod, Nat.reduceDiv, l0, l1, l2, l3, l4, l5, l6, l7, l8, l9, l10, l11, l12, l13, l14, l15, l16, l20, l31, l32, l36, l40, l48, l57, l59, l63, l64, l97, l99, l100, l101, l122, l127, l128, l250, l255, l262143, l262144, l30000, l100000, l12345, l1024, l4095, nI_eqs, nI_les, nI_lts, qI_eq, qI_eqn, nI_eqq, qI_lts, nI_ltp, nI_lep, qI_les, nI_add, nI_mul, qI_add, qI_s, qI_def, nI_clamps, bI_z, bI_o, bI_01, n01, n11, rf_some, rf_none, m1, m1n, bft, h1', b0, e, nI_and, a15]
    -- until one comes again
    have lq2 : ∀ f r seen p t p10, r + f = 16 → pOK (gY s) p → seen < 2 ^ 16 → t ≤ 20 * r → E (d + 4) 119 52 [some (.ref B), some (.int (nI k)), some (.int (nI m)), some (.int (nI j)), some (.int (nI v)), some (.int (nI 0)), some (.int (nI (pk p))), some (.int (nI seen)), some (.int (nI t)), some (.int (nI r)), p10] [] h = some (some (.int (stmA (strA (rF (gY s) j (He (gH s k)) m) (rC (gY s) j (He (gH s k)) m) f seen p t r) v)), h) := by
      intro f
      induction f with
      | zero =>
        intro r seen p t p10 hr hp hs ht
        have hr' : r = 16 := hr
        subst hr'
        rw [s119_52]
        show _ = some (some (Value.int (stmA (t, 16) v)), h)
        unfold stmA
        by_cases v0 : v = 0
        · simp (disch := omega) only [s119_53, s119_54, s119_86, s119_87, s119_88, s119_89, s119_90, s119_91, ↓reduceIte, Option.bind_some, Option.toList_some, Option.toList_none, List.cons_append, List.nil_append, if_true, if_false, true_or, or_true, true_and, and_true, not_true_eq_false, not_false_eq_true, Nat.reduceLT, Nat.reduceLeDiff, Nat.reduceEqDiff, Nat.reduceAdd, Nat.reduceMul, Nat.reduceSub, Nat.reducePow, Nat.reduceMod, Nat.reduceDiv, l0, l1, l2, l3, l4, l5, l6, l7, l8, l9, l10, l11, l12, l13, l14, l15, l16, l20, l31, l32, l36, l40, l48, l57, l59, l63, l64, l97, l99, l100, l101, l122, l127, l128, l250, l255, l262143, l262144, l30000, l100000, l12345, l1024, l4095, nI_eqs, nI_les, nI_lts, qI_eq, qI_eqn, nI_eqq, qI_lts, nI_ltp, nI_lep, qI_les, nI_add, nI_mul, qI_add, qI_s, qI_def, nI_clamps, bI_z, bI_o, bI_01, n01, n11, rf_some, rf_none, m1, m1n, bft, v0]
        · simp (disch := omega) only [s119_53, s119_54, s119_86, s119_87, s119_88, s119_89, s119_90, s119_91, ↓reduceIte, Option.bind_some, Option.toList_some, Option.toList_none, List.cons_append, List.nil_append, if_true, if_false, true_or, or_true, true_and, and_true, not_true_eq_false, not_false_eq_true, Nat.reduceLT, Nat.reduceLeDiff, Nat.reduceEqDiff, Nat.reduceAdd, Nat.reduceMul, Nat.reduceSub, Nat.reducePow, Nat.reduceMod, Nat.reduceDiv, l0, l1, l2, l3, l4, l5, l6, l7, l8, l9, l10, l11, l12, l13, l14, l15, l16, l20, l31, l32, l36, l40, l48, l57, l59, l63, l64, l97, l99, l100, l101, l122, l127, l128, l250, l255, l262143, l262144, l30000, l100000, l12345, l1024, l4095, nI_eqs, nI_les, nI_lts, qI_eq, qI_eqn, nI_eqq, qI_lts, nI_ltp, nI_lep, qI_les, nI_add, nI_mul, qI_add, qI_s, qI_def, nI_clamps, bI_z, bI_o, bI_01, n01, n11, rf_some, rf_none, m1, m1n, bft, v0]
      | succ f ih =>
        intro r seen p t p10 hr hp hs ht
        have h1' : ¬ 15 < r := by omega
        have p16 := pk16 o3 hp
        have q16 := pk16 o3 (hF p hp)
        have a15 := and15k (l := rC (gY s) j (He (gH s k)) m p) q16
        have dv : (16 * rC (gY s) j (He (gH s k)) m p + pk (rF (gY s) j (He (gH s k)) m p)) / 2 ^ 4 = rC (gY s) j (He (gH s k)) m p := by omega
        have rle := rC_le (gY s) j (He (gH s k)) m p
        have e := fun d => e120 d p hp
        rw [s119_52]
        show _ = some (some (Value.int (stmA (if seen / 2 ^ pk p % 2 = 0 then strA (rF (gY s) j (He (gH s k)) m) (rC (gY s) j (He (gH s k)) m) f (seen ||| 2 ^ pk p) (rF (gY s) j (He (gH s k)) m p) (t + rC (gY s) j (He (gH s k)) m p) (r + 1) else (t, r)) v)), h)
        have hs' : seen ||| 2 ^ pk p < 2 ^ 16 := Nat.or_lt_two_pow hs (Nat.pow_lt_pow_right (by decide) p16)
        by_cases c : seen / 2 ^ pk p % 2 = 0
        · rw [if_pos c, ← ih (r + 1) _ _ _ (some (.int (nI (16 * rC (gY s) j (He (gH s k)) m p + pk (rF (gY s) j (He (gH s k)) m p))))) (by omega) (hF p hp) hs' (by omega)]
          simp (disch := omega) only [s119_53, s119_54, s119_55, s119_56, s119_57, s119_58, s119_59, s119_60, s119_61, s119_62, s119_63, s119_64, s119_65, s119_66, s119_67, s119_68, s119_69, s119_70, s119_71, s119_72, s119_73, s119_74, s119_75, s119_76, s119_77, s119_78, s119_79, s119_80, s119_81, s119_82, s119_83, s119_84, s119_85, ↓reduceIte, Option.bind_some, Option.toList_some, Option.toList_none, List.cons_append, List.nil_append, if_true, if_false, true_or, or_true, true_and, and_true, not_true_eq_false, not_false_eq_true, Nat.reduceLT, Nat.reduceLeDiff, Nat.reduceEqDiff, Nat.reduceAdd, Nat.reduceMul, Nat.reduceSub, Nat.reducePow, Nat.reduceMod, Nat.reduceDiv, l0, l1, l2, l3, l4, l5, l6, l7, l8, l9, l10, l11, l12, l13, l14, l15, l16, l20, l31, l32, l36, l40, l48, l57, l59, l63, l64, l97, l99, l100, l101, l122, l127, l128, l250, l255, l262143, l262144, l30000, l100000, l12345, l1024, l4095, nI_eqs, nI_les, nI_lts, qI_eq, qI_eqn, nI_eqq, qI_lts, nI_ltp, nI_lep, qI_les, nI_add, nI_mul, qI_add, qI_s, qI_def, nI_clamps, bI_z, bI_o, bI_01, n01, n11, rf_some, rf_none, m1, m1n, bft, nI_and, nI_or, nI_shl', nI_shr', a31, h1', b0, e, a15, dv, and1, c, Nat.one_mul]
        · rw [if_neg c]
          unfold stmA
          by_cases v0 : v = 0
          · simp (disch := omega) only [s119_53, s119_54, s119_55, s119_56, s119_57, s119_58, s119_59, s119_60, s119_86, s119_87, s119_88, s119_89, s119_90, s119_91, ↓reduceIte, Option.bind_some, Option.toList_some, Option.toList_none, List.cons_append, List.nil_append, if_true, if_false, true_or, or_true, true_and, and_true, not_true_eq_false, not_false_eq_true, Nat.reduceLT, Nat.reduceLeDiff, Nat.reduceEqDiff, Nat.reduceAdd, Nat.reduceMul, Nat.reduceSub, Nat.reducePow, Nat.reduceMod, Nat.reduceDiv, l0, l1, l2, l3, l4, l5, l6, l7, l8, l9, l10, l11, l12, l13, l14, l15, l16, l20, l31, l32, l36, l40, l48, l57, l59, l63, l64, l97, l99, l100, l101, l122, l127, l128, l250, l255, l262143, l262144, l30000, l100000, l12345, l1024, l4095, nI_eqs, nI_les, nI_lts, qI_eq, qI_eqn, nI_eqq, qI_lts, nI_ltp, nI_lep, qI_les, nI_add, nI_mul, qI_add, qI_s, qI_def, nI_clamps, bI_z, bI_o, bI_01, n01, n11, rf_some, rf_none, m1, m1n, bft, nI_and, nI_or, nI_shl', nI_shr', a31, h1', and1, c, v0]
          · simp (disch := omega) only [s119_53, s119_54, s119_55, s119_56, s119_57, s119_58, s119_59, s119_60, s119_86, s119_87, s119_88, s119_89, s119_90, s119_91, ↓reduceIte, Option.bind_some, Option.toList_some, Option.toList_none, List.cons_append, List.nil_append, if_true, if_false, true_or, or_true, true_and, and_true, not_true_eq_false, not_false_eq_true, Nat.reduceLT, Nat.reduceLeDiff, Nat.reduceEqDiff, Nat.reduceAdd, Nat.reduceMul, Nat.reduceSub, Nat.reducePow, Nat.reduceMod, Nat.reduceDiv, l0, l1, l2, l3, l4, l5, l6, l7, l8, l9, l10, l11, l12, l13, l14, l15, l16, l20, l31, l32, l36, l40, l48, l57, l59, l63, l64, l97, l99, l100, l101, l122, l127, l128, l250, l255, l262143, l262144, l30000, l100000, l12345, l1024, l4095, nI_eqs, nI_les, nI_lts, qI_eq, qI_eqn, nI_eqq, qI_lts, nI_ltp, nI_lep, qI_les, nI_add, nI_mul, qI_add, qI_s, qI_def, nI_clamps, bI_z, bI_o, bI_01, n01, n11, rf_some, rf_none, m1, m1n, bft, nI_and, nI_or, nI_shl', nI_shr', a31, h1', and1, c, v0]
    refine ⟨h, ?_, hx, Fr0.refl _ _⟩
    have okq : pOK (gY s) (itF (rF (gY s) j (He (gH s k)) m) 20 (memP (gY s) j)) := by
      have : ∀ n, pOK (gY s) (itF (rF (gY s) j (He (gH s k)) m) n (memP (gY s) j)) := by
        intro n
        induction n with
        | zero => exact mp
        | succ n ih => rw [itF_c]; exact hF _ ih
      exact this 20
    have e1 := fun p8 p9 p10 => lq1 20 0 (memP (gY s) j) p8 p9 p10 (by omega) mp
    have e2 := fun p10 => lq2 16 0 0 _ 0 p10 (by omega) okq (by decide) (by omega)
    simp (disch := omega) only [s119_18, s119_19, s119_20, s119_21, s119_22, s119_23, s119_24, s119_25, s119_26, s119_27, s119_28, s119_29, s119_30, s119_31, ↓reduceIte, Option.bind_some, Option.toList_some, Option.toList_none, List.cons_append, List.nil_append, if_true, if_false, true_or, or_true, true_and, and_true, not_true_eq_false, not_false_eq_true, Nat.reduceLT, Nat.reduceLeDiff, Nat.reduceEqDiff, Nat.reduceAdd, Nat.reduceMul, Nat.reduceSub, Nat.reducePow, Nat.reduceMod, Nat.reduceDiv, l0, l1, l2, l3, l4, l5, l6, l7, l8, l9, l10, l11, l12, l13, l14, l15, l16, l20, l31, l32, l36, l40, l48, l57, l59, l63, l64, l97, l99, l100, l101, l122, l127, l128, l250, l255, l262143, l262144, l30000, l100000, l12345, l1024, l4095, nI_eqs, nI_les, nI_lts, qI_eq, qI_eqn, nI_eqq, qI_lts, nI_ltp, nI_lep, qI_les, nI_add, nI_mul, qI_add, qI_s, qI_def, nI_clamps, bI_z, bI_o, bI_01, n01, n11, rf_some, rf_none, m1, m1n, bft, b0, b1, z0, e68, e1]
    simp (disch := omega) only [s119_46, s119_47, s119_48, s119_49, s119_50, s119_51, ↓reduceIte, Option.bind_some, Option.toList_some, Option.toList_none, List.cons_append, List.nil_append, if_true, if_false, true_or, or_true, true_and, and_true, not_true_eq_false, not_false_eq_true, Nat.reduceLT, Nat.reduceLeDiff, Nat.reduceEqDiff, Nat.reduceAdd, Nat.reduceMul, Nat.reduceSub, Nat.reducePow, Nat.reduceMod, Nat.reduceDiv, l0, l1, l2, l3, l4, l5, l6, l7, l8, l9, l10, l11, l12, l13, l14, l15, l16, l20, l31, l32, l36, l40, l48, l57, l59, l63, l64, l97, l99, l100, l101, l122, l127, l128, l250, l255, l262143, l262144, l30000, l100000, l12345, l1024, l4095, nI_eqs, nI_les, nI_lts, qI_eq, qI_eqn, nI_eqq, qI_lts, nI_ltp, nI_lep, qI_les, nI_add, nI_mul, qI_add, qI_s, qI_def, nI_clamps, bI_z, bI_o, bI_01, n01, n11, rf_some, rf_none, m1, m1n, bft, e2]
    rfl
  · rw [if_neg a, if_neg a]
    have k2 := kl.2 a
    have ne := rN_ne k2 kl.1
    have e131k := e131 (d + 3) k2 kl.1
    refine ⟨_, ?_, hx.rf k2 kl.1⟩
    simp (disch := omega) only [s119_18, s119_19, s119_20, s119_21, s119_22, s119_23, s119_24, ↓reduceIte, Option.bind_some, Option.toList_some, Option.toList_none, List.cons_append, List.nil_append, if_true, if_false, true_or, or_true, true_and, and_true, not_true_eq_false, not_false_eq_true, Nat.reduceLT, Nat.reduceLeDiff, Nat.reduceEqDiff, Nat.reduceAdd, Nat.reduceMul, Nat.reduceSub, Nat.reducePow, Nat.reduceMod, Nat.reduceDiv, l0, l1, l2, l3, l4, l5, l6, l7, l8, l9, l10, l11, l12, l13, l14, l15, l16, l20, l31, l32, l36, l40, l48, l57, l59, l63, l64, l97, l99, l100, l101, l122, l127, l128, l250, l255, l262143, l262144, l30000, l100000, l12345, l1024, l4095, nI_eqs, nI_les, nI_lts, qI_eq, qI_eqn, nI_eqq, qI_lts, nI_ltp, nI_lep, qI_les, nI_add, nI_mul, qI_add, qI_s, qI_def, nI_clamps, bI_z, bI_o, bI_01, n01, n11, rf_some, rf_none, m1, m1n, bft, b0, ne, e131k]
    rfl
