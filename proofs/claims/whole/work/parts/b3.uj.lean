/-! OUT, WAY, HARM of the reference -/
theorem TBL.c {y : YS} {f : Nat → Int32} {t : Nat} (x : TBL y f t) : (∃ D, dsY y t = some D ∧ lsY y t ≤ D ∧ D ≤ 63 ∧ f t = nI (100 * (D - lsY y t) + D)) ∨ (dsY y t = none ∧ f t = nI 30000) := by
  obtain ⟨v, w, w1, w2, w3, w4⟩ := x
  cases h : dsY y t with
  | none => exact Or.inr ⟨rfl, by rw [w2, w4 h]⟩
  | some D =>
    obtain ⟨a1, a2, a3⟩ := w3 D h
    exact Or.inl ⟨D, rfl, a2, a3, by rw [w2]; congr 1; omega⟩
theorem m202 (d : Nat) {h : AH} {a : Nat} {y : YS} (my : MY h a y) : E d 202 0 [some (.ref a)] [] h = some (some (.int (bI (decide (Yg y ≤ 3 ∧ Yn y ≤ 3)))), h) := by
  have ok := my.2.2
  obtain ⟨⟨z0, z1, z2, z3, z4, z5, z6, z7, z8, r1, r2, r3, r4, r5, r6, r7, r8⟩, ⟨vc, vg, vn, vt, vz, vK, vA, vU, vF, vM, vW, vC, vP⟩, ok⟩ := my
  obtain ⟨⟨o2, o3⟩, o6, on, og, oc⟩ := id ok
  by_cases a : Yg y ≤ 3
  · have a' : ¬ 3 < Yg y := by omega
    by_cases c : Yn y ≤ 3
    · have c' : ¬ 3 < Yn y := by omega
      rw [decide_eq_true ⟨a, c⟩]
      simp (disch := omega) only [s202_0, s202_1, s202_2, s202_3, s202_4, s202_5, s202_6, s202_7, s202_8, s202_9, s202_10, s202_11, ↓reduceIte, Option.bind_some, Option.toList_some, Option.toList_none, List.cons_append, List.nil_append, if_true, if_false, true_or, or_true, true_and, and_true, not_true_eq_false, not_false_eq_true, Nat.reduceLT, Nat.reduceLeDiff, Nat.reduceEqDiff, Nat.reduceAdd, Nat.reduceMul, Nat.reduceSub, Nat.reducePow, Nat.reduceMod, Nat.reduceDiv, l0, l1, l2, l3, l4, l5, l6, l7, l8, l9, l10, l11, l12, l13, l14, l15, l16, l20, l31, l32, l36, l40, l48, l57, l59, l63, l64, l97, l99, l100, l101, l122, l127, l128, l250, l255, l262143, l262144, l30000, l100000, l12345, l1024, l4095, nI_eqs, nI_les, nI_lts, qI_eq, qI_eqn, nI_eqq, qI_lts, nI_ltp, nI_lep, qI_les, nI_add, nI_mul, qI_add, qI_s, qI_def, nI_clamps, bI_z, bI_o, bI_01, n01, n11, rf_some, rf_none, m1, m1n, bft, z0, vg, vn, a', c', bI_t]
    · have c' : 3 < Yn y := by omega
      rw [decide_eq_false (fun w => c w.2)]
      simp (disch := omega) only [s202_0, s202_1, s202_2, s202_3, s202_4, s202_5, s202_6, s202_7, s202_8, s202_9, s202_10, s202_11, ↓reduceIte, Option.bind_some, Option.toList_some, Option.toList_none, List.cons_append, List.nil_append, if_true, if_false, true_or, or_true, true_and, and_true, not_true_eq_false, not_false_eq_true, Nat.reduceLT, Nat.reduceLeDiff, Nat.reduceEqDiff, Nat.reduceAdd, Nat.reduceMul, Nat.reduceSub, Nat.reducePow, Nat.reduceMod, Nat.reduceDiv, l0, l1, l2, l3, l4, l5, l6, l7, l8, l9, l10, l11, l12, l13, l14, l15, l16, l20, l31, l32, l36, l40, l48, l57, l59, l63, l64, l97, l99, l100, l101, l122, l127, l128, l250, l255, l262143, l262144, l30000, l100000, l12345, l1024, l4095, nI_eqs, nI_les, nI_lts, qI_eq, qI_eqn, nI_eqq, qI_lts, nI_ltp, nI_lep, qI_les, nI_add, nI_mul, qI_add, qI_s, qI_def, nI_clamps, bI_z, bI_o, bI_01, n01, n11, rf_some, rf_none, m1, m1n, bft, z0, vg, vn, a', c', bI_f]
  · have a' : 3 < Yg y := by omega
    rw [decide_eq_false (fun w => a w.1)]
    simp (disch := omega) only [s202_0, s202_1, s202_2, s202_3, s202_4, s202_5, s202_6, s202_7, s202_8, s202_9, s202_10, s202_11, ↓reduceIte, Option.bind_some, Option.toList_some, Option.toList_none, List.cons_append, List.nil_append, if_true, if_false, true_or, or_true, true_and, and_true, not_true_eq_false, not_false_eq_true, Nat.reduceLT, Nat.reduceLeDiff, Nat.reduceEqDiff, Nat.reduceAdd, Nat.reduceMul, Nat.reduceSub, Nat.reducePow, Nat.reduceMod, Nat.reduceDiv, l0, l1, l2, l3, l4, l5, l6, l7, l8, l9, l10, l11, l12, l13, l14, l15, l16, l20, l31, l32, l36, l40, l48, l57, l59, l63, l64, l97, l99, l100, l101, l122, l127, l128, l250, l255, l262143, l262144, l30000, l100000, l12345, l1024, l4095, nI_eqs, nI_les, nI_lts, qI_eq, qI_eqn, nI_eqq, qI_lts, nI_ltp, nI_lep, qI_les, nI_add, nI_mul, qI_add, qI_s, qI_def, nI_clamps, bI_z, bI_o, bI_01, n01, n11, rf_some, rf_none, m1, m1n, bft, z0, vg, a', bI_f]
theorem vdiv {r D : Nat} (h : D ≤ 63) : (100 * r + D) / 100 = r := by omega
theorem vmod {r D : Nat} (h : D ≤ 63) : (100 * r + D) % 100 = D := by omega
theorem nI_d100 {v : Nat} (h : v < 2 ^ 31) : nI v / nI 100 = nI (v / 100) := nI_div h (by decide)
theorem nI_m100 {v : Nat} (h : v < 2 ^ 31) : nI v - nI (v / 100 * 100) = nI (v % 100) := by
  rw [nI_sub (Nat.div_mul_le_self v 100)]; congr 1; omega
theorem MC.of {d y : Nat} {as : LL} {h h' : AH} {A : Nat} {s : GS} {W : Nat → Prop} {v : Int32} {fa qa n : Nat} {f : Nat → Int32} {q : Nat} {Q : Nat → Nat} (x : FH h h' A s W fa qa n f q Q) (e : E d y 0 as [] h = some (some (.int v), h')) : MC d y as h A W (v, s) := ⟨h', e, x.1, x.2.1, by have := x.2.2.1; unfold RM at *; omega⟩
theorem MC.rfo {d y k : Nat} {as : LL} {h h' : AH} {A : Nat} {s : GS} {W : Nat → Prop} {fa qa n : Nat} {f : Nat → Int32} {q : Nat} {Q : Nat → Nat} (x : FH h h' A s W fa qa n f q Q) (h2 : 2 ≤ k) (h6 : k ≤ 6) (e : E d y 0 as [] h = some (some (.int (rN k)), RFM h' A k)) : MC d y as h A W (rfS s k) := by
  obtain ⟨q1, f1⟩ := x.1.rf h2 h6
  have r1 := f1.rm A
  refine ⟨_, e, q1, x.2.1.trans (f1.kw x.1.2.2.2.2.2.2.1), by have := x.2.2.1; unfold RM at *; omega⟩
theorem c203 (d : Nat) {h : AH} {A : Nat} {s : GS} {W : Nat → Prop} (hx : MX h A s W) (w : Int32) (p2 : Option Value) : MC (d + 6) 203 [some (.ref A), some (.int w), p2] h A W (s_out s w) := by
  have b0 := hx.1.1.1
  have e136 := c136e hx
  have e137 := fun d h => m137 d h w.toInt64 (lN 0) (lN 1)
  rw [in_n w (n := 1) (by decide)] at e137
  have e202 := fun d => m202 d hx.1
  unfold s_out
  cases c : inR w 2 <;> rw [c] at e137
  · rw [if_neg (by decide)]
    refine (MC0.rf hx (k := 2) (by decide) (by decide) ?_).mc hx
    simp (disch := omega) only [s203_0, s203_1, s203_2, s203_3, s203_4, s203_5, s203_6, s203_7, s203_8, s203_9, ↓reduceIte, Option.bind_some, Option.toList_some, Option.toList_none, List.cons_append, List.nil_append, if_true, if_false, true_or, or_true, true_and, and_true, not_true_eq_false, not_false_eq_true, Nat.reduceLT, Nat.reduceLeDiff, Nat.reduceEqDiff, Nat.reduceAdd, Nat.reduceMul, Nat.reduceSub, Nat.reducePow, Nat.reduceMod, Nat.reduceDiv, l0, l1, l2, l3, l4, l5, l6, l7, l8, l9, l10, l11, l12, l13, l14, l15, l16, l20, l31, l32, l36, l40, l48, l57, l59, l63, l64, l97, l99, l100, l101, l122, l127, l128, l250, l255, l262143, l262144, l30000, l100000, l12345, l1024, l4095, nI_eqs, nI_les, nI_lts, qI_eq, qI_eqn, nI_eqq, qI_lts, nI_ltp, nI_lep, qI_les, nI_add, nI_mul, qI_add, qI_s, qI_def, nI_clamps, bI_z, bI_o, bI_01, n01, n11, rf_some, rf_none, m1, m1n, bft, j0, j1, b0, e137, bI_f, rN_d, e136]
  · rw [if_pos rfl]
    by_cases sm : Yg (gY s) ≤ 3 ∧ Yn (gY s) ≤ 3
    · rw [if_pos sm]
      rw [decide_eq_true sm] at e202
      obtain ⟨h1, fa, qa, n, f, q, Q, o, Y, e1, fh, fo, tb, cl, ⟨i, i1, i2⟩, -⟩ := c201 d hx sm.1 sm.2 false none none none none none none
      rw [bI_f] at e1
      obtain ⟨x1, x2, x3, x4, x5, x6, x7, x8, x9, x10, x11, x12⟩ := id fh
      have ok := x1.1.2.2
      have nd := RY.nd ok sm.1 sm.2
      have e196 := fun d => m196 d x1.1 none none
      rw [nd.rc] at e196
      have rl := nd.2.1.rho_n sm.1 sm.2 x9
      have fv := x10 _ nd.2.1
      have t := tb i i1
      rw [i2] at t
      have a1 := x1.1.1.1
      have e136' := c136e x1
      obtain ⟨k, hk, rfl⟩ := inR_of (by decide) c
      rcases t.c with ⟨D, hD, t1, t2, t3⟩ | ⟨hD, t3⟩
      · rw [hD]
        dsimp only
        rw [t3] at fv
        have hr : D - lsY (gY s) (ndY (gY s)) ≤ 63 := by omega
        generalize D - lsY (gY s) (ndY (gY s)) = r at *
        have n3 : ¬ 100 * r + D = 30000 := by omega
        have vd := vdiv (r := r) t2
        have vm := vmod (r := r) t2
        refine MC.of fh ?_
        by_cases k0 : k = 0
        · subst k0
          rw [if_pos rfl]
          have dd : nI (100 * r + D) / nI 100 = nI r := by rw [nI_d100 (by omega), vd]
          simp (disch := omega) only [s203_0, s203_1, s203_2, s203_3, s203_4, s203_5, s203_10, s203_11, s203_12, s203_17, s203_18, s203_19, s203_20, s203_21, s203_22, s203_23, s203_24, s203_25, s203_26, s203_27, s203_28, s203_33, s203_34, s203_35, s203_36, s203_37, s203_38, s203_42, ↓reduceIte, Option.bind_some, Option.toList_some, Option.toList_none, List.cons_append, List.nil_append, if_true, if_false, true_or, or_true, true_and, and_true, not_true_eq_false, not_false_eq_true, Nat.reduceLT, Nat.reduceLeDiff, Nat.reduceEqDiff, Nat.reduceAdd, Nat.reduceMul, Nat.reduceSub, Nat.reducePow, Nat.reduceMod, Nat.reduceDiv, l0, l1, l2, l3, l4, l5, l6, l7, l8, l9, l10, l11, l12, l13, l14, l15, l16, l20, l31, l32, l36, l40, l48, l57, l59, l63, l64, l97, l99, l100, l101, l122, l127, l128, l250, l255, l262143, l262144, l30000, l100000, l12345, l1024, l4095, nI_eqs, nI_les, nI_lts, qI_eq, qI_eqn, nI_eqq, qI_lts, nI_ltp, nI_lep, qI_les, nI_add, nI_mul, qI_add, qI_s, qI_def, nI_clamps, bI_z, bI_o, bI_01, n01, n11, rf_some, rf_none, m1, m1n, bft, j0, j1, b0, e137, e202, e1, a1, x4, gA x6, e196, fv, n3, dd, bI_t, Bool.true_eq_false]
        · have k2 : ¬ nI k = nI 0 := fun q => k0 (by rw [nI_eqs (by omega) (by decide)] at q; exact q)
          rw [if_neg k2]
          have dd : nI (100 * r + D) / nI 100 = nI r := by rw [nI_d100 (by omega), vd]
          have mm : nI (100 * r + D) - nI (r * 100) = nI D := by rw [nI_sub (by omega)]; congr 1; omega
          simp (disch := omega) only [s203_0, s203_1, s203_2, s203_3, s203_4, s203_5, s203_10, s203_11, s203_12, s203_17, s203_18, s203_19, s203_20, s203_21, s203_22, s203_23, s203_24, s203_25, s203_26, s203_27, s203_28, s203_33, s203_34, s203_39, s203_40, s203_41, s203_42, ↓reduceIte, Option.bind_some, Option.toList_some, Option.toList_none, List.cons_append, List.nil_append, if_true, if_false, true_or, or_true, true_and, and_true, not_true_eq_false, not_false_eq_true, Nat.reduceLT, Nat.reduceLeDiff, Nat.reduceEqDiff, Nat.reduceAdd, Nat.reduceMul, Nat.reduceSub, Nat.reducePow, Nat.reduceMod, Nat.reduceDiv, l0, l1, l2, l3, l4, l5, l6, l7, l8, l9, l10, l11, l12, l13, l14, l15, l16, l20, l31, l32, l36, l40, l48, l57, l59, l63, l64, l97, l99, l100, l101, l122, l127, l128, l250, l255, l262143, l262144, l30000, l100000, l12345, l1024, l4095, nI_eqs, nI_les, nI_lts, qI_eq, qI_eqn, nI_eqq, qI_lts, nI_ltp, nI_lep, qI_les, nI_add, nI_mul, qI_add, qI_s, qI_def, nI_clamps, bI_z, bI_o, bI_01, n01, n11, rf_some, rf_none, m1, m1n, bft, j0, j1, b0, e137, e202, e1, a1, x4, gA x6, e196, fv, n3, k0, dd, mm, bI_t, Bool.true_eq_false]
      · rw [hD]
        rw [t3] at fv
        refine MC.rfo fh (k := 5) (by decide) (by decide) ?_
        simp (disch := omega) only [s203_0, s203_1, s203_2, s203_3, s203_4, s203_5, s203_10, s203_11, s203_12, s203_17, s203_18, s203_19, s203_20, s203_21, s203_22, s203_23, s203_24, s203_25, s203_26, s203_27, s203_28, s203_29, s203_30, s203_31, s203_32, s203_42, ↓reduceIte, Option.bind_some, Option.toList_some, Option.toList_none, List.cons_append, List.nil_append, if_true, if_false, true_or, or_true, true_and, and_true, not_true_eq_false, not_false_eq_true, Nat.reduceLT, Nat.reduceLeDiff, Nat.reduceEqDiff, Nat.reduceAdd, Nat.reduceMul, Nat.reduceSub, Nat.reducePow, Nat.reduceMod, Nat.reduceDiv, l0, l1, l2, l3, l4, l5, l6, l7, l8, l9, l10, l11, l12, l13, l14, l15, l16, l20, l31, l32, l36, l40, l48, l57, l59, l63, l64, l97, l99, l100, l101, l122, l127, l128, l250, l255, l262143, l262144, l30000, l100000, l12345, l1024, l4095, nI_eqs, nI_les, nI_lts, qI_eq, qI_eqn, nI_eqq, qI_lts, nI_ltp, nI_lep, qI_les, nI_add, nI_mul, qI_add, qI_s, qI_def, nI_clamps, bI_z, bI_o, bI_01, n01, n11, rf_some, rf_none, m1, m1n, bft, j0, j1, b0, e137, e202, e1, a1, x4, gA x6, e196, fv, bI_t, Bool.true_eq_false, rN_d, e136']
    · rw [if_neg sm]
      rw [decide_eq_false sm] at e202
      refine (MC0.rf hx (k := 5) (by decide) (by decide) ?_).mc hx
      simp (disch := omega) only [s203_0, s203_1, s203_2, s203_3, s203_4, s203_5, s203_10, s203_11, s203_12, s203_13, s203_14, s203_15, s203_16, ↓reduceIte, Option.bind_some, Option.toList_some, Option.toList_none, List.cons_append, List.nil_append, if_true, if_false, true_or, or_true, true_and, and_true, not_true_eq_false, not_false_eq_true, Nat.reduceLT, Nat.reduceLeDiff, Nat.reduceEqDiff, Nat.reduceAdd, Nat.reduceMul, Nat.reduceSub, Nat.reducePow, Nat.reduceMod, Nat.reduceDiv, l0, l1, l2, l3, l4, l5, l6, l7, l8, l9, l10, l11, l12, l13, l14, l15, l16, l20, l31, l32, l36, l40, l48, l57, l59, l63, l64, l97, l99, l100, l101, l122, l127, l128, l250, l255, l262143, l262144, l30000, l100000, l12345, l1024, l4095, nI_eqs, nI_les, nI_lts, qI_eq, qI_eqn, nI_eqq, qI_lts, nI_ltp, nI_lep, qI_les, nI_add, nI_mul, qI_add, qI_s, qI_def, nI_clamps, bI_z, bI_o, bI_01, n01, n11, rf_some, rf_none, m1, m1n, bft, j0, j1, b0, e137, e202, bI_t, bI_f, Bool.true_eq_false, rN_d, e136]
/-- what it costs behind a try -/
theorem m205 (d : Nat) {h0 h : AH} {A : Nat} {s : GS} {W : Nat → Prop} {fa qa n : Nat} {f : Nat → Int32} {q : Nat} {Q : Nat → Nat} (x : FH h0 h A s W fa qa n f q Q) (h3 : Yg (gY s) ≤ 3) (n3 : Yn (gY s) ≤ 3) {g c : Nat} (hg : g < Yg (gY s)) (hc : c < Yc (gY s)) (p3 : Option Value) : ∃ h' o Y, E (d + 3) 205 0 [some (.ref A), some (.int (nI g)), some (.int (nI c)), p3] [] h = some (some (.int (f (tcN (gY s) (ndY (gY s)) g c))), h') ∧ FH h0 h' A s W fa qa n f q Q ∧ FO h' A s o Y := by
  have ok := x.1.1.2.2
  have a0 := x.1.1.1.1
  obtain ⟨h1, o, e1, x1, y1⟩ := x.fresh d
  obtain ⟨h2, e2, my2, f2⟩ := m183 d y1.2.1 hg hc none
  have r2 := (RY.nd ok h3 n3).rem ok h3 n3 hg hc
  have x2 := x1.o y1.1 f2.bk
  have q2 : hR h2 A 23 = some o := by rw [f2.1.2.2.2.2.2.1]; exact y1.1
  have e196 := fun d => m196 d my2 none none
  rw [r2.rc] at e196
  have b1 := y1.2.1.1.1
  have b2 := my2.1.1
  obtain ⟨z1, z2, z3, z4, z5, z6, z7, z8, z9, z10, z11, z12⟩ := id x2
  have rl := r2.2.1.rho_n h3 n3 z9
  have fv := z10 _ r2.2.1
  have a2 := z1.1.1.1
  refine ⟨h2, o, _, ?_, x2, q2, my2, r2.1⟩
  simp (disch := omega) only [s205_0, s205_1, s205_2, s205_3, s205_4, s205_5, s205_6, s205_7, s205_8, s205_9, s205_10, s205_11, s205_12, s205_13, ↓reduceIte, Option.bind_some, Option.toList_some, Option.toList_none, List.cons_append, List.nil_append, if_true, if_false, true_or, or_true, true_and, and_true, not_true_eq_false, not_false_eq_true, Nat.reduceLT, Nat.reduceLeDiff, Nat.reduceEqDiff, Nat.reduceAdd, Nat.reduceMul, Nat.reduceSub, Nat.reducePow, Nat.reduceMod, Nat.reduceDiv, l0, l1, l2, l3, l4, l5, l6, l7, l8, l9, l10, l11, l12, l13, l14, l15, l16, l20, l31, l32, l36, l40, l48, l57, l59, l63, l64, l97, l99, l100, l101, l122, l127, l128, l250, l255, l262143, l262144, l30000, l100000, l12345, l1024, l4095, nI_eqs, nI_les, nI_lts, qI_eq, qI_eqn, nI_eqq, qI_lts, nI_ltp, nI_lep, qI_les, nI_add, nI_mul, qI_add, qI_s, qI_def, nI_clamps, bI_z, bI_o, bI_01, n01, n11, rf_some, rf_none, m1, m1n, bft, a0, b1, b2, a2, z4, gA z6, e1, e2, e196, fv]
theorem c207 (d : Nat) {h : AH} {A : Nat} {s : GS} {W : Nat → Prop} (hx : MX h A s W) (g c : Int32) (p3 p4 : Option Value) : MC (d + 6) 207 [some (.ref A), some (.int g), some (.int c), p3, p4] h A W (s_harm s g c) := by
  have b0 := hx.1.1.1
  have e136 := c136e hx
  have e138 := fun d => m138 d hx.1 g
  have e140 := fun d => m140 d hx.1 c.toInt64 none
  have oc := hx.1.2.2.1
  have o6 := hx.1.2.2.2.1
  rw [inRL_i c (by omega)] at e140
  have e202 := fun d => m202 d hx.1
  unfold s_harm
  cases a : inR g (Yg (gY s)) <;> rw [a] at e138
  · rw [if_neg (fun w => absurd w.1 (by decide))]
    refine (MC0.rf hx (k := 2) (by decide) (by decide) ?_).mc hx
    simp (disch := omega) only [s207_0, s207_1, s207_2, s207_3, s207_9, s207_10, s207_11, s207_12, ↓reduceIte, Option.bind_some, Option.toList_some, Option.toList_none, List.cons_append, List.nil_append, if_true, if_false, true_or, or_true, true_and, and_true, not_true_eq_false, not_false_eq_true, Nat.reduceLT, Nat.reduceLeDiff, Nat.reduceEqDiff, Nat.reduceAdd, Nat.reduceMul, Nat.reduceSub, Nat.reducePow, Nat.reduceMod, Nat.reduceDiv, l0, l1, l2, l3, l4, l5, l6, l7, l8, l9, l10, l11, l12, l13, l14, l15, l16, l20, l31, l32, l36, l40, l48, l57, l59, l63, l64, l97, l99, l100, l101, l122, l127, l128, l250, l255, l262143, l262144, l30000, l100000, l12345, l1024, l4095, nI_eqs, nI_les, nI_lts, qI_eq, qI_eqn, nI_eqq, qI_lts, nI_ltp, nI_lep, qI_les, nI_add, nI_mul, qI_add, qI_s, qI_def, nI_clamps, bI_z, bI_o, bI_01, n01, n11, rf_some, rf_none, m1, m1n, bft, b0, e138, bI_f, rN_d, e136]
  · cases a' : inR c (Yc (gY s)) <;> rw [a'] at e140
    · rw [if_neg (fun w => absurd w.2 (by decide))]
      refine (MC0.rf hx (k := 2) (by decide) (by decide) ?_).mc hx
      simp (disch := omega) only [s207_0, s207_1, s207_2, s207_3, s207_4, s207_5, s207_6, s207_7, s207_8, s207_9, s207_10, s207_11, s207_12, ↓reduceIte, Option.bind_some, Option.toList_some, Option.toList_none, List.cons_append, List.nil_append, if_true, if_false, true_or, or_true, true_and, and_true, not_true_eq_false, not_false_eq_true, Nat.reduceLT, Nat.reduceLeDiff, Nat.reduceEqDiff, Nat.reduceAdd, Nat.reduceMul, Nat.reduceSub, Nat.reducePow, Nat.reduceMod, Nat.reduceDiv, l0, l1, l2, l3, l4, l5, l6, l7, l8, l9, l10, l11, l12, l13, l14, l15, l16, l20, l31, l32, l36, l40, l48, l57, l59, l63, l64, l97, l99, l100, l101, l122, l127, l128, l250, l255, l262143, l262144, l30000, l100000, l12345, l1024, l4095, nI_eqs, nI_les, nI_lts, qI_eq, qI_eqn, nI_eqq, qI_lts, nI_ltp, nI_lep, qI_les, nI_add, nI_mul, qI_add, qI_s, qI_def, nI_clamps, bI_z, bI_o, bI_01, n01, n11, rf_some, rf_none, m1, m1n, bft, b0, e138, e140, bI_t, bI_f, Bool.true_eq_false, rN_d, e136]
    · rw [if_pos ⟨rfl, rfl⟩]
      by_cases sm : Yg (gY s) ≤ 3 ∧ Yn (gY s) ≤ 3
      · rw [if_pos sm]
        rw [decide_eq_true sm] at e202
        obtain ⟨h1, fa, qa, n, f, q, Q, o, Y, e1, fh, fo, tb, cl, ⟨i, i1, i2⟩, foe⟩ := c201 d hx sm.1 sm.2 true none none none none none none
        rw [bI_t] at e1
        obtain ⟨x1, x2, x3, x4, x5, x6, x7, x8, x9, x10, x11, x12⟩ := id fh
        have ok := x1.1.2.2
        have nd := RY.nd ok sm.1 sm.2
        have e196 := fun d => m196 d x1.1 none none
        rw [nd.rc] at e196
        have rl := nd.2.1.rho_n sm.1 sm.2 x9
        have fv := x10 _ nd.2.1
        have t := tb i i1
        rw [i2] at t
        have a1 := x1.1.1.1
        have e136' := c136e x1
        obtain ⟨j, hj, rfl⟩ := inR_of (by omega) a
        obtain ⟨k, hk, rfl⟩ := inR_of (by omega) a'
        rw [nI_clamp (show j < 2 ^ 31 by omega), nI_clamp (show k < 2 ^ 31 by omega)]
        rcases t.c with ⟨D, hD, t1, t2, t3⟩ | ⟨hD, t3⟩
        · rw [hD]
          dsimp only
          rw [t3] at fv
          obtain ⟨h2, o2, Y2, e205, fh2, fo2⟩ := m205 (d + 2) fh sm.1 sm.2 hj hk none
          obtain ⟨i', j1, j2⟩ := foe rfl j k hj hk
          have u := tb i' j1
          rw [j2] at u
          have hr : D - lsY (gY s) (ndY (gY s)) ≤ 63 := by omega
          generalize D - lsY (gY s) (ndY (gY s)) = r at *
          have n3 : ¬ 100 * r + D = 30000 := by omega
          have vd := vdiv (r := r) t2
          have dd : nI (100 * r + D) / nI 100 = nI r := by rw [nI_d100 (by omega), vd]
          rcases u.c with ⟨D', hD', u1, u2, u3⟩ | ⟨hD', u3⟩
          · rw [hD']
            dsimp only
            rw [u3] at e205
            have hr' : D' - lsY (gY s) (tcN (gY s) (ndY (gY s)) j k) ≤ 63 := by omega
            generalize D' - lsY (gY s) (tcN (gY s) (ndY (gY s)) j k) = r' at *
            have n3' : ¬ 100 * r' + D' = 30000 := by omega
            have vd' := vdiv (r := r') u2
            have dd' : nI (100 * r' + D') / nI 100 = nI r' := by rw [nI_d100 (by omega), vd']
            refine MC.of fh2 ?_
            simp (disch := omega) only [s207_0, s207_1, s207_2, s207_3, s207_4, s207_5, s207_6, s207_7, s207_8, s207_13, s207_14, s207_15, s207_20, s207_21, s207_22, s207_23, s207_24, s207_25, s207_26, s207_27, s207_28, s207_29, s207_30, s207_31, s207_36, s207_37, s207_38, s207_39, s207_40, s207_41, s207_42, s207_43, s207_46, s207_47, s207_48, s207_49, s207_50, s207_51, s207_52, s207_53, ↓reduceIte, Option.bind_some, Option.toList_some, Option.toList_none, List.cons_append, List.nil_append, if_true, if_false, true_or, or_true, true_and, and_true, not_true_eq_false, not_false_eq_true, Nat.reduceLT, Nat.reduceLeDiff, Nat.reduceEqDiff, Nat.reduceAdd, Nat.reduceMul, Nat.reduceSub, Nat.reducePow, Nat.reduceMod, Nat.reduceDiv, l0, l1, l2, l3, l4, l5, l6, l7, l8, l9, l10, l11, l12, l13, l14, l15, l16, l20, l31, l32, l36, l40, l48, l57, l59, l63, l64, l97, l99, l100, l101, l122, l127, l128, l250, l255, l262143, l262144, l30000, l100000, l12345, l1024, l4095, nI_eqs, nI_les, nI_lts, qI_eq, qI_eqn, nI_eqq, qI_lts, nI_ltp, nI_lep, qI_les, nI_add, nI_mul, qI_add, qI_s, qI_def, nI_clamps, bI_z, bI_o, bI_01, n01, n11, rf_some, rf_none, m1, m1n, bft, b0, e138, e140, e202, e1, a1, x4, gA x6, e196, fv, n3, n3', e205, dd, dd', bI_t, Bool.true_eq_false]
          · rw [hD']
            rw [u3] at e205
            refine MC.of fh2 ?_
            simp (disch := omega) only [s207_0, s207_1, s207_2, s207_3, s207_4, s207_5, s207_6, s207_7, s207_8, s207_13, s207_14, s207_15, s207_20, s207_21, s207_22, s207_23, s207_24, s207_25, s207_26, s207_27, s207_28, s207_29, s207_30, s207_31, s207_36, s207_37, s207_38, s207_39, s207_40, s207_41, s207_42, s207_43, s207_44, s207_45, s207_53, ↓reduceIte, Option.bind_some, Option.toList_some, Option.toList_none, List.cons_append, List.nil_append, if_true, if_false, true_or, or_true, true_and, and_true, not_true_eq_false, not_false_eq_true, Nat.reduceLT, Nat.reduceLeDiff, Nat.reduceEqDiff, Nat.reduceAdd, Nat.reduceMul, Nat.reduceSub, Nat.reducePow, Nat.reduceMod, Nat.reduceDiv, l0, l1, l2, l3, l4, l5, l6, l7, l8, l9, l10, l11, l12, l13, l14, l15, l16, l20, l31, l32, l36, l40, l48, l57, l59, l63, l64, l97, l99, l100, l101, l122, l127, l128, l250, l255, l262143, l262144, l30000, l100000, l12345, l1024, l4095, nI_eqs, nI_les, nI_lts, qI_eq, qI_eqn, nI_eqq, qI_lts, nI_ltp, nI_lep, qI_les, nI_add, nI_mul, qI_add, qI_s, qI_def, nI_clamps, bI_z, bI_o, bI_01, n01, n11, rf_some, rf_none, m1, m1n, bft, b0, e138, e140, e202, e1, a1, x4, gA x6, e196, fv, n3, e205, bI_t, Bool.true_eq_false]
        · rw [hD]
          rw [t3] at fv
          refine MC.rfo fh (k := 5) (by decide) (by decide) ?_
          simp (disch := omega) only [s207_0, s207_1, s207_2, s207_3, s207_4, s207_5, s207_6, s207_7, s207_8, s207_13, s207_14, s207_15, s207_20, s207_21, s207_22, s207_23, s207_24, s207_25, s207_26, s207_27, s207_28, s207_29, s207_30, s207_31, s207_32, s207_33, s207_34, s207_35, ↓reduceIte, Option.bind_some, Option.toList_some, Option.toList_none, List.cons_append, List.nil_append, if_true, if_false, true_or, or_true, true_and, and_true, not_true_eq_false, not_false_eq_true, Nat.reduceLT, Nat.reduceLeDiff, Nat.reduceEqDiff, Nat.reduceAdd, Nat.reduceMul, Nat.reduceSub, Nat.reducePow, Nat.reduceMod, Nat.reduceDiv, l0, l1, l2, l3, l4, l5, l6, l7, l8, l9, l10, l11, l12, l13, l14, l15, l16, l20, l31, l32, l36, l40, l48, l57, l59, l63, l64, l97, l99, l100, l101, l122, l127, l128, l250, l255, l262143, l262144, l30000, l100000, l12345, l1024, l4095, nI_eqs, nI_les, nI_lts, qI_eq, qI_eqn, nI_eqq, qI_lts, nI_ltp, nI_lep, qI_les, nI_add, nI_mul, qI_add, qI_s, qI_def, nI_clamps, bI_z, bI_o, bI_01, n01, n11, rf_some, rf_none, m1, m1n, bft, b0, e138, e140, e202, e1, a1, x4, gA x6, e196, fv, bI_t, Bool.true_eq_false, rN_d, e136']
      · rw [if_neg sm]
        rw [decide_eq_false sm] at e202
        refine (MC0.rf hx (k := 5) (by decide) (by decide) ?_).mc hx
        simp (disch := omega) only [s207_0, s207_1, s207_2, s207_3, s207_4, s207_5, s207_6, s207_7, s207_8, s207_13, s207_14, s207_15, s207_16, s207_17, s207_18, s207_19, ↓reduceIte, Option.bind_some, Option.toList_some, Option.toList_none, List.cons_append, List.nil_append, if_true, if_false, true_or, or_true, true_and, and_true, not_true_eq_false, not_false_eq_true, Nat.reduceLT, Nat.reduceLeDiff, Nat.reduceEqDiff, Nat.reduceAdd, Nat.reduceMul, Nat.reduceSub, Nat.reducePow, Nat.reduceMod, Nat.reduceDiv, l0, l1, l2, l3, l4, l5, l6, l7, l8, l9, l10, l11, l12, l13, l14, l15, l16, l20, l31, l32, l36, l40, l48, l57, l59, l63, l64, l97, l99, l100, l101, l122, l127, l128, l250, l255, l262143, l262144, l30000, l100000, l12345, l1024, l4095, nI_eqs, nI_les, nI_lts, qI_eq, qI_eqn, nI_eqq, qI_lts, nI_ltp, nI_lep, qI_les, nI_add, nI_mul, qI_add, qI_s, qI_def, nI_clamps, bI_z, bI_o, bI_01, n01, n11, rf_some, rf_none, m1, m1n, bft, b0, e138, e140, e202, bI_t, bI_f, Bool.true_eq_false, rN_d, e136]
