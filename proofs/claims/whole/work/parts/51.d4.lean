/-! THE DEVELOPERS' CALLS: home, seed, image, back, status -/
def sPi (y : YS) (i : Nat) : YS := yMk (Yc y) (Yg y) (Yn y) (Yt y) (Yz y) (YK y) (YA y) (YU y) (YF y) (YM y) (YW y) (YC y) (fun k => if k < i then 0 else YP y k)
theorem sPi_0 (y : YS) : sPi y 0 = y := by
  have : (fun k => if k < 0 then 0 else YP y k) = YP y := by funext k; rw [if_neg (Nat.not_lt_zero k)]
  unfold sPi; rw [this]; rfl
theorem sPi_s (y : YS) (i : Nat) : sP (sPi y i) i 0 = sPi y (i + 1) := by
  have : fup (fun k => if k < i then 0 else YP y k) i 0 = (fun k => if k < i + 1 then 0 else YP y k) := by
    funext k
    unfold fup
    by_cases e : k = i
    · rw [if_pos e, if_pos (by omega)]
    · rw [if_neg e]
      show (if k < i then 0 else YP y k) = _
      by_cases e' : k < i
      · rw [if_pos e', if_pos (by omega)]
      · rw [if_neg e', if_neg (by omega)]
  show yMk (Yc y) (Yg y) (Yn y) (Yt y) (Yz y) (YK y) (YA y) (YU y) (YF y) (YM y) (YW y) (YC y) (fup (fun k => if k < i then 0 else YP y k) i 0) = _
  rw [this]; rfl
def s_home (s : GS) : Int32 × GS := (nI (bc (outsN (gY s))), pY s (sPi (gY s) (Yn (gY s))))
theorem outs_lt {y : YS} (hn : Yn y ≤ 6) : outsN y < 64 := by
  have lp : ∀ m i s, i + m ≤ 6 → s < 64 → itr (fun k s => if Yg y ≤ YP y k then s ||| 2 ^ k else s) m i s < 64 := by
    intro m
    induction m with
    | zero => intro i s _ hs; exact hs
    | succ m ih =>
      intro i s hi hs
      rw [itr_s]
      refine ih _ _ (by omega) ?_
      split
      · exact Nat.or_lt_two_pow (n := 6) hs (Nat.pow_lt_pow_right (by decide) (by omega))
      · exact hs
  exact lp _ _ _ (by omega) (by decide)
theorem c125 (d : Nat) {h : AH} {B : Nat} {s : GS} (hx : DX h B s) (p1 p2 : Option Value) : DC (d + 2) 125 [some (.ref B), p1, p2] h B (s_home s) := by
  obtain ⟨⟨b0, b1, b2, b3, b4, b5, b6, b7⟩, xy, ⟨k0, k1⟩, xh, ⟨t0, t1, t2, t3, t4, t5⟩, rx, qx⟩ := id hx; have e131 := c131e hx; obtain ⟨⟨z0, z1, z2, z3, z4, z5, z6, z7, r1, r2, r3, r4, r5, r6, r7⟩, ⟨vc, vg, vn, vt, vz, vK, vA, vU, vM, vW, vC, vP⟩, ok⟩ := id xy; obtain ⟨⟨o2, o3⟩, o6, on, og, oc⟩ := id ok
  have lp : ∀ m i h1, i + m = Yn (gY s) → XY h1 (B + 1) (sPi (gY s) i) → Fr0 (blk (B + 1) 8) h h1 → ∃ h2, E (d + 2) 125 7 [some (.ref B), some (.int (nI (bc (outsN (gY s))))), some (.int (nI i))] [] h1 = some (some (.int (nI (bc (outsN (gY s))))), h2) ∧ XY h2 (B + 1) (sPi (gY s) (Yn (gY s))) ∧ Fr0 (blk (B + 1) 8) h h2 := by
    intro m
    induction m with
    | zero =>
      intro i h1 hi q f
      have hi' : i = Yn (gY s) := hi
      subst hi'
      refine ⟨h1, ?_, q, f⟩
      have c0 : hS h1 B = some (104, 0) := by rw [f.2.2.2.2.1]; exact b0
      have c1 : hR h1 B 0 = some (B + 1) := by rw [f.2.2.2.2.2.1]; exact b1
      have c2 := q.1.1
      have c3 : hI h1 (B + 1) 2 = nI (Yn (gY s)) := q.2.1.2.2.1
      rw [s125_7]
      simp (disch := omega) only [s125_0, s125_1, s125_2, s125_3, s125_4, s125_5, s125_6, s125_8, s125_9, s125_10, s125_11, s125_12, s125_13, s125_14, s125_15, s125_16, s125_17, s125_18, s125_19, s125_20, s125_21, ↓reduceIte, Option.bind_some, Option.toList_some, Option.toList_none, List.cons_append, List.nil_append, if_true, if_false, true_or, or_true, true_and, and_true, not_true_eq_false, not_false_eq_true, Nat.reduceLT, Nat.reduceLeDiff, Nat.reduceEqDiff, Nat.reduceAdd, Nat.reduceMul, Nat.reduceSub, Nat.reducePow, Nat.reduceMod, Nat.reduceDiv, l0, l1, l2, l3, l4, l5, l6, l7, l8, l9, l10, l11, l12, l13, l14, l15, l16, l20, l31, l32, l36, l40, l48, l57, l59, l63, l64, l97, l99, l100, l101, l122, l127, l128, l250, l255, l262143, l262144, l30000, l100000, l12345, l1024, l4095, nI_eqs, nI_les, nI_lts, qI_eq, qI_eqn, nI_eqq, qI_lts, nI_ltp, nI_lep, qI_les, nI_add, nI_mul, qI_add, qI_s, qI_def, nI_clamps, bI_z, bI_o, bI_01, n01, n11, rf_some, rf_none, m1, m1n, bft, c0, c1, c2, c3, Nat.le_refl]
    | succ m ih =>
      intro i h1 hi q f
      have h1' : ¬ Yn (gY s) ≤ i := by omega
      have c0 : hS h1 B = some (104, 0) := by rw [f.2.2.2.2.1]; exact b0
      have c1 : hR h1 B 0 = some (B + 1) := by rw [f.2.2.2.2.2.1]; exact b1
      have c2 := q.1.1
      have c3 : hI h1 (B + 1) 2 = nI (Yn (gY s)) := q.2.1.2.2.1
      have c4 : hR h1 (B + 1) 11 = some (B + 1 + 7) := q.1.2.2.2.2.2.2.2.2.2.2.2.2.2.2
      have c5 : hS h1 (B + 1 + 7) = some (0, 6) := q.1.2.2.2.2.2.2.2.1
      have q' : XY (stI h1 (B + 1 + 7) i (nI 0)) (B + 1) (sPi (gY s) (i + 1)) := by
        rw [← sPi_s]
        exact ⟨q.1, q.2.1.P i 0, q.2.2.sP (Nat.zero_le _)⟩
      obtain ⟨h2, e, r, f2⟩ := ih (i + 1) _ (by omega) q' (f.trans (blkI _ (by omega) (by omega) _ _))
      refine ⟨h2, ?_, r, f2⟩
      rw [s125_7]
      simp (disch := omega) only [s125_0, s125_1, s125_2, s125_3, s125_4, s125_5, s125_6, s125_8, s125_9, s125_10, s125_11, s125_12, s125_13, s125_14, s125_15, s125_16, s125_17, s125_18, s125_19, s125_20, s125_21, ↓reduceIte, Option.bind_some, Option.toList_some, Option.toList_none, List.cons_append, List.nil_append, if_true, if_false, true_or, or_true, true_and, and_true, not_true_eq_false, not_false_eq_true, Nat.reduceLT, Nat.reduceLeDiff, Nat.reduceEqDiff, Nat.reduceAdd, Nat.reduceMul, Nat.reduceSub, Nat.reducePow, Nat.reduceMod, Nat.reduceDiv, l0, l1, l2, l3, l4, l5, l6, l7, l8, l9, l10, l11, l12, l13, l14, l15, l16, l20, l31, l32, l36, l40, l48, l57, l59, l63, l64, l97, l99, l100, l101, l122, l127, l128, l250, l255, l262143, l262144, l30000, l100000, l12345, l1024, l4095, nI_eqs, nI_les, nI_lts, qI_eq, qI_eqn, nI_eqq, qI_lts, nI_ltp, nI_lep, qI_les, nI_add, nI_mul, qI_add, qI_s, qI_def, nI_clamps, bI_z, bI_o, bI_01, n01, n11, rf_some, rf_none, m1, m1n, bft, c0, c1, c2, c3, c4, gA c5, h1', Nat.add_assoc]
      simp (disch := omega) only [Nat.add_assoc] at e
      exact e
  obtain ⟨h2, e, q, f⟩ := lp (Yn (gY s)) 0 h (by omega) (by rw [sPi_0]; exact xy) (Fr0.refl _ _)
  refine DC.y hx q f ?_
  have e72 := fun d => x72 d xy none none
  have e231 := fun d => x231 d h (outs_lt on)
  simp (disch := omega) only [s125_0, s125_1, s125_2, s125_3, s125_4, s125_5, s125_6, ↓reduceIte, Option.bind_some, Option.toList_some, Option.toList_none, List.cons_append, List.nil_append, if_true, if_false, true_or, or_true, true_and, and_true, not_true_eq_false, not_false_eq_true, Nat.reduceLT, Nat.reduceLeDiff, Nat.reduceEqDiff, Nat.reduceAdd, Nat.reduceMul, Nat.reduceSub, Nat.reducePow, Nat.reduceMod, Nat.reduceDiv, l0, l1, l2, l3, l4, l5, l6, l7, l8, l9, l10, l11, l12, l13, l14, l15, l16, l20, l31, l32, l36, l40, l48, l57, l59, l63, l64, l97, l99, l100, l101, l122, l127, l128, l250, l255, l262143, l262144, l30000, l100000, l12345, l1024, l4095, nI_eqs, nI_les, nI_lts, qI_eq, qI_eqn, nI_eqq, qI_lts, nI_ltp, nI_lep, qI_les, nI_add, nI_mul, qI_add, qI_s, qI_def, nI_clamps, bI_z, bI_o, bI_01, n01, n11, rf_some, rf_none, m1, m1n, bft, b0, b1, z0, r1, r2, r3, r4, r5, r6, r7, vc, vg, vn, vt, vz, gI z1, gI z2, gI z3, gI z4, gI z5, gI z6, gI z7, gA z1, gA z2, gA z3, gA z4, gA z5, gA z6, gA z7, e72, e231]
  exact e
def s_seed (s : GS) (v : Int32) : Int32 × GS := (Yz (gY s), pY s (sZ (gY s) v))
theorem c126 (d : Nat) {h : AH} {B : Nat} {s : GS} (hx : DX h B s) (v : Int32) (p : Option Value) : DC d 126 [some (.ref B), some (.int v), p] h B (s_seed s v) := by
  obtain ⟨⟨b0, b1, b2, b3, b4, b5, b6, b7⟩, xy, ⟨k0, k1⟩, xh, ⟨t0, t1, t2, t3, t4, t5⟩, rx, qx⟩ := id hx; have e131 := c131e hx; obtain ⟨⟨z0, z1, z2, z3, z4, z5, z6, z7, r1, r2, r3, r4, r5, r6, r7⟩, ⟨vc, vg, vn, vt, vz, vK, vA, vU, vM, vW, vC, vP⟩, ok⟩ := id xy; obtain ⟨⟨o2, o3⟩, o6, on, og, oc⟩ := id ok
  refine DC.y hx (h' := stI h (B + 1) 4 v) ⟨xy.1, xy.2.1.z v, xy.2.2⟩ (blkI _ (by omega) (by omega) _ _) ?_
  simp (disch := omega) only [s126_0, s126_1, s126_2, s126_3, s126_4, s126_5, s126_6, s126_7, s126_8, s126_9, ↓reduceIte, Option.bind_some, Option.toList_some, Option.toList_none, List.cons_append, List.nil_append, if_true, if_false, true_or, or_true, true_and, and_true, not_true_eq_false, not_false_eq_true, Nat.reduceLT, Nat.reduceLeDiff, Nat.reduceEqDiff, Nat.reduceAdd, Nat.reduceMul, Nat.reduceSub, Nat.reducePow, Nat.reduceMod, Nat.reduceDiv, l0, l1, l2, l3, l4, l5, l6, l7, l8, l9, l10, l11, l12, l13, l14, l15, l16, l20, l31, l32, l36, l40, l48, l57, l59, l63, l64, l97, l99, l100, l101, l122, l127, l128, l250, l255, l262143, l262144, l30000, l100000, l12345, l1024, l4095, nI_eqs, nI_les, nI_lts, qI_eq, qI_eqn, nI_eqq, qI_lts, nI_ltp, nI_lep, qI_les, nI_add, nI_mul, qI_add, qI_s, qI_def, nI_clamps, bI_z, bI_o, bI_01, n01, n11, rf_some, rf_none, m1, m1n, bft, b0, b1, z0, r1, r2, r3, r4, r5, r6, r7, vc, vg, vn, vt, vz, gI z1, gI z2, gI z3, gI z4, gI z5, gI z6, gI z7, gA z1, gA z2, gA z3, gA z4, gA z5, gA z6, gA z7]
def s_image (s : GS) : Int32 × GS := (nI 1, pK s (some (gY s)))
theorem c127 (d : Nat) {h : AH} {B : Nat} {s : GS} (hx : DX h B s) : DC (d + 1) 127 [some (.ref B)] h B (s_image s) := by
  obtain ⟨⟨b0, b1, b2, b3, b4, b5, b6, b7⟩, xy, ⟨k0, k1⟩, xh, ⟨t0, t1, t2, t3, t4, t5⟩, rx, qx⟩ := id hx; have e131 := c131e hx
  obtain ⟨h1, e, q, f⟩ := x59 d b7 xy (Or.inl (by omega))
  have f1 : Fr0 (fun a => a = B ∨ blk (B + 17) 8 a) h h1 := f.mono fun a w => Or.inr w
  have f2 : Fr0 (fun a => a = B ∨ blk (B + 17) 8 a) h1 (stI h1 B 3 (nI 1)) := Fr0.stI _ (Or.inl rfl) _ _
  have z := hx.k (h' := stI h1 B 3 (nI 1)) (k := some (gY s)) ⟨by rw [hI_stI, if_pos ⟨rfl, rfl⟩]; rfl, fun y hy => by
    cases hy
    exact q.fr0 (A := blk B 1) (blkI _ (Nat.le_refl _) (by omega) _ _) (fun a h1 h2 w => by unfold blk at w; omega)⟩ (f1.trans f2)
  refine ⟨_, ?_, z.1, z.2⟩
  have c0 : hS h1 B = some (104, 0) := by rw [f.2.2.2.2.1]; exact b0
  have y0 := xy.1.1
  have y1 := b7.1
  simp (disch := omega) only [s127_0, s127_1, s127_2, s127_3, s127_4, s127_5, s127_6, s127_7, s127_8, s127_9, ↓reduceIte, Option.bind_some, Option.toList_some, Option.toList_none, List.cons_append, List.nil_append, if_true, if_false, true_or, or_true, true_and, and_true, not_true_eq_false, not_false_eq_true, Nat.reduceLT, Nat.reduceLeDiff, Nat.reduceEqDiff, Nat.reduceAdd, Nat.reduceMul, Nat.reduceSub, Nat.reducePow, Nat.reduceMod, Nat.reduceDiv, l0, l1, l2, l3, l4, l5, l6, l7, l8, l9, l10, l11, l12, l13, l14, l15, l16, l20, l31, l32, l36, l40, l48, l57, l59, l63, l64, l97, l99, l100, l101, l122, l127, l128, l250, l255, l262143, l262144, l30000, l100000, l12345, l1024, l4095, nI_eqs, nI_les, nI_lts, qI_eq, qI_eqn, nI_eqq, qI_lts, nI_ltp, nI_lep, qI_les, nI_add, nI_mul, qI_add, qI_s, qI_def, nI_clamps, bI_z, bI_o, bI_01, n01, n11, rf_some, rf_none, m1, m1n, bft, b0, b1, b3, y0, y1, e, c0]
  rfl
def bkH (k : YS) (m i : Nat) (H : Nat → SHT) : Nat → SHT := itr (fun x H => if Hk (H x) = 2 ∧ Yg k ≤ Hg (H x) then fup H x (sMk 0 0 0 0 (He (H x))) else H) m i H
def s_back (s : GS) : Int32 × GS := match gK s with
  | none => rfS s 5
  | some k => (nI 1, pH (pY s k) (bkH k 8 0 (gH s)))
theorem c128 (d : Nat) {h : AH} {B : Nat} {s : GS} (hx : DX h B s) (p : Option Value) : DC (d + 2) 128 [some (.ref B), p] h B (s_back s) := by
  obtain ⟨⟨b0, b1, b2, b3, b4, b5, b6, b7⟩, xy, ⟨k0, k1⟩, xh, ⟨t0, t1, t2, t3, t4, t5⟩, rx, qx⟩ := id hx; have e131 := c131e hx
  unfold s_back
  cases w : gK s with
  | none =>
    rw [w] at k0
    have k0' : hI h B 3 = nI 0 := k0
    refine DC.rf hx (by decide) (by decide) ?_
    simp (disch := omega) only [s128_0, s128_1, s128_2, s128_3, s128_4, s128_5, s128_6, s128_7, s128_8, s128_9, s128_10, s128_11, s128_12, s128_13, s128_15, s128_16, s128_17, s128_18, s128_19, s128_20, s128_21, s128_22, s128_23, s128_24, s128_25, s128_26, s128_27, s128_28, s128_29, s128_30, s128_31, s128_32, s128_33, s128_34, s128_35, s128_36, s128_37, s128_38, s128_39, s128_40, ↓reduceIte, Option.bind_some, Option.toList_some, Option.toList_none, List.cons_append, List.nil_append, if_true, if_false, true_or, or_true, true_and, and_true, not_true_eq_false, not_false_eq_true, Nat.reduceLT, Nat.reduceLeDiff, Nat.reduceEqDiff, Nat.reduceAdd, Nat.reduceMul, Nat.reduceSub, Nat.reducePow, Nat.reduceMod, Nat.reduceDiv, l0, l1, l2, l3, l4, l5, l6, l7, l8, l9, l10, l11, l12, l13, l14, l15, l16, l20, l31, l32, l36, l40, l48, l57, l59, l63, l64, l97, l99, l100, l101, l122, l127, l128, l250, l255, l262143, l262144, l30000, l100000, l12345, l1024, l4095, nI_eqs, nI_les, nI_lts, qI_eq, qI_eqn, nI_eqq, qI_lts, nI_ltp, nI_lep, qI_les, nI_add, nI_mul, qI_add, qI_s, qI_def, nI_clamps, bI_z, bI_o, bI_01, n01, n11, rf_some, rf_none, m1, m1n, bft, b0, k0', rN_d, e131]
  | some k =>
    rw [w] at k0
    have k0' : hI h B 3 = nI 1 := k0
    have kx := k1 k w
    obtain ⟨h1, e, q, f⟩ := x59 (d + 1) xy.1 kx (Or.inr (by omega))
    have z := hx.y q f
    have lp : ∀ m i h1 H, i + m = 8 → XH h1 B H → XY h1 (B + 1) k → hR h1 B 0 = some (B + 1) → ∃ h2, E (d + 2) 128 14 [some (.ref B), some (.int (nI i))] [] h1 = some (some (.int (nI 1)), h2) ∧ XH h2 B (bkH k m i H) ∧ Fr0 (blk (B + 32) 16) h1 h2 := by
      intro m
      induction m with
      | zero =>
        intro i h1 H hi xh xy c1
        have hi' : i = 8 := hi
        subst hi'
        refine ⟨h1, ?_, xh, Fr0.refl _ _⟩
        rw [s128_14]
        simp (disch := omega) only [s128_0, s128_1, s128_2, s128_3, s128_4, s128_5, s128_6, s128_7, s128_8, s128_9, s128_10, s128_11, s128_12, s128_13, s128_15, s128_16, s128_17, s128_18, s128_19, s128_20, s128_21, s128_22, s128_23, s128_24, s128_25, s128_26, s128_27, s128_28, s128_29, s128_30, s128_31, s128_32, s128_33, s128_34, s128_35, s128_36, s128_37, s128_38, s128_39, s128_40, ↓reduceIte, Option.bind_some, Option.toList_some, Option.toList_none, List.cons_append, List.nil_append, if_true, if_false, true_or, or_true, true_and, and_true, not_true_eq_false, not_false_eq_true, Nat.reduceLT, Nat.reduceLeDiff, Nat.reduceEqDiff, Nat.reduceAdd, Nat.reduceMul, Nat.reduceSub, Nat.reducePow, Nat.reduceMod, Nat.reduceDiv, l0, l1, l2, l3, l4, l5, l6, l7, l8, l9, l10, l11, l12, l13, l14, l15, l16, l20, l31, l32, l36, l40, l48, l57, l59, l63, l64, l97, l99, l100, l101, l122, l127, l128, l250, l255, l262143, l262144, l30000, l100000, l12345, l1024, l4095, nI_eqs, nI_les, nI_lts, qI_eq, qI_eqn, nI_eqq, qI_lts, nI_ltp, nI_lep, qI_les, nI_add, nI_mul, qI_add, qI_s, qI_def, nI_clamps, bI_z, bI_o, bI_01, n01, n11, rf_some, rf_none, m1, m1n, bft, Nat.le_refl]
      | succ m ih =>
        intro i h1 H hi xh xy c1
        have h1' : ¬ 8 ≤ i := by omega
        obtain ⟨rs, sx⟩ := xh.2.2.2 i (by omega)
        have c0 := xh.1
        have zz := sx.1.1
        have r4 := xh.2.1
        have g5 := gR (h := h1) xh.2.2.1 (Or.inr (Or.inl rfl)) (i := i)
        have e24 := fun d => x24 d sx
        have y0 := xy.1.1
        rw [s128_14]
        unfold bkH
        rw [itr_s]
        by_cases a : Hk (H i) = 2
        · have v1 := sx.2.1.2.1 a
          have g6 := sx.2.2.2.2.2.2 a
          have gk := xy.2.2.2.1
          have e62 := fun d => x62 d xy (nI (Hg (H i)))
          rw [inR_nI (by omega) (by omega)] at e62
          rw [decide_eq_true a] at e24
          by_cases b : Hg (H i) < Yg k
          · rw [if_neg (fun w => absurd b (Nat.not_lt.mpr w.2))]
            rw [decide_eq_true b] at e62
            obtain ⟨h2, e, q, f⟩ := ih (i + 1) h1 H (by omega) xh xy c1
            refine ⟨h2, ?_, q, f⟩
            simp (disch := omega) only [s128_0, s128_1, s128_2, s128_3, s128_4, s128_5, s128_6, s128_7, s128_8, s128_9, s128_10, s128_11, s128_12, s128_13, s128_15, s128_16, s128_17, s128_18, s128_19, s128_20, s128_21, s128_22, s128_23, s128_24, s128_25, s128_26, s128_27, s128_28, s128_29, s128_30, s128_31, s128_32, s128_33, s128_34, s128_35, s128_36, s128_37, s128_38, s128_39, s128_40, ↓reduceIte, Option.bind_some, Option.toList_some, Option.toList_none, List.cons_append, List.nil_append, if_true, if_false, true_or, or_true, true_and, and_true, not_true_eq_false, not_false_eq_true, Nat.reduceLT, Nat.reduceLeDiff, Nat.reduceEqDiff, Nat.reduceAdd, Nat.reduceMul, Nat.reduceSub, Nat.reducePow, Nat.reduceMod, Nat.reduceDiv, l0, l1, l2, l3, l4, l5, l6, l7, l8, l9, l10, l11, l12, l13, l14, l15, l16, l20, l31, l32, l36, l40, l48, l57, l59, l63, l64, l97, l99, l100, l101, l122, l127, l128, l250, l255, l262143, l262144, l30000, l100000, l12345, l1024, l4095, nI_eqs, nI_les, nI_lts, qI_eq, qI_eqn, nI_eqq, qI_lts, nI_ltp, nI_lep, qI_les, nI_add, nI_mul, qI_add, qI_s, qI_def, nI_clamps, bI_z, bI_o, bI_01, n01, n11, rf_some, rf_none, m1, m1n, bft, h1', c0, c1, r4, g5, rs, zz, e24, v1, y0, e62, Bool.true_eq_false]
            exact e
          · rw [if_pos ⟨a, Nat.not_lt.mp b⟩]
            rw [decide_eq_false b] at e62
            obtain ⟨h3, e3, q3, f3⟩ := x27 (d + 1) sx
            have xh3 := xh.up q3 f3
            have f3' : Fr0 (blk (B + 32) 16) h1 h3 := f3.mono fun a w => blk_in w (by omega) (by omega)
            obtain ⟨h2, e, q, f⟩ := ih (i + 1) h3 _ (by omega) xh3 (xy.fr0 f3' (fun a _ _ w => by unfold blk at w; omega)) (by rw [f3.2.2.2.2.2.1]; exact c1)
            refine ⟨h2, ?_, q, f3'.trans f⟩
            simp (disch := omega) only [s128_0, s128_1, s128_2, s128_3, s128_4, s128_5, s128_6, s128_7, s128_8, s128_9, s128_10, s128_11, s128_12, s128_13, s128_15, s128_16, s128_17, s128_18, s128_19, s128_20, s128_21, s128_22, s128_23, s128_24, s128_25, s128_26, s128_27, s128_28, s128_29, s128_30, s128_31, s128_32, s128_33, s128_34, s128_35, s128_36, s128_37, s128_38, s128_39, s128_40, ↓reduceIte, Option.bind_some, Option.toList_some, Option.toList_none, List.cons_append, List.nil_append, if_true, if_false, true_or, or_true, true_and, and_true, not_true_eq_false, not_false_eq_true, Nat.reduceLT, Nat.reduceLeDiff, Nat.reduceEqDiff, Nat.reduceAdd, Nat.reduceMul, Nat.reduceSub, Nat.reducePow, Nat.reduceMod, Nat.reduceDiv, l0, l1, l2, l3, l4, l5, l6, l7, l8, l9, l10, l11, l12, l13, l14, l15, l16, l20, l31, l32, l36, l40, l48, l57, l59, l63, l64, l97, l99, l100, l101, l122, l127, l128, l250, l255, l262143, l262144, l30000, l100000, l12345, l1024, l4095, nI_eqs, nI_les, nI_lts, qI_eq, qI_eqn, nI_eqq, qI_lts, nI_ltp, nI_lep, qI_les, nI_add, nI_mul, qI_add, qI_s, qI_def, nI_clamps, bI_z, bI_o, bI_01, n01, n11, rf_some, rf_none, m1, m1n, bft, h1', c0, c1, r4, g5, rs, zz, e24, v1, y0, e62, e3, Bool.true_eq_false]
            exact e
        · rw [if_neg (fun w => a w.1)]
          rw [decide_eq_false a] at e24
          obtain ⟨h2, e, q, f⟩ := ih (i + 1) h1 H (by omega) xh xy c1
          refine ⟨h2, ?_, q, f⟩
          simp (disch := omega) only [s128_0, s128_1, s128_2, s128_3, s128_4, s128_5, s128_6, s128_7, s128_8, s128_9, s128_10, s128_11, s128_12, s128_13, s128_15, s128_16, s128_17, s128_18, s128_19, s128_20, s128_21, s128_22, s128_23, s128_24, s128_25, s128_26, s128_27, s128_28, s128_29, s128_30, s128_31, s128_32, s128_33, s128_34, s128_35, s128_36, s128_37, s128_38, s128_39, s128_40, ↓reduceIte, Option.bind_some, Option.toList_some, Option.toList_none, List.cons_append, List.nil_append, if_true, if_false, true_or, or_true, true_and, and_true, not_true_eq_false, not_false_eq_true, Nat.reduceLT, Nat.reduceLeDiff, Nat.reduceEqDiff, Nat.reduceAdd, Nat.reduceMul, Nat.reduceSub, Nat.reducePow, Nat.reduceMod, Nat.reduceDiv, l0, l1, l2, l3, l4, l5, l6, l7, l8, l9, l10, l11, l12, l13, l14, l15, l16, l20, l31, l32, l36, l40, l48, l57, l59, l63, l64, l97, l99, l100, l101, l122, l127, l128, l250, l255, l262143, l262144, l30000, l100000, l12345, l1024, l4095, nI_eqs, nI_les, nI_lts, qI_eq, qI_eqn, nI_eqq, qI_lts, nI_ltp, nI_lep, qI_les, nI_add, nI_mul, qI_add, qI_s, qI_def, nI_clamps, bI_z, bI_o, bI_01, n01, n11, rf_some, rf_none, m1, m1n, bft, h1', c0, c1, r4, g5, rs, zz, e24]
          exact e
    obtain ⟨h2, e2, q2, f2⟩ := lp 8 0 h1 (gH s) (by omega) z.1.2.2.2.1 q z.1.1.2.1
    have z2 := z.1.h q2 f2
    refine ⟨h2, ?_, z2.1, z.2.trans z2.2⟩
    have y0 := xy.1.1
    have y1 := kx.1.1
    simp (disch := omega) only [s128_0, s128_1, s128_2, s128_3, s128_4, s128_5, s128_6, s128_7, s128_8, s128_9, s128_10, s128_11, s128_12, s128_13, ↓reduceIte, Option.bind_some, Option.toList_some, Option.toList_none, List.cons_append, List.nil_append, if_true, if_false, true_or, or_true, true_and, and_true, not_true_eq_false, not_false_eq_true, Nat.reduceLT, Nat.reduceLeDiff, Nat.reduceEqDiff, Nat.reduceAdd, Nat.reduceMul, Nat.reduceSub, Nat.reducePow, Nat.reduceMod, Nat.reduceDiv, l0, l1, l2, l3, l4, l5, l6, l7, l8, l9, l10, l11, l12, l13, l14, l15, l16, l20, l31, l32, l36, l40, l48, l57, l59, l63, l64, l97, l99, l100, l101, l122, l127, l128, l250, l255, l262143, l262144, l30000, l100000, l12345, l1024, l4095, nI_eqs, nI_les, nI_lts, qI_eq, qI_eqn, nI_eqq, qI_lts, nI_ltp, nI_lep, qI_les, nI_add, nI_mul, qI_add, qI_s, qI_def, nI_clamps, bI_z, bI_o, bI_01, n01, n11, rf_some, rf_none, m1, m1n, bft, b0, b1, b3, k0', y0, y1, e]
    exact e2
def fuN (H : Nat → SHT) : Nat := itr (fun x n => if Hk (H x) = 0 then n else n + 1) 8 0 0
theorem x130 (d : Nat) {h : AH} {B : Nat} {H : Nat → SHT} (xh : XH h B H) (p1 p2 : Option Value) : E (d + 1) 130 0 [some (.ref B), p1, p2] [] h = some (some (.int (nI (fuN H))), h) := by
  have lp : ∀ m i t, i + m = 8 → E (d + 1) 130 4 [some (.ref B), some (.int (nI t)), some (.int (nI i))] [] h = some (some (.int (nI (itr (fun x n => if Hk (H x) = 0 then n else n + 1) m i t))), h) := by
    intro m
    induction m with
    | zero =>
      intro i t hi
      have hi' : i = 8 := hi
      subst hi'
      rw [s130_4]
      simp (disch := omega) only [s130_0, s130_1, s130_2, s130_3, s130_5, s130_6, s130_7, s130_8, s130_9, s130_10, s130_11, s130_12, s130_13, s130_14, s130_15, s130_16, s130_17, s130_18, s130_19, s130_20, s130_21, s130_22, s130_23, ↓reduceIte, Option.bind_some, Option.toList_some, Option.toList_none, List.cons_append, List.nil_append, if_true, if_false, true_or, or_true, true_and, and_true, not_true_eq_false, not_false_eq_true, Nat.reduceLT, Nat.reduceLeDiff, Nat.reduceEqDiff, Nat.reduceAdd, Nat.reduceMul, Nat.reduceSub, Nat.reducePow, Nat.reduceMod, Nat.reduceDiv, l0, l1, l2, l3, l4, l5, l6, l7, l8, l9, l10, l11, l12, l13, l14, l15, l16, l20, l31, l32, l36, l40, l48, l57, l59, l63, l64, l97, l99, l100, l101, l122, l127, l128, l250, l255, l262143, l262144, l30000, l100000, l12345, l1024, l4095, nI_eqs, nI_les, nI_lts, qI_eq, qI_eqn, nI_eqq, qI_lts, nI_ltp, nI_lep, qI_les, nI_add, nI_mul, qI_add, qI_s, qI_def, nI_clamps, bI_z, bI_o, bI_01, n01, n11, rf_some, rf_none, m1, m1n, bft, Nat.le_refl, itr_0]
    | succ m ih =>
      intro i t hi
      have h1' : ¬ 8 ≤ i := by omega
      obtain ⟨rs, sx⟩ := xh.2.2.2 i (by omega)
      have c0 := xh.1
      have zz := sx.1.1
      have r4 := xh.2.1
      have g5 := gR (h := h) xh.2.2.1 (Or.inr (Or.inl rfl)) (i := i)
      have e23 := fun d => x23 d sx
      have e24 := fun d => x24 d sx
      rw [s130_4, itr_s]
      rcases zz_3 sx.2.2.1 with w | w | w <;> rw [w] at e23 e24 ⊢
      · rw [if_pos rfl]
        simp (disch := omega) only [s130_0, s130_1, s130_2, s130_3, s130_5, s130_6, s130_7, s130_8, s130_9, s130_10, s130_11, s130_12, s130_13, s130_14, s130_15, s130_16, s130_17, s130_18, s130_19, s130_20, s130_21, s130_22, s130_23, ↓reduceIte, Option.bind_some, Option.toList_some, Option.toList_none, List.cons_append, List.nil_append, if_true, if_false, true_or, or_true, true_and, and_true, not_true_eq_false, not_false_eq_true, Nat.reduceLT, Nat.reduceLeDiff, Nat.reduceEqDiff, Nat.reduceAdd, Nat.reduceMul, Nat.reduceSub, Nat.reducePow, Nat.reduceMod, Nat.reduceDiv, l0, l1, l2, l3, l4, l5, l6, l7, l8, l9, l10, l11, l12, l13, l14, l15, l16, l20, l31, l32, l36, l40, l48, l57, l59, l63, l64, l97, l99, l100, l101, l122, l127, l128, l250, l255, l262143, l262144, l30000, l100000, l12345, l1024, l4095, nI_eqs, nI_les, nI_lts, qI_eq, qI_eqn, nI_eqq, qI_lts, nI_ltp, nI_lep, qI_les, nI_add, nI_mul, qI_add, qI_s, qI_def, nI_clamps, bI_z, bI_o, bI_01, n01, n11, rf_some, rf_none, m1, m1n, bft, h1', c0, r4, g5, rs, zz, e23, e24, decide_true, decide_false, bI_t, bI_f]
        exact ih _ _ (by omega)
      · rw [if_neg (by decide)]
        simp (disch := omega) only [s130_0, s130_1, s130_2, s130_3, s130_5, s130_6, s130_7, s130_8, s130_9, s130_10, s130_11, s130_12, s130_13, s130_14, s130_15, s130_16, s130_17, s130_18, s130_19, s130_20, s130_21, s130_22, s130_23, ↓reduceIte, Option.bind_some, Option.toList_some, Option.toList_none, List.cons_append, List.nil_append, if_true, if_false, true_or, or_true, true_and, and_true, not_true_eq_false, not_false_eq_true, Nat.reduceLT, Nat.reduceLeDiff, Nat.reduceEqDiff, Nat.reduceAdd, Nat.reduceMul, Nat.reduceSub, Nat.reducePow, Nat.reduceMod, Nat.reduceDiv, l0, l1, l2, l3, l4, l5, l6, l7, l8, l9, l10, l11, l12, l13, l14, l15, l16, l20, l31, l32, l36, l40, l48, l57, l59, l63, l64, l97, l99, l100, l101, l122, l127, l128, l250, l255, l262143, l262144, l30000, l100000, l12345, l1024, l4095, nI_eqs, nI_les, nI_lts, qI_eq, qI_eqn, nI_eqq, qI_lts, nI_ltp, nI_lep, qI_les, nI_add, nI_mul, qI_add, qI_s, qI_def, nI_clamps, bI_z, bI_o, bI_01, n01, n11, rf_some, rf_none, m1, m1n, bft, h1', c0, r4, g5, rs, zz, e23, e24, decide_true, decide_false, bI_t, bI_f]
        exact ih _ _ (by omega)
      · rw [if_neg (by decide)]
        simp (disch := omega) only [s130_0, s130_1, s130_2, s130_3, s130_5, s130_6, s130_7, s130_8, s130_9, s130_10, s130_11, s130_12, s130_13, s130_14, s130_15, s130_16, s130_17, s130_18, s130_19, s130_20, s130_21, s130_22, s130_23, ↓reduceIte, Option.bind_some, Option.toList_some, Option.toList_none, List.cons_append, List.nil_append, if_true, if_false, true_or, or_true, true_and, and_true, not_true_eq_false, not_false_eq_true, Nat.reduceLT, Nat.reduceLeDiff, Nat.reduceEqDiff, Nat.reduceAdd, Nat.reduceMul, Nat.reduceSub, Nat.reducePow, Nat.reduceMod, Nat.reduceDiv, l0, l1, l2, l3, l4, l5, l6, l7, l8, l9, l10, l11, l12, l13, l14, l15, l16, l20, l31, l32, l36, l40, l48, l57, l59, l63, l64, l97, l99, l100, l101, l122, l127, l128, l250, l255, l262143, l262144, l30000, l100000, l12345, l1024, l4095, nI_eqs, nI_les, nI_lts, qI_eq, qI_eqn, nI_eqq, qI_lts, nI_ltp, nI_lep, qI_les, nI_add, nI_mul, qI_add, qI_s, qI_def, nI_clamps, bI_z, bI_o, bI_01, n01, n11, rf_some, rf_none, m1, m1n, bft, h1', c0, r4, g5, rs, zz, e23, e24, decide_true, decide_false, bI_t, bI_f]
        exact ih _ _ (by omega)
  rw [s130_0, s130_1, s130_2, s130_3]
  exact lp 8 0 0 (by omega)
def stA1 (s : GS) (w : Nat) : Int32 := if w = 0 then nI (Yg (gY s)) else if w = 1 then nI (Yn (gY s)) else if w = 2 then nI (Yc (gY s)) else if w = 3 then nI (outsN (gY s)) else if w = 4 then Yt (gY s) else if w = 5 then scrN (gY s) else if w = 6 then nI (gn s) else if w = 7 then Yz (gY s) else if w = 8 then nI (fuN (gH s)) else if w < 12 then qI 0 else gQ s (w - 12)
def s_status (s : GS) (w : Int32) : Int32 × GS := if inR w 17 = true then (stA1 s w.toNatClampNeg, s) else (qI 0, s)
theorem k17 {k : Nat} (h : k < 17) : k = 0 ∨ k = 1 ∨ k = 2 ∨ k = 3 ∨ k = 4 ∨ k = 5 ∨ k = 6 ∨ k = 7 ∨ k = 8 ∨ k = 9 ∨ k = 10 ∨ k = 11 ∨ k = 12 ∨ k = 13 ∨ k = 14 ∨ k = 15 ∨ k = 16 := by omega
theorem lt_tr {x : Int32} (n : Nat) (hn : n < 2 ^ 31) (h : (x < nI 0) = True) : (x < nI n) = True := by
  have h := of_eq_true h
  have e0 : (nI 0).toInt = 0 := by decide
  rw [Int32.lt_iff_toInt_lt, e0] at h
  rw [Int32.lt_iff_toInt_lt, nI_toInt hn]
  apply eq_true; omega
theorem ge_tr {x : Int32} {m : Nat} (n : Nat) (hm : m < 2 ^ 31) (hn : n ≤ m) (h : (x < nI m) = False) : (x < nI n) = False := by
  have h := of_eq_false h
  rw [Int32.lt_iff_toInt_lt, nI_toInt hm] at h
  rw [Int32.lt_iff_toInt_lt, nI_toInt (by omega)]
  apply eq_false; omega
theorem c129 (d : Nat) {h : AH} {B : Nat} {s : GS} (hx : DX h B s) (w : Int32) : DC (d + 2) 129 [some (.ref B), some (.int w)] h B (s_status s w) := by
  obtain ⟨⟨b0, b1, b2, b3, b4, b5, b6, b7⟩, xy, ⟨k0, k1⟩, xh, ⟨t0, t1, t2, t3, t4, t5⟩, rx, qx⟩ := id hx; have e131 := c131e hx; obtain ⟨⟨z0, z1, z2, z3, z4, z5, z6, z7, r1, r2, r3, r4, r5, r6, r7⟩, ⟨vc, vg, vn, vt, vz, vK, vA, vU, vM, vW, vC, vP⟩, ok⟩ := id xy; obtain ⟨⟨o2, o3⟩, o6, on, og, oc⟩ := id ok
  unfold s_status
  rcases inR_cases w (n := 17) (by decide) with ⟨g, hg, rfl⟩ | ⟨f, f1, f2⟩ | ⟨f, f1, f2, f3, f4, f5⟩
  · have cg := inR_nI (g := g) (n := 17) (by omega) (by decide)
    rw [decide_eq_true hg] at cg
    rw [if_pos cg, nI_clamp (show g < 2 ^ 31 by omega)]
    refine DC.same hx ?_
    unfold stA1
    have e72 := fun d => x72 d xy none none
    have e73 := fun d => x73 d xy none none
    have e130 := fun d => x130 d xh none none
    obtain ⟨y0, y1, y2, y3⟩ := rx
    have v0 := y3 0 (by decide)
    have v1 := y3 1 (by decide)
    have v2 := y3 2 (by decide)
    have v3 := y3 3 (by decide)
    have v4 := y3 4 (by decide)
    rcases k17 hg with e | e | e | e | e | e | e | e | e | e | e | e | e | e | e | e | e <;> subst e <;> simp (disch := omega) only [s129_0, s129_1, s129_2, s129_3, s129_4, s129_5, s129_6, s129_7, s129_8, s129_9, s129_10, s129_11, s129_12, s129_13, s129_14, s129_15, s129_16, s129_17, s129_18, s129_19, s129_20, s129_21, s129_22, s129_23, s129_24, s129_25, s129_26, s129_27, s129_28, s129_29, s129_30, s129_31, s129_32, s129_33, s129_34, s129_35, s129_36, s129_37, s129_38, s129_39, s129_40, s129_41, s129_42, s129_43, s129_44, s129_45, s129_46, s129_47, s129_48, s129_49, s129_50, s129_51, ↓reduceIte, Option.bind_some, Option.toList_some, Option.toList_none, List.cons_append, List.nil_append, if_true, if_false, true_or, or_true, true_and, and_true, not_true_eq_false, not_false_eq_true, Nat.reduceLT, Nat.reduceLeDiff, Nat.reduceEqDiff, Nat.reduceAdd, Nat.reduceMul, Nat.reduceSub, Nat.reducePow, Nat.reduceMod, Nat.reduceDiv, l0, l1, l2, l3, l4, l5, l6, l7, l8, l9, l10, l11, l12, l13, l14, l15, l16, l20, l31, l32, l36, l40, l48, l57, l59, l63, l64, l97, l99, l100, l101, l122, l127, l128, l250, l255, l262143, l262144, l30000, l100000, l12345, l1024, l4095, nI_eqs, nI_les, nI_lts, qI_eq, qI_eqn, nI_eqq, qI_lts, nI_ltp, nI_lep, qI_les, nI_add, nI_mul, qI_add, qI_s, qI_def, nI_clamps, bI_z, bI_o, bI_01, n01, n11, rf_some, rf_none, m1, m1n, bft, b0, b1, b4, z0, r1, r2, r3, r4, r5, r6, r7, vc, vg, vn, vt, vz, gI z1, gI z2, gI z3, gI z4, gI z5, gI z6, gI z7, gA z1, gA z2, gA z3, gA z4, gA z5, gA z6, gA z7, vK, vA, vU, vM, vW, vC, vP, t0, t3, e72, e73, e130, y1, gI y2, v0, v1, v2, v3, v4, nI_sub, Nat.le_refl, Nat.not_lt_zero]
  · rw [f, if_neg (by decide)]
    refine DC.same hx ?_
    simp (disch := omega) only [s129_0, s129_1, s129_2, s129_3, s129_4, s129_5, s129_6, s129_7, s129_8, s129_9, s129_10, s129_11, s129_12, s129_13, s129_14, s129_15, s129_16, s129_17, s129_18, s129_19, s129_20, s129_21, s129_22, s129_23, s129_24, s129_25, s129_26, s129_27, s129_28, s129_29, s129_30, s129_31, s129_32, s129_33, s129_34, s129_35, s129_36, s129_37, s129_38, s129_39, s129_40, s129_41, s129_42, s129_43, s129_44, s129_45, s129_46, s129_47, s129_48, s129_49, s129_50, s129_51, ↓reduceIte, Option.bind_some, Option.toList_some, Option.toList_none, List.cons_append, List.nil_append, if_true, if_false, true_or, or_true, true_and, and_true, not_true_eq_false, not_false_eq_true, Nat.reduceLT, Nat.reduceLeDiff, Nat.reduceEqDiff, Nat.reduceAdd, Nat.reduceMul, Nat.reduceSub, Nat.reducePow, Nat.reduceMod, Nat.reduceDiv, l0, l1, l2, l3, l4, l5, l6, l7, l8, l9, l10, l11, l12, l13, l14, l15, l16, l20, l31, l32, l36, l40, l48, l57, l59, l63, l64, l97, l99, l100, l101, l122, l127, l128, l250, l255, l262143, l262144, l30000, l100000, l12345, l1024, l4095, nI_eqs, nI_les, nI_lts, qI_eq, qI_eqn, nI_eqq, qI_lts, nI_ltp, nI_lep, qI_les, nI_add, nI_mul, qI_add, qI_s, qI_def, nI_clamps, bI_z, bI_o, bI_01, n01, n11, rf_some, rf_none, m1, m1n, bft, lt_tr 12 (by decide) f1, ninR f (show 0 < 17 by decide), ninR f (show 1 < 17 by decide), ninR f (show 2 < 17 by decide), ninR f (show 3 < 17 by decide), ninR f (show 4 < 17 by decide), ninR f (show 5 < 17 by decide), ninR f (show 6 < 17 by decide), ninR f (show 7 < 17 by decide), ninR f (show 8 < 17 by decide)]
  · rw [f, if_neg (by decide)]
    refine DC.same hx ?_
    simp (disch := omega) only [s129_0, s129_1, s129_2, s129_3, s129_4, s129_5, s129_6, s129_7, s129_8, s129_9, s129_10, s129_11, s129_12, s129_13, s129_14, s129_15, s129_16, s129_17, s129_18, s129_19, s129_20, s129_21, s129_22, s129_23, s129_24, s129_25, s129_26, s129_27, s129_28, s129_29, s129_30, s129_31, s129_32, s129_33, s129_34, s129_35, s129_36, s129_37, s129_38, s129_39, s129_40, s129_41, s129_42, s129_43, s129_44, s129_45, s129_46, s129_47, s129_48, s129_49, s129_50, s129_51, ↓reduceIte, Option.bind_some, Option.toList_some, Option.toList_none, List.cons_append, List.nil_append, if_true, if_false, true_or, or_true, true_and, and_true, not_true_eq_false, not_false_eq_true, Nat.reduceLT, Nat.reduceLeDiff, Nat.reduceEqDiff, Nat.reduceAdd, Nat.reduceMul, Nat.reduceSub, Nat.reducePow, Nat.reduceMod, Nat.reduceDiv, l0, l1, l2, l3, l4, l5, l6, l7, l8, l9, l10, l11, l12, l13, l14, l15, l16, l20, l31, l32, l36, l40, l48, l57, l59, l63, l64, l97, l99, l100, l101, l122, l127, l128, l250, l255, l262143, l262144, l30000, l100000, l12345, l1024, l4095, nI_eqs, nI_les, nI_lts, qI_eq, qI_eqn, nI_eqq, qI_lts, nI_ltp, nI_lep, qI_les, nI_add, nI_mul, qI_add, qI_s, qI_def, nI_clamps, bI_z, bI_o, bI_01, n01, n11, rf_some, rf_none, m1, m1n, bft, ge_tr 12 (by decide) (by decide) f3, (f5 16 rfl).2, ninR f (show 0 < 17 by decide), ninR f (show 1 < 17 by decide), ninR f (show 2 < 17 by decide), ninR f (show 3 < 17 by decide), ninR f (show 4 < 17 by decide), ninR f (show 5 < 17 by decide), ninR f (show 6 < 17 by decide), ninR f (show 7 < 17 by decide), ninR f (show 8 < 17 by decide)]
