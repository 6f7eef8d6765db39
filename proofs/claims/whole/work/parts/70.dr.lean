/-! DRIVE on both sides -/
def n1B (x : Int32) (m : Nat) : Bool := decide (¬ x = nI 0) && inR x (m + 1)
theorem in_1n (x : Int32) {m : Nat} (hm : m + 1 < 2 ^ 31) : (decide (lN 1 ≤ x.toInt64) && decide (x.toInt64 ≤ lN m)) = n1B x m := by
  have e0 : (nI 0).toInt = 0 := by decide
  unfold n1B
  rw [Bool.eq_iff_iff, Bool.and_eq_true, Bool.and_eq_true, decide_eq_true_iff, decide_eq_true_iff, decide_eq_true_iff, inR_iff (by omega), Int64.le_iff_toInt_le, Int64.le_iff_toInt_le, Int32.toInt_toInt64, lN_toInt (by decide), lN_toInt (by omega), ← Int32.toInt_inj, e0]
  omega
theorem n1B_of {x : Int32} {m : Nat} (hm : m + 1 < 2 ^ 31) (h : n1B x m = true) : ∃ n, 1 ≤ n ∧ n ≤ m ∧ x = nI n := by
  unfold n1B at h
  rw [Bool.and_eq_true, decide_eq_true_iff] at h
  obtain ⟨g, hg, rfl⟩ := inR_of hm h.2
  refine ⟨g, ?_, by omega, rfl⟩
  cases g with
  | zero => exact absurd rfl h.1
  | succ g => omega
theorem n1B_nI {n m : Nat} (hn : n < 2 ^ 31) (hm : m + 1 < 2 ^ 31) : n1B (nI n) m = decide (1 ≤ n ∧ n ≤ m) := by
  unfold n1B
  rw [inR_nI hn hm, Bool.eq_iff_iff, Bool.and_eq_true, decide_eq_true_iff, decide_eq_true_iff, decide_eq_true_iff]
  rw [nI_eqs hn (by decide)]; omega
/-- one draw and the try -/
def dvK (y : YS) : Nat := wt (sZ y (nextZ (Yz y))) (Yn y) 0 (rnd (nextZ (Yz y)) % cw y (Yn y) 0)
theorem dvK_def (y : YS) : dvK y = wt (sZ y (nextZ (Yz y))) (Yn y) 0 (rnd (nextZ (Yz y)) % cw y (Yn y) 0) := rfl
def drv (m : Nat) (y : YS) (t : Nat) : Nat × YS := match m with
  | 0 => (t, y)
  | m + 1 => if cw y (Yn y) 0 = 0 then (t, y) else drv m (tryY (sZ y (nextZ (Yz y))) (dvK y)) (if letY y (YP y (dvK y)) (YC y (dvK y)) = true then t + 1 else t)
theorem drv_s (m : Nat) (y : YS) (t : Nat) : drv (m + 1) y t = if cw y (Yn y) 0 = 0 then (t, y) else drv m (tryY (sZ y (nextZ (Yz y))) (dvK y)) (if letY y (YP y (dvK y)) (YC y (dvK y)) = true then t + 1 else t) := rfl
theorem cw_s (y : YS) (m k : Nat) : cw y (m + 1) k = (if Yg y ≤ YP y k then 0 else 1) + cw y m (k + 1) := rfl
theorem XY.z {h : AH} {b : Nat} {y : YS} (q : XY h b y) (z : Int32) : XY (stI h b 4 z) b (sZ y z) := ⟨q.1, q.2.1.z _, q.2.2⟩
theorem MY.z {h : AH} {a : Nat} {y : YS} (q : MY h a y) (z : Int32) : MY (stI h a 21 z) a (sZ y z) := ⟨q.1, q.2.1.z _, q.2.2⟩
theorem tryZ (y : YS) (z : Int32) (k : Nat) : letY (sZ y z) (YP (sZ y z) k) (YC (sZ y z) k) = letY y (YP y k) (YC y k) := id rfl
theorem nZ (y : YS) (z : Int32) : Yn (sZ y z) = Yn y := id rfl
theorem gZ (y : YS) (z : Int32) : Yg (sZ y z) = Yg y := id rfl
theorem pZ (y : YS) (z : Int32) : YP (sZ y z) = YP y := id rfl
theorem cw_le (y : YS) : ∀ m k, cw y m k ≤ m := by
  intro m
  induction m with
  | zero => intro k; exact Nat.le_refl _
  | succ m ih =>
    intro k
    unfold cw
    have := ih (k + 1)
    split <;> omega
theorem cw_z (y : YS) (z : Int32) : ∀ m k, cw (sZ y z) m k = cw y m k := by
  intro m
  induction m with
  | zero => intro k; rfl
  | succ m ih =>
    intro k
    unfold cw
    rw [ih]; rfl
theorem cw_cO (y : YS) : ∀ m k t, itr (fun k t => if Yg y ≤ YP y k then t + 1 else t) m k t + cw y m k = t + m := by
  intro m
  induction m with
  | zero => intro k t; rfl
  | succ m ih =>
    intro k t
    rw [itr_s]
    unfold cw
    by_cases h : Yg y ≤ YP y k
    · rw [if_pos h, if_pos h]
      have := ih (k + 1) (t + 1); omega
    · rw [if_neg h, if_neg h]
      have := ih (k + 1) t; omega
theorem dvK_ok {y : YS} (h : ¬ cw y (Yn y) 0 = 0) : dvK y < Yn y ∧ YP y (dvK y) < Yg y := by
  have q : rnd (nextZ (Yz y)) % cw y (Yn y) 0 < cw (sZ y (nextZ (Yz y))) (Yn y) 0 := by
    rw [cw_z]; exact Nat.mod_lt _ (by omega)
  have := wt_ok q
  rw [pZ, gZ] at this
  have h1 := this.1
  have h2 := this.2
  unfold dvK
  exact ⟨by omega, h2⟩
def s_drive (s : GS) (n : Int32) : Int32 × GS := if n1B n 40 = true then (nI (drv n.toNatClampNeg (gY s) 0).1, pY s (drv n.toNatClampNeg (gY s) 0).2) else rfS s 2
theorem x78' {h : AH} {b : Nat} {y : YS} (hx : XY h b y) {n : Nat} (hn : 0 < n) (hn' : n < 100) : ∃ h', (∀ d, E d 78 0 [some (.ref b), some (.int (nI n))] [] h = some (some (.int (nI (rnd (nextZ (Yz y)) % n))), h')) ∧ XY h' b (sZ y (nextZ (Yz y))) ∧ Fr0 (blk b 8) h h' := ⟨_, fun d => x78 d hx hn hn', hx.z _, blkI _ (by omega) (by omega) _ _⟩
theorem m221' {h : AH} {b : Nat} {y : YS} (hx : MY h b y) {n : Nat} (hn : 0 < n) (hn' : n < 100) : ∃ h', (∀ d, E d 221 0 [some (.ref b), some (.int (nI n))] [] h = some (some (.int (nI (rnd (nextZ (Yz y)) % n))), h')) ∧ MY h' b (sZ y (nextZ (Yz y))) ∧ FY b h h' := ⟨_, fun d => m221 d hx hn hn', hx.z _, FY.fld _ (by decide) _⟩
/-- z is any number here: nothing may ever unfold it -/
theorem x124s (d : Nat) {h1 H : AH} {B r t i : Nat} {y : YS} {z : Int32} (c0 : hS h1 B = some (104, 0)) (c1 : hR h1 B 0 = some (B + 1)) (q : XY h1 (B + 1) y) (e78 : ∀ d, E d 78 0 [some (.ref (B + 1)), some (.int (nI (cw y (Yn y) 0)))] [] h1 = some (some (.int (nI r)), H)) (q2 : XY H (B + 1) (sZ y z)) (hr : r < cw y (Yn y) 0) (x1 : Option Value) : ∃ h3, E (d + 4) 124 30 [some (.ref B), x1, some (.int (nI t)), some (.int (nI i)), some (.int (nI (cw y (Yn y) 0)))] [] h1 = E (d + 4) 124 42 [some (.ref B), x1, some (.int (nI (if letY y (YP y (wt (sZ y z) (Yn y) 0 r)) (YC y (wt (sZ y z) (Yn y) 0 r)) = true then t + 1 else t))), some (.int (nI i)), some (.int (nI (cw y (Yn y) 0)))] [] h3 ∧ XY h3 (B + 1) (tryY (sZ y z) (wt (sZ y z) (Yn y) 0 r)) ∧ Fr0 (blk (B + 1) 8) H h3 := by
  have y0 := q.1.1
  have y9 := q2.1.1
  have yn6 := q.2.2.2.2.1
  have cl := cw_le y (Yn y) 0
  have hr' : r < cw (sZ y z) (Yn y) 0 := by rw [cw_z]; exact hr
  obtain ⟨k1, k2⟩ := wt_ok hr'
  have e79 := fun d => x79 d q2 (l := r) hr' (by omega) none none
  change ∀ d, E (d + 1) 79 0 _ _ _ = some (some (.int (nI (wt (sZ y z) (Yn y) 0 r))), _) at e79
  generalize wt (sZ y z) (Yn y) 0 r = kk at *
  obtain ⟨h3, e77, q3, f3⟩ := x77 d q2 (k := kk) (show kk < Yn y by omega) k2 none none none
  rw [tryZ] at e77
  refine ⟨h3, ?_, q3, f3⟩
  cases w : letY y (YP y kk) (YC y kk) <;> rw [w] at e77 <;> simp only [Bool.false_eq_true, if_true, if_false]
  · simp (disch := omega) only [s124_30, s124_31, s124_32, s124_33, s124_34, s124_35, s124_36, s124_37, s124_38, s124_39, s124_40, s124_41, ↓reduceIte, Option.bind_some, Option.toList_some, Option.toList_none, List.cons_append, List.nil_append, if_true, if_false, true_or, or_true, true_and, and_true, not_true_eq_false, not_false_eq_true, Nat.reduceLT, Nat.reduceLeDiff, Nat.reduceEqDiff, Nat.reduceAdd, Nat.reduceMul, Nat.reduceSub, Nat.reducePow, Nat.reduceMod, Nat.reduceDiv, l0, l1, l2, l3, l4, l5, l6, l7, l8, l9, l10, l11, l12, l13, l14, l15, l16, l20, l31, l32, l36, l40, l48, l57, l59, l63, l64, l97, l99, l100, l101, l122, l127, l128, l250, l255, l262143, l262144, l30000, l100000, l12345, l1024, l4095, nI_eqs, nI_les, nI_lts, qI_eq, qI_eqn, nI_eqq, qI_lts, nI_ltp, nI_lep, qI_les, nI_add, nI_mul, qI_add, qI_s, qI_def, nI_clamps, bI_z, bI_o, bI_01, n01, n11, rf_some, rf_none, m1, m1n, bft, c0, c1, y0, y9, e78, e79, e77]
  · simp (disch := omega) only [s124_30, s124_31, s124_32, s124_33, s124_34, s124_35, s124_36, s124_37, s124_38, s124_39, s124_40, s124_41, ↓reduceIte, Option.bind_some, Option.toList_some, Option.toList_none, List.cons_append, List.nil_append, if_true, if_false, true_or, or_true, true_and, and_true, not_true_eq_false, not_false_eq_true, Nat.reduceLT, Nat.reduceLeDiff, Nat.reduceEqDiff, Nat.reduceAdd, Nat.reduceMul, Nat.reduceSub, Nat.reducePow, Nat.reduceMod, Nat.reduceDiv, l0, l1, l2, l3, l4, l5, l6, l7, l8, l9, l10, l11, l12, l13, l14, l15, l16, l20, l31, l32, l36, l40, l48, l57, l59, l63, l64, l97, l99, l100, l101, l122, l127, l128, l250, l255, l262143, l262144, l30000, l100000, l12345, l1024, l4095, nI_eqs, nI_les, nI_lts, qI_eq, qI_eqn, nI_eqq, qI_lts, nI_ltp, nI_lep, qI_les, nI_add, nI_mul, qI_add, qI_s, qI_def, nI_clamps, bI_z, bI_o, bI_01, n01, n11, rf_some, rf_none, m1, m1n, bft, c0, c1, y0, y9, e78, e79, e77, Bool.true_eq_false]
theorem x124 (d : Nat) {h : AH} {B : Nat} {s : GS} (hx : DX h B s) : ∀ m i t n h1 y p4, i + m = n → n ≤ 40 → t ≤ i → XY h1 (B + 1) y → Fr0 (blk (B + 1) 8) h h1 → ∃ h2, E (d + 4) 124 14 [some (.ref B), some (.int (nI n)), some (.int (nI t)), some (.int (nI i)), p4] [] h1 = some (some (.int (nI (drv m y t).1)), h2) ∧ XY h2 (B + 1) (drv m y t).2 ∧ Fr0 (blk (B + 1) 8) h h2 := by
  obtain ⟨⟨b0, b1, b2, b3, b4, b5, b6, b7⟩, xy, ⟨k0, k1⟩, xh, ⟨t0, t1, t2, t3, t4, t5⟩, rx, qx⟩ := id hx; have e131 := c131e hx
  intro m
  induction m with
  | zero =>
    intro i t n h1 y p4 hi hn ht q f
    have hi' : i = n := hi
    subst hi'
    refine ⟨h1, ?_, q, f⟩
    rw [s124_14]
    simp (disch := omega) only [s124_0, s124_1, s124_2, s124_3, s124_4, s124_5, s124_6, s124_7, s124_8, s124_9, s124_10, s124_11, s124_12, s124_13, s124_15, s124_16, s124_17, s124_18, s124_19, s124_20, s124_21, s124_22, s124_23, s124_24, s124_25, s124_26, s124_27, s124_28, s124_29, s124_30, s124_31, s124_32, s124_33, s124_34, s124_35, s124_36, s124_37, s124_38, s124_39, s124_40, s124_41, s124_42, s124_43, s124_44, s124_45, ↓reduceIte, Option.bind_some, Option.toList_some, Option.toList_none, List.cons_append, List.nil_append, if_true, if_false, true_or, or_true, true_and, and_true, not_true_eq_false, not_false_eq_true, Nat.reduceLT, Nat.reduceLeDiff, Nat.reduceEqDiff, Nat.reduceAdd, Nat.reduceMul, Nat.reduceSub, Nat.reducePow, Nat.reduceMod, Nat.reduceDiv, l0, l1, l2, l3, l4, l5, l6, l7, l8, l9, l10, l11, l12, l13, l14, l15, l16, l20, l31, l32, l36, l40, l48, l57, l59, l63, l64, l97, l99, l100, l101, l122, l127, l128, l250, l255, l262143, l262144, l30000, l100000, l12345, l1024, l4095, nI_eqs, nI_les, nI_lts, qI_eq, qI_eqn, nI_eqq, qI_lts, nI_ltp, nI_lep, qI_les, nI_add, nI_mul, qI_add, qI_s, qI_def, nI_clamps, bI_z, bI_o, bI_01, n01, n11, rf_some, rf_none, m1, m1n, bft, Nat.le_refl]
    rfl
  | succ m ih =>
    intro i t n h1 y p4 hi hn ht q f
    have h1' : ¬ n ≤ i := by omega
    have c0 : hS h1 B = some (104, 0) := by rw [f.2.2.2.2.1]; exact b0
    have c1 : hR h1 B 0 = some (B + 1) := by rw [f.2.2.2.2.2.1]; exact b1
    have y0 := q.1.1
    have yn := q.2.1.2.2.1
    have yn6 := q.2.2.2.2.1
    have e72 := fun d => x72 d q none none
    have e231 := fun d => x231 d h1 (outs_lt yn6)
    have bco := bc_outs yn6
    have cc := cw_cO y (Yn y) 0 0
    have cl := cw_le y (Yn y) 0
    have sub : nI (Yn y) - nI (bc (outsN y)) = nI (cw y (Yn y) 0) := by
      have : bc (outsN y) + cw y (Yn y) 0 = 0 + Yn y := by rw [bco]; exact cc
      rw [nI_sub (by omega)]; congr 1; omega
    rw [s124_14]
    rw [drv_s]
    by_cases a : cw y (Yn y) 0 = 0
    · rw [if_pos a]
      refine ⟨h1, ?_, q, f⟩
      rw [a] at sub
      simp (disch := omega) only [s124_0, s124_1, s124_2, s124_3, s124_4, s124_5, s124_6, s124_7, s124_8, s124_9, s124_10, s124_11, s124_12, s124_13, s124_15, s124_16, s124_17, s124_18, s124_19, s124_20, s124_21, s124_22, s124_23, s124_24, s124_25, s124_26, s124_27, s124_28, s124_29, s124_30, s124_31, s124_32, s124_33, s124_34, s124_35, s124_36, s124_37, s124_38, s124_39, s124_40, s124_41, s124_42, s124_43, s124_44, s124_45, ↓reduceIte, Option.bind_some, Option.toList_some, Option.toList_none, List.cons_append, List.nil_append, if_true, if_false, true_or, or_true, true_and, and_true, not_true_eq_false, not_false_eq_true, Nat.reduceLT, Nat.reduceLeDiff, Nat.reduceEqDiff, Nat.reduceAdd, Nat.reduceMul, Nat.reduceSub, Nat.reducePow, Nat.reduceMod, Nat.reduceDiv, l0, l1, l2, l3, l4, l5, l6, l7, l8, l9, l10, l11, l12, l13, l14, l15, l16, l20, l31, l32, l36, l40, l48, l57, l59, l63, l64, l97, l99, l100, l101, l122, l127, l128, l250, l255, l262143, l262144, l30000, l100000, l12345, l1024, l4095, nI_eqs, nI_les, nI_lts, qI_eq, qI_eqn, nI_eqq, qI_lts, nI_ltp, nI_lep, qI_les, nI_add, nI_mul, qI_add, qI_s, qI_def, nI_clamps, bI_z, bI_o, bI_01, n01, n11, rf_some, rf_none, m1, m1n, bft, h1', c0, c1, y0, yn, e72, e231, sub, Nat.lt_irrefl]
    · rw [if_neg a]
      have a0 : 0 < cw y (Yn y) 0 := by omega
      obtain ⟨H, e78, q2, f2⟩ := x78' q a0 (by omega)
      obtain ⟨h3, e3, q3, f3⟩ := x124s d c0 c1 q e78 q2 (Nat.mod_lt _ a0) (t := t) (i := i) (some (.int (nI n)))
      rw [← dvK_def] at e3 q3
      obtain ⟨h4, e4, q4, f4⟩ := ih (i + 1) _ n h3 _ (some (.int (nI (cw y (Yn y) 0)))) (by omega) hn (show (if letY y (YP y (dvK y)) (YC y (dvK y)) = true then t + 1 else t) ≤ i + 1 by split <;> omega) q3 ((f.trans f2).trans f3)
      refine ⟨h4, ?_, q4, f4⟩
      simp (disch := omega) only [s124_15, s124_16, s124_17, s124_18, s124_19, s124_20, s124_21, s124_22, s124_23, s124_24, s124_25, s124_26, s124_27, s124_28, s124_29, ↓reduceIte, Option.bind_some, Option.toList_some, Option.toList_none, List.cons_append, List.nil_append, if_true, if_false, true_or, or_true, true_and, and_true, not_true_eq_false, not_false_eq_true, Nat.reduceLT, Nat.reduceLeDiff, Nat.reduceEqDiff, Nat.reduceAdd, Nat.reduceMul, Nat.reduceSub, Nat.reducePow, Nat.reduceMod, Nat.reduceDiv, l0, l1, l2, l3, l4, l5, l6, l7, l8, l9, l10, l11, l12, l13, l14, l15, l16, l20, l31, l32, l36, l40, l48, l57, l59, l63, l64, l97, l99, l100, l101, l122, l127, l128, l250, l255, l262143, l262144, l30000, l100000, l12345, l1024, l4095, nI_eqs, nI_les, nI_lts, qI_eq, qI_eqn, nI_eqq, qI_lts, nI_ltp, nI_lep, qI_les, nI_add, nI_mul, qI_add, qI_s, qI_def, nI_clamps, bI_z, bI_o, bI_01, n01, n11, rf_some, rf_none, m1, m1n, bft, h1', c0, c1, y0, yn, e72, e231, sub, a0]
      rw [e3]
      simp (disch := omega) only [s124_42, s124_43, ↓reduceIte, Option.bind_some, Option.toList_some, Option.toList_none, List.cons_append, List.nil_append, if_true, if_false, true_or, or_true, true_and, and_true, not_true_eq_false, not_false_eq_true, Nat.reduceLT, Nat.reduceLeDiff, Nat.reduceEqDiff, Nat.reduceAdd, Nat.reduceMul, Nat.reduceSub, Nat.reducePow, Nat.reduceMod, Nat.reduceDiv, l0, l1, l2, l3, l4, l5, l6, l7, l8, l9, l10, l11, l12, l13, l14, l15, l16, l20, l31, l32, l36, l40, l48, l57, l59, l63, l64, l97, l99, l100, l101, l122, l127, l128, l250, l255, l262143, l262144, l30000, l100000, l12345, l1024, l4095, nI_eqs, nI_les, nI_lts, qI_eq, qI_eqn, nI_eqq, qI_lts, nI_ltp, nI_lep, qI_les, nI_add, nI_mul, qI_add, qI_s, qI_def, nI_clamps, bI_z, bI_o, bI_01, n01, n11, rf_some, rf_none, m1, m1n, bft]
      exact e4
theorem c124 (d : Nat) {h : AH} {B : Nat} {s : GS} (hx : DX h B s) (n : Int32) (p2 p3 p4 : Option Value) : DC (d + 4) 124 [some (.ref B), some (.int n), p2, p3, p4] h B (s_drive s n) := by
  obtain ⟨⟨b0, b1, b2, b3, b4, b5, b6, b7⟩, xy, ⟨k0, k1⟩, xh, ⟨t0, t1, t2, t3, t4, t5⟩, rx, qx⟩ := id hx; have e131 := c131e hx
  have lp := x124 d hx
  unfold s_drive
  rcases inR_cases n (n := 41) (by decide) with ⟨g, hg, rfl⟩ | ⟨f, f1, f2⟩ | ⟨f, f1, f2, f3, f4, f5⟩
  · rw [n1B_nI (by omega) (by decide)]
    by_cases c : 1 ≤ g ∧ g ≤ 40
    · rw [if_pos (decide_eq_true c), nI_clamp (show g < 2 ^ 31 by omega)]
      obtain ⟨h2, e, q, f⟩ := lp g 0 0 g h (gY s) p4 (by omega) c.2 (Nat.le_refl _) xy (Fr0.refl _ _)
      refine DC.y hx q f ?_
      have g1 : ¬ g < 1 := by omega
      have g2 : ¬ 40 < g := by omega
      have g3 : g ≤ 40 := c.2
      simp (disch := omega) only [s124_0, s124_1, s124_2, s124_3, s124_4, s124_5, s124_6, s124_7, s124_8, s124_9, s124_10, s124_11, s124_12, s124_13, ↓reduceIte, Option.bind_some, Option.toList_some, Option.toList_none, List.cons_append, List.nil_append, if_true, if_false, true_or, or_true, true_and, and_true, not_true_eq_false, not_false_eq_true, Nat.reduceLT, Nat.reduceLeDiff, Nat.reduceEqDiff, Nat.reduceAdd, Nat.reduceMul, Nat.reduceSub, Nat.reducePow, Nat.reduceMod, Nat.reduceDiv, l0, l1, l2, l3, l4, l5, l6, l7, l8, l9, l10, l11, l12, l13, l14, l15, l16, l20, l31, l32, l36, l40, l48, l57, l59, l63, l64, l97, l99, l100, l101, l122, l127, l128, l250, l255, l262143, l262144, l30000, l100000, l12345, l1024, l4095, nI_eqs, nI_les, nI_lts, qI_eq, qI_eqn, nI_eqq, qI_lts, nI_ltp, nI_lep, qI_les, nI_add, nI_mul, qI_add, qI_s, qI_def, nI_clamps, bI_z, bI_o, bI_01, n01, n11, rf_some, rf_none, m1, m1n, bft, b0, g1, g2, g3]
      exact e
    · rw [decide_eq_false c, if_neg (by decide)]
      have g1 : g < 1 := by omega
      refine DC.rf hx (by decide) (by decide) ?_
      simp (disch := omega) only [s124_0, s124_1, s124_2, s124_3, s124_4, s124_5, s124_6, s124_7, s124_8, s124_9, s124_10, s124_11, s124_12, s124_13, s124_15, s124_16, s124_17, s124_18, s124_19, s124_20, s124_21, s124_22, s124_23, s124_24, s124_25, s124_26, s124_27, s124_28, s124_29, s124_30, s124_31, s124_32, s124_33, s124_34, s124_35, s124_36, s124_37, s124_38, s124_39, s124_40, s124_41, s124_42, s124_43, s124_44, s124_45, ↓reduceIte, Option.bind_some, Option.toList_some, Option.toList_none, List.cons_append, List.nil_append, if_true, if_false, true_or, or_true, true_and, and_true, not_true_eq_false, not_false_eq_true, Nat.reduceLT, Nat.reduceLeDiff, Nat.reduceEqDiff, Nat.reduceAdd, Nat.reduceMul, Nat.reduceSub, Nat.reducePow, Nat.reduceMod, Nat.reduceDiv, l0, l1, l2, l3, l4, l5, l6, l7, l8, l9, l10, l11, l12, l13, l14, l15, l16, l20, l31, l32, l36, l40, l48, l57, l59, l63, l64, l97, l99, l100, l101, l122, l127, l128, l250, l255, l262143, l262144, l30000, l100000, l12345, l1024, l4095, nI_eqs, nI_les, nI_lts, qI_eq, qI_eqn, nI_eqq, qI_lts, nI_ltp, nI_lep, qI_les, nI_add, nI_mul, qI_add, qI_s, qI_def, nI_clamps, bI_z, bI_o, bI_01, n01, n11, rf_some, rf_none, m1, m1n, bft, b0, g1, rN_d, e131]
  · have z : n1B n 40 = false := by unfold n1B; rw [f, Bool.and_false]
    rw [z, if_neg (by decide)]
    refine DC.rf hx (by decide) (by decide) ?_
    simp (disch := omega) only [s124_0, s124_1, s124_2, s124_3, s124_4, s124_5, s124_6, s124_7, s124_8, s124_9, s124_10, s124_11, s124_12, s124_13, s124_15, s124_16, s124_17, s124_18, s124_19, s124_20, s124_21, s124_22, s124_23, s124_24, s124_25, s124_26, s124_27, s124_28, s124_29, s124_30, s124_31, s124_32, s124_33, s124_34, s124_35, s124_36, s124_37, s124_38, s124_39, s124_40, s124_41, s124_42, s124_43, s124_44, s124_45, ↓reduceIte, Option.bind_some, Option.toList_some, Option.toList_none, List.cons_append, List.nil_append, if_true, if_false, true_or, or_true, true_and, and_true, not_true_eq_false, not_false_eq_true, Nat.reduceLT, Nat.reduceLeDiff, Nat.reduceEqDiff, Nat.reduceAdd, Nat.reduceMul, Nat.reduceSub, Nat.reducePow, Nat.reduceMod, Nat.reduceDiv, l0, l1, l2, l3, l4, l5, l6, l7, l8, l9, l10, l11, l12, l13, l14, l15, l16, l20, l31, l32, l36, l40, l48, l57, l59, l63, l64, l97, l99, l100, l101, l122, l127, l128, l250, l255, l262143, l262144, l30000, l100000, l12345, l1024, l4095, nI_eqs, nI_les, nI_lts, qI_eq, qI_eqn, nI_eqq, qI_lts, nI_ltp, nI_lep, qI_les, nI_add, nI_mul, qI_add, qI_s, qI_def, nI_clamps, bI_z, bI_o, bI_01, n01, n11, rf_some, rf_none, m1, m1n, bft, b0, lt_tr 1 (by decide) f1, rN_d, e131]
  · have z : n1B n 40 = false := by unfold n1B; rw [f, Bool.and_false]
    rw [z, if_neg (by decide)]
    refine DC.rf hx (by decide) (by decide) ?_
    simp (disch := omega) only [s124_0, s124_1, s124_2, s124_3, s124_4, s124_5, s124_6, s124_7, s124_8, s124_9, s124_10, s124_11, s124_12, s124_13, s124_15, s124_16, s124_17, s124_18, s124_19, s124_20, s124_21, s124_22, s124_23, s124_24, s124_25, s124_26, s124_27, s124_28, s124_29, s124_30, s124_31, s124_32, s124_33, s124_34, s124_35, s124_36, s124_37, s124_38, s124_39, s124_40, s124_41, s124_42, s124_43, s124_44, s124_45, ↓reduceIte, Option.bind_some, Option.toList_some, Option.toList_none, List.cons_append, List.nil_append, if_true, if_false, true_or, or_true, true_and, and_true, not_true_eq_false, not_false_eq_true, Nat.reduceLT, Nat.reduceLeDiff, Nat.reduceEqDiff, Nat.reduceAdd, Nat.reduceMul, Nat.reduceSub, Nat.reducePow, Nat.reduceMod, Nat.reduceDiv, l0, l1, l2, l3, l4, l5, l6, l7, l8, l9, l10, l11, l12, l13, l14, l15, l16, l20, l31, l32, l36, l40, l48, l57, l59, l63, l64, l97, l99, l100, l101, l122, l127, l128, l250, l255, l262143, l262144, l30000, l100000, l12345, l1024, l4095, nI_eqs, nI_les, nI_lts, qI_eq, qI_eqn, nI_eqq, qI_lts, nI_ltp, nI_lep, qI_les, nI_add, nI_mul, qI_add, qI_s, qI_def, nI_clamps, bI_z, bI_o, bI_01, n01, n11, rf_some, rf_none, m1, m1n, bft, b0, ge_tr 1 (by decide) (by decide) f3, (f5 40 rfl).1, (f5 40 rfl).2, rN_d, e131]
theorem allOut_cw (y : YS) : allOut y = decide (cw y (Yn y) 0 = 0) := by
  have lp : ∀ m i s, itr (fun k s => s && decide (Yg y ≤ YP y k)) m i s = (s && decide (cw y m i = 0)) := by
    intro m
    induction m with
    | zero => intro i s; show s = (s && true); rw [Bool.and_true]
    | succ m ih =>
      intro i s
      rw [itr_s, ih, cw_s]
      by_cases h : Yg y ≤ YP y i
      · rw [if_pos h, decide_eq_true h, Bool.and_true, Nat.zero_add]
      · rw [if_neg h, decide_eq_false h, Bool.and_false, Bool.false_and, decide_eq_false (by omega), Bool.and_false]
  have := lp (Yn y) 0 true
  rw [Bool.true_and] at this
  exact this
theorem nI_dec (l : Nat) : nI (l + 1) + qI 0 = nI l := by
  rw [← nI_add, Int32.add_assoc]
  show nI l + (1 + -1) = nI l
  rw [show (1 + -1 : Int32) = 0 from by decide, Int32.add_zero]
