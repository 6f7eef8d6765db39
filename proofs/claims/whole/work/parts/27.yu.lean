/-! THE DEVELOPERS' YARD: draws, new gates and carts, become -/
def bc (x : Nat) : Nat := x % 2 + x / 2 % 2 + x / 4 % 2 + x / 8 % 2 + x / 16 % 2 + x / 32 % 2
set_option maxRecDepth 100000 in
theorem x231 (d : Nat) (h : AH) {x : Nat} (hx : x < 64) : E d 231 0 [some (.int (nI x))] [] h = some (some (.int (nI (bc x))), h) := by
  simp only [s231_0, s231_1, s231_2, s231_3, s231_4, s231_5, s231_6, s231_7, s231_8, s231_9, s231_10, s231_11, s231_12, s231_13, s231_14, s231_15, s231_16, s231_17, s231_18, s231_19, s231_20, s231_21, s231_22, s231_23, s231_24, s231_25, s231_26, s231_27, s231_28, s231_29, s231_30, s231_31, s231_32, s231_33, s231_34, s231_35, s231_36, s231_37, s231_38, s231_39, s231_40, s231_41]
  refine congrArg (fun z => some (some (Value.int z), h)) ?_
  revert hx; revert x; decide
def nextZ (z : Int32) : Int32 := z * 1103515245 + nI 12345
def rnd (z : Int32) : Nat := z.toUInt32.toNat / 65536
theorem rnd_lt (z : Int32) : rnd z < 65536 := by
  unfold rnd
  have := UInt32.toNat_lt z.toUInt32
  omega
theorem rnd_eq (z : Int32) : (z.toUInt32 >>> ((nI 16).toUInt32 &&& (nI 31).toUInt32)).toInt32 = nI (rnd z) := by
  rw [show ((nI 16).toUInt32 &&& (nI 31).toUInt32) = 16 from by decide]
  have e : (z.toUInt32 >>> 16).toNat = rnd z := by
    rw [UInt32.toNat_shiftRight]
    show _ >>> (16 % 32) = _
    rw [Nat.shiftRight_eq_div_pow]; rfl
  apply Int32.toBitVec_inj.mp
  apply BitVec.eq_of_toNat_eq
  show (z.toUInt32 >>> 16).toNat = _
  rw [e]
  have := rnd_lt z
  simp [nI, Int32.toBitVec_ofNat']
  omega
theorem x78 (d : Nat) {h : AH} {b : Nat} {y : YS} (hx : XY h b y) {n : Nat} (hn : 0 < n) (hn' : n < 100) : E d 78 0 [some (.ref b), some (.int (nI n))] [] h = some (some (.int (nI (rnd (nextZ (Yz y)) % n))), stI h b 4 (nextZ (Yz y))) := by
  obtain ⟨⟨z0, z1, z2, z3, z4, z5, z6, z7, r1, r2, r3, r4, r5, r6, r7⟩, ⟨vc, vg, vn, vt, vz, vK, vA, vU, vM, vW, vC, vP⟩, ok⟩ := hx
  have h0 : ¬ n ≤ 0 := by omega
  have h1 : ¬ n = 0 := by omega
  have e := nI_rem (a := rnd (nextZ (Yz y))) (b := n) (by have := rnd_lt (nextZ (Yz y)); omega) (by omega)
  have f : Yz y * 1103515245 + nI 12345 = nextZ (Yz y) := rfl
  simp (disch := omega) only [s78_0, s78_1, s78_2, s78_3, s78_4, s78_5, s78_6, s78_7, s78_8, s78_9, s78_10, s78_11, s78_12, s78_13, s78_14, s78_15, s78_16, s78_17, s78_18, ↓reduceIte, Option.bind_some, Option.toList_some, Option.toList_none, List.cons_append, List.nil_append, if_true, if_false, true_or, or_true, true_and, and_true, not_true_eq_false, not_false_eq_true, Nat.reduceLT, Nat.reduceLeDiff, Nat.reduceEqDiff, Nat.reduceAdd, Nat.reduceMul, Nat.reduceSub, Nat.reducePow, Nat.reduceMod, Nat.reduceDiv, l0, l1, l2, l3, l4, l5, l6, l7, l8, l9, l10, l11, l12, l13, l14, l15, l16, l20, l31, l32, l36, l40, l48, l57, l59, l63, l64, l97, l99, l100, l101, l122, l127, l128, l250, l255, l262143, l262144, l30000, l100000, l12345, l1024, l4095, nI_eqs, nI_les, nI_lts, qI_eq, qI_eqn, nI_eqq, qI_lts, nI_ltp, nI_lep, qI_les, nI_add, nI_mul, qI_add, qI_s, qI_def, nI_clamps, bI_z, bI_o, bI_01, n01, n11, rf_some, rf_none, m1, m1n, l12345, z0, r1, r2, r3, r4, r5, r6, r7, vc, vg, vn, vt, vz, gI z1, gI z2, gI z3, gI z4, gI z5, gI z6, gI z7, gA z1, gA z2, gA z3, gA z4, gA z5, gA z6, gA z7, ad1, ad2, hI_stI, hS_stI, hR_stI, hL_stI, alen_stI, hI_stL, hL_stL, hS_stL, hR_stL, alen_stL, false_and, and_false, and_self, eq_self, f, rnd_eq, h0, h1, e]
/-- how many carts from k on are not out; the one with l such ahead of it -/
def cw (y : YS) (m k : Nat) : Nat := match m with
  | 0 => 0
  | m + 1 => (if Yg y ≤ YP y k then 0 else 1) + cw y m (k + 1)
def wt (y : YS) (m k l : Nat) : Nat := match m with
  | 0 => k
  | m + 1 => if Yg y ≤ YP y k then wt y m (k + 1) l else match l with
    | 0 => k
    | l + 1 => wt y m (k + 1) l
theorem wt_ok {y : YS} : ∀ {m k l : Nat}, l < cw y m k → wt y m k l < k + m ∧ YP y (wt y m k l) < Yg y := by
  intro m
  induction m with
  | zero => intro k l q; exact absurd q (Nat.not_lt_zero _)
  | succ m ih =>
    intro k l q
    unfold cw at q
    unfold wt
    by_cases p : Yg y ≤ YP y k
    · rw [if_pos p] at q ⊢
      have := @ih (k + 1) l (by omega)
      exact ⟨by omega, this.2⟩
    · rw [if_neg p] at q ⊢
      cases l with
      | zero => exact ⟨by show k < k + (m + 1); omega, by show YP y k < Yg y; omega⟩
      | succ l =>
        have := @ih (k + 1) l (by omega)
        exact ⟨by show wt y m (k + 1) l < k + (m + 1); omega, this.2⟩
theorem x79 (d : Nat) {h : AH} {b : Nat} {y : YS} (hx : XY h b y) {l : Nat} (hl : l < cw y (Yn y) 0) (hl' : l < 100) (p2 p3 : Option Value) : E (d + 1) 79 0 [some (.ref b), some (.int (nI l)), p2, p3] [] h = some (some (.int (nI (wt y (Yn y) 0 l))), h) := by
  have e71 := fun k (hk : k < Yn y) => x71 d hx hk
  obtain ⟨⟨z0, z1, z2, z3, z4, z5, z6, z7, r1, r2, r3, r4, r5, r6, r7⟩, ⟨vc, vg, vn, vt, vz, vK, vA, vU, vM, vW, vC, vP⟩, ok⟩ := hx
  obtain ⟨⟨o2, o3⟩, o6, on, og, oc⟩ := id ok
  have lp : ∀ m k l p1, k + m = Yn y → l < cw y m k → l < 100 → E (d + 1) 79 4 [some (.ref b), p1, some (.int (nI l)), some (.int (nI k))] [] h = some (some (.int (nI (wt y m k l))), h) := by
    intro m
    induction m with
    | zero => intro k l p1 hk q; exact absurd q (Nat.not_lt_zero _)
    | succ m ih =>
      intro k l p1 hk q q'
      have h1 : ¬ Yn y ≤ k := by omega
      unfold cw at q
      rw [s79_4]
      unfold wt
      by_cases p : Yg y ≤ YP y k
      · rw [if_pos p] at q ⊢
        simp (disch := omega) only [s79_0, s79_1, s79_2, s79_3, s79_5, s79_6, s79_7, s79_8, s79_9, s79_10, s79_11, s79_12, s79_13, s79_14, s79_15, s79_16, s79_17, s79_18, s79_19, s79_20, ↓reduceIte, Option.bind_some, Option.toList_some, Option.toList_none, List.cons_append, List.nil_append, if_true, if_false, true_or, or_true, true_and, and_true, not_true_eq_false, not_false_eq_true, Nat.reduceLT, Nat.reduceLeDiff, Nat.reduceEqDiff, Nat.reduceAdd, Nat.reduceMul, Nat.reduceSub, Nat.reducePow, Nat.reduceMod, Nat.reduceDiv, l0, l1, l2, l3, l4, l5, l6, l7, l8, l9, l10, l11, l12, l13, l14, l15, l16, l20, l31, l32, l36, l40, l48, l57, l59, l63, l64, l97, l99, l100, l101, l122, l127, l128, l250, l255, l262143, l262144, l30000, l100000, l12345, l1024, l4095, nI_eqs, nI_les, nI_lts, qI_eq, qI_eqn, nI_eqq, qI_lts, nI_ltp, nI_lep, qI_les, nI_add, nI_mul, qI_add, qI_s, qI_def, nI_clamps, bI_z, bI_o, bI_01, n01, n11, rf_some, rf_none, m1, m1n, z0, r1, r2, r3, r4, r5, r6, r7, vc, vg, vn, vt, vz, gI z1, gI z2, gI z3, gI z4, gI z5, gI z6, gI z7, gA z1, gA z2, gA z3, gA z4, gA z5, gA z6, gA z7, vK, vA, vU, vM, vW, vC, vP, h1, p, e71, decide_true, Bool.true_eq_false]
        exact ih _ _ _ (by omega) (by omega) q'
      · rw [if_neg p] at q ⊢
        cases l with
        | zero => simp (disch := omega) only [s79_0, s79_1, s79_2, s79_3, s79_5, s79_6, s79_7, s79_8, s79_9, s79_10, s79_11, s79_12, s79_13, s79_14, s79_15, s79_16, s79_17, s79_18, s79_19, s79_20, ↓reduceIte, Option.bind_some, Option.toList_some, Option.toList_none, List.cons_append, List.nil_append, if_true, if_false, true_or, or_true, true_and, and_true, not_true_eq_false, not_false_eq_true, Nat.reduceLT, Nat.reduceLeDiff, Nat.reduceEqDiff, Nat.reduceAdd, Nat.reduceMul, Nat.reduceSub, Nat.reducePow, Nat.reduceMod, Nat.reduceDiv, l0, l1, l2, l3, l4, l5, l6, l7, l8, l9, l10, l11, l12, l13, l14, l15, l16, l20, l31, l32, l36, l40, l48, l57, l59, l63, l64, l97, l99, l100, l101, l122, l127, l128, l250, l255, l262143, l262144, l30000, l100000, l12345, l1024, l4095, nI_eqs, nI_les, nI_lts, qI_eq, qI_eqn, nI_eqq, qI_lts, nI_ltp, nI_lep, qI_les, nI_add, nI_mul, qI_add, qI_s, qI_def, nI_clamps, bI_z, bI_o, bI_01, n01, n11, rf_some, rf_none, m1, m1n, z0, r1, r2, r3, r4, r5, r6, r7, vc, vg, vn, vt, vz, gI z1, gI z2, gI z3, gI z4, gI z5, gI z6, gI z7, gA z1, gA z2, gA z3, gA z4, gA z5, gA z6, gA z7, vK, vA, vU, vM, vW, vC, vP, h1, p, e71, decide_false]
        | succ l =>
          have hl : ¬ l + 1 = 0 := by omega
          have e : nI (l + 1) + qI 0 = nI l := by
            rw [← nI_add, Int32.add_assoc]
            show nI l + (1 + -1) = nI l
            rw [show (1 + -1 : Int32) = 0 from by decide, Int32.add_zero]
          simp (disch := omega) only [s79_0, s79_1, s79_2, s79_3, s79_5, s79_6, s79_7, s79_8, s79_9, s79_10, s79_11, s79_12, s79_13, s79_14, s79_15, s79_16, s79_17, s79_18, s79_19, s79_20, ↓reduceIte, Option.bind_some, Option.toList_some, Option.toList_none, List.cons_append, List.nil_append, if_true, if_false, true_or, or_true, true_and, and_true, not_true_eq_false, not_false_eq_true, Nat.reduceLT, Nat.reduceLeDiff, Nat.reduceEqDiff, Nat.reduceAdd, Nat.reduceMul, Nat.reduceSub, Nat.reducePow, Nat.reduceMod, Nat.reduceDiv, l0, l1, l2, l3, l4, l5, l6, l7, l8, l9, l10, l11, l12, l13, l14, l15, l16, l20, l31, l32, l36, l40, l48, l57, l59, l63, l64, l97, l99, l100, l101, l122, l127, l128, l250, l255, l262143, l262144, l30000, l100000, l12345, l1024, l4095, nI_eqs, nI_les, nI_lts, qI_eq, qI_eqn, nI_eqq, qI_lts, nI_ltp, nI_lep, qI_les, nI_add, nI_mul, qI_add, qI_s, qI_def, nI_clamps, bI_z, bI_o, bI_01, n01, n11, rf_some, rf_none, m1, m1n, z0, r1, r2, r3, r4, r5, r6, r7, vc, vg, vn, vt, vz, gI z1, gI z2, gI z3, gI z4, gI z5, gI z6, gI z7, gA z1, gA z2, gA z3, gA z4, gA z5, gA z6, gA z7, vK, vA, vU, vM, vW, vC, vP, h1, p, e71, decide_false, hl, e]
          exact ih _ _ _ (by omega) (by omega) (by omega)
  rw [s79_0, s79_1, s79_2, s79_3]
  exact lp (Yn y) 0 l _ (by omega) hl hl'
theorem Yc_mk (c g n : Nat) (t z : Int32) (K A U F S : Nat → Nat) (W : Nat → Int32) (C P : Nat → Nat) : Yc (yMk c g n t z K A U F S W C P) = c := rfl
theorem Yg_mk (c g n : Nat) (t z : Int32) (K A U F S : Nat → Nat) (W : Nat → Int32) (C P : Nat → Nat) : Yg (yMk c g n t z K A U F S W C P) = g := rfl
theorem Yn_mk (c g n : Nat) (t z : Int32) (K A U F S : Nat → Nat) (W : Nat → Int32) (C P : Nat → Nat) : Yn (yMk c g n t z K A U F S W C P) = n := rfl
theorem Yt_mk (c g n : Nat) (t z : Int32) (K A U F S : Nat → Nat) (W : Nat → Int32) (C P : Nat → Nat) : Yt (yMk c g n t z K A U F S W C P) = t := rfl
theorem Yz_mk (c g n : Nat) (t z : Int32) (K A U F S : Nat → Nat) (W : Nat → Int32) (C P : Nat → Nat) : Yz (yMk c g n t z K A U F S W C P) = z := rfl
theorem YK_mk (c g n : Nat) (t z : Int32) (K A U F S : Nat → Nat) (W : Nat → Int32) (C P : Nat → Nat) : YK (yMk c g n t z K A U F S W C P) = K := rfl
theorem YA_mk (c g n : Nat) (t z : Int32) (K A U F S : Nat → Nat) (W : Nat → Int32) (C P : Nat → Nat) : YA (yMk c g n t z K A U F S W C P) = A := rfl
theorem YU_mk (c g n : Nat) (t z : Int32) (K A U F S : Nat → Nat) (W : Nat → Int32) (C P : Nat → Nat) : YU (yMk c g n t z K A U F S W C P) = U := rfl
theorem YF_mk (c g n : Nat) (t z : Int32) (K A U F S : Nat → Nat) (W : Nat → Int32) (C P : Nat → Nat) : YF (yMk c g n t z K A U F S W C P) = F := rfl
theorem YM_mk (c g n : Nat) (t z : Int32) (K A U F S : Nat → Nat) (W : Nat → Int32) (C P : Nat → Nat) : YM (yMk c g n t z K A U F S W C P) = S := rfl
theorem YW_mk (c g n : Nat) (t z : Int32) (K A U F S : Nat → Nat) (W : Nat → Int32) (C P : Nat → Nat) : YW (yMk c g n t z K A U F S W C P) = W := rfl
theorem YC_mk (c g n : Nat) (t z : Int32) (K A U F S : Nat → Nat) (W : Nat → Int32) (C P : Nat → Nat) : YC (yMk c g n t z K A U F S W C P) = C := rfl
theorem YP_mk (c g n : Nat) (t z : Int32) (K A U F S : Nat → Nat) (W : Nat → Int32) (C P : Nat → Nat) : YP (yMk c g n t z K A U F S W C P) = P := rfl
def addG (y : YS) (k a : Nat) : YS := sg (sW (sM (sU (sA (sK y (Yg y) k) (Yg y) a) (Yg y) (Yg y)) (Yg y) 0 0) (Yg y) (nI 0)) (Yg y + 1)
def addC (y : YS) (c : Nat) : YS := sn (sP (sC y (Yn y) c) (Yn y) 0) (Yn y + 1)
theorem YOK.addG {y : YS} (ok : YOK y) (hg : Yg y < 6) {k a : Nat} (hk : k < 6) (ha : a < 10) : YOK (addG y k a) := by
  obtain ⟨⟨o2, o3⟩, o6, on, og, oc⟩ := id ok
  refine ⟨⟨o2, o3⟩, (show Yg y + 1 ≤ 6 by omega), on, ?_, fun j hj => ⟨(oc j hj).1, Nat.le_succ_of_le (oc j hj).2⟩⟩
  intro j (hj : j < Yg y + 1)
  show fup (YK y) (Yg y) k j < 6 ∧ fup (YA y) (Yg y) a j < 10 ∧ fup (YU y) (Yg y) (Yg y) j ≤ j ∧ fup (YU y) (Yg y) (Yg y) (fup (YU y) (Yg y) (Yg y) j) = fup (YU y) (Yg y) (Yg y) j ∧ fup (YF y) (Yg y) 0 j ≤ Yc y ∧ fup (YM y) (Yg y) 0 j ≤ Yc y
  by_cases q : j = Yg y
  · subst q
    simp only [fup_s]
    exact ⟨hk, ha, Nat.le_refl _, trivial, Nat.zero_le _, Nat.zero_le _⟩
  · have hj' : j < Yg y := by omega
    obtain ⟨q1, q2, q3, q4, q5, q6⟩ := og j hj'
    have hu : YU y j ≠ Yg y := by omega
    simp only [fup_n _ _ q, fup_n _ _ hu]
    exact ⟨q1, q2, q3, q4, q5, q6⟩
theorem YOK.addC {y : YS} (ok : YOK y) (hg : Yn y < 6) {c : Nat} (hk : c < Yc y) : YOK (addC y c) := by
  obtain ⟨⟨o2, o3⟩, o6, on, og, oc⟩ := id ok
  refine ⟨⟨o2, o3⟩, o6, (show Yn y + 1 ≤ 6 by omega), og, ?_⟩
  intro j (hj : j < Yn y + 1)
  show fup (YC y) (Yn y) c j < Yc y ∧ fup (YP y) (Yn y) 0 j ≤ Yg y
  by_cases q : j = Yn y
  · subst q
    simp only [fup_s]
    exact ⟨hk, Nat.zero_le _⟩
  · simp only [fup_n _ _ q]
    exact oc j (by omega)
theorem x66 (d : Nat) {h : AH} {b : Nat} {y : YS} (hx : XY h b y) (hg : Yg y < 6) {k a : Nat} (hk : k < 6) (ha : a < 10) (p : Option Value) : ∃ h', E (d + 1) 66 0 [some (.ref b), some (.int (nI k)), some (.int (nI a)), p] [] h = some (some (.int (nI (Yg y))), h') ∧ XY h' b (addG y k a) ∧ Fr0 (blk b 8) h h' := by
  have okn := hx.2.2.addG hg hk ha
  have xs := hx.1
  have v := hx.2.1
  have hA : ∀ j, j < 8 → blk b 8 (b + j) := fun j hj => ⟨by omega, by omega⟩
  have e2 := fun (d : Nat) h => x2 d h (f := 0) (s := 0) (by decide) (by decide)
  obtain ⟨⟨z0, z1, z2, z3, z4, z5, z6, z7, r1, r2, r3, r4, r5, r6, r7⟩, ⟨vc, vg, vn, vt, vz, vK, vA, vU, vM, vW, vC, vP⟩, ok⟩ := hx
  have h6 : ¬ 6 ≤ Yg y := by omega
  refine ⟨stI (stI (stI (stI (stI (stI h b 1 (nI (Yg y + 1))) (b + 1) (Yg y) (nI k)) (b + 2) (Yg y) (nI a)) (b + 3) (Yg y) (nI (Yg y))) (b + 4) (Yg y) (nI 0)) (b + 5) (Yg y) (nI 0), ?_, ⟨xs, ?_, okn⟩, ?_⟩
  · simp (disch := omega) only [s66_0, s66_1, s66_2, s66_3, s66_4, s66_5, s66_6, s66_7, s66_8, s66_9, s66_10, s66_11, s66_12, s66_13, s66_14, s66_15, s66_16, s66_17, s66_18, s66_19, s66_20, s66_21, s66_22, s66_23, s66_24, s66_25, s66_26, s66_27, s66_28, s66_29, s66_30, s66_31, s66_32, s66_33, s66_34, s66_35, s66_36, s66_37, s66_38, s66_39, s66_40, s66_41, s66_42, ↓reduceIte, Option.bind_some, Option.toList_some, Option.toList_none, List.cons_append, List.nil_append, if_true, if_false, true_or, or_true, true_and, and_true, not_true_eq_false, not_false_eq_true, Nat.reduceLT, Nat.reduceLeDiff, Nat.reduceEqDiff, Nat.reduceAdd, Nat.reduceMul, Nat.reduceSub, Nat.reducePow, Nat.reduceMod, Nat.reduceDiv, l0, l1, l2, l3, l4, l5, l6, l7, l8, l9, l10, l11, l12, l13, l14, l15, l16, l20, l31, l32, l36, l40, l48, l57, l59, l63, l64, l97, l99, l100, l101, l122, l127, l128, l250, l255, l262143, l262144, l30000, l100000, l12345, l1024, l4095, nI_eqs, nI_les, nI_lts, qI_eq, qI_eqn, nI_eqq, qI_lts, nI_ltp, nI_lep, qI_les, nI_add, nI_mul, qI_add, qI_s, qI_def, nI_clamps, bI_z, bI_o, bI_01, n01, n11, rf_some, rf_none, m1, m1n, z0, r1, r2, r3, r4, r5, r6, r7, vc, vg, vn, vt, vz, gI z1, gI z2, gI z3, gI z4, gI z5, gI z6, gI z7, gA z1, gA z2, gA z3, gA z4, gA z5, gA z6, gA z7, ad1, ad2, hI_stI, hS_stI, hR_stI, hL_stI, alen_stI, hI_stL, hL_stL, hS_stL, hR_stL, alen_stL, false_and, and_false, and_self, eq_self, h6, hg, e2, Nat.mul_zero, Nat.add_zero]
  · clear okn xs
    obtain ⟨vc, vg, vn, vt, vz, vK, vA, vU, vM, vW, vC, vP⟩ := v
    refine ⟨?_, ?_, ?_, ?_, ?_, ?_, ?_, ?_, ?_, ?_, ?_, ?_⟩
    all_goals simp only [hI_stI, addG, fup, Yc_mk, Yg_mk, Yn_mk, Yt_mk, Yz_mk, YK_mk, YA_mk, YU_mk, YF_mk, YM_mk, YW_mk, YC_mk, YP_mk, sc, sg, sn, sT, sZ, sK, sA, sU, sM, sW, sC, sP]
    all_goals simp (disch := omega) only [ad1, ad2, false_and, and_false, ↓reduceIte, Option.bind_some, Option.toList_some, Option.toList_none, List.cons_append, List.nil_append, if_true, if_false, true_or, or_true, true_and, and_true, not_true_eq_false, not_false_eq_true, Nat.reduceLT, Nat.reduceLeDiff, Nat.reduceEqDiff, Nat.reduceAdd, Nat.reduceMul, Nat.reduceSub, Nat.reducePow, Nat.reduceMod, Nat.reduceDiv, vc, vg, vn, vt, vz, true_and, eq_self]
    · intro j hj; by_cases q : j = Yg y
      · simp [q]
      · simp [q, vK j (by omega)]
    · intro j hj; by_cases q : j = Yg y
      · simp [q]
      · simp [q, vA j (by omega)]
    · intro j hj; by_cases q : j = Yg y
      · simp [q]
      · simp [q, vU j (by omega)]
    · intro j hj; by_cases q : j = Yg y
      · simp [q]
      · simp [q, vM j (by omega)]
    · intro j hj; by_cases q : j = Yg y
      · simp [q]
      · simp [q, vW j (by omega)]
    · exact vC
    · exact vP
  · exact (((((Fr0.stI _ (hA 0 (by decide)) _ _).trans (Fr0.stI _ (hA 1 (by decide)) _ _)).trans (Fr0.stI _ (hA 2 (by decide)) _ _)).trans (Fr0.stI _ (hA 3 (by decide)) _ _)).trans (Fr0.stI _ (hA 4 (by decide)) _ _)).trans (Fr0.stI _ (hA 5 (by decide)) _ _)
theorem x67 (d : Nat) {h : AH} {b : Nat} {y : YS} (hx : XY h b y) (hg : Yn y < 6) {c : Nat} (hc : c < Yc y) (p : Option Value) : ∃ h', E d 67 0 [some (.ref b), some (.int (nI c)), p] [] h = some (some (.int (nI (Yn y))), h') ∧ XY h' b (addC y c) ∧ Fr0 (blk b 8) h h' := by
  have okn := hx.2.2.addC hg hc
  have xs := hx.1
  have v := hx.2.1
  have hA : ∀ j, j < 8 → blk b 8 (b + j) := fun j hj => ⟨by omega, by omega⟩
  obtain ⟨⟨z0, z1, z2, z3, z4, z5, z6, z7, r1, r2, r3, r4, r5, r6, r7⟩, ⟨vc, vg, vn, vt, vz, vK, vA, vU, vM, vW, vC, vP⟩, ok⟩ := hx
  have h6 : ¬ 6 ≤ Yn y := by omega
  refine ⟨stI (stI (stI h b 2 (nI (Yn y + 1))) (b + 6) (Yn y) (nI c)) (b + 7) (Yn y) (nI 0), ?_, ⟨xs, ?_, okn⟩, ?_⟩
  · simp (disch := omega) only [s67_0, s67_1, s67_2, s67_3, s67_4, s67_5, s67_6, s67_7, s67_8, s67_9, s67_10, s67_11, s67_12, s67_13, s67_14, s67_15, s67_16, s67_17, s67_18, s67_19, s67_20, s67_21, s67_22, s67_23, s67_24, s67_25, ↓reduceIte, Option.bind_some, Option.toList_some, Option.toList_none, List.cons_append, List.nil_append, if_true, if_false, true_or, or_true, true_and, and_true, not_true_eq_false, not_false_eq_true, Nat.reduceLT, Nat.reduceLeDiff, Nat.reduceEqDiff, Nat.reduceAdd, Nat.reduceMul, Nat.reduceSub, Nat.reducePow, Nat.reduceMod, Nat.reduceDiv, l0, l1, l2, l3, l4, l5, l6, l7, l8, l9, l10, l11, l12, l13, l14, l15, l16, l20, l31, l32, l36, l40, l48, l57, l59, l63, l64, l97, l99, l100, l101, l122, l127, l128, l250, l255, l262143, l262144, l30000, l100000, l12345, l1024, l4095, nI_eqs, nI_les, nI_lts, qI_eq, qI_eqn, nI_eqq, qI_lts, nI_ltp, nI_lep, qI_les, nI_add, nI_mul, qI_add, qI_s, qI_def, nI_clamps, bI_z, bI_o, bI_01, n01, n11, rf_some, rf_none, m1, m1n, z0, r1, r2, r3, r4, r5, r6, r7, vc, vg, vn, vt, vz, gI z1, gI z2, gI z3, gI z4, gI z5, gI z6, gI z7, gA z1, gA z2, gA z3, gA z4, gA z5, gA z6, gA z7, ad1, ad2, hI_stI, hS_stI, hR_stI, hL_stI, alen_stI, hI_stL, hL_stL, hS_stL, hR_stL, alen_stL, false_and, and_false, and_self, eq_self, h6, hg]
  · clear okn xs
    obtain ⟨vc, vg, vn, vt, vz, vK, vA, vU, vM, vW, vC, vP⟩ := v
    refine ⟨?_, ?_, ?_, ?_, ?_, ?_, ?_, ?_, ?_, ?_, ?_, ?_⟩
    all_goals simp only [hI_stI, addC, fup, Yc_mk, Yg_mk, Yn_mk, Yt_mk, Yz_mk, YK_mk, YA_mk, YU_mk, YF_mk, YM_mk, YW_mk, YC_mk, YP_mk, sc, sg, sn, sT, sZ, sK, sA, sU, sM, sW, sC, sP]
    all_goals simp (disch := omega) only [ad1, ad2, false_and, and_false, ↓reduceIte, Option.bind_some, Option.toList_some, Option.toList_none, List.cons_append, List.nil_append, if_true, if_false, true_or, or_true, true_and, and_true, not_true_eq_false, not_false_eq_true, Nat.reduceLT, Nat.reduceLeDiff, Nat.reduceEqDiff, Nat.reduceAdd, Nat.reduceMul, Nat.reduceSub, Nat.reducePow, Nat.reduceMod, Nat.reduceDiv, vc, vg, vn, vt, vz, true_and, eq_self]
    · exact vK
    · exact vA
    · exact vU
    · exact vM
    · exact vW
    · intro j hj; by_cases q : j = Yn y
      · simp [q]
      · simp [q, vC j (by omega)]
    · intro j hj; by_cases q : j = Yn y
      · simp [q]
      · simp [q, vP j (by omega)]
  · exact ((Fr0.stI _ (hA 0 (by decide)) _ _).trans (Fr0.stI _ (hA 6 (by decide)) _ _)).trans (Fr0.stI _ (hA 7 (by decide)) _ _)
