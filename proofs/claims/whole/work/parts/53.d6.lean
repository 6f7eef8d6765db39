/-! LONGS as numbers; THE DEVELOPERS' MORNINGS -/
theorem lcl (v w : Int64) : (lg_cmp v w < nI 0) = (v < w) := propext (lg_cmp_lt v w)
theorem lcg (v w : Int64) : (nI 0 < lg_cmp v w) = (w < v) := propext (lg_cmp_gt v w)
theorem lce (v w : Int64) : (lg_cmp v w = nI 0) = (v = w) := propext (lg_cmp_eq v w)
theorem lcle (v w : Int64) : (lg_cmp v w ≤ nI 0) = (v ≤ w) := propext (lg_cmp_le v w)
theorem lcge (v w : Int64) : (nI 0 ≤ lg_cmp v w) = (w ≤ v) := propext (lg_cmp_ge v w)
theorem lN_lts {a b : Nat} (ha : a < 2 ^ 31) (hb : b < 2 ^ 31) : (lN a < lN b) = (a < b) := propext (lN_lt ha hb)
theorem lN_les {a b : Nat} (ha : a < 2 ^ 31) (hb : b < 2 ^ 31) : (lN a ≤ lN b) = (a ≤ b) := propext (lN_le ha hb)
theorem lN_eqs {a b : Nat} (ha : a < 2 ^ 31) (hb : b < 2 ^ 31) : (lN a = lN b) = (a = b) := propext (lN_eq ha hb)
theorem inRL_cases (v : Int64) {n : Nat} (hn : n < 2 ^ 31) : (∃ t, t < n ∧ v = lN t) ∨ (inRL v n = false ∧ (v < lN 0) = True) ∨ (inRL v n = false ∧ (v < lN 0) = False ∧ (v < lN n) = False) := by
  have h0 : (lN 0).toInt = 0 := by decide
  have hN := lN_toInt hn
  unfold inRL
  by_cases h1 : v.toInt < 0
  · refine .inr (.inl ⟨?_, eq_true (by rw [Int64.lt_iff_toInt_lt, h0]; exact h1)⟩)
    rw [decide_eq_false (by omega), Bool.false_and]
  · by_cases h2 : v.toInt < n
    · refine .inl ⟨v.toInt.toNat, by omega, Int64.toInt_inj.mp ?_⟩
      rw [lN_toInt (by omega)]; omega
    · refine .inr (.inr ⟨?_, eq_false (by rw [Int64.lt_iff_toInt_lt, h0]; exact h1), eq_false (by rw [Int64.lt_iff_toInt_lt, hN]; exact h2)⟩)
      rw [decide_eq_false h2, Bool.and_false]
theorem inRL_lN {t n : Nat} (ht : t < 2 ^ 31) : inRL (lN t) n = decide (t < n) := by
  unfold inRL
  rw [lN_toInt ht]
  by_cases h : t < n
  · rw [decide_eq_true h, decide_eq_true (by omega), decide_eq_true (by omega)]; rfl
  · rw [decide_eq_false h, decide_eq_false (show ¬ ((t : Int) < n) by omega), Bool.and_false]
theorem lN_shr1 {t : Nat} (ht : t < 2 ^ 31) : lN t >>> (lN 1 &&& lN 63) = lN (t / 2) := by
  have e0 : (lN 1 &&& lN 63) = lN 1 := by decide
  rw [e0]
  apply Int64.toInt_inj.mp
  have e : (lN 1).toBitVec.smod 64 = BitVec.ofNat 64 1 := by decide
  have q : (lN t >>> lN 1).toInt = (lN t).toInt >>> 1 := by
    show (lN t >>> lN 1).toBitVec.toInt = _
    rw [Int64.toBitVec_shiftRight, e, BitVec.sshiftRight_eq', BitVec.toInt_sshiftRight]
    rfl
  rw [q, lN_toInt ht, lN_toInt (by omega), Int.shiftRight_eq_div_pow]; rfl
theorem lN_and (a b : Nat) : lN a &&& lN b = lN (a &&& b) := by
  apply Int64.toBitVec_inj.mp
  simp [lN, Int64.toBitVec_ofNat', BitVec.ofNat_and]
theorem lN_and1 (t : Nat) : lN t &&& lN 1 = lN (t % 2) := by
  rw [lN_and, and1]
theorem lN_div {a b : Nat} (ha : a < 2 ^ 31) (hb : b < 2 ^ 31) : lN a / lN b = lN (a / b) := by
  apply Int64.toInt_inj.mp
  have hd : a / b ≤ a := Nat.div_le_self a b
  rw [Int64.toInt_div_of_ne_right, lN_toInt ha, lN_toInt hb, lN_toInt (by omega)]
  · rfl
  · intro q
    have := congrArg Int64.toInt q
    rw [lN_toInt hb] at this
    have e : (-1 : Int64).toInt = -1 := by decide
    rw [e] at this; omega
theorem lN_rem {a b : Nat} (ha : a < 2 ^ 31) (hb : b < 2 ^ 31) : lN a - lN a / lN b * lN b = lN (a % b) := by
  rw [lN_div ha hb, lN_mul, lN_sub (Nat.div_mul_le_self a b)]
  congr 1
  have := Nat.div_add_mod a b
  rw [Nat.mul_comm] at this
  omega
/-- the refusal of the first n elements of the row in a shelf, by its number; 0: none -/
def strK (sh : Nat → SHT) (q : Bool) (x n : Int32) : Nat := if q = true ∧ inR x 8 = true then (if Hk (sh x.toNatClampNeg) = 1 then (if inR n (Hn (sh x.toNatClampNeg) + 1) = true then 0 else 2) else if Hk (sh x.toNatClampNeg) = 2 then 3 else 4) else 2
theorem strR_K (sh : Nat → SHT) (q : Bool) (x n : Int32) : strR sh q x n = if strK sh q x n = 0 then nI 0 else rN (strK sh q x n) := by
  unfold strR strK rowR
  by_cases c : q = true ∧ inR x 8 = true
  · rw [if_pos c, if_pos c]
    by_cases w : Hk (sh x.toNatClampNeg) = 1
    · rw [if_pos w, if_pos w]
      by_cases e : inR n (Hn (sh x.toNatClampNeg) + 1) = true
      · rw [if_pos e, if_pos e, if_pos rfl]
      · rw [if_neg e, if_neg e, if_neg (by decide)]
    · by_cases e : Hk (sh x.toNatClampNeg) = 2
      · simp only [if_neg w, if_pos e]; rw [if_neg (by decide)]
      · simp only [if_neg w, if_neg e]; rw [if_neg (by decide)]
  · rw [if_neg c, if_neg c, if_neg (by decide)]
theorem strK_lt (sh : Nat → SHT) (q : Bool) (x n : Int32) : strK sh q x n ≤ 6 ∧ (strK sh q x n ≠ 0 → 2 ≤ strK sh q x n) := by
  unfold strK
  split
  · split
    · split <;> decide
    · split <;> decide
  · decide
theorem strK_0 {sh : Nat → SHT} {q : Bool} {x n : Int32} (h : strK sh q x n = 0) : q = true ∧ ∃ k, k < 8 ∧ x = nI k ∧ Hk (sh k) = 1 ∧ inR n (Hn (sh k) + 1) = true := by
  unfold strK at h
  by_cases c : q = true ∧ inR x 8 = true
  · rw [if_pos c] at h
    obtain ⟨k, hk, rfl⟩ := inR_of (by decide) c.2
    rw [nI_clamp (show k < 2 ^ 31 by omega)] at h
    by_cases w : Hk (sh k) = 1
    · rw [if_pos w] at h
      by_cases e : inR n (Hn (sh k) + 1) = true
      · exact ⟨c.1, k, hk, rfl, w, e⟩
      · rw [if_neg e] at h; cases h
    · rw [if_neg w] at h
      split at h <;> cases h
  · rw [if_neg c] at h; cases h
def mrK (sh : Nat → SHT) (q : Bool) (x n : Int32) : Nat := strK sh (q && inR n 41) x n
theorem x108 (d : Nat) {h : AH} {B : Nat} {sh : Nat → SHT} (xh : XH h B sh) (q : Bool) (x n : Int32) : E (d + 3) 108 0 [some (.ref B), some (.int (bI q)), some (.int x), some (.int n)] [] h = some (some (.int (if mrK sh q x n = 0 then nI 0 else rN (mrK sh q x n))), h) := by
  have ef := fun d => x134 d xh false x n none
  have et := fun d => x134 d xh true x n none
  simp only [bI_f] at ef
  simp only [bI_t] at et
  have b0 := xh.1
  unfold mrK
  rw [← strR_K]
  cases q
  · rw [Bool.false_and]
    simp (disch := omega) only [s108_0, s108_1, s108_2, s108_3, s108_4, s108_5, s108_6, s108_7, s108_8, s108_9, s108_10, s108_11, s108_12, s108_13, s108_14, ↓reduceIte, Option.bind_some, Option.toList_some, Option.toList_none, List.cons_append, List.nil_append, if_true, if_false, true_or, or_true, true_and, and_true, not_true_eq_false, not_false_eq_true, Nat.reduceLT, Nat.reduceLeDiff, Nat.reduceEqDiff, Nat.reduceAdd, Nat.reduceMul, Nat.reduceSub, Nat.reducePow, Nat.reduceMod, Nat.reduceDiv, l0, l1, l2, l3, l4, l5, l6, l7, l8, l9, l10, l11, l12, l13, l14, l15, l16, l20, l31, l32, l36, l40, l48, l57, l59, l63, l64, l97, l99, l100, l101, l122, l127, l128, l250, l255, l262143, l262144, l30000, l100000, l12345, l1024, l4095, nI_eqs, nI_les, nI_lts, qI_eq, qI_eqn, nI_eqq, qI_lts, nI_ltp, nI_lep, qI_les, nI_add, nI_mul, qI_add, qI_s, qI_def, nI_clamps, bI_z, bI_o, bI_01, n01, n11, rf_some, rf_none, m1, m1n, bft, b0, ef]
  · rw [Bool.true_and]
    rcases inR_cases n (n := 41) (by decide) with ⟨g, hg, rfl⟩ | ⟨f, f1, f2⟩ | ⟨f, f1, f2, f3, f4, f5⟩
    · have cg := inR_nI (g := g) (n := 41) (by omega) (by decide)
      rw [decide_eq_true hg] at cg
      rw [cg]
      have g1 : ¬ 40 < g := by omega
      simp (disch := omega) only [s108_0, s108_1, s108_2, s108_3, s108_4, s108_5, s108_6, s108_7, s108_8, s108_9, s108_10, s108_11, s108_12, s108_13, s108_14, ↓reduceIte, Option.bind_some, Option.toList_some, Option.toList_none, List.cons_append, List.nil_append, if_true, if_false, true_or, or_true, true_and, and_true, not_true_eq_false, not_false_eq_true, Nat.reduceLT, Nat.reduceLeDiff, Nat.reduceEqDiff, Nat.reduceAdd, Nat.reduceMul, Nat.reduceSub, Nat.reducePow, Nat.reduceMod, Nat.reduceDiv, l0, l1, l2, l3, l4, l5, l6, l7, l8, l9, l10, l11, l12, l13, l14, l15, l16, l20, l31, l32, l36, l40, l48, l57, l59, l63, l64, l97, l99, l100, l101, l122, l127, l128, l250, l255, l262143, l262144, l30000, l100000, l12345, l1024, l4095, nI_eqs, nI_les, nI_lts, qI_eq, qI_eqn, nI_eqq, qI_lts, nI_ltp, nI_lep, qI_les, nI_add, nI_mul, qI_add, qI_s, qI_def, nI_clamps, bI_z, bI_o, bI_01, n01, n11, rf_some, rf_none, m1, m1n, bft, b0, et, g1, Nat.not_lt_zero, Bool.true_eq_false]
    · rw [f]
      simp (disch := omega) only [s108_0, s108_1, s108_2, s108_3, s108_4, s108_5, s108_6, s108_7, s108_8, s108_9, s108_10, s108_11, s108_12, s108_13, s108_14, ↓reduceIte, Option.bind_some, Option.toList_some, Option.toList_none, List.cons_append, List.nil_append, if_true, if_false, true_or, or_true, true_and, and_true, not_true_eq_false, not_false_eq_true, Nat.reduceLT, Nat.reduceLeDiff, Nat.reduceEqDiff, Nat.reduceAdd, Nat.reduceMul, Nat.reduceSub, Nat.reducePow, Nat.reduceMod, Nat.reduceDiv, l0, l1, l2, l3, l4, l5, l6, l7, l8, l9, l10, l11, l12, l13, l14, l15, l16, l20, l31, l32, l36, l40, l48, l57, l59, l63, l64, l97, l99, l100, l101, l122, l127, l128, l250, l255, l262143, l262144, l30000, l100000, l12345, l1024, l4095, nI_eqs, nI_les, nI_lts, qI_eq, qI_eqn, nI_eqq, qI_lts, nI_ltp, nI_lep, qI_les, nI_add, nI_mul, qI_add, qI_s, qI_def, nI_clamps, bI_z, bI_o, bI_01, n01, n11, rf_some, rf_none, m1, m1n, bft, b0, ef, f1, Bool.true_eq_false]
    · rw [f]
      simp (disch := omega) only [s108_0, s108_1, s108_2, s108_3, s108_4, s108_5, s108_6, s108_7, s108_8, s108_9, s108_10, s108_11, s108_12, s108_13, s108_14, ↓reduceIte, Option.bind_some, Option.toList_some, Option.toList_none, List.cons_append, List.nil_append, if_true, if_false, true_or, or_true, true_and, and_true, not_true_eq_false, not_false_eq_true, Nat.reduceLT, Nat.reduceLeDiff, Nat.reduceEqDiff, Nat.reduceAdd, Nat.reduceMul, Nat.reduceSub, Nat.reducePow, Nat.reduceMod, Nat.reduceDiv, l0, l1, l2, l3, l4, l5, l6, l7, l8, l9, l10, l11, l12, l13, l14, l15, l16, l20, l31, l32, l36, l40, l48, l57, l59, l63, l64, l97, l99, l100, l101, l122, l127, l128, l250, l255, l262143, l262144, l30000, l100000, l12345, l1024, l4095, nI_eqs, nI_les, nI_lts, qI_eq, qI_eqn, nI_eqq, qI_lts, nI_ltp, nI_lep, qI_les, nI_add, nI_mul, qI_add, qI_s, qI_def, nI_clamps, bI_z, bI_o, bI_01, n01, n11, rf_some, rf_none, m1, m1n, bft, b0, ef, f1, (f5 40 rfl).2, Bool.true_eq_false]
/-- a morning goes by: the first that isn't so, and the yard then -/
def gW (e : Nat → Int64) (m i : Nat) (y : YS) : Option Nat × YS := match m with
  | 0 => (none, y)
  | m + 1 => if inRL (e i) (2 * Yn y) = true then (if YP y ((e i).toInt.toNat / 2) < Yg y then (if letY y (YP y ((e i).toInt.toNat / 2)) (YC y ((e i).toInt.toNat / 2)) = decide ((e i).toInt.toNat % 2 = 1) then gW e m (i + 1) (tryY y ((e i).toInt.toNat / 2)) else (some i, tryY y ((e i).toInt.toNat / 2))) else (some i, y)) else (some i, y)
def wI (o : Option Nat) : Int32 := match o with
  | none => qI 0
  | some i => nI i
/-- the yard with a gate thought stuck -/
def stY (y : YS) (g : Int32) : YS := if inR g (Yg y) = true then sA (sK y g.toNatClampNeg 5) g.toNatClampNeg 0 else y
theorem YOK.st {y : YS} (ok : YOK y) (g : Int32) : YOK (stY y g) := by
  unfold stY
  split
  · obtain ⟨⟨o2, o3⟩, o6, on, og, oc⟩ := id ok
    refine ⟨⟨o2, o3⟩, o6, on, fun j hj => ?_, oc⟩
    obtain ⟨q1, q2, q3, q4, q5, q6⟩ := og j hj
    refine ⟨?_, ?_, q3, q4, q5, q6⟩
    · show fup (YK y) _ 5 j < 6
      unfold fup; split
      · decide
      · exact q1
    · show fup (YA y) _ 0 j < 10
      unfold fup; split
      · decide
      · exact q2
  · exact ok
theorem tryY_n (y : YS) (k : Nat) : Yn (tryY y k) = Yn y ∧ Yg (tryY y k) = Yg y ∧ Yc (tryY y k) = Yc y := by
  unfold tryY
  split <;> exact ⟨rfl, rfl, rfl⟩
theorem x109 (d : Nat) {h : AH} {B : Nat} {s : GS} (hx : DX h B s) {k n : Nat} (hk : k < 8) (w : Hk (gH s k) = 1) (hn : n ≤ Hn (gH s k)) (g : Int32) (p4 p5 p6 p7 : Option Value) : ∃ h', E (d + 4) 109 0 [some (.ref B), some (.int (nI k)), some (.int (nI n)), some (.int g), p4, p5, p6, p7] [] h = some (some (.int (wI (gW (He (gH s k)) n 0 (stY (gY s) g)).1)), h') ∧ XY h' (B + 9) (gW (He (gH s k)) n 0 (stY (gY s) g)).2 ∧ Fr0 (blk (B + 9) 8) h h' := by
  obtain ⟨⟨b0, b1, b2, b3, b4, b5, b6, b7⟩, xy, ⟨k0, k1⟩, xh, ⟨t0, t1, t2, t3, t4, t5⟩, rx, qx⟩ := id hx; have e131 := c131e hx
  have sx := (xh.2.2.2 k hk).2
  have n40 := sx.2.2.n
  have lp : ∀ m i h1 y p5 p6 p7, i + m = n → XY h1 (B + 9) y → Fr0 (blk (B + 9) 8) h h1 → ∃ h2, E (d + 4) 109 24 [some (.ref B), some (.int (nI k)), some (.int (nI n)), some (.int g), some (.int (nI i)), p5, p6, p7] [] h1 = some (some (.int (wI (gW (He (gH s k)) m i y).1)), h2) ∧ XY h2 (B + 9) (gW (He (gH s k)) m i y).2 ∧ Fr0 (blk (B + 9) 8) h h2 := by
    intro m
    induction m with
    | zero =>
      intro i h1 y p5 p6 p7 hi q f
      have hi' : i = n := hi
      subst hi'
      refine ⟨h1, ?_, q, f⟩
      rw [s109_24]
      simp (disch := omega) only [s109_0, s109_1, s109_2, s109_3, s109_4, s109_5, s109_6, s109_7, s109_8, s109_9, s109_10, s109_11, s109_12, s109_13, s109_14, s109_15, s109_16, s109_17, s109_18, s109_19, s109_20, s109_21, s109_22, s109_23, s109_25, s109_26, s109_27, s109_28, s109_29, s109_30, s109_31, s109_32, s109_33, s109_34, s109_35, s109_36, s109_37, s109_38, s109_39, s109_40, s109_41, s109_42, s109_43, s109_44, s109_45, s109_46, s109_47, s109_48, s109_49, s109_50, s109_51, s109_52, s109_53, s109_54, s109_55, s109_56, s109_57, s109_58, s109_59, s109_60, s109_61, s109_62, s109_63, s109_64, s109_65, s109_66, s109_67, s109_68, s109_69, s109_70, s109_71, s109_72, s109_73, s109_74, s109_75, s109_76, ↓reduceIte, Option.bind_some, Option.toList_some, Option.toList_none, List.cons_append, List.nil_append, if_true, if_false, true_or, or_true, true_and, and_true, not_true_eq_false, not_false_eq_true, Nat.reduceLT, Nat.reduceLeDiff, Nat.reduceEqDiff, Nat.reduceAdd, Nat.reduceMul, Nat.reduceSub, Nat.reducePow, Nat.reduceMod, Nat.reduceDiv, l0, l1, l2, l3, l4, l5, l6, l7, l8, l9, l10, l11, l12, l13, l14, l15, l16, l20, l31, l32, l36, l40, l48, l57, l59, l63, l64, l97, l99, l100, l101, l122, l127, l128, l250, l255, l262143, l262144, l30000, l100000, l12345, l1024, l4095, nI_eqs, nI_les, nI_lts, qI_eq, qI_eqn, nI_eqq, qI_lts, nI_ltp, nI_lep, qI_les, nI_add, nI_mul, qI_add, qI_s, qI_def, nI_clamps, bI_z, bI_o, bI_01, n01, n11, rf_some, rf_none, m1, m1n, bft, Nat.le_refl]
      rfl
    | succ m ih =>
      intro i h1 y p5 p6 p7 hi q f
      have h1' : ¬ n ≤ i := by omega
      have D := hx.th f
      have c0 := D.1.1.1
      have c1 := D.1.1.2.2.1
      have y0 := q.1.1
      have yn := q.2.1.2.2.1
      have yn6 := q.2.2.2.2.1
      have e84 := fun d => x84 d D.1.2.2.2.1 (nI k) (nI i)
      have el : elN (gH s) (nI k) (nI i) = He (gH s k) i := by
        unfold elN
        rw [nI_clamp (show k < 2 ^ 31 by omega), nI_clamp (show i < 2 ^ 31 by omega), inR_nI (by omega) (by decide), inR_nI (by omega) (by omega), decide_eq_true hk, decide_eq_true (show i < Hn (gH s k) by omega), if_pos ⟨rfl, w, rfl⟩]
      rw [el] at e84
      rw [s109_24]
      unfold gW
      generalize hv : He (gH s k) i = v at *
      rcases inRL_cases v (n := 2 * Yn y) (by omega) with ⟨t, ht, rfl⟩ | ⟨f0, f1⟩ | ⟨f0, f1, f2⟩
      · have et : (lN t).toInt.toNat = t := by rw [lN_toInt (by omega)]; omega
        rw [inRL_lN (by omega), decide_eq_true ht, if_pos rfl, et]
        have kt : t / 2 < Yn y := by omega
        have e71 := fun d => x71 d q kt
        have o := q.2.2.2.2.2.2 (t / 2) kt
        by_cases a : YP y (t / 2) < Yg y
        · rw [if_pos a]
          have a' : ¬ Yg y ≤ YP y (t / 2) := by omega
          rw [decide_eq_false a'] at e71
          obtain ⟨h2, e77, q2, f2⟩ := x77 d q kt a none none none
          have D2 := hx.th (f.trans f2)
          by_cases b : letY y (YP y (t / 2)) (YC y (t / 2)) = decide (t % 2 = 1)
          · rw [if_pos b]
            rw [b] at e77
            obtain ⟨h3, e3, q3, f3⟩ := ih (i + 1) h2 _ (some (.long (lN t))) none (some (.int (nI (t / 2)))) (by omega) q2 (f.trans f2)
            refine ⟨h3, ?_, q3, f3⟩
            by_cases b' : t % 2 = 1
            · rw [decide_eq_true b'] at e77
              simp (disch := omega) only [s109_0, s109_1, s109_2, s109_3, s109_4, s109_5, s109_6, s109_7, s109_8, s109_9, s109_10, s109_11, s109_12, s109_13, s109_14, s109_15, s109_16, s109_17, s109_18, s109_19, s109_20, s109_21, s109_22, s109_23, s109_25, s109_26, s109_27, s109_28, s109_29, s109_30, s109_31, s109_32, s109_33, s109_34, s109_35, s109_36, s109_37, s109_38, s109_39, s109_40, s109_41, s109_42, s109_43, s109_44, s109_45, s109_46, s109_47, s109_48, s109_49, s109_50, s109_51, s109_52, s109_53, s109_54, s109_55, s109_56, s109_57, s109_58, s109_59, s109_60, s109_61, s109_62, s109_63, s109_64, s109_65, s109_66, s109_67, s109_68, s109_69, s109_70, s109_71, s109_72, s109_73, s109_74, s109_75, s109_76, ↓reduceIte, Option.bind_some, Option.toList_some, Option.toList_none, List.cons_append, List.nil_append, if_true, if_false, true_or, or_true, true_and, and_true, not_true_eq_false, not_false_eq_true, Nat.reduceLT, Nat.reduceLeDiff, Nat.reduceEqDiff, Nat.reduceAdd, Nat.reduceMul, Nat.reduceSub, Nat.reducePow, Nat.reduceMod, Nat.reduceDiv, l0, l1, l2, l3, l4, l5, l6, l7, l8, l9, l10, l11, l12, l13, l14, l15, l16, l20, l31, l32, l36, l40, l48, l57, l59, l63, l64, l97, l99, l100, l101, l122, l127, l128, l250, l255, l262143, l262144, l30000, l100000, l12345, l1024, l4095, nI_eqs, nI_les, nI_lts, qI_eq, qI_eqn, nI_eqq, qI_lts, nI_ltp, nI_lep, qI_les, nI_add, nI_mul, qI_add, qI_s, qI_def, nI_clamps, bI_z, bI_o, bI_01, n01, n11, rf_some, rf_none, m1, m1n, bft, j0, j1, j2, j63, lcl, lcg, lce, lcle, lcge, lN_lts, lN_eqs, lN_les, lN_shr1, lN_and1, lN_mul, lN_i, nI_l, h1', c0, c1, y0, yn, e84, e71, e77, b', ht, Nat.not_lt_zero, Nat.not_le_of_lt]
              exact e3
            · rw [decide_eq_false b'] at e77
              simp (disch := omega) only [s109_0, s109_1, s109_2, s109_3, s109_4, s109_5, s109_6, s109_7, s109_8, s109_9, s109_10, s109_11, s109_12, s109_13, s109_14, s109_15, s109_16, s109_17, s109_18, s109_19, s109_20, s109_21, s109_22, s109_23, s109_25, s109_26, s109_27, s109_28, s109_29, s109_30, s109_31, s109_32, s109_33, s109_34, s109_35, s109_36, s109_37, s109_38, s109_39, s109_40, s109_41, s109_42, s109_43, s109_44, s109_45, s109_46, s109_47, s109_48, s109_49, s109_50, s109_51, s109_52, s109_53, s109_54, s109_55, s109_56, s109_57, s109_58, s109_59, s109_60, s109_61, s109_62, s109_63, s109_64, s109_65, s109_66, s109_67, s109_68, s109_69, s109_70, s109_71, s109_72, s109_73, s109_74, s109_75, s109_76, ↓reduceIte, Option.bind_some, Option.toList_some, Option.toList_none, List.cons_append, List.nil_append, if_true, if_false, true_or, or_true, true_and, and_true, not_true_eq_false, not_false_eq_true, Nat.reduceLT, Nat.reduceLeDiff, Nat.reduceEqDiff, Nat.reduceAdd, Nat.reduceMul, Nat.reduceSub, Nat.reducePow, Nat.reduceMod, Nat.reduceDiv, l0, l1, l2, l3, l4, l5, l6, l7, l8, l9, l10, l11, l12, l13, l14, l15, l16, l20, l31, l32, l36, l40, l48, l57, l59, l63, l64, l97, l99, l100, l101, l122, l127, l128, l250, l255, l262143, l262144, l30000, l100000, l12345, l1024, l4095, nI_eqs, nI_les, nI_lts, qI_eq, qI_eqn, nI_eqq, qI_lts, nI_ltp, nI_lep, qI_les, nI_add, nI_mul, qI_add, qI_s, qI_def, nI_clamps, bI_z, bI_o, bI_01, n01, n11, rf_some, rf_none, m1, m1n, bft, j0, j1, j2, j63, lcl, lcg, lce, lcle, lcge, lN_lts, lN_eqs, lN_les, lN_shr1, lN_and1, lN_mul, lN_i, nI_l, h1', c0, c1, y0, yn, e84, e71, e77, b', ht, Nat.not_lt_zero, Nat.not_le_of_lt]
              exact e3
          · rw [if_neg b]
            refine ⟨h2, ?_, q2, f.trans f2⟩
            by_cases b' : t % 2 = 1
            · have b2 : letY y (YP y (t / 2)) (YC y (t / 2)) = false := by rw [decide_eq_true b'] at b; simpa using b
              rw [b2] at e77
              simp (disch := omega) only [s109_0, s109_1, s109_2, s109_3, s109_4, s109_5, s109_6, s109_7, s109_8, s109_9, s109_10, s109_11, s109_12, s109_13, s109_14, s109_15, s109_16, s109_17, s109_18, s109_19, s109_20, s109_21, s109_22, s109_23, s109_25, s109_26, s109_27, s109_28, s109_29, s109_30, s109_31, s109_32, s109_33, s109_34, s109_35, s109_36, s109_37, s109_38, s109_39, s109_40, s109_41, s109_42, s109_43, s109_44, s109_45, s109_46, s109_47, s109_48, s109_49, s109_50, s109_51, s109_52, s109_53, s109_54, s109_55, s109_56, s109_57, s109_58, s109_59, s109_60, s109_61, s109_62, s109_63, s109_64, s109_65, s109_66, s109_67, s109_68, s109_69, s109_70, s109_71, s109_72, s109_73, s109_74, s109_75, s109_76, ↓reduceIte, Option.bind_some, Option.toList_some, Option.toList_none, List.cons_append, List.nil_append, if_true, if_false, true_or, or_true, true_and, and_true, not_true_eq_false, not_false_eq_true, Nat.reduceLT, Nat.reduceLeDiff, Nat.reduceEqDiff, Nat.reduceAdd, Nat.reduceMul, Nat.reduceSub, Nat.reducePow, Nat.reduceMod, Nat.reduceDiv, l0, l1, l2, l3, l4, l5, l6, l7, l8, l9, l10, l11, l12, l13, l14, l15, l16, l20, l31, l32, l36, l40, l48, l57, l59, l63, l64, l97, l99, l100, l101, l122, l127, l128, l250, l255, l262143, l262144, l30000, l100000, l12345, l1024, l4095, nI_eqs, nI_les, nI_lts, qI_eq, qI_eqn, nI_eqq, qI_lts, nI_ltp, nI_lep, qI_les, nI_add, nI_mul, qI_add, qI_s, qI_def, nI_clamps, bI_z, bI_o, bI_01, n01, n11, rf_some, rf_none, m1, m1n, bft, j0, j1, j2, j63, lcl, lcg, lce, lcle, lcge, lN_lts, lN_eqs, lN_les, lN_shr1, lN_and1, lN_mul, lN_i, nI_l, h1', c0, c1, y0, yn, e84, e71, e77, b', ht, Nat.not_lt_zero, Nat.not_le_of_lt]
              rfl
            · have b2 : letY y (YP y (t / 2)) (YC y (t / 2)) = true := by rw [decide_eq_false b'] at b; simpa using b
              rw [b2] at e77
              simp (disch := omega) only [s109_0, s109_1, s109_2, s109_3, s109_4, s109_5, s109_6, s109_7, s109_8, s109_9, s109_10, s109_11, s109_12, s109_13, s109_14, s109_15, s109_16, s109_17, s109_18, s109_19, s109_20, s109_21, s109_22, s109_23, s109_25, s109_26, s109_27, s109_28, s109_29, s109_30, s109_31, s109_32, s109_33, s109_34, s109_35, s109_36, s109_37, s109_38, s109_39, s109_40, s109_41, s109_42, s109_43, s109_44, s109_45, s109_46, s109_47, s109_48, s109_49, s109_50, s109_51, s109_52, s109_53, s109_54, s109_55, s109_56, s109_57, s109_58, s109_59, s109_60, s109_61, s109_62, s109_63, s109_64, s109_65, s109_66, s109_67, s109_68, s109_69, s109_70, s109_71, s109_72, s109_73, s109_74, s109_75, s109_76, ↓reduceIte, Option.bind_some, Option.toList_some, Option.toList_none, List.cons_append, List.nil_append, if_true, if_false, true_or, or_true, true_and, and_true, not_true_eq_false, not_false_eq_true, Nat.reduceLT, Nat.reduceLeDiff, Nat.reduceEqDiff, Nat.reduceAdd, Nat.reduceMul, Nat.reduceSub, Nat.reducePow, Nat.reduceMod, Nat.reduceDiv, l0, l1, l2, l3, l4, l5, l6, l7, l8, l9, l10, l11, l12, l13, l14, l15, l16, l20, l31, l32, l36, l40, l48, l57, l59, l63, l64, l97, l99, l100, l101, l122, l127, l128, l250, l255, l262143, l262144, l30000, l100000, l12345, l1024, l4095, nI_eqs, nI_les, nI_lts, qI_eq, qI_eqn, nI_eqq, qI_lts, nI_ltp, nI_lep, qI_les, nI_add, nI_mul, qI_add, qI_s, qI_def, nI_clamps, bI_z, bI_o, bI_01, n01, n11, rf_some, rf_none, m1, m1n, bft, j0, j1, j2, j63, lcl, lcg, lce, lcle, lcge, lN_lts, lN_eqs, lN_les, lN_shr1, lN_and1, lN_mul, lN_i, nI_l, h1', c0, c1, y0, yn, e84, e71, e77, b', ht, Nat.not_lt_zero, Nat.not_le_of_lt]
              rfl
        · rw [if_neg a]
          have a' : Yg y ≤ YP y (t / 2) := by omega
          rw [decide_eq_true a'] at e71
          refine ⟨h1, ?_, q, f⟩
          simp (disch := omega) only [s109_0, s109_1, s109_2, s109_3, s109_4, s109_5, s109_6, s109_7, s109_8, s109_9, s109_10, s109_11, s109_12, s109_13, s109_14, s109_15, s109_16, s109_17, s109_18, s109_19, s109_20, s109_21, s109_22, s109_23, s109_25, s109_26, s109_27, s109_28, s109_29, s109_30, s109_31, s109_32, s109_33, s109_34, s109_35, s109_36, s109_37, s109_38, s109_39, s109_40, s109_41, s109_42, s109_43, s109_44, s109_45, s109_46, s109_47, s109_48, s109_49, s109_50, s109_51, s109_52, s109_53, s109_54, s109_55, s109_56, s109_57, s109_58, s109_59, s109_60, s109_61, s109_62, s109_63, s109_64, s109_65, s109_66, s109_67, s109_68, s109_69, s109_70, s109_71, s109_72, s109_73, s109_74, s109_75, s109_76, ↓reduceIte, Option.bind_some, Option.toList_some, Option.toList_none, List.cons_append, List.nil_append, if_true, if_false, true_or, or_true, true_and, and_true, not_true_eq_false, not_false_eq_true, Nat.reduceLT, Nat.reduceLeDiff, Nat.reduceEqDiff, Nat.reduceAdd, Nat.reduceMul, Nat.reduceSub, Nat.reducePow, Nat.reduceMod, Nat.reduceDiv, l0, l1, l2, l3, l4, l5, l6, l7, l8, l9, l10, l11, l12, l13, l14, l15, l16, l20, l31, l32, l36, l40, l48, l57, l59, l63, l64, l97, l99, l100, l101, l122, l127, l128, l250, l255, l262143, l262144, l30000, l100000, l12345, l1024, l4095, nI_eqs, nI_les, nI_lts, qI_eq, qI_eqn, nI_eqq, qI_lts, nI_ltp, nI_lep, qI_les, nI_add, nI_mul, qI_add, qI_s, qI_def, nI_clamps, bI_z, bI_o, bI_01, n01, n11, rf_some, rf_none, m1, m1n, bft, j0, j1, j2, j63, lcl, lcg, lce, lcle, lcge, lN_lts, lN_eqs, lN_les, lN_shr1, lN_and1, lN_mul, lN_i, nI_l, h1', c0, c1, y0, yn, e84, e71, ht, Nat.not_lt_zero, Bool.true_eq_false]
          rfl
      · rw [f0, if_neg (by decide)]
        refine ⟨h1, ?_, q, f⟩
        simp (disch := omega) only [s109_0, s109_1, s109_2, s109_3, s109_4, s109_5, s109_6, s109_7, s109_8, s109_9, s109_10, s109_11, s109_12, s109_13, s109_14, s109_15, s109_16, s109_17, s109_18, s109_19, s109_20, s109_21, s109_22, s109_23, s109_25, s109_26, s109_27, s109_28, s109_29, s109_30, s109_31, s109_32, s109_33, s109_34, s109_35, s109_36, s109_37, s109_38, s109_39, s109_40, s109_41, s109_42, s109_43, s109_44, s109_45, s109_46, s109_47, s109_48, s109_49, s109_50, s109_51, s109_52, s109_53, s109_54, s109_55, s109_56, s109_57, s109_58, s109_59, s109_60, s109_61, s109_62, s109_63, s109_64, s109_65, s109_66, s109_67, s109_68, s109_69, s109_70, s109_71, s109_72, s109_73, s109_74, s109_75, s109_76, ↓reduceIte, Option.bind_some, Option.toList_some, Option.toList_none, List.cons_append, List.nil_append, if_true, if_false, true_or, or_true, true_and, and_true, not_true_eq_false, not_false_eq_true, Nat.reduceLT, Nat.reduceLeDiff, Nat.reduceEqDiff, Nat.reduceAdd, Nat.reduceMul, Nat.reduceSub, Nat.reducePow, Nat.reduceMod, Nat.reduceDiv, l0, l1, l2, l3, l4, l5, l6, l7, l8, l9, l10, l11, l12, l13, l14, l15, l16, l20, l31, l32, l36, l40, l48, l57, l59, l63, l64, l97, l99, l100, l101, l122, l127, l128, l250, l255, l262143, l262144, l30000, l100000, l12345, l1024, l4095, nI_eqs, nI_les, nI_lts, qI_eq, qI_eqn, nI_eqq, qI_lts, nI_ltp, nI_lep, qI_les, nI_add, nI_mul, qI_add, qI_s, qI_def, nI_clamps, bI_z, bI_o, bI_01, n01, n11, rf_some, rf_none, m1, m1n, bft, j0, j1, j2, j63, lcl, lcg, lce, lcle, lcge, lN_lts, lN_eqs, lN_les, lN_shr1, lN_and1, lN_mul, lN_i, nI_l, h1', c0, e84, f1]
        rfl
      · rw [f0, if_neg (by decide)]
        refine ⟨h1, ?_, q, f⟩
        simp (disch := omega) only [s109_0, s109_1, s109_2, s109_3, s109_4, s109_5, s109_6, s109_7, s109_8, s109_9, s109_10, s109_11, s109_12, s109_13, s109_14, s109_15, s109_16, s109_17, s109_18, s109_19, s109_20, s109_21, s109_22, s109_23, s109_25, s109_26, s109_27, s109_28, s109_29, s109_30, s109_31, s109_32, s109_33, s109_34, s109_35, s109_36, s109_37, s109_38, s109_39, s109_40, s109_41, s109_42, s109_43, s109_44, s109_45, s109_46, s109_47, s109_48, s109_49, s109_50, s109_51, s109_52, s109_53, s109_54, s109_55, s109_56, s109_57, s109_58, s109_59, s109_60, s109_61, s109_62, s109_63, s109_64, s109_65, s109_66, s109_67, s109_68, s109_69, s109_70, s109_71, s109_72, s109_73, s109_74, s109_75, s109_76, ↓reduceIte, Option.bind_some, Option.toList_some, Option.toList_none, List.cons_append, List.nil_append, if_true, if_false, true_or, or_true, true_and, and_true, not_true_eq_false, not_false_eq_true, Nat.reduceLT, Nat.reduceLeDiff, Nat.reduceEqDiff, Nat.reduceAdd, Nat.reduceMul, Nat.reduceSub, Nat.reducePow, Nat.reduceMod, Nat.reduceDiv, l0, l1, l2, l3, l4, l5, l6, l7, l8, l9, l10, l11, l12, l13, l14, l15, l16, l20, l31, l32, l36, l40, l48, l57, l59, l63, l64, l97, l99, l100, l101, l122, l127, l128, l250, l255, l262143, l262144, l30000, l100000, l12345, l1024, l4095, nI_eqs, nI_les, nI_lts, qI_eq, qI_eqn, nI_eqq, qI_lts, nI_ltp, nI_lep, qI_les, nI_add, nI_mul, qI_add, qI_s, qI_def, nI_clamps, bI_z, bI_o, bI_01, n01, n11, rf_some, rf_none, m1, m1n, bft, j0, j1, j2, j63, lcl, lcg, lce, lcle, lcge, lN_lts, lN_eqs, lN_les, lN_shr1, lN_and1, lN_mul, lN_i, nI_l, h1', c0, c1, y0, yn, e84, f1, f2]
        rfl
  obtain ⟨h1, e59, q1, f1⟩ := x59 (d + 3) b6 xy (Or.inl (by omega))
  have D := hx.th f1
  have c0 := D.1.1.1
  have c1 := D.1.1.2.2.1
  have y0 := q1.1.1
  have yy0 := xy.1.1
  have e62 := fun d => x62 d q1 g
  unfold stY at *
  cases c : inR g (Yg (gY s))
  · rw [if_neg (by decide)]
    rw [c] at e62
    obtain ⟨h2, e2, q2, f2⟩ := lp n 0 h1 _ p5 p6 p7 (by omega) q1 f1
    refine ⟨h2, ?_, q2, f2⟩
    simp (disch := omega) only [s109_0, s109_1, s109_2, s109_3, s109_4, s109_5, s109_6, s109_7, s109_8, s109_9, s109_10, s109_11, s109_12, s109_13, s109_14, s109_15, s109_16, s109_17, s109_18, s109_19, s109_20, s109_21, s109_22, s109_23, ↓reduceIte, Option.bind_some, Option.toList_some, Option.toList_none, List.cons_append, List.nil_append, if_true, if_false, true_or, or_true, true_and, and_true, not_true_eq_false, not_false_eq_true, Nat.reduceLT, Nat.reduceLeDiff, Nat.reduceEqDiff, Nat.reduceAdd, Nat.reduceMul, Nat.reduceSub, Nat.reducePow, Nat.reduceMod, Nat.reduceDiv, l0, l1, l2, l3, l4, l5, l6, l7, l8, l9, l10, l11, l12, l13, l14, l15, l16, l20, l31, l32, l36, l40, l48, l57, l59, l63, l64, l97, l99, l100, l101, l122, l127, l128, l250, l255, l262143, l262144, l30000, l100000, l12345, l1024, l4095, nI_eqs, nI_les, nI_lts, qI_eq, qI_eqn, nI_eqq, qI_lts, nI_ltp, nI_lep, qI_les, nI_add, nI_mul, qI_add, qI_s, qI_def, nI_clamps, bI_z, bI_o, bI_01, n01, n11, rf_some, rf_none, m1, m1n, bft, b0, b1, b2, c0, c1, y0, yy0, b6.1, e59, e62]
    exact e2
  · rw [if_pos rfl]
    rw [c] at e62
    have gg := xy.2.2.2.1
    obtain ⟨j, hj, rfl⟩ := inR_of (by omega) c
    have cl := nI_clamp (show j < 2 ^ 31 by omega)
    have k1 : hR h1 (B + 9) 5 = some (B + 9 + 1) := q1.1.2.2.2.2.2.2.2.2.1
    have k2 : hR h1 (B + 9) 6 = some (B + 9 + 2) := q1.1.2.2.2.2.2.2.2.2.2.1
    have k3 : hS h1 (B + 9 + 1) = some (0, 6) := q1.1.2.1
    have k4 : hS h1 (B + 9 + 2) = some (0, 6) := q1.1.2.2.1
    have okn := q1.2.2.st (nI j)
    unfold stY at okn
    rw [if_pos c] at okn
    have q2 : XY (stI (stI h1 (B + 9 + 1) j (nI 5)) (B + 9 + 2) j (nI 0)) (B + 9) (sA (sK (gY s) (nI j).toNatClampNeg 5) (nI j).toNatClampNeg 0) := by
      rw [cl] at okn ⊢
      exact ⟨q1.1, (q1.2.1.K j 5).A j 0, okn⟩
    have f2 : Fr0 (blk (B + 9) 8) h (stI (stI h1 (B + 9 + 1) j (nI 5)) (B + 9 + 2) j (nI 0)) := (f1.trans (blkI _ (by omega) (by omega) _ _)).trans (blkI _ (by omega) (by omega) _ _)
    obtain ⟨h3, e3, q3, f3⟩ := lp n 0 _ _ p5 p6 p7 (by omega) q2 f2
    refine ⟨h3, ?_, q3, f3⟩
    simp (disch := omega) only [s109_0, s109_1, s109_2, s109_3, s109_4, s109_5, s109_6, s109_7, s109_8, s109_9, s109_10, s109_11, s109_12, s109_13, s109_14, s109_15, s109_16, s109_17, s109_18, s109_19, s109_20, s109_21, s109_22, s109_23, ↓reduceIte, Option.bind_some, Option.toList_some, Option.toList_none, List.cons_append, List.nil_append, if_true, if_false, true_or, or_true, true_and, and_true, not_true_eq_false, not_false_eq_true, Nat.reduceLT, Nat.reduceLeDiff, Nat.reduceEqDiff, Nat.reduceAdd, Nat.reduceMul, Nat.reduceSub, Nat.reducePow, Nat.reduceMod, Nat.reduceDiv, l0, l1, l2, l3, l4, l5, l6, l7, l8, l9, l10, l11, l12, l13, l14, l15, l16, l20, l31, l32, l36, l40, l48, l57, l59, l63, l64, l97, l99, l100, l101, l122, l127, l128, l250, l255, l262143, l262144, l30000, l100000, l12345, l1024, l4095, nI_eqs, nI_les, nI_lts, qI_eq, qI_eqn, nI_eqq, qI_lts, nI_ltp, nI_lep, qI_les, nI_add, nI_mul, qI_add, qI_s, qI_def, nI_clamps, bI_z, bI_o, bI_01, n01, n11, rf_some, rf_none, m1, m1n, bft, ad1, ad2, hI_stI, hS_stI, hR_stI, hL_stI, alen_stI, hI_stL, hL_stL, hS_stL, hR_stL, alen_stL, false_and, and_false, and_self, eq_self, b0, b1, b2, c0, c1, y0, yy0, b6.1, e59, e62, k1, k2, gA k3, gA k4, Bool.true_eq_false]
    rw [cl] at e3
    exact e3
