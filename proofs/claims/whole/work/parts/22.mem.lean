/-! KINDS AND MEMORIES -/
theorem m1n : -nI 1 = qI 0 := rfl
theorem inR_cases (x : Int32) {n : Nat} (hn : n < 2 ^ 31) : (∃ g, g < n ∧ x = nI g) ∨ (inR x n = false ∧ (x < nI 0) = True ∧ (nI 0 ≤ x) = False) ∨ (inR x n = false ∧ (x < nI 0) = False ∧ (nI 0 ≤ x) = True ∧ (x < nI n) = False ∧ (nI n ≤ x) = True ∧ ∀ m, m + 1 = n → (x ≤ nI m) = False ∧ (nI m < x) = True) := by
  by_cases hb : inR x n = true
  · exact .inl (inR_of hn hb)
  · have hf : inR x n = false := by simpa using hb
    have h0 : (nI 0).toInt = 0 := by decide
    rw [inR_iff hn] at hb
    by_cases hx : x < nI 0
    · refine .inr (.inl ⟨hf, by simpa using hx, ?_⟩)
      rw [Int32.lt_iff_toInt_lt, h0] at hx
      rw [Int32.le_iff_toInt_le, h0]
      exact propext ⟨fun q => by omega, False.elim⟩
    · refine .inr (.inr ⟨hf, by simpa using hx, ?_⟩)
      rw [Int32.lt_iff_toInt_lt, h0] at hx
      refine ⟨?_, ?_, ?_, ?_⟩
      · rw [Int32.le_iff_toInt_le, h0]; exact propext ⟨fun _ => trivial, fun _ => by omega⟩
      · rw [Int32.lt_iff_toInt_lt, nI_toInt hn]; exact propext ⟨fun q => by omega, False.elim⟩
      · rw [Int32.le_iff_toInt_le, nI_toInt hn]; exact propext ⟨fun _ => trivial, fun _ => by omega⟩
      · intro m hm
        rw [Int32.le_iff_toInt_le, Int32.lt_iff_toInt_lt, nI_toInt (by omega)]
        exact ⟨propext ⟨fun q => by omega, False.elim⟩, propext ⟨fun _ => trivial, fun _ => by omega⟩⟩
theorem or4 {f s : Nat} (hf : f < 4) : f ||| s * 4 = f + 4 * s := by
  rw [Nat.or_comm, Nat.mul_comm]
  have := Nat.two_pow_add_eq_or_of_lt (show f < 2 ^ 2 by omega) s
  simp only [Nat.reducePow] at this
  omega
theorem and3 {f s : Nat} (hf : f < 4) : (f + 4 * s) &&& 3 = f := by
  rw [show (3 : Nat) = 2 ^ 2 - 1 from rfl, Nat.and_two_pow_sub_one_eq_mod]; omega
theorem and3' {f : Nat} (hf : f < 4) : f &&& 3 = f := by
  rw [show (3 : Nat) = 2 ^ 2 - 1 from rfl, Nat.and_two_pow_sub_one_eq_mod]; omega
theorem div4 {f s : Nat} (hf : f < 4) : (f + 4 * s) / 4 = s := by omega
theorem and15 (a : Nat) : a &&& 15 = a % 16 := by
  rw [show (15 : Nat) = 2 ^ 4 - 1 from rfl, Nat.and_two_pow_sub_one_eq_mod]
theorem a31 {k : Nat} (h : k < 32) : k &&& 31 = k := by
  rw [show (31 : Nat) = 2 ^ 5 - 1 from rfl, Nat.and_two_pow_sub_one_eq_mod]; exact Nat.mod_eq_of_lt h
theorem nI_shl' {a k : Nat} (h : k < 32) : nI a <<< nI k = nI (a * 2 ^ k) := by rw [← sh31 h, nI_shl h]
theorem nI_shr' {a k : Nat} (ha : a < 2 ^ 31) (h : k < 32) : nI a >>> nI k = nI (a / 2 ^ k) := by rw [← sh31 h, nI_shr ha h]
/-- a digit of a packed number, and a digit put into one -/
def dg (M g : Nat) : Nat := M / 2 ^ (4 * g) % 16
def wd (M g m : Nat) : Nat := M - dg M g * 2 ^ (4 * g) + m * 2 ^ (4 * g)
theorem dg_lt (M g : Nat) : dg M g < 16 := Nat.mod_lt _ (by decide)
theorem wd_split (M g : Nat) : M = 2 ^ (4 * g) * (2 ^ 4 * (M / 2 ^ (4 * g) / 16) + dg M g) + M % 2 ^ (4 * g) := by
  have h1 := Nat.div_add_mod M (2 ^ (4 * g))
  have h2 := Nat.div_add_mod (M / 2 ^ (4 * g)) 16
  unfold dg
  rw [show (2 : Nat) ^ 4 = 16 from rfl, h2, h1]
theorem wd_eq (M g m : Nat) : wd M g m = 2 ^ (4 * g) * (2 ^ 4 * (M / 2 ^ (4 * g) / 16) + m) + M % 2 ^ (4 * g) := by
  have h := wd_split M g
  unfold wd
  generalize hd : dg M g = q at *
  generalize hp : 2 ^ (4 * g) = p at *
  generalize ht : M / p / 16 = t at *
  generalize hr : M % p = r at *
  rw [Nat.mul_add] at h ⊢
  rw [Nat.mul_comm q p, Nat.mul_comm m p]
  omega
theorem wd_bit (M g m j : Nat) (hm : m < 16) : (wd M g m).testBit j = ((M.testBit j && !(15 * 2 ^ (4 * g)).testBit j) || (m * 2 ^ (4 * g)).testBit j) := by
  have hlt : M % 2 ^ (4 * g) < 2 ^ (4 * g) := Nat.mod_lt _ (Nat.two_pow_pos _)
  have e15 : (15 * 2 ^ (4 * g)).testBit j = (decide (4 * g ≤ j) && decide (j - 4 * g < 4)) := by
    rw [Nat.testBit_mul_two_pow, show (15 : Nat) = 2 ^ 4 - 1 from rfl, Nat.testBit_two_pow_sub_one]
  rw [e15, Nat.testBit_mul_two_pow]
  rw [wd_eq, Nat.testBit_two_pow_mul_add _ hlt]
  conv => rhs; rw [wd_split M g, Nat.testBit_two_pow_mul_add _ hlt]
  by_cases h1 : j < 4 * g
  · have h2 : ¬ 4 * g ≤ j := by omega
    simp [h1, h2]
  · have h2 : 4 * g ≤ j := by omega
    simp only [h1, h2, if_false, decide_true, Bool.true_and]
    rw [Nat.testBit_two_pow_mul_add _ (show m < 2 ^ 4 by omega), Nat.testBit_two_pow_mul_add _ (show dg M g < 2 ^ 4 from dg_lt M g)]
    by_cases h3 : j - 4 * g < 4
    · simp [h3]
    · have : m.testBit (j - 4 * g) = false := Nat.testBit_lt_two_pow (Nat.lt_of_lt_of_le hm (by
        calc 16 = 2 ^ 4 := rfl
          _ ≤ 2 ^ (j - 4 * g) := Nat.pow_le_pow_right (by decide) (by omega)))
      simp [h3, this]
theorem nI_wd {M g m : Nat} (hm : m < 16) : (nI M &&& (nI (15 * 2 ^ (4 * g)) ^^^ qI 0)) ||| nI (m * 2 ^ (4 * g)) = nI (wd M g m) := by
  apply Int32.toBitVec_inj.mp
  apply BitVec.eq_of_getLsbD_eq
  intro i hi
  have e : (qI 0).toBitVec = BitVec.allOnes 32 := by decide
  rw [Int32.toBitVec_or, Int32.toBitVec_and, Int32.toBitVec_xor, e]
  simp only [nI, Int32.toBitVec_ofNat', BitVec.getLsbD_or, BitVec.getLsbD_and, BitVec.getLsbD_xor, BitVec.getLsbD_allOnes, BitVec.getLsbD_ofNat, hi, decide_true, Bool.true_and, Bool.xor_true]
  rw [wd_bit M g m i hm]
theorem dg_wd (M g m k : Nat) (hm : m < 16) : dg (wd M g m) k = if k = g then m else dg M k := by
  apply Nat.eq_of_testBit_eq
  intro i
  have t : ∀ N : Nat, (dg N k).testBit i = (decide (i < 4) && N.testBit (4 * k + i)) := by
    intro N
    unfold dg
    rw [show (16 : Nat) = 2 ^ 4 from rfl, Nat.testBit_mod_two_pow, Nat.testBit_div_two_pow, Nat.add_comm]
  have e15 : ∀ j, (15 * 2 ^ (4 * g)).testBit j = (decide (4 * g ≤ j) && decide (j - 4 * g < 4)) := by
    intro j
    rw [Nat.testBit_mul_two_pow, show (15 : Nat) = 2 ^ 4 - 1 from rfl, Nat.testBit_two_pow_sub_one]
  have hm4 : ∀ j, 4 ≤ j → m.testBit j = false := fun j hj => Nat.testBit_lt_two_pow (Nat.lt_of_lt_of_le hm (by
        calc 16 = 2 ^ 4 := rfl
          _ ≤ 2 ^ j := Nat.pow_le_pow_right (by decide) hj))
  rw [t, wd_bit M g m _ hm, e15, Nat.testBit_mul_two_pow]
  by_cases hk : k = g
  · subst hk
    rw [if_pos rfl]
    by_cases h4 : i < 4
    · have a1 : 4 * k ≤ 4 * k + i := by omega
      have a2 : 4 * k + i - 4 * k = i := by omega
      simp [h4, a2]
    · have := hm4 i (by omega)
      simp [h4, this]
  · rw [if_neg hk, t]
    by_cases h4 : i < 4
    · by_cases hl : 4 * g ≤ 4 * k + i
      · have a3 : ¬ (4 * k + i - 4 * g < 4) := by omega
        have := hm4 (4 * k + i - 4 * g) (by omega)
        simp [h4, a3, this]
      · simp [h4, hl]
    · simp [h4]
theorem wd_lt {M g m n : Nat} (hm : m < 16) (hg : g < n) (hM : M < 2 ^ (4 * n)) : wd M g m < 2 ^ (4 * n) := by
  apply Nat.lt_pow_two_of_testBit
  intro j hj
  have hb : M.testBit j = false := Nat.testBit_lt_two_pow (Nat.lt_of_lt_of_le hM (Nat.pow_le_pow_right (by decide) hj))
  have hc : m.testBit (j - 4 * g) = false := Nat.testBit_lt_two_pow (Nat.lt_of_lt_of_le hm (by
        calc 16 = 2 ^ 4 := rfl
          _ ≤ 2 ^ (j - 4 * g) := Nat.pow_le_pow_right (by decide) (by omega)))
  rw [wd_bit M g m j hm, hb, Nat.testBit_mul_two_pow m, hc]
  simp
def undB (k o : Nat) : Bool := decide (k = o ∨ o = 0 ∨ (o = 1 ∧ 2 ≤ k ∧ k ≤ 4))
theorem x0 (d : Nat) (h : AH) (x : Int32) : E d 0 0 [some (.int x)] [] h = some (some (.int (bI (inR x 6))), h) := by
  rcases inR_cases x (n := 6) (by decide) with ⟨g, hg, rfl⟩ | ⟨e, e1, e2⟩ | ⟨e, e1, e2, e3, e4, e5⟩
  · rw [inR_nI (by omega) (by decide)]
    have : ¬ 5 < g := by omega
    simp (disch := omega) only [s0_0, s0_1, s0_2, s0_3, s0_4, s0_5, s0_6, s0_7, s0_8, ↓reduceIte, Option.bind_some, Option.toList_some, Option.toList_none, List.cons_append, List.nil_append, if_true, if_false, true_or, or_true, true_and, and_true, not_true_eq_false, not_false_eq_true, Nat.reduceLT, Nat.reduceLeDiff, Nat.reduceEqDiff, Nat.reduceAdd, Nat.reduceMul, Nat.reduceSub, Nat.reducePow, Nat.reduceMod, Nat.reduceDiv, l0, l1, l2, l3, l4, l5, l6, l7, l8, l9, l10, l11, l12, l13, l14, l15, l16, l20, l31, l32, l36, l40, l48, l57, l59, l63, l64, l97, l99, l100, l101, l122, l127, l128, l250, l255, l262143, l262144, l30000, l100000, l12345, l1024, l4095, nI_eqs, nI_les, nI_lts, qI_eq, qI_eqn, nI_eqq, qI_lts, nI_ltp, nI_lep, qI_les, nI_add, nI_mul, qI_add, qI_s, qI_def, nI_clamps, bI_z, bI_o, bI_01, n01, n11, rf_some, rf_none, m1, m1n, this, Nat.not_lt_zero, hg, decide_true, bI_t]
  · simp (disch := omega) only [s0_0, s0_1, s0_2, s0_3, s0_4, s0_5, s0_6, s0_7, s0_8, ↓reduceIte, Option.bind_some, Option.toList_some, Option.toList_none, List.cons_append, List.nil_append, if_true, if_false, true_or, or_true, true_and, and_true, not_true_eq_false, not_false_eq_true, Nat.reduceLT, Nat.reduceLeDiff, Nat.reduceEqDiff, Nat.reduceAdd, Nat.reduceMul, Nat.reduceSub, Nat.reducePow, Nat.reduceMod, Nat.reduceDiv, l0, l1, l2, l3, l4, l5, l6, l7, l8, l9, l10, l11, l12, l13, l14, l15, l16, l20, l31, l32, l36, l40, l48, l57, l59, l63, l64, l97, l99, l100, l101, l122, l127, l128, l250, l255, l262143, l262144, l30000, l100000, l12345, l1024, l4095, nI_eqs, nI_les, nI_lts, qI_eq, qI_eqn, nI_eqq, qI_lts, nI_ltp, nI_lep, qI_les, nI_add, nI_mul, qI_add, qI_s, qI_def, nI_clamps, bI_z, bI_o, bI_01, n01, n11, rf_some, rf_none, m1, m1n, e, e1, bI_f]
  · simp (disch := omega) only [s0_0, s0_1, s0_2, s0_3, s0_4, s0_5, s0_6, s0_7, s0_8, ↓reduceIte, Option.bind_some, Option.toList_some, Option.toList_none, List.cons_append, List.nil_append, if_true, if_false, true_or, or_true, true_and, and_true, not_true_eq_false, not_false_eq_true, Nat.reduceLT, Nat.reduceLeDiff, Nat.reduceEqDiff, Nat.reduceAdd, Nat.reduceMul, Nat.reduceSub, Nat.reducePow, Nat.reduceMod, Nat.reduceDiv, l0, l1, l2, l3, l4, l5, l6, l7, l8, l9, l10, l11, l12, l13, l14, l15, l16, l20, l31, l32, l36, l40, l48, l57, l59, l63, l64, l97, l99, l100, l101, l122, l127, l128, l250, l255, l262143, l262144, l30000, l100000, l12345, l1024, l4095, nI_eqs, nI_les, nI_lts, qI_eq, qI_eqn, nI_eqq, qI_lts, nI_ltp, nI_lep, qI_les, nI_add, nI_mul, qI_add, qI_s, qI_def, nI_clamps, bI_z, bI_o, bI_01, n01, n11, rf_some, rf_none, m1, m1n, e, e1, (e5 5 rfl).2, bI_f]
theorem x1 (d : Nat) (h : AH) {k o : Nat} (hk : k < 100) (ho : o < 100) : E d 1 0 [some (.int (nI k)), some (.int (nI o))] [] h = some (some (.int (bI (undB k o))), h) := by
  simp (disch := omega) only [s1_0, s1_1, s1_2, s1_3, s1_4, s1_5, s1_6, s1_7, s1_8, s1_9, s1_10, s1_11, s1_12, s1_13, s1_14, s1_15, s1_16, s1_17, ↓reduceIte, Option.bind_some, Option.toList_some, Option.toList_none, List.cons_append, List.nil_append, if_true, if_false, true_or, or_true, true_and, and_true, not_true_eq_false, not_false_eq_true, Nat.reduceLT, Nat.reduceLeDiff, Nat.reduceEqDiff, Nat.reduceAdd, Nat.reduceMul, Nat.reduceSub, Nat.reducePow, Nat.reduceMod, Nat.reduceDiv, l0, l1, l2, l3, l4, l5, l6, l7, l8, l9, l10, l11, l12, l13, l14, l15, l16, l20, l31, l32, l36, l40, l48, l57, l59, l63, l64, l97, l99, l100, l101, l122, l127, l128, l250, l255, l262143, l262144, l30000, l100000, l12345, l1024, l4095, nI_eqs, nI_les, nI_lts, qI_eq, qI_eqn, nI_eqq, qI_lts, nI_ltp, nI_lep, qI_les, nI_add, nI_mul, qI_add, qI_s, qI_def, nI_clamps, bI_z, bI_o, bI_01, n01, n11, rf_some, rf_none, m1, m1n]
  unfold undB
  by_cases a1 : k = o
  · simp [a1, bI]
  · by_cases a2 : o = 0
    · simp [a2, bI]
    · by_cases a3 : o = 1
      · subst a3
        by_cases a4 : 2 ≤ k
        · by_cases a5 : k ≤ 4
          · have e : ¬ k < 2 := by omega
            have e' : ¬ 4 < k := by omega
            simp [a1, a4, a5, e, e', bI]
          · have e : ¬ k < 2 := by omega
            have e' : 4 < k := by omega
            simp [a1, a5, e, e', bI]
        · have e : k < 2 := by omega
          simp [a1, a4, e, bI]
      · simp [a1, a2, a3, bI]
theorem x2 (d : Nat) (h : AH) {f s : Nat} (hf : f < 4) (hs : s < 4) : E d 2 0 [some (.int (qI f)), some (.int (qI s))] [] h = some (some (.int (nI (f + 4 * s))), h) := by
  simp (disch := omega) only [s2_0, s2_1, s2_2, s2_3, s2_4, s2_5, s2_6, s2_7, s2_8, s2_9, ↓reduceIte, Option.bind_some, Option.toList_some, Option.toList_none, List.cons_append, List.nil_append, if_true, if_false, true_or, or_true, true_and, and_true, not_true_eq_false, not_false_eq_true, Nat.reduceLT, Nat.reduceLeDiff, Nat.reduceEqDiff, Nat.reduceAdd, Nat.reduceMul, Nat.reduceSub, Nat.reducePow, Nat.reduceMod, Nat.reduceDiv, l0, l1, l2, l3, l4, l5, l6, l7, l8, l9, l10, l11, l12, l13, l14, l15, l16, l20, l31, l32, l36, l40, l48, l57, l59, l63, l64, l97, l99, l100, l101, l122, l127, l128, l250, l255, l262143, l262144, l30000, l100000, l12345, l1024, l4095, nI_eqs, nI_les, nI_lts, qI_eq, qI_eqn, nI_eqq, qI_lts, nI_ltp, nI_lep, qI_les, nI_add, nI_mul, qI_add, qI_s, qI_def, nI_clamps, bI_z, bI_o, bI_01, n01, n11, rf_some, rf_none, m1, m1n, nI_and, nI_or, nI_shl', nI_shr', a31, or4]
theorem x3 (d : Nat) (h : AH) {f s : Nat} (hf : f < 4) (hs : s < 4) : E d 3 0 [some (.int (nI (f + 4 * s)))] [] h = some (some (.int (qI f)), h) := by
  simp (disch := omega) only [s3_0, s3_1, s3_2, s3_3, s3_4, s3_5, ↓reduceIte, Option.bind_some, Option.toList_some, Option.toList_none, List.cons_append, List.nil_append, if_true, if_false, true_or, or_true, true_and, and_true, not_true_eq_false, not_false_eq_true, Nat.reduceLT, Nat.reduceLeDiff, Nat.reduceEqDiff, Nat.reduceAdd, Nat.reduceMul, Nat.reduceSub, Nat.reducePow, Nat.reduceMod, Nat.reduceDiv, l0, l1, l2, l3, l4, l5, l6, l7, l8, l9, l10, l11, l12, l13, l14, l15, l16, l20, l31, l32, l36, l40, l48, l57, l59, l63, l64, l97, l99, l100, l101, l122, l127, l128, l250, l255, l262143, l262144, l30000, l100000, l12345, l1024, l4095, nI_and, nI_or, nI_shl', nI_shr', a31, and3, qI_def]
theorem x4 (d : Nat) (h : AH) {f s : Nat} (hf : f < 4) (hs : s < 4) : E d 4 0 [some (.int (nI (f + 4 * s)))] [] h = some (some (.int (qI s)), h) := by
  simp (disch := omega) only [s4_0, s4_1, s4_2, s4_3, s4_4, s4_5, s4_6, s4_7, ↓reduceIte, Option.bind_some, Option.toList_some, Option.toList_none, List.cons_append, List.nil_append, if_true, if_false, true_or, or_true, true_and, and_true, not_true_eq_false, not_false_eq_true, Nat.reduceLT, Nat.reduceLeDiff, Nat.reduceEqDiff, Nat.reduceAdd, Nat.reduceMul, Nat.reduceSub, Nat.reducePow, Nat.reduceMod, Nat.reduceDiv, l0, l1, l2, l3, l4, l5, l6, l7, l8, l9, l10, l11, l12, l13, l14, l15, l16, l20, l31, l32, l36, l40, l48, l57, l59, l63, l64, l97, l99, l100, l101, l122, l127, l128, l250, l255, l262143, l262144, l30000, l100000, l12345, l1024, l4095, nI_and, nI_or, nI_shl', nI_shr', a31, div4, and3', qI_def]
theorem x5 (d : Nat) (h : AH) {M g : Nat} (hM : M < 2 ^ 31) (hg : g < 8) : E d 5 0 [some (.int (nI M)), some (.int (nI g))] [] h = some (some (.int (nI (dg M g))), h) := by
  simp (disch := omega) only [s5_0, s5_1, s5_2, s5_3, s5_4, s5_5, s5_6, s5_7, ↓reduceIte, Option.bind_some, Option.toList_some, Option.toList_none, List.cons_append, List.nil_append, if_true, if_false, true_or, or_true, true_and, and_true, not_true_eq_false, not_false_eq_true, Nat.reduceLT, Nat.reduceLeDiff, Nat.reduceEqDiff, Nat.reduceAdd, Nat.reduceMul, Nat.reduceSub, Nat.reducePow, Nat.reduceMod, Nat.reduceDiv, l0, l1, l2, l3, l4, l5, l6, l7, l8, l9, l10, l11, l12, l13, l14, l15, l16, l20, l31, l32, l36, l40, l48, l57, l59, l63, l64, l97, l99, l100, l101, l122, l127, l128, l250, l255, l262143, l262144, l30000, l100000, l12345, l1024, l4095, nI_mul, nI_and, nI_or, nI_shl', nI_shr', a31, and15, dg]
theorem x6 (d : Nat) (h : AH) {M g m : Nat} (hM : M < 2 ^ 31) (hg : g < 8) (hm : m < 16) : E d 6 0 [some (.int (nI M)), some (.int (nI g)), some (.int (nI m))] [] h = some (some (.int (nI (wd M g m))), h) := by
  simp (disch := omega) only [s6_0, s6_1, s6_2, s6_3, s6_4, s6_5, s6_6, s6_7, s6_8, s6_9, s6_10, s6_11, s6_12, s6_13, s6_14, s6_15, ↓reduceIte, Option.bind_some, Option.toList_some, Option.toList_none, List.cons_append, List.nil_append, if_true, if_false, true_or, or_true, true_and, and_true, not_true_eq_false, not_false_eq_true, Nat.reduceLT, Nat.reduceLeDiff, Nat.reduceEqDiff, Nat.reduceAdd, Nat.reduceMul, Nat.reduceSub, Nat.reducePow, Nat.reduceMod, Nat.reduceDiv, l0, l1, l2, l3, l4, l5, l6, l7, l8, l9, l10, l11, l12, l13, l14, l15, l16, l20, l31, l32, l36, l40, l48, l57, l59, l63, l64, l97, l99, l100, l101, l122, l127, l128, l250, l255, l262143, l262144, l30000, l100000, l12345, l1024, l4095, m1, m1n, nI_mul, nI_shl, nI_wd hm]
