/-! LONGS as bits; the developers' line of states -/
theorem li18 : (18 : Int32) = nI 18 := rfl
theorem lN_or (a b : Nat) : lN a ||| lN b = lN (a ||| b) := by
  apply Int64.toBitVec_inj.mp
  simp [lN, Int64.toBitVec_ofNat', BitVec.ofNat_or]
theorem sh63 {k : Nat} (h : k < 64) : (lN k &&& lN 63) = lN k := by
  rw [lN_and]; congr 1
  rw [show (63 : Nat) = 2 ^ 6 - 1 from rfl, Nat.and_two_pow_sub_one_eq_mod]; exact Nat.mod_eq_of_lt h
theorem lN_shl {a k : Nat} (h : k < 64) : lN a <<< (lN k &&& lN 63) = lN (a * 2 ^ k) := by
  rw [sh63 h]
  apply Int64.toBitVec_inj.mp
  rw [Int64.toBitVec_shiftLeft]
  have e : (lN k).toBitVec.smod 64 = BitVec.ofNat 64 k := by
    revert k; decide
  rw [e]
  apply BitVec.eq_of_toNat_eq
  simp [lN, Nat.shiftLeft_eq, Nat.mod_eq_of_lt (show k < 18446744073709551616 by omega), Int64.toBitVec_ofNat']
theorem lN_toInt' {n : Nat} (h : n < 2 ^ 63) : (lN n).toInt = (n : Int) := by
  unfold lN
  rw [Int64.toInt_ofNat_of_lt h]
theorem lN_shr {a k : Nat} (ha : a < 2 ^ 63) (h : k < 64) : lN a >>> (lN k &&& lN 63) = lN (a / 2 ^ k) := by
  rw [sh63 h]
  apply Int64.toInt_inj.mp
  have hd : a / 2 ^ k ≤ a := Nat.div_le_self _ _
  have e : (lN k).toBitVec.smod 64 = BitVec.ofNat 64 k := by
    clear ha hd a; revert k; decide
  have q : (lN a >>> lN k).toInt = (lN a).toInt >>> k := by
    show (lN a >>> lN k).toBitVec.toInt = _
    rw [Int64.toBitVec_shiftRight, e]
    rw [BitVec.sshiftRight_eq', BitVec.toInt_sshiftRight]
    rw [BitVec.toNat_ofNat, Nat.mod_eq_of_lt (by omega)]
    rfl
  rw [q, lN_toInt' ha, lN_toInt' (by omega), Int.shiftRight_eq_div_pow]
  rfl
theorem lN_i3 (a : Nat) : (lN a).toInt32 = nI a := by
  apply Int32.toBitVec_inj.mp
  apply BitVec.eq_of_toNat_eq
  simp [lN, nI, Int64.toBitVec_ofNat', Int32.toBitVec_ofNat']
theorem lN_e {a b : Nat} (ha : a < 2 ^ 64) (hb : b < 2 ^ 64) (h : lN a = lN b) : a = b := by
  have q := congrArg (fun v => v.toBitVec.toNat) h
  simp only [lN, Int64.toBitVec_ofNat', BitVec.toNat_ofNat] at q
  rw [Nat.mod_eq_of_lt ha, Nat.mod_eq_of_lt hb] at q
  exact q
theorem lN_z {a : Nat} (h : a < 2 ^ 64) : (lg_cmp (lN a) (lN 0) = nI 0) = (a = 0) := by
  have e0 : (lg_cmp (lN a) (lN 0) = nI 0) = (lN a = lN 0) := propext (lg_cmp_eq (lN a) (lN 0))
  rw [e0]
  exact propext ⟨fun q => lN_e h (by decide) q, fun q => by rw [q]⟩
theorem lN_of (v : Int64) : v = lN v.toBitVec.toNat := by
  apply Int64.toBitVec_inj.mp
  apply BitVec.eq_of_toNat_eq
  simp [lN, Int64.toBitVec_ofNat']
theorem stA_lN {W : Nat} (h : W < 2 ^ 64) : stA (lN W) = W % 262144 := by
  unfold stA
  simp only [lN, Int64.toBitVec_ofNat', BitVec.toNat_ofNat]
  rw [Nat.mod_eq_of_lt h]
theorem and18 (a : Nat) : a &&& 262143 = a % 262144 := by
  rw [show (262143 : Nat) = 2 ^ 18 - 1 from rfl, Nat.and_two_pow_sub_one_eq_mod]
theorem and64 (a : Nat) : a &&& 63 = a % 64 := by
  rw [show (63 : Nat) = 2 ^ 6 - 1 from rfl, Nat.and_two_pow_sub_one_eq_mod]
/-- a step in the line -/
def wk3 (s p k : Nat) : Nat := s + p * 262144 + k * 68719476736
theorem wk3_f {s p k : Nat} (hs : s < 262144) (hp : p < 262144) (hk : k < 4) : wk3 s p k < 2 ^ 63 ∧ wk3 s p k % 262144 = s ∧ wk3 s p k / 262144 % 262144 = p ∧ wk3 s p k / 68719476736 = k := by
  unfold wk3; omega
theorem wk3_or {s p k : Nat} (hs : s < 262144) (hp : p < 262144) : s ||| p * 262144 ||| k * 68719476736 = wk3 s p k := by
  have e1 := Nat.two_pow_add_eq_or_of_lt (show s < 2 ^ 18 by omega) p
  have e2 := Nat.two_pow_add_eq_or_of_lt (show s + p * 262144 < 2 ^ 36 by omega) k
  simp only [Nat.reducePow] at e1 e2
  have f1 : s ||| p * 262144 = s + p * 262144 := by rw [Nat.or_comm, Nat.mul_comm, ← e1]; omega
  have f2 : (s + p * 262144) ||| k * 68719476736 = s + p * 262144 + k * 68719476736 := by rw [Nat.or_comm, Nat.mul_comm k, ← e2]; omega
  rw [f1, f2]; rfl
def SA (h : AH) (B l e : Nat) : Prop := hS h (B + 28) = some (100, 0) ∧ hR h (B + 28) 0 = some (B + 29) ∧ hS h (B + 29) = some (1, 4096) ∧ hR h (B + 28) 1 = some l ∧ (l = B + 30 ∨ B + 48 ≤ l) ∧ l < hN h ∧ hS h l = some (1, 1024 * 2 ^ e) ∧ e ≤ 8
def LN (h : AH) (l c : Nat) (S P C : Nat → Nat) : Prop := ∀ i, i < c → hL h l i = lN (wk3 (S i) (P i) (C i)) ∧ S i < 262144 ∧ P i < 262144 ∧ C i < 4
def SN (h : AH) (B c : Nat) (S : Nat → Nat) : Prop := ∀ w, ∃ V, V < 2 ^ 64 ∧ hL h (B + 29) w = lN V ∧ ∀ b, b < 64 → (V.testBit b = true ↔ ∃ j, j < c ∧ S j = 64 * w + b)
/-- the search at work: nothing else than its cells -/
def FQ (B l : Nat) (h h' : AH) : Prop := KW (fun b => b < hN h ∧ b ≠ B + 28 ∧ b ≠ B + 29 ∧ b ≠ l) h h' ∧ ∀ b, b < hN h → hS h' b = hS h b
theorem FQ.refl (B l : Nat) (h : AH) : FQ B l h h := ⟨KW.refl _ _, fun _ _ => rfl⟩
theorem FQ.trans {B l l1 : Nat} {h h1 h2 : AH} (f : FQ B l h h1) (g : FQ B l1 h1 h2) (e : l1 = l ∨ hN h ≤ l1) : FQ B l h h2 := by
  obtain ⟨⟨a1, a2, a3, a4, a5⟩, a6⟩ := f
  obtain ⟨⟨b1, b2, b3, b4, b5⟩, b6⟩ := g
  refine ⟨⟨b1.trans a1, b2.trans a2, Nat.le_trans a3 b3, Nat.le_trans a4 b4, fun b hb => ?_⟩, fun b hb => (b6 b (by omega)).trans (a6 b hb)⟩
  have x := a5 b hb
  have y := b5 b ⟨by omega, hb.2.1, hb.2.2.1, by omega⟩
  exact ⟨y.1.trans x.1, fun j => ⟨(y.2 j).1.trans (x.2 j).1, (y.2 j).2.1.trans (x.2 j).2.1, (y.2 j).2.2.trans (x.2 j).2.2⟩⟩
theorem Fr0.fq {B l : Nat} {X : Nat → Prop} {h h' : AH} (f : Fr0 X h h') (n : ∀ b, X b → b = B + 28 ∨ b = B + 29 ∨ b = l) : FQ B l h h' := by
  refine ⟨f.kw (fun b hb w => ?_), fun b _ => by rw [f.2.2.2.2.1]⟩
  have := n b hb
  omega
theorem SA.fr0 {B l e : Nat} {X : Nat → Prop} {h h' : AH} (x : SA h B l e) (f : Fr0 X h h') : SA h' B l e := by
  unfold SA at *
  rw [f.1, f.2.2.2.2.1, f.2.2.2.2.2.1]; exact x
theorem x16 (d : Nat) {h : AH} {B l e i : Nat} (sa : SA h B l e) (hi : i < 1024 * 2 ^ e) : E d 16 0 [some (.ref (B + 28)), some (.int (nI i))] [] h = some (some (.int (nI (stA (hL h l i)))), h) := by
  obtain ⟨a1, a2, a3, a4, a5, a6, a7, a8⟩ := sa
  have e9 : 2 ^ e ≤ 2 ^ 8 := Nat.pow_le_pow_right (by decide) a8
  have q : nI (hL h l i).toBitVec.toNat &&& nI 262143 = nI (stA (hL h l i)) := by rw [nI_and, and18]; rfl
  have q2 : (hL h l i).toInt32 = nI (hL h l i).toBitVec.toNat := by
    have := lN_i3 (hL h l i).toBitVec.toNat
    rw [← lN_of] at this; exact this
  simp (disch := omega) only [s16_0, s16_1, s16_2, s16_3, s16_4, s16_5, s16_6, s16_7, ↓reduceIte, Option.bind_some, Option.toList_some, Option.toList_none, List.cons_append, List.nil_append, if_true, if_false, true_or, or_true, true_and, and_true, not_true_eq_false, not_false_eq_true, Nat.reduceLT, Nat.reduceLeDiff, Nat.reduceEqDiff, Nat.reduceAdd, Nat.reduceMul, Nat.reduceSub, Nat.reducePow, Nat.reduceMod, Nat.reduceDiv, l0, l1, l2, l3, l4, l5, l6, l7, l8, l9, l10, l11, l12, l13, l14, l15, l16, l20, l31, l32, l36, l40, l48, l57, l59, l63, l64, l97, l99, l100, l101, l122, l127, l128, l250, l255, l262143, l262144, l30000, l100000, l12345, l1024, l4095, nI_eqs, nI_les, nI_lts, qI_eq, qI_eqn, nI_eqq, qI_lts, nI_ltp, nI_lep, qI_les, nI_add, nI_mul, qI_add, qI_s, qI_def, nI_clamps, bI_z, bI_o, bI_01, n01, n11, rf_some, rf_none, m1, m1n, bft, a1, a4, gA a7, q2, q]
theorem x17 (d : Nat) {h : AH} {B l e c i : Nat} {S P C : Nat → Nat} (sa : SA h B l e) (ln : LN h l c S P C) (hi : i < c) (hc : c ≤ 1024 * 2 ^ e) : E d 17 0 [some (.ref (B + 28)), some (.int (nI i))] [] h = some (some (.int (nI (P i))), h) := by
  obtain ⟨a1, a2, a3, a4, a5, a6, a7, a8⟩ := sa
  have e9 : 2 ^ e ≤ 2 ^ 8 := Nat.pow_le_pow_right (by decide) a8
  obtain ⟨b1, b2, b3, b4⟩ := ln i hi
  obtain ⟨w1, w2, w3, w4⟩ := wk3_f b2 b3 b4
  have q : lN (wk3 (S i) (P i) (C i)) >>> (lN 18 &&& lN 63) = lN (wk3 (S i) (P i) (C i) / 262144) := lN_shr w1 (by decide)
  have q2 : nI (wk3 (S i) (P i) (C i) / 262144) &&& nI 262143 = nI (P i) := by rw [nI_and, and18, w3]
  simp (disch := omega) only [s17_0, s17_1, s17_2, s17_3, s17_4, s17_5, s17_6, s17_7, s17_8, s17_9, ↓reduceIte, Option.bind_some, Option.toList_some, Option.toList_none, List.cons_append, List.nil_append, if_true, if_false, true_or, or_true, true_and, and_true, not_true_eq_false, not_false_eq_true, Nat.reduceLT, Nat.reduceLeDiff, Nat.reduceEqDiff, Nat.reduceAdd, Nat.reduceMul, Nat.reduceSub, Nat.reducePow, Nat.reduceMod, Nat.reduceDiv, l0, l1, l2, l3, l4, l5, l6, l7, l8, l9, l10, l11, l12, l13, l14, l15, l16, l20, l31, l32, l36, l40, l48, l57, l59, l63, l64, l97, l99, l100, l101, l122, l127, l128, l250, l255, l262143, l262144, l30000, l100000, l12345, l1024, l4095, nI_eqs, nI_les, nI_lts, qI_eq, qI_eqn, nI_eqq, qI_lts, nI_ltp, nI_lep, qI_les, nI_add, nI_mul, qI_add, qI_s, qI_def, nI_clamps, bI_z, bI_o, bI_01, n01, n11, rf_some, rf_none, m1, m1n, bft, li18, j63, nI_l, a1, a4, gA a7, b1, q, lN_i3, q2]
theorem stA_16 {h : AH} {l c i : Nat} {S P C : Nat → Nat} (ln : LN h l c S P C) (hi : i < c) : stA (hL h l i) = S i := by
  obtain ⟨b1, b2, b3, b4⟩ := ln i hi
  obtain ⟨w1, w2, w3, w4⟩ := wk3_f b2 b3 b4
  rw [b1, stA_lN (by omega), w2]
/-- the last search is wiped -/
theorem x13 (d : Nat) {h : AH} {B l e c : Nat} (sa : SA h B l e) (hc : c ≤ 1024 * 2 ^ e) (h2 : hI h (B + 28) 2 = nI c) (nz : ∀ w, hL h (B + 29) w ≠ 0 → ∃ i, i < c ∧ stA (hL h l i) / 64 = w) (p1 : Option Value) : ∃ h', E (d + 1) 13 0 [some (.ref (B + 28)), p1] [] h = some (none, h') ∧ SA h' B l e ∧ hI h' (B + 28) 2 = nI 0 ∧ (∀ w, hL h' (B + 29) w = 0) ∧ Fr0 (fun b => b = B + 28 ∨ b = B + 29) h h' := by
  have e9 : 2 ^ e ≤ 2 ^ 8 := Nat.pow_le_pow_right (by decide) sa.2.2.2.2.2.2.2
  have lB : l ≠ B + 28 ∧ l ≠ B + 29 := by have := sa.2.2.2.2.1; omega
  have lp : ∀ m i h1, i + m = c → SA h1 B l e → hI h1 (B + 28) 2 = nI c → (∀ j, hL h1 l j = hL h l j) → (∀ w, hL h1 (B + 29) w ≠ 0 → ∃ j, i ≤ j ∧ j < c ∧ stA (hL h l j) / 64 = w) → Fr0 (fun b => b = B + 28 ∨ b = B + 29) h h1 → ∃ h', E (d + 1) 13 2 [some (.ref (B + 28)), some (.int (nI i))] [] h1 = some (none, h') ∧ SA h' B l e ∧ hI h' (B + 28) 2 = nI 0 ∧ (∀ w, hL h' (B + 29) w = 0) ∧ Fr0 (fun b => b = B + 28 ∨ b = B + 29) h h' := by
    intro m
    induction m with
    | zero =>
      intro i h1 hi s1 k1 g1 n1 f1
      have hi' : i = c := hi
      have z1 := s1.1
      have f2 : Fr0 (fun b => b = B + 28 ∨ b = B + 29) h1 (stI h1 (B + 28) 2 (nI 0)) := Fr0.stI (A := fun b => b = B + 28 ∨ b = B + 29) h1 (Or.inl rfl) 2 (nI 0)
      refine ⟨stI h1 (B + 28) 2 (nI 0), ?_, s1.fr0 f2, by rw [hI_stI, if_pos ⟨rfl, rfl⟩], fun w => ?_, f1.trans f2⟩
      · rw [s13_2]
        simp (disch := omega) only [s13_3, s13_4, s13_5, s13_17, s13_18, s13_19, s13_20, ↓reduceIte, Option.bind_some, Option.toList_some, Option.toList_none, List.cons_append, List.nil_append, if_true, if_false, true_or, or_true, true_and, and_true, not_true_eq_false, not_false_eq_true, Nat.reduceLT, Nat.reduceLeDiff, Nat.reduceEqDiff, Nat.reduceAdd, Nat.reduceMul, Nat.reduceSub, Nat.reducePow, Nat.reduceMod, Nat.reduceDiv, l0, l1, l2, l3, l4, l5, l6, l7, l8, l9, l10, l11, l12, l13, l14, l15, l16, l20, l31, l32, l36, l40, l48, l57, l59, l63, l64, l97, l99, l100, l101, l122, l127, l128, l250, l255, l262143, l262144, l30000, l100000, l12345, l1024, l4095, nI_eqs, nI_les, nI_lts, qI_eq, qI_eqn, nI_eqq, qI_lts, nI_ltp, nI_lep, qI_les, nI_add, nI_mul, qI_add, qI_s, qI_def, nI_clamps, bI_z, bI_o, bI_01, n01, n11, rf_some, rf_none, m1, m1n, bft, z1, k1, hi', Nat.le_refl]
      · refine Classical.byContradiction fun q => ?_
        obtain ⟨j, j1, j2, j3⟩ := n1 w q
        omega
    | succ m ih =>
      intro i h1 hi s1 k1 g1 n1 f1
      have hl : ¬ c ≤ i := by omega
      have z1 := s1.1
      have z2 := s1.2.1
      have z3 := s1.2.2.1
      have e16 := fun d => x16 d (i := i) s1 (by omega)
      rw [g1] at e16
      have s18 : stA (hL h l i) < 262144 := Nat.mod_lt _ (by decide)
      generalize hs : stA (hL h l i) = s at *
      have f2 : Fr0 (fun b => b = B + 28 ∨ b = B + 29) h1 (stL h1 (B + 29) (s / 64) 0) := Fr0.stL (A := fun b => b = B + 28 ∨ b = B + 29) h1 (Or.inr rfl) _ _
      have st : E (d + 1) 13 2 [some (.ref (B + 28)), some (.int (nI i))] [] h1 = E (d + 1) 13 2 [some (.ref (B + 28)), some (.int (nI (i + 1)))] [] (stL h1 (B + 29) (s / 64) 0) := by
        rw [s13_2]
        simp (disch := omega) only [s13_3, s13_4, s13_5, s13_6, s13_7, s13_8, s13_9, s13_10, s13_11, s13_12, s13_13, s13_14, s13_15, s13_16, ↓reduceIte, Option.bind_some, Option.toList_some, Option.toList_none, List.cons_append, List.nil_append, if_true, if_false, true_or, or_true, true_and, and_true, not_true_eq_false, not_false_eq_true, Nat.reduceLT, Nat.reduceLeDiff, Nat.reduceEqDiff, Nat.reduceAdd, Nat.reduceMul, Nat.reduceSub, Nat.reducePow, Nat.reduceMod, Nat.reduceDiv, l0, l1, l2, l3, l4, l5, l6, l7, l8, l9, l10, l11, l12, l13, l14, l15, l16, l20, l31, l32, l36, l40, l48, l57, l59, l63, l64, l97, l99, l100, l101, l122, l127, l128, l250, l255, l262143, l262144, l30000, l100000, l12345, l1024, l4095, nI_eqs, nI_les, nI_lts, qI_eq, qI_eqn, nI_eqq, qI_lts, nI_ltp, nI_lep, qI_les, nI_add, nI_mul, qI_add, qI_s, qI_def, nI_clamps, bI_z, bI_o, bI_01, n01, n11, rf_some, rf_none, m1, m1n, bft, nI_and, nI_or, nI_shl', nI_shr', a31, z1, z2, gA z3, k1, hl, e16]
      rw [st]
      refine ih (i + 1) _ (by omega) (s1.fr0 f2) k1 (fun j => ?_) (fun w hw => ?_) (f1.trans f2)
      · rw [hL_stL, if_neg (fun q => lB.2 q.1)]; exact g1 j
      · rw [hL_stL] at hw
        by_cases q : B + 29 = B + 29 ∧ w = s / 64
        · rw [if_pos q] at hw; exact absurd rfl hw
        · rw [if_neg q] at hw
          obtain ⟨j, j1, j2, j3⟩ := n1 w hw
          refine ⟨j, ?_, j2, j3⟩
          rcases Nat.eq_or_lt_of_le j1 with w | w
          · subst w; rw [hs] at j3; exact absurd ⟨rfl, j3.symm⟩ q
          · omega
  have := lp c 0 h (by omega) sa h2 (fun _ => rfl) (fun w hw => by
    obtain ⟨i, i1, i2⟩ := nz w hw
    exact ⟨i, Nat.zero_le _, i1, i2⟩) (Fr0.refl _ _)
  rw [s13_0, s13_1]
  exact this
