/-! THE LINE grows, and takes a state more -/
/-- Math.min of the number of states and what the line would grow to -/
theorem mnI_st {b : Nat} (hb : b ≤ 262144) : mnI (nI 262144) (nI b) = nI b := by
  unfold mnI
  rcases Nat.lt_or_ge b 262144 with w | w
  · rw [if_pos ((nI_ltI (by omega) (by decide)).mpr w)]
  · rw [show b = 262144 by omega, if_neg (fun q => absurd ((nI_ltI (by decide) (by decide)).mp q) (by decide))]
theorem c15 (d : Nat) {h : AH} {B l e : Nat} (sa : SA h B l e) (he : e < 8) (hB : B + 48 ≤ hN h) (p1 : Option Value) : ∃ h', E d 15 0 [some (.ref (B + 28)), p1] [] h = some (none, h') ∧ SA h' B (hN h) (e + 1) ∧ (∀ i, i < 1024 * 2 ^ e → hL h' (hN h) i = hL h l i) ∧ (∀ b, b < hN h → ∀ j, hI h' b j = hI h b j ∧ hL h' b j = hL h b j) ∧ FQ B l h h' ∧ hN h' = hN h + 1 ∧ hU h' = hU h + 2048 * 2 ^ e := by
  obtain ⟨a1, a2, a3, a4, a5, a6, a7, a8⟩ := sa
  have e9 : 2 ^ e ≤ 2 ^ 7 := Nat.pow_le_pow_right (by decide) (by omega)
  have e10 : 2 ^ (e + 1) = 2 * 2 ^ e := by rw [Nat.pow_succ]; omega
  generalize 2 ^ e = q at *
  have nl : l ≠ hN h := by omega
  have nB : B + 28 ≠ hN h := by omega
  refine ⟨stR (cpL (newC h (1, 2048 * q) (2048 * q)) l 0 (hN h) 0 (1024 * q)) (B + 28) 1 (some (hN h)), ?_, ?_, ?_, ?_, ?_, rfl, rfl⟩
  · have n1 : hS (newC h (1, 2048 * q) (2048 * q)) (B + 28) = some (100, 0) := by show (if B + 28 = hN h then _ else _) = _; rw [if_neg nB]; exact a1
    have n2 : hR (newC h (1, 2048 * q) (2048 * q)) (B + 28) 1 = some l := by show (if B + 28 = hN h then _ else _) = _; rw [if_neg nB]; exact a4
    have n3 : hS (newC h (1, 2048 * q) (2048 * q)) l = some (1, 1024 * q) := by show (if l = hN h then _ else _) = _; rw [if_neg nl]; exact a7
    have n4 : hS (newC h (1, 2048 * q) (2048 * q)) (hN h) = some (1, 2048 * q) := by show (if hN h = hN h then _ else _) = _; rw [if_pos rfl]
    have k1 : knd (newC h (1, 2048 * q) (2048 * q)) l = 1 := by unfold knd; rw [n3]
    have k2 : knd (newC h (1, 2048 * q) (2048 * q)) (hN h) = 1 := by unfold knd; rw [n4]
    have m1 : alen (newC h (1, 2048 * q) (2048 * q)) l 1 = 1024 * q := alen_of n3
    have m2 : alen (newC h (1, 2048 * q) (2048 * q)) (hN h) 1 = 2048 * q := alen_of n4
    have L1 := lenA_of a7 (by decide)
    have L2 := lenA_of n3 (by decide)
    have p3 := pos3n (a := 0) (b := 0) (c := 1024 * q) (by decide) (by decide) (by omega)
    have g1 : hS (cpL (newC h (1, 2048 * q) (2048 * q)) l 0 (hN h) 0 (1024 * q)) (B + 28) = some (100, 0) := n1
    have q2 : 2 * (1024 * q) = 2048 * q := by omega
    have gl : (¬ nI (2048 * q) < nI 0 ∧ 2048 * q ≤ 67108864) = True := by
      rw [nI_lts (by omega) (by decide)]; exact eq_true ⟨by omega, by omega⟩
    have gm : (0 + 1024 * q ≤ 1024 * q ∧ 0 + 1024 * q ≤ 2048 * q) = True := eq_true ⟨by omega, by omega⟩
    have gk : (1024 * q ≤ 1024 * q ∧ 1024 * q ≤ 2048 * q) = True := eq_true ⟨by omega, by omega⟩
    have gn : (0 + 1024 * q ≤ 1024 * q) = True := eq_true (by omega)
    have go : (0 + 1024 * q ≤ 2048 * q) = True := eq_true (by omega)
    have em := mnI_st (b := 2048 * q) (by omega)
    simp (disch := omega) only [s15_0, s15_1, s15_2, s15_3, s15_4, s15_5, s15_6, s15_7, s15_8, s15_9, s15_10, s15_11, s15_12, s15_13, s15_14, s15_15, s15_16, s15_17, s15_18, s15_19, s15_20, s15_21, ↓reduceIte, Option.bind_some, Option.toList_some, Option.toList_none, List.cons_append, List.nil_append, if_true, if_false, true_or, or_true, true_and, and_true, not_true_eq_false, not_false_eq_true, Nat.reduceLT, Nat.reduceLeDiff, Nat.reduceEqDiff, Nat.reduceAdd, Nat.reduceMul, Nat.reduceSub, Nat.reducePow, Nat.reduceMod, Nat.reduceDiv, l0, l1, l2, l3, l4, l5, l6, l7, l8, l9, l10, l11, l12, l13, l14, l15, l16, l20, l31, l32, l36, l40, l48, l57, l59, l63, l64, l97, l99, l100, l101, l122, l127, l128, l250, l255, l262143, l262144, l30000, l100000, l12345, l1024, l4095, nI_mul, nI_clamps, rf_some, em, a1, a4, L1, L2, q2, gl, n1, n2, p3, k1, k2, m1, m2, gm, gk, gn, go, g1, Nat.one_ne_zero, Nat.zero_add, and_self, false_and]
  · refine ⟨?_, ?_, ?_, ?_, Or.inr hB, ?_, ?_, by omega⟩
    · show (if B + 28 = hN h then _ else _) = _; rw [if_neg nB]; exact a1
    · show (if B + 28 = B + 28 ∧ (0 : Nat) = 1 then _ else if B + 28 = hN h then _ else _) = _
      rw [if_neg (fun w => absurd w.2 (by decide)), if_neg nB]; exact a2
    · show (if B + 29 = hN h then _ else _) = _; rw [if_neg (by omega)]; exact a3
    · show (if B + 28 = B + 28 ∧ (1 : Nat) = 1 then _ else _) = _
      rw [if_pos ⟨rfl, rfl⟩]
    · show hN h < hN h + 1; omega
    · show (if hN h = hN h then some (1, 2048 * q) else _) = _
      rw [if_pos rfl, e10, show 1024 * (2 * q) = 2048 * q by omega]
  · intro i hi
    show (if hN h = hN h then va_cpy _ _ 0 0 (1024 * q) i else _) = _
    rw [if_pos rfl]
    unfold va_cpy
    rw [if_pos ⟨Nat.zero_le _, by omega⟩]
    show (if l = hN h then _ else hL h l (0 + (i - 0))) = _
    rw [if_neg nl, Nat.zero_add, Nat.sub_zero]
  · intro b hb j
    refine ⟨?_, ?_⟩
    · show (if b = hN h then _ else _) = _; rw [if_neg (by omega)]
    · show (if b = hN h then _ else if b = hN h then _ else _) = _; rw [if_neg (by omega), if_neg (by omega)]
  · refine ⟨⟨rfl, rfl, by show hN h ≤ hN h + 1; omega, by show hU h ≤ hU h + 2048 * q; omega, fun b hb => ⟨?_, fun j => ⟨?_, ?_, ?_⟩⟩⟩, fun b hb => ?_⟩
    · show (if b = hN h then _ else _) = _; rw [if_neg (by omega)]
    · show (if b = hN h then _ else _) = _; rw [if_neg (by omega)]
    · show (if b = hN h then _ else if b = hN h then _ else _) = _; rw [if_neg (by omega), if_neg (by omega)]
    · show (if b = B + 28 ∧ j = 1 then _ else if b = hN h then _ else _) = _
      rw [if_neg (fun w => hb.2.1 w.1), if_neg (by omega)]
    · show (if b = hN h then _ else _) = _; rw [if_neg (by omega)]
theorem and_pw {V b : Nat} : (V &&& 2 ^ b = 0) = (V.testBit b = false) := by
  apply propext
  constructor
  · intro h
    have : (V &&& 2 ^ b).testBit b = false := by rw [h, Nat.zero_testBit]
    rw [Nat.testBit_and, tb2, decide_eq_true rfl, Bool.and_true] at this
    exact this
  · intro h
    apply Nat.eq_of_testBit_eq
    intro j
    rw [Nat.zero_testBit, Nat.testBit_and, tb2]
    by_cases e : b = j
    · subst e; rw [h, Bool.false_and]
    · rw [decide_eq_false e, Bool.and_false]
theorem LN.app {h h' : AH} {l l' c s p k : Nat} {S P C : Nat → Nat} (x : LN h l c S P C) (hs : s < 262144) (hp : p < 262144) (hk : k < 4) (e : ∀ i, i < c → hL h' l' i = hL h l i) (ec : hL h' l' c = lN (wk3 s p k)) : LN h' l' (c + 1) (fup S c s) (fup P c p) (fup C c k) := by
  intro i hi
  by_cases q : i = c
  · rw [q, fup_s, fup_s, fup_s]; exact ⟨ec, hs, hp, hk⟩
  · rw [fup_n _ _ q, fup_n _ _ q, fup_n _ _ q, e i (by omega)]; exact x i (by omega)
theorem SN.app {h h' : AH} {B c s : Nat} {S : Nat → Nat} (x : SN h B c S) {V : Nat} (hV : V < 2 ^ 64) (e0 : hL h (B + 29) (s / 64) = lN V) (e : ∀ w, hL h' (B + 29) w = if w = s / 64 then lN (V ||| 2 ^ (s % 64)) else hL h (B + 29) w) : SN h' B (c + 1) (fup S c s) := by
  intro w
  by_cases q : w = s / 64
  · obtain ⟨V', v1, v2, v3⟩ := x w
    have : V' = V := by
      rw [q, e0] at v2
      exact (lN_e hV v1 v2).symm
    subst this
    refine ⟨V' ||| 2 ^ (s % 64), Nat.or_lt_two_pow v1 (Nat.pow_lt_pow_right (by decide) (by omega)), by rw [e, if_pos q], fun b hb => ?_⟩
    rw [Nat.testBit_or, Bool.or_eq_true, v3 b hb, tb2, decide_eq_true_iff]
    constructor
    · rintro (⟨j, j1, j2⟩ | r)
      · exact ⟨j, by omega, by rw [fup_n _ _ (by omega)]; exact j2⟩
      · exact ⟨c, by omega, by rw [fup_s]; omega⟩
    · rintro ⟨j, j1, j2⟩
      by_cases r : j = c
      · rw [r, fup_s] at j2; exact Or.inr (by omega)
      · rw [fup_n _ _ r] at j2; exact Or.inl ⟨j, by omega, j2⟩
  · obtain ⟨V', v1, v2, v3⟩ := x w
    refine ⟨V', v1, by rw [e, if_neg q]; exact v2, fun b hb => ?_⟩
    rw [v3 b hb]
    constructor
    · rintro ⟨j, j1, j2⟩
      exact ⟨j, by omega, by rw [fup_n _ _ (by omega)]; exact j2⟩
    · rintro ⟨j, j1, j2⟩
      by_cases r : j = c
      · rw [r, fup_s] at j2; omega
      · rw [fup_n _ _ r] at j2; exact ⟨j, by omega, j2⟩
/-- what the line and the seen hold, and how much room it took -/
def QL (h0 h : AH) (B lh0 e0 c : Nat) (S P C : Nat → Nat) : Prop := ∃ l e, SA h B l e ∧ LN h l c S P C ∧ SN h B c S ∧ hI h (B + 28) 2 = nI c ∧ c ≤ 1024 * 2 ^ e ∧ FQ B lh0 h0 h ∧ (l = lh0 ∨ hN h0 ≤ l) ∧ hN h + e0 = hN h0 + e ∧ hU h + 2048 * 2 ^ e0 = hU h0 + 2048 * 2 ^ e
theorem x14o (d : Nat) {h0 h : AH} {B lh0 e0 c : Nat} {S P C : Nat → Nat} (q : QL h0 h B lh0 e0 c S P C) {s : Nat} (hs : s < 262144) (o : ∃ j, j < c ∧ S j = s) (p2 p3 p4 p5 p6 : Option Value) : E (d + 1) 14 0 [some (.ref (B + 28)), some (.int (nI s)), p2, p3, p4, p5, p6] [] h = some (none, h) := by
  obtain ⟨l, e, sa, ln, sn, k2, kc, fq, hl, hn, hu⟩ := q
  obtain ⟨a1, a2, a3, a4, a5, a6, a7, a8⟩ := sa
  obtain ⟨V, v1, v2, v3⟩ := sn (s / 64)
  have m1 : nI s &&& nI 262143 = nI s := by rw [nI_and, and18, Nat.mod_eq_of_lt hs]
  have m2 : nI s &&& nI 63 = nI (s % 64) := by rw [nI_and, and64]
  have m3 : nI s >>> nI 6 = nI (s / 64) := nI_shr' (by omega) (by decide)
  have m4 : nI 6 &&& nI 31 = nI 6 := sh31 (by decide)
  have m5 : lN 1 <<< (lN (s % 64) &&& lN 63) = lN (2 ^ (s % 64)) := by rw [lN_shl (by omega), Nat.one_mul]
  have an : lN V &&& lN (2 ^ (s % 64)) = lN (V &&& 2 ^ (s % 64)) := lN_and _ _
  have tb : V.testBit (s % 64) = true := (v3 (s % 64) (by omega)).mpr (by
    obtain ⟨j, j1, j2⟩ := o
    exact ⟨j, j1, by omega⟩)
  have cz : (lg_cmp (lN (V &&& 2 ^ (s % 64))) (lN 0) = nI 0) = False := by
    rw [lN_z (Nat.and_lt_two_pow _ (Nat.pow_lt_pow_right (by decide) (by omega))), and_pw, tb]; exact eq_false (by decide)
  simp (disch := omega) only [s14_0, s14_1, s14_2, s14_3, s14_4, s14_5, s14_6, s14_7, s14_8, s14_9, s14_10, s14_11, s14_12, s14_13, s14_14, s14_15, s14_16, s14_17, s14_18, s14_19, s14_20, s14_21, ↓reduceIte, Option.bind_some, Option.toList_some, Option.toList_none, List.cons_append, List.nil_append, if_true, if_false, true_or, or_true, true_and, and_true, not_true_eq_false, not_false_eq_true, Nat.reduceLT, Nat.reduceLeDiff, Nat.reduceEqDiff, Nat.reduceAdd, Nat.reduceMul, Nat.reduceSub, Nat.reducePow, Nat.reduceMod, Nat.reduceDiv, l0, l1, l2, l3, l4, l5, l6, l7, l8, l9, l10, l11, l12, l13, l14, l15, l16, l20, l31, l32, l36, l40, l48, l57, l59, l63, l64, l97, l99, l100, l101, l122, l127, l128, l250, l255, l262143, l262144, l30000, l100000, l12345, l1024, l4095, nI_eqs, nI_les, nI_lts, qI_eq, qI_eqn, nI_eqq, qI_lts, nI_ltp, nI_lep, qI_les, nI_add, nI_mul, qI_add, qI_s, qI_def, nI_clamps, bI_z, bI_o, bI_01, n01, n11, rf_some, rf_none, m1, m1n, bft, li18, j0, j1, j63, nI_l, a1, a2, gA a3, m1, m2, m3, m4, m5, v2, an, cz]
theorem x14n (d : Nat) {h0 h : AH} {B lh0 e0 c : Nat} {S P C : Nat → Nat} (q : QL h0 h B lh0 e0 c S P C) {s p k : Nat} (hs : s < 262144) (hp : p < 262144) (hk : k < 4) (o : ∀ j, j < c → S j ≠ s) (hc : c < 262144) (hB : B + 48 ≤ hN h0) (p4 p5 p6 : Option Value) : ∃ h', E (d + 1) 14 0 [some (.ref (B + 28)), some (.int (nI s)), some (.int (nI p)), some (.int (nI k)), p4, p5, p6] [] h = some (none, h') ∧ QL h0 h' B lh0 e0 (c + 1) (fup S c s) (fup P c p) (fup C c k) := by
  obtain ⟨l, e, sa, ln, sn, k2, kc, fq, hl, hn, hu⟩ := q
  have hN0 := fq.1.2.2.1
  have sa' := sa
  obtain ⟨a1, a2, a3, a4, a5, a6, a7, a8⟩ := sa
  obtain ⟨V, v1, v2, v3⟩ := sn (s / 64)
  have m1 : nI s &&& nI 262143 = nI s := by rw [nI_and, and18, Nat.mod_eq_of_lt hs]
  have m2 : nI s &&& nI 63 = nI (s % 64) := by rw [nI_and, and64]
  have m3 : nI s >>> nI 6 = nI (s / 64) := nI_shr' (by omega) (by decide)
  have m4 : nI 6 &&& nI 31 = nI 6 := sh31 (by decide)
  have m5 : lN 1 <<< (lN (s % 64) &&& lN 63) = lN (2 ^ (s % 64)) := by rw [lN_shl (by omega), Nat.one_mul]
  have an : lN V &&& lN (2 ^ (s % 64)) = lN (V &&& 2 ^ (s % 64)) := lN_and _ _
  have orr : lN V ||| lN (2 ^ (s % 64)) = lN (V ||| 2 ^ (s % 64)) := lN_or _ _
  have tb : V.testBit (s % 64) = false := by
    cases w : V.testBit (s % 64)
    · rfl
    · obtain ⟨j, j1, j2⟩ := (v3 (s % 64) (by omega)).mp w
      exact absurd (show S j = s by omega) (o j j1)
  have cz : (lg_cmp (lN (V &&& 2 ^ (s % 64))) (lN 0) = nI 0) = True := by
    rw [lN_z (Nat.and_lt_two_pow _ (Nat.pow_lt_pow_right (by decide) (by omega))), and_pw, tb]; exact eq_true rfl
  have m6 : lN p <<< (lN 18 &&& lN 63) = lN (p * 262144) := lN_shl (by decide)
  have m7 : lN k <<< (lN 36 &&& lN 63) = lN (k * 68719476736) := lN_shl (by decide)
  have m8 : lN s ||| lN (p * 262144) ||| lN (k * 68719476736) = lN (wk3 s p k) := by rw [lN_or, lN_or, wk3_or hs hp]
  have f1 : Fr0 (fun b => b = B + 29) h (stL h (B + 29) (s / 64) (lN (V ||| 2 ^ (s % 64)))) := Fr0.stL (A := fun b => b = B + 29) h rfl _ _
  have nl : l ≠ B + 28 ∧ l ≠ B + 29 := by omega
  have L1 := lenA_of a7 (by decide)
  have e9 : 2 ^ e ≤ 2 ^ 8 := Nat.pow_le_pow_right (by decide) a8
  have k3 : hI (stL h (B + 29) (s / 64) (lN (V ||| 2 ^ (s % 64)))) (B + 28) 2 = nI c := k2
  have ad : nI c + nI 1 = nI (c + 1) := nI_add c 1
  by_cases g : c < 1024 * 2 ^ e
  · have f2 : Fr0 (fun b => b = B + 28) (stL h (B + 29) (s / 64) (lN (V ||| 2 ^ (s % 64)))) (stI (stL h (B + 29) (s / 64) (lN (V ||| 2 ^ (s % 64)))) (B + 28) 2 (nI (c + 1))) := Fr0.stI (A := fun b => b = B + 28) _ rfl _ _
    have f3 : Fr0 (fun b => b = l) (stI (stL h (B + 29) (s / 64) (lN (V ||| 2 ^ (s % 64)))) (B + 28) 2 (nI (c + 1))) (stL (stI (stL h (B + 29) (s / 64) (lN (V ||| 2 ^ (s % 64)))) (B + 28) 2 (nI (c + 1))) l c (lN (wk3 s p k))) := Fr0.stL (A := fun b => b = l) _ rfl _ _
    have F : Fr0 (fun b => b = B + 28 ∨ b = B + 29 ∨ b = l) h (stL (stI (stL h (B + 29) (s / 64) (lN (V ||| 2 ^ (s % 64)))) (B + 28) 2 (nI (c + 1))) l c (lN (wk3 s p k))) := ((f1.mono (fun b w => Or.inr (Or.inl w))).trans (f2.mono (fun b w => Or.inl w))).trans (f3.mono (fun b w => Or.inr (Or.inr w)))
    refine ⟨_, ?_, l, e, sa'.fr0 F, ln.app hs hp hk (fun i hi => ?_) ?_, sn.app v1 v2 (fun w => ?_), ?_, by omega, fq.trans (F.fq (l := l) (fun b w => w)) hl, hl, by rw [F.1]; exact hn, by rw [F.2.1]; exact hu⟩
    · have gc : nI c < nI (1024 * 2 ^ e) := (nI_ltI (by omega) (by omega)).mpr g
      have g2 : hS (stI (stL h (B + 29) (s / 64) (lN (V ||| 2 ^ (s % 64)))) (B + 28) 2 (nI (c + 1))) l = some (1, 1024 * 2 ^ e) := a7
      have gd : (nI (1024 * 2 ^ e) ≤ nI c) = False := by rw [nI_les (by omega) (by omega)]; exact eq_false (by omega)
      simp (disch := omega) only [s14_0, s14_1, s14_2, s14_3, s14_4, s14_5, s14_6, s14_7, s14_8, s14_9, s14_10, s14_11, s14_12, s14_13, s14_14, s14_15, s14_16, s14_17, s14_18, s14_19, s14_20, s14_22, s14_23, s14_24, s14_25, s14_26, s14_27, s14_30, s14_31, s14_32, s14_33, s14_34, s14_35, s14_36, s14_37, s14_38, s14_39, s14_40, s14_41, s14_42, s14_43, s14_44, s14_45, s14_46, s14_47, s14_48, s14_49, s14_50, s14_51, s14_52, s14_53, s14_54, s14_55, s14_56, s14_57, s14_58, s14_59, s14_60, s14_61, s14_62, s14_63, s14_64, s14_65, s14_66, ↓reduceIte, Option.bind_some, Option.toList_some, Option.toList_none, List.cons_append, List.nil_append, if_true, if_false, true_or, or_true, true_and, and_true, not_true_eq_false, not_false_eq_true, Nat.reduceLT, Nat.reduceLeDiff, Nat.reduceEqDiff, Nat.reduceAdd, Nat.reduceMul, Nat.reduceSub, Nat.reducePow, Nat.reduceMod, Nat.reduceDiv, l0, l1, l2, l3, l4, l5, l6, l7, l8, l9, l10, l11, l12, l13, l14, l15, l16, l20, l31, l32, l36, l40, l48, l57, l59, l63, l64, l97, l99, l100, l101, l122, l127, l128, l250, l255, l262143, l262144, l30000, l100000, l12345, l1024, l4095, nI_clamps, rf_some, li18, j0, j1, j63, nI_l, hS_stL, hR_stL, hS_stI, hR_stI, a1, a2, a4, gA a3, gA g2, m1, m2, m3, m4, m5, m6, m7, m8, v2, an, orr, cz, L1, k2, k3, ad, gc, gd]
    · rw [hL_stL, if_neg (fun w => by omega), hL_stI, hL_stL, if_neg (fun w => nl.2 w.1)]
    · rw [hL_stL, if_pos ⟨rfl, rfl⟩]
    · rw [hL_stL, if_neg (fun w => by omega), hL_stI, hL_stL]
      by_cases r : w = s / 64
      · rw [if_pos ⟨rfl, r⟩, if_pos r]
      · rw [if_neg (fun w => r w.2), if_neg r]
    · show hI (stI _ (B + 28) 2 (nI (c + 1))) (B + 28) 2 = _
      rw [hI_stI, if_pos ⟨rfl, rfl⟩]
  · have ce : c = 1024 * 2 ^ e := by omega
    have e8 : e < 8 := by
      rcases Nat.lt_or_ge e 8 with w | w
      · exact w
      · have : e = 8 := by omega
        subst this
        omega
    obtain ⟨h2, e2, sa2, c2, c3, fq2, n2, u2⟩ := c15 d sa' e8 (by omega) none
    have e10 : 2 ^ (e + 1) = 2 * 2 ^ e := by rw [Nat.pow_succ]; omega
    have pe : 0 < 2 ^ e := Nat.two_pow_pos e
    have k4 : hI h2 (B + 28) 2 = nI c := by rw [(c3 (B + 28) (by omega) 2).1]; exact k2
    have v4 : hL h2 (B + 29) (s / 64) = lN V := by rw [(c3 (B + 29) (by omega) _).2]; exact v2
    obtain ⟨b1, b2, b3, b4, b5, b6, b7, b8⟩ := id sa2
    have L2 := lenA_of b7 (by decide)
    have f1 : Fr0 (fun b => b = B + 29) h2 (stL h2 (B + 29) (s / 64) (lN (V ||| 2 ^ (s % 64)))) := Fr0.stL (A := fun b => b = B + 29) h2 rfl _ _
    have f2 : Fr0 (fun b => b = B + 28) (stL h2 (B + 29) (s / 64) (lN (V ||| 2 ^ (s % 64)))) (stI (stL h2 (B + 29) (s / 64) (lN (V ||| 2 ^ (s % 64)))) (B + 28) 2 (nI (c + 1))) := Fr0.stI (A := fun b => b = B + 28) _ rfl _ _
    have f3 : Fr0 (fun b => b = hN h) (stI (stL h2 (B + 29) (s / 64) (lN (V ||| 2 ^ (s % 64)))) (B + 28) 2 (nI (c + 1))) (stL (stI (stL h2 (B + 29) (s / 64) (lN (V ||| 2 ^ (s % 64)))) (B + 28) 2 (nI (c + 1))) (hN h) c (lN (wk3 s p k))) := Fr0.stL (A := fun b => b = hN h) _ rfl _ _
    have F : Fr0 (fun b => b = B + 28 ∨ b = B + 29 ∨ b = hN h) h2 (stL (stI (stL h2 (B + 29) (s / 64) (lN (V ||| 2 ^ (s % 64)))) (B + 28) 2 (nI (c + 1))) (hN h) c (lN (wk3 s p k))) := ((f1.mono (fun b w => Or.inr (Or.inl w))).trans (f2.mono (fun b w => Or.inl w))).trans (f3.mono (fun b w => Or.inr (Or.inr w)))
    have Q3 := (fq.trans fq2 hl).trans (F.fq (l := hN h) (fun b w => w)) (Or.inr (by omega))
    have k5 : hI (stL h2 (B + 29) (s / 64) (lN (V ||| 2 ^ (s % 64)))) (B + 28) 2 = nI c := k4
    refine ⟨_, ?_, hN h, e + 1, sa2.fr0 F, ln.app hs hp hk (fun i hi => ?_) ?_, sn.app v1 v2 (fun w => ?_), ?_, by omega, Q3, Or.inr (by omega), by rw [F.1, n2]; omega, by rw [F.2.1, u2]; omega⟩
    · have gc : ¬ nI c < nI (1024 * 2 ^ e) := fun w => g ((nI_ltI (by omega) (by omega)).mp w)
      have gd : (nI (1024 * 2 ^ (e + 1)) ≤ nI c) = False := by rw [nI_les (by omega) (by omega)]; exact eq_false (by omega)
      have g2 : hS (stI (stL h2 (B + 29) (s / 64) (lN (V ||| 2 ^ (s % 64)))) (B + 28) 2 (nI (c + 1))) (hN h) = some (1, 1024 * 2 ^ (e + 1)) := b7
      simp (disch := omega) only [s14_0, s14_1, s14_2, s14_3, s14_4, s14_5, s14_6, s14_7, s14_8, s14_9, s14_10, s14_11, s14_12, s14_13, s14_14, s14_15, s14_16, s14_17, s14_18, s14_19, s14_20, s14_22, s14_23, s14_24, s14_25, s14_26, s14_27, s14_28, s14_29, s14_30, s14_31, s14_32, s14_33, s14_34, s14_35, s14_36, s14_37, s14_38, s14_39, s14_40, s14_41, s14_42, s14_43, s14_44, s14_45, s14_46, s14_47, s14_48, s14_49, s14_50, s14_51, s14_52, s14_53, s14_54, s14_55, s14_56, s14_57, s14_58, s14_59, s14_60, s14_61, s14_62, s14_63, s14_64, s14_65, s14_66, ↓reduceIte, Option.bind_some, Option.toList_some, Option.toList_none, List.cons_append, List.nil_append, if_true, if_false, true_or, or_true, true_and, and_true, not_true_eq_false, not_false_eq_true, Nat.reduceLT, Nat.reduceLeDiff, Nat.reduceEqDiff, Nat.reduceAdd, Nat.reduceMul, Nat.reduceSub, Nat.reducePow, Nat.reduceMod, Nat.reduceDiv, l0, l1, l2, l3, l4, l5, l6, l7, l8, l9, l10, l11, l12, l13, l14, l15, l16, l20, l31, l32, l36, l40, l48, l57, l59, l63, l64, l97, l99, l100, l101, l122, l127, l128, l250, l255, l262143, l262144, l30000, l100000, l12345, l1024, l4095, nI_clamps, rf_some, li18, j0, j1, j63, nI_l, hS_stL, hR_stL, hS_stI, hR_stI, a1, a2, a4, gA a3, gA g2, b1, b2, b4, gA b3, m1, m2, m3, m4, m5, m6, m7, m8, v2, v4, an, orr, cz, L1, L2, k2, k4, k5, ad, gc, gd, e2]
    · rw [hL_stL, if_neg (fun w => by omega), hL_stI, hL_stL, if_neg (fun w => by omega), c2 i (by omega)]
    · rw [hL_stL, if_pos ⟨rfl, rfl⟩]
    · rw [hL_stL, if_neg (fun w => by omega), hL_stI, hL_stL]
      by_cases r : w = s / 64
      · rw [if_pos ⟨rfl, r⟩, if_pos r]
      · rw [if_neg (fun w => r w.2), if_neg r]; exact (c3 (B + 29) (by omega) w).2
    · show hI (stI _ (B + 28) 2 (nI (c + 1))) (B + 28) 2 = _
      rw [hI_stI, if_pos ⟨rfl, rfl⟩]
