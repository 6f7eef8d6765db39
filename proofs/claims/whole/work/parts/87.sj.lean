/-! KNOW, the developers -/
def aliF (G L : Nat) (m f se : Nat) : Bool := match m with
  | 0 => false
  | m + 1 => if L / 2 ^ f % 2 = 1 then (if se / 2 ^ dg G f % 2 = 1 then true else aliF G L m (f + 1) (se ||| 2 ^ dg G f)) else aliF G L m (f + 1) se
theorem and_p {s k : Nat} : s &&& 2 ^ k = if s / 2 ^ k % 2 = 1 then 2 ^ k else 0 := by
  refine Nat.eq_of_testBit_eq fun i => ?_
  rw [Nat.testBit_and, Nat.testBit_two_pow]
  by_cases h : s / 2 ^ k % 2 = 1
  · rw [if_pos h, Nat.testBit_two_pow]
    by_cases e : k = i
    · subst e; rw [(bit1 s k).mp h, Bool.true_and]
    · rw [decide_eq_false e, Bool.and_false]
  · rw [if_neg h, Nat.zero_testBit]
    by_cases e : k = i
    · subst e
      cases q : s.testBit k
      · rfl
      · exact absurd ((bit1 s k).mpr q) h
    · rw [decide_eq_false e, Bool.and_false]
theorem x52 (d : Nat) (h : AH) {G L : Nat} (hG : G < 2 ^ 31) (hL : L < 16) (p2 p3 p4 : Option Value) : E (d + 1) 52 0 [some (.int (nI G)), some (.int (nI L)), p2, p3, p4] [] h = some (some (.int (bI (aliF G L 4 0 0))), h) := by
  have lp : ∀ m i se p4, i + m = 4 → se < 2 ^ 16 → E (d + 1) 52 4 [some (.int (nI G)), some (.int (nI L)), some (.int (nI se)), some (.int (nI i)), p4] [] h = some (some (.int (bI (aliF G L m i se))), h) := by
    intro m
    induction m with
    | zero =>
      intro i se p4 hi hs
      have hi' : i = 4 := hi
      subst hi'
      rw [s52_4]
      simp (disch := omega) only [s52_0, s52_1, s52_2, s52_3, s52_5, s52_6, s52_7, s52_8, s52_9, s52_10, s52_11, s52_12, s52_13, s52_14, s52_15, s52_16, s52_17, s52_18, s52_19, s52_20, s52_21, s52_22, s52_23, s52_24, s52_25, s52_26, s52_27, s52_28, s52_29, s52_30, s52_31, s52_32, s52_33, ↓reduceIte, Option.bind_some, Option.toList_some, Option.toList_none, List.cons_append, List.nil_append, if_true, if_false, true_or, or_true, true_and, and_true, not_true_eq_false, not_false_eq_true, Nat.reduceLT, Nat.reduceLeDiff, Nat.reduceEqDiff, Nat.reduceAdd, Nat.reduceMul, Nat.reduceSub, Nat.reducePow, Nat.reduceMod, Nat.reduceDiv, l0, l1, l2, l3, l4, l5, l6, l7, l8, l9, l10, l11, l12, l13, l14, l15, l16, l20, l31, l32, l36, l40, l48, l57, l59, l63, l64, l97, l99, l100, l101, l122, l127, l128, l250, l255, l262143, l262144, l30000, l100000, l12345, l1024, l4095, nI_eqs, nI_les, nI_lts, qI_eq, qI_eqn, nI_eqq, qI_lts, nI_ltp, nI_lep, qI_les, nI_add, nI_mul, qI_add, qI_s, qI_def, nI_clamps, bI_z, bI_o, bI_01, n01, n11, rf_some, rf_none, m1, m1n, bft, Nat.le_refl]
      rfl
    | succ m ih =>
      intro i se p4 hi hs
      have h1' : ¬ 4 ≤ i := by omega
      have e5 := fun d => x5 d h hG (show i < 8 by omega)
      have dl := dg_lt G i
      have pl : 2 ^ dg G i < 2 ^ 16 := Nat.pow_lt_pow_right (by decide) dl
      have pp : 0 < 2 ^ dg G i := Nat.two_pow_pos _
      have S : aliF G L (m + 1) i se = if L / 2 ^ i % 2 = 1 then (if se / 2 ^ dg G i % 2 = 1 then true else aliF G L m (i + 1) (se ||| 2 ^ dg G i)) else aliF G L m (i + 1) se := rfl
      rw [s52_4, S]
      by_cases a : L / 2 ^ i % 2 = 1
      · rw [if_pos a]
        have ap := @and_p se (dg G i)
        by_cases c : se / 2 ^ dg G i % 2 = 1
        · rw [if_pos c] at ap ⊢
          have z : ¬ 2 ^ dg G i = 0 := by omega
          simp (disch := omega) only [s52_0, s52_1, s52_2, s52_3, s52_5, s52_6, s52_7, s52_8, s52_9, s52_10, s52_11, s52_12, s52_13, s52_14, s52_15, s52_16, s52_17, s52_18, s52_19, s52_20, s52_21, s52_22, s52_23, s52_24, s52_25, s52_26, s52_27, s52_28, s52_29, s52_30, s52_31, s52_32, s52_33, ↓reduceIte, Option.bind_some, Option.toList_some, Option.toList_none, List.cons_append, List.nil_append, if_true, if_false, true_or, or_true, true_and, and_true, not_true_eq_false, not_false_eq_true, Nat.reduceLT, Nat.reduceLeDiff, Nat.reduceEqDiff, Nat.reduceAdd, Nat.reduceMul, Nat.reduceSub, Nat.reducePow, Nat.reduceMod, Nat.reduceDiv, l0, l1, l2, l3, l4, l5, l6, l7, l8, l9, l10, l11, l12, l13, l14, l15, l16, l20, l31, l32, l36, l40, l48, l57, l59, l63, l64, l97, l99, l100, l101, l122, l127, l128, l250, l255, l262143, l262144, l30000, l100000, l12345, l1024, l4095, nI_eqs, nI_les, nI_lts, qI_eq, qI_eqn, nI_eqq, qI_lts, nI_ltp, nI_lep, qI_les, nI_add, nI_mul, qI_add, qI_s, qI_def, nI_clamps, bI_z, bI_o, bI_01, n01, n11, rf_some, rf_none, m1, m1n, bft, nI_and, nI_or, nI_shl', nI_shr', a31, and1, h1', a, e5, Nat.one_mul, ap, z, bI_t]
        · rw [if_neg c] at ap ⊢
          rw [← ih (i + 1) _ (some (.int (nI (2 ^ dg G i)))) (by omega) (Nat.or_lt_two_pow hs pl)]
          simp (disch := omega) only [s52_0, s52_1, s52_2, s52_3, s52_5, s52_6, s52_7, s52_8, s52_9, s52_10, s52_11, s52_12, s52_13, s52_14, s52_15, s52_16, s52_17, s52_18, s52_19, s52_20, s52_21, s52_22, s52_23, s52_24, s52_25, s52_26, s52_27, s52_28, s52_29, s52_30, s52_31, s52_32, s52_33, ↓reduceIte, Option.bind_some, Option.toList_some, Option.toList_none, List.cons_append, List.nil_append, if_true, if_false, true_or, or_true, true_and, and_true, not_true_eq_false, not_false_eq_true, Nat.reduceLT, Nat.reduceLeDiff, Nat.reduceEqDiff, Nat.reduceAdd, Nat.reduceMul, Nat.reduceSub, Nat.reducePow, Nat.reduceMod, Nat.reduceDiv, l0, l1, l2, l3, l4, l5, l6, l7, l8, l9, l10, l11, l12, l13, l14, l15, l16, l20, l31, l32, l36, l40, l48, l57, l59, l63, l64, l97, l99, l100, l101, l122, l127, l128, l250, l255, l262143, l262144, l30000, l100000, l12345, l1024, l4095, nI_eqs, nI_les, nI_lts, qI_eq, qI_eqn, nI_eqq, qI_lts, nI_ltp, nI_lep, qI_les, nI_add, nI_mul, qI_add, qI_s, qI_def, nI_clamps, bI_z, bI_o, bI_01, n01, n11, rf_some, rf_none, m1, m1n, bft, nI_and, nI_or, nI_shl', nI_shr', a31, and1, h1', a, e5, Nat.one_mul, ap]
      · rw [if_neg a, ← ih (i + 1) se p4 (by omega) hs]
        have a' : L / 2 ^ i % 2 = 0 := by omega
        simp (disch := omega) only [s52_0, s52_1, s52_2, s52_3, s52_5, s52_6, s52_7, s52_8, s52_9, s52_10, s52_11, s52_12, s52_13, s52_14, s52_15, s52_16, s52_17, s52_18, s52_19, s52_20, s52_21, s52_22, s52_23, s52_24, s52_25, s52_26, s52_27, s52_28, s52_29, s52_30, s52_31, s52_32, s52_33, ↓reduceIte, Option.bind_some, Option.toList_some, Option.toList_none, List.cons_append, List.nil_append, if_true, if_false, true_or, or_true, true_and, and_true, not_true_eq_false, not_false_eq_true, Nat.reduceLT, Nat.reduceLeDiff, Nat.reduceEqDiff, Nat.reduceAdd, Nat.reduceMul, Nat.reduceSub, Nat.reducePow, Nat.reduceMod, Nat.reduceDiv, l0, l1, l2, l3, l4, l5, l6, l7, l8, l9, l10, l11, l12, l13, l14, l15, l16, l20, l31, l32, l36, l40, l48, l57, l59, l63, l64, l97, l99, l100, l101, l122, l127, l128, l250, l255, l262143, l262144, l30000, l100000, l12345, l1024, l4095, nI_eqs, nI_les, nI_lts, qI_eq, qI_eqn, nI_eqq, qI_lts, nI_ltp, nI_lep, qI_les, nI_add, nI_mul, qI_add, qI_s, qI_def, nI_clamps, bI_z, bI_o, bI_01, n01, n11, rf_some, rf_none, m1, m1n, bft, nI_and, nI_or, nI_shl', nI_shr', a31, and1, h1', a']
  rw [s52_0, s52_1, s52_2, s52_3]
  exact lp 4 0 0 p4 (by omega) (by decide)
def knI (lt : Nat × Nat → Nat → Bool) (sf : Nat × Nat → Nat → Nat × Nat) (c G : Nat) (m f : Nat) (a : Nat × Nat) : Nat × Nat := itr (fun f a => (if lt (uq (dg G f)) c = true then a.1 ||| 2 ^ f else a.1, wd a.2 f (pk (sf (uq (dg G f)) c)))) m f a
def knT (lt : Nat × Nat → Nat → Bool) (sf : Nat × Nat → Nat → Nat × Nat) (C : Nat) (n : Nat) (G L : Nat) : Bool := match n with
  | 0 => decide (bc L ≤ 1)
  | n + 1 => decide (bc L ≤ 1) || (!aliF G L 4 0 0 && anyB (fun c => knT lt sf C n (knI lt sf c G (C + 1) 0 (0, G)).2 (L &&& (knI lt sf c G (C + 1) 0 (0, G)).1) && knT lt sf C n (knI lt sf c G (C + 1) 0 (0, G)).2 (L &&& (15 ^^^ (knI lt sf c G (C + 1) 0 (0, G)).1))) C 0)
def KOK (y : YS) (G : Nat) : Prop := G < 2 ^ 16 ∧ ∀ f, f ≤ Yc y → pOK y (uq (dg G f))
theorem x15i : (List.range 16).all (fun a => (List.range 16).all fun b => (nI a &&& (nI b ^^^ qI 0)) == nI (a &&& (15 ^^^ b))) = true := by decide +kernel
theorem not15 {a b : Nat} (ha : a < 16) (hb : b < 16) : nI a &&& (nI b ^^^ qI 0) = nI (a &&& (15 ^^^ b)) := by
  have h := x15i
  rw [List.all_eq_true] at h
  have h1 := h a (List.mem_range.mpr ha)
  rw [List.all_eq_true] at h1
  exact beq_iff_eq.mp (h1 b (List.mem_range.mpr hb))
theorem knI_ok {y : YS} (h3 : Yc y ≤ 3) {g c G : Nat} (hc : c < Yc y) (hG : KOK y G) : ∀ m f a, f + m = Yc y + 1 → a.1 < 2 ^ f → KOK y a.2 → (knI (lt1 y g) (stp y g) c G m f a).1 < 2 ^ (Yc y + 1) ∧ KOK y (knI (lt1 y g) (stp y g) c G m f a).2 := by
  intro m
  induction m with
  | zero =>
    intro f a hf h1 h2
    have hf' : f = Yc y + 1 := hf
    subst hf'
    exact ⟨h1, h2⟩
  | succ m ih =>
    intro f a hf h1 h2
    have sok := stp_ok (g := g) (hG.2 f (by omega)) hc
    have s16 := pk16 h3 sok
    refine ih (f + 1) _ (by omega) ?_ ⟨wd_lt (n := 4) s16 (by omega) h2.1, fun k hk => ?_⟩
    · show (if lt1 y g (uq (dg G f)) c = true then a.1 ||| 2 ^ f else a.1) < 2 ^ (f + 1)
      have p1 : 2 ^ f < 2 ^ (f + 1) := Nat.pow_lt_pow_right (by decide) (Nat.lt_succ_self f)
      split
      · exact Nat.or_lt_two_pow (by omega) p1
      · omega
    · show pOK y (uq (dg (wd a.2 f (pk (stp y g (uq (dg G f)) c))) k))
      rw [dg_wd _ _ _ _ s16]
      split
      · rw [uq_pk (by have := sok.1; omega)]; exact sok
      · exact h2.2 k hk
theorem x51 (d : Nat) {h : AH} {b : Nat} {y : YS} (xy : XY h b y) {g : Nat} (hg : g < Yg y) : ∀ n G L p5 p6 p7 p8 p9, KOK y G → L < 16 → n ≤ 6 → E (d + n + 4) 51 0 [some (.ref b), some (.int (nI g)), some (.int (nI G)), some (.int (nI L)), some (.int (nI n)), p5, p6, p7, p8, p9] [] h = some (some (.int (bI (knT (lt1 y g) (stp y g) (Yc y) n G L))), h) := by
  have z0 := xy.1.1
  have yc := xy.2.1.1
  have ok := xy.2.2
  obtain ⟨⟨o2, o3⟩, o6, on, og, oc⟩ := id ok
  intro n
  induction n with
  | zero =>
    intro G L p5 p6 p7 p8 p9 hG hL _
    have e231 := fun d => x231 d h (x := L) (by omega)
    have bl : bc L ≤ 4 := by unfold bc; omega
    show _ = some (some (Value.int (bI (decide (bc L ≤ 1)))), h)
    by_cases a : bc L ≤ 1
    · have a' : ¬ 1 < bc L := by omega
      rw [decide_eq_true a]
      simp (disch := omega) only [s51_0, s51_1, s51_2, s51_3, s51_4, s51_5, s51_6, s51_7, s51_8, s51_9, s51_10, s51_11, s51_12, s51_13, ↓reduceIte, Option.bind_some, Option.toList_some, Option.toList_none, List.cons_append, List.nil_append, if_true, if_false, true_or, or_true, true_and, and_true, not_true_eq_false, not_false_eq_true, Nat.reduceLT, Nat.reduceLeDiff, Nat.reduceEqDiff, Nat.reduceAdd, Nat.reduceMul, Nat.reduceSub, Nat.reducePow, Nat.reduceMod, Nat.reduceDiv, l0, l1, l2, l3, l4, l5, l6, l7, l8, l9, l10, l11, l12, l13, l14, l15, l16, l20, l31, l32, l36, l40, l48, l57, l59, l63, l64, l97, l99, l100, l101, l122, l127, l128, l250, l255, l262143, l262144, l30000, l100000, l12345, l1024, l4095, nI_eqs, nI_les, nI_lts, qI_eq, qI_eqn, nI_eqq, qI_lts, nI_ltp, nI_lep, qI_les, nI_add, nI_mul, qI_add, qI_s, qI_def, nI_clamps, bI_z, bI_o, bI_01, n01, n11, rf_some, rf_none, m1, m1n, bft, e231, a', bI_t]
    · have a' : 1 < bc L := by omega
      rw [decide_eq_false a]
      simp (disch := omega) only [s51_0, s51_1, s51_2, s51_3, s51_4, s51_5, s51_6, s51_7, s51_8, s51_9, s51_10, s51_11, s51_12, s51_13, ↓reduceIte, Option.bind_some, Option.toList_some, Option.toList_none, List.cons_append, List.nil_append, if_true, if_false, true_or, or_true, true_and, and_true, not_true_eq_false, not_false_eq_true, Nat.reduceLT, Nat.reduceLeDiff, Nat.reduceEqDiff, Nat.reduceAdd, Nat.reduceMul, Nat.reduceSub, Nat.reducePow, Nat.reduceMod, Nat.reduceDiv, l0, l1, l2, l3, l4, l5, l6, l7, l8, l9, l10, l11, l12, l13, l14, l15, l16, l20, l31, l32, l36, l40, l48, l57, l59, l63, l64, l97, l99, l100, l101, l122, l127, l128, l250, l255, l262143, l262144, l30000, l100000, l12345, l1024, l4095, nI_eqs, nI_les, nI_lts, qI_eq, qI_eqn, nI_eqq, qI_lts, nI_ltp, nI_lep, qI_les, nI_add, nI_mul, qI_add, qI_s, qI_def, nI_clamps, bI_z, bI_o, bI_01, n01, n11, rf_some, rf_none, m1, m1n, bft, e231, a', bI_f, Nat.le_refl]
  | succ n ih =>
    intro G L p5 p6 p7 p8 p9 hG hL hn
    have e231 := fun d => x231 d h (x := L) (by omega)
    have bl : bc L ≤ 4 := by unfold bc; omega
    have e52 := fun d => x52 d h (G := G) (by have := hG.1; omega) hL none none none
    have n0 : ¬ n + 1 ≤ 0 := by omega
    have sb1 : nI (n + 1) - nI 1 = nI n := by rw [nI_sub (by omega)]; rfl
    have lq : ∀ m f a c p9, f + m = Yc y + 1 → c < Yc y → a.1 < 2 ^ f → KOK y a.2 → ∃ p9', E (d + (n + 1) + 4) 51 26 [some (.ref b), some (.int (nI g)), some (.int (nI G)), some (.int (nI L)), some (.int (nI (n + 1))), some (.int (nI c)), some (.int (nI a.1)), some (.int (nI a.2)), some (.int (nI f)), p9] [] h = E (d + (n + 1) + 4) 51 57 [some (.ref b), some (.int (nI g)), some (.int (nI G)), some (.int (nI L)), some (.int (nI (n + 1))), some (.int (nI c)), some (.int (nI (knI (lt1 y g) (stp y g) c G m f a).1)), some (.int (nI (knI (lt1 y g) (stp y g) c G m f a).2)), some (.int (nI (Yc y + 1))), p9'] [] h := by
      intro m
      induction m with
      | zero =>
        intro f a c p9 hf hc h1 h2
        have hf' : f = Yc y + 1 := hf
        subst hf'
        refine ⟨p9, ?_⟩
        rw [s51_26]
        simp (disch := omega) only [s51_27, s51_28, s51_29, ↓reduceIte, Option.bind_some, Option.toList_some, Option.toList_none, List.cons_append, List.nil_append, if_true, if_false, true_or, or_true, true_and, and_true, not_true_eq_false, not_false_eq_true, Nat.reduceLT, Nat.reduceLeDiff, Nat.reduceEqDiff, Nat.reduceAdd, Nat.reduceMul, Nat.reduceSub, Nat.reducePow, Nat.reduceMod, Nat.reduceDiv, l0, l1, l2, l3, l4, l5, l6, l7, l8, l9, l10, l11, l12, l13, l14, l15, l16, l20, l31, l32, l36, l40, l48, l57, l59, l63, l64, l97, l99, l100, l101, l122, l127, l128, l250, l255, l262143, l262144, l30000, l100000, l12345, l1024, l4095, nI_eqs, nI_les, nI_lts, qI_eq, qI_eqn, nI_eqq, qI_lts, nI_ltp, nI_lep, qI_les, nI_add, nI_mul, qI_add, qI_s, qI_def, nI_clamps, bI_z, bI_o, bI_01, n01, n11, rf_some, rf_none, m1, m1n, bft, z0, yc, Nat.lt_succ_self]
        rfl
      | succ m ih2 =>
        intro f a c p9 hf hc h1 h2
        have h1' : ¬ Yc y < f := by omega
        have hp := hG.2 f (by omega)
        have sok := stp_ok (g := g) hp hc
        have s16 := pk16 o3 sok
        have e5 := fun d => x5 d h (M := G) (g := f) (by have := hG.1; omega) (by omega)
        have e75 := fun d => x75p d xy hg hp hc
        have e76 := fun d => x76p d xy hg hp hc
        rw [pk_uq] at e75 e76
        have e6 := fun d => x6 d h (M := a.2) (g := f) (m := pk (stp y g (uq (dg G f)) c)) (by have := h2.1; omega) (by omega) s16
        have p1 : 2 ^ f < 2 ^ (f + 1) := Nat.pow_lt_pow_right (by decide) (Nat.lt_succ_self f)
        have k1 : KOK y (wd a.2 f (pk (stp y g (uq (dg G f)) c))) := ⟨wd_lt (n := 4) s16 (by omega) h2.1, fun k hk => by
          rw [dg_wd _ _ _ _ s16]
          split
          · rw [uq_pk (by have := sok.1; omega)]; exact sok
          · exact h2.2 k hk⟩
        have S : knI (lt1 y g) (stp y g) c G (m + 1) f a = knI (lt1 y g) (stp y g) c G m (f + 1) (if lt1 y g (uq (dg G f)) c = true then a.1 ||| 2 ^ f else a.1, wd a.2 f (pk (stp y g (uq (dg G f)) c))) := rfl
        rw [S]
        cases q : lt1 y g (uq (dg G f)) c <;> rw [q] at e75
        · rw [if_neg (by decide)]
          obtain ⟨p9', e⟩ := ih2 (f + 1) (a.1, wd a.2 f (pk (stp y g (uq (dg G f)) c))) c (some (.int (nI (dg G f)))) (by omega) hc (by dsimp only; omega) k1
          refine ⟨p9', ?_⟩
          rw [← e, s51_26]
          simp (disch := omega) only [s51_27, s51_28, s51_29, s51_30, s51_31, s51_32, s51_33, s51_34, s51_35, s51_36, s51_37, s51_38, s51_39, s51_40, s51_41, s51_42, s51_43, s51_44, s51_45, s51_46, s51_47, s51_48, s51_49, s51_50, s51_51, s51_52, s51_53, s51_54, s51_55, s51_56, ↓reduceIte, Option.bind_some, Option.toList_some, Option.toList_none, List.cons_append, List.nil_append, if_true, if_false, true_or, or_true, true_and, and_true, not_true_eq_false, not_false_eq_true, Nat.reduceLT, Nat.reduceLeDiff, Nat.reduceEqDiff, Nat.reduceAdd, Nat.reduceMul, Nat.reduceSub, Nat.reducePow, Nat.reduceMod, Nat.reduceDiv, l0, l1, l2, l3, l4, l5, l6, l7, l8, l9, l10, l11, l12, l13, l14, l15, l16, l20, l31, l32, l36, l40, l48, l57, l59, l63, l64, l97, l99, l100, l101, l122, l127, l128, l250, l255, l262143, l262144, l30000, l100000, l12345, l1024, l4095, nI_eqs, nI_les, nI_lts, qI_eq, qI_eqn, nI_eqq, qI_lts, nI_ltp, nI_lep, qI_les, nI_add, nI_mul, qI_add, qI_s, qI_def, nI_clamps, bI_z, bI_o, bI_01, n01, n11, rf_some, rf_none, m1, m1n, bft, nI_and, nI_or, nI_shl', nI_shr', a31, z0, yc, h1', e5, e75, e76, e6, Nat.one_mul, bI_f]
        · rw [if_pos rfl]
          obtain ⟨p9', e⟩ := ih2 (f + 1) (a.1 ||| 2 ^ f, wd a.2 f (pk (stp y g (uq (dg G f)) c))) c (some (.int (nI (dg G f)))) (by omega) hc (Nat.or_lt_two_pow (by omega) p1) k1
          refine ⟨p9', ?_⟩
          rw [← e, s51_26]
          simp (disch := omega) only [s51_27, s51_28, s51_29, s51_30, s51_31, s51_32, s51_33, s51_34, s51_35, s51_36, s51_37, s51_38, s51_39, s51_40, s51_41, s51_42, s51_43, s51_44, s51_45, s51_46, s51_47, s51_48, s51_49, s51_50, s51_51, s51_52, s51_53, s51_54, s51_55, s51_56, ↓reduceIte, Option.bind_some, Option.toList_some, Option.toList_none, List.cons_append, List.nil_append, if_true, if_false, true_or, or_true, true_and, and_true, not_true_eq_false, not_false_eq_true, Nat.reduceLT, Nat.reduceLeDiff, Nat.reduceEqDiff, Nat.reduceAdd, Nat.reduceMul, Nat.reduceSub, Nat.reducePow, Nat.reduceMod, Nat.reduceDiv, l0, l1, l2, l3, l4, l5, l6, l7, l8, l9, l10, l11, l12, l13, l14, l15, l16, l20, l31, l32, l36, l40, l48, l57, l59, l63, l64, l97, l99, l100, l101, l122, l127, l128, l250, l255, l262143, l262144, l30000, l100000, l12345, l1024, l4095, nI_eqs, nI_les, nI_lts, qI_eq, qI_eqn, nI_eqq, qI_lts, nI_ltp, nI_lep, qI_les, nI_add, nI_mul, qI_add, qI_s, qI_def, nI_clamps, bI_z, bI_o, bI_01, n01, n11, rf_some, rf_none, m1, m1n, bft, nI_and, nI_or, nI_shl', nI_shr', a31, z0, yc, h1', e5, e75, e76, e6, Nat.one_mul, bI_t, Bool.true_eq_false]
    have lp : ∀ m c p6 p7 p8 p9, c + m = Yc y → E (d + (n + 1) + 4) 51 16 [some (.ref b), some (.int (nI g)), some (.int (nI G)), some (.int (nI L)), some (.int (nI (n + 1))), some (.int (nI c)), p6, p7, p8, p9] [] h = some (some (.int (bI (anyB (fun c => knT (lt1 y g) (stp y g) (Yc y) n (knI (lt1 y g) (stp y g) c G (Yc y + 1) 0 (0, G)).2 (L &&& (knI (lt1 y g) (stp y g) c G (Yc y + 1) 0 (0, G)).1) && knT (lt1 y g) (stp y g) (Yc y) n (knI (lt1 y g) (stp y g) c G (Yc y + 1) 0 (0, G)).2 (L &&& (15 ^^^ (knI (lt1 y g) (stp y g) c G (Yc y + 1) 0 (0, G)).1))) m c))), h) := by
      intro m
      induction m with
      | zero =>
        intro c p6 p7 p8 p9 hc
        have hc' : c = Yc y := hc
        rw [s51_16, hc']
        simp (disch := omega) only [s51_17, s51_18, s51_19, s51_85, s51_86, ↓reduceIte, Option.bind_some, Option.toList_some, Option.toList_none, List.cons_append, List.nil_append, if_true, if_false, true_or, or_true, true_and, and_true, not_true_eq_false, not_false_eq_true, Nat.reduceLT, Nat.reduceLeDiff, Nat.reduceEqDiff, Nat.reduceAdd, Nat.reduceMul, Nat.reduceSub, Nat.reducePow, Nat.reduceMod, Nat.reduceDiv, l0, l1, l2, l3, l4, l5, l6, l7, l8, l9, l10, l11, l12, l13, l14, l15, l16, l20, l31, l32, l36, l40, l48, l57, l59, l63, l64, l97, l99, l100, l101, l122, l127, l128, l250, l255, l262143, l262144, l30000, l100000, l12345, l1024, l4095, nI_eqs, nI_les, nI_lts, qI_eq, qI_eqn, nI_eqq, qI_lts, nI_ltp, nI_lep, qI_les, nI_add, nI_mul, qI_add, qI_s, qI_def, nI_clamps, bI_z, bI_o, bI_01, n01, n11, rf_some, rf_none, m1, m1n, bft, z0, yc, Nat.le_refl]
        rfl
      | succ m ih2 =>
        intro c p6 p7 p8 p9 hc
        have h1' : ¬ Yc y ≤ c := by omega
        obtain ⟨p9', e⟩ := lq (Yc y + 1) 0 (0, G) c p9 (by omega) (by omega) (Nat.one_pos) hG
        obtain ⟨k1, k2⟩ := knI_ok (g := g) o3 (c := c) (by omega) hG (Yc y + 1) 0 (0, G) (by omega) Nat.one_pos hG
        rw [anyB_s]
        dsimp only at e k1 k2 ⊢
        generalize knI (lt1 y g) (stp y g) c G (Yc y + 1) 0 (0, G) = r at *
        have p4 : 2 ^ (Yc y + 1) ≤ 2 ^ 4 := Nat.pow_le_pow_right (by decide) (by omega)
        have r16 : r.1 < 16 := by omega
        have n15 := not15 hL r16
        have lb1 : L &&& r.1 < 16 := Nat.and_lt_two_pow (n := 4) _ r16
        have lb2 : L &&& (15 ^^^ r.1) < 16 := Nat.and_lt_two_pow (n := 4) _ (Nat.xor_lt_two_pow (n := 4) (by decide) r16)
        have r1 := ih r.2 _ none none none none none k2 lb1 (by omega)
        have r2 := ih r.2 _ none none none none none k2 lb2 (by omega)
        rw [show d + n + 4 = d + (n + 1) + 3 by omega] at r1 r2
        rw [s51_16]
        simp (disch := omega) only [s51_17, s51_18, s51_19, s51_20, s51_21, s51_22, s51_23, s51_24, s51_25, ↓reduceIte, Option.bind_some, Option.toList_some, Option.toList_none, List.cons_append, List.nil_append, if_true, if_false, true_or, or_true, true_and, and_true, not_true_eq_false, not_false_eq_true, Nat.reduceLT, Nat.reduceLeDiff, Nat.reduceEqDiff, Nat.reduceAdd, Nat.reduceMul, Nat.reduceSub, Nat.reducePow, Nat.reduceMod, Nat.reduceDiv, l0, l1, l2, l3, l4, l5, l6, l7, l8, l9, l10, l11, l12, l13, l14, l15, l16, l20, l31, l32, l36, l40, l48, l57, l59, l63, l64, l97, l99, l100, l101, l122, l127, l128, l250, l255, l262143, l262144, l30000, l100000, l12345, l1024, l4095, nI_eqs, nI_les, nI_lts, qI_eq, qI_eqn, nI_eqq, qI_lts, nI_ltp, nI_lep, qI_les, nI_add, nI_mul, qI_add, qI_s, qI_def, nI_clamps, bI_z, bI_o, bI_01, n01, n11, rf_some, rf_none, m1, m1n, bft, z0, yc, h1']
        rw [e]
        cases q1 : knT (lt1 y g) (stp y g) (Yc y) n r.2 (L &&& r.1) <;> rw [q1] at r1
        · rw [Bool.false_and, Bool.false_or, ← ih2 (c + 1) (some (.int (nI r.1))) (some (.int (nI r.2))) (some (.int (nI (Yc y + 1)))) p9' (by omega)]
          simp (disch := omega) only [s51_57, s51_58, s51_59, s51_60, s51_61, s51_62, s51_63, s51_64, s51_65, s51_66, s51_67, s51_68, s51_69, s51_70, s51_71, s51_72, s51_73, s51_74, s51_75, s51_76, s51_77, s51_78, s51_79, s51_80, s51_81, s51_82, s51_83, s51_84, ↓reduceIte, Option.bind_some, Option.toList_some, Option.toList_none, List.cons_append, List.nil_append, if_true, if_false, true_or, or_true, true_and, and_true, not_true_eq_false, not_false_eq_true, Nat.reduceLT, Nat.reduceLeDiff, Nat.reduceEqDiff, Nat.reduceAdd, Nat.reduceMul, Nat.reduceSub, Nat.reducePow, Nat.reduceMod, Nat.reduceDiv, l0, l1, l2, l3, l4, l5, l6, l7, l8, l9, l10, l11, l12, l13, l14, l15, l16, l20, l31, l32, l36, l40, l48, l57, l59, l63, l64, l97, l99, l100, l101, l122, l127, l128, l250, l255, l262143, l262144, l30000, l100000, l12345, l1024, l4095, nI_eqs, nI_les, nI_lts, qI_eq, qI_eqn, nI_eqq, qI_lts, nI_ltp, nI_lep, qI_les, nI_add, nI_mul, qI_add, qI_s, qI_def, nI_clamps, bI_z, bI_o, bI_01, n01, n11, rf_some, rf_none, m1, m1n, bft, nI_and, sb1, r1, bI_f]
        · cases q2 : knT (lt1 y g) (stp y g) (Yc y) n r.2 (L &&& (15 ^^^ r.1)) <;> rw [q2] at r2
          · rw [Bool.and_false, Bool.false_or, ← ih2 (c + 1) (some (.int (nI r.1))) (some (.int (nI r.2))) (some (.int (nI (Yc y + 1)))) p9' (by omega)]
            simp (disch := omega) only [s51_57, s51_58, s51_59, s51_60, s51_61, s51_62, s51_63, s51_64, s51_65, s51_66, s51_67, s51_68, s51_69, s51_70, s51_71, s51_72, s51_73, s51_74, s51_75, s51_76, s51_77, s51_78, s51_79, s51_80, s51_81, s51_82, s51_83, s51_84, ↓reduceIte, Option.bind_some, Option.toList_some, Option.toList_none, List.cons_append, List.nil_append, if_true, if_false, true_or, or_true, true_and, and_true, not_true_eq_false, not_false_eq_true, Nat.reduceLT, Nat.reduceLeDiff, Nat.reduceEqDiff, Nat.reduceAdd, Nat.reduceMul, Nat.reduceSub, Nat.reducePow, Nat.reduceMod, Nat.reduceDiv, l0, l1, l2, l3, l4, l5, l6, l7, l8, l9, l10, l11, l12, l13, l14, l15, l16, l20, l31, l32, l36, l40, l48, l57, l59, l63, l64, l97, l99, l100, l101, l122, l127, l128, l250, l255, l262143, l262144, l30000, l100000, l12345, l1024, l4095, nI_eqs, nI_les, nI_lts, qI_eq, qI_eqn, nI_eqq, qI_lts, nI_ltp, nI_lep, qI_les, nI_add, nI_mul, qI_add, qI_s, qI_def, nI_clamps, bI_z, bI_o, bI_01, n01, n11, rf_some, rf_none, m1, m1n, bft, rN_d, n15, nI_and, sb1, r1, r2, bI_f, bI_t, Bool.true_eq_false]
          · rw [Bool.and_true, Bool.true_or]
            simp (disch := omega) only [s51_57, s51_58, s51_59, s51_60, s51_61, s51_62, s51_63, s51_64, s51_65, s51_66, s51_67, s51_68, s51_69, s51_70, s51_71, s51_72, s51_73, s51_74, s51_75, s51_76, s51_77, s51_78, s51_79, s51_80, s51_81, s51_82, s51_83, s51_84, ↓reduceIte, Option.bind_some, Option.toList_some, Option.toList_none, List.cons_append, List.nil_append, if_true, if_false, true_or, or_true, true_and, and_true, not_true_eq_false, not_false_eq_true, Nat.reduceLT, Nat.reduceLeDiff, Nat.reduceEqDiff, Nat.reduceAdd, Nat.reduceMul, Nat.reduceSub, Nat.reducePow, Nat.reduceMod, Nat.reduceDiv, l0, l1, l2, l3, l4, l5, l6, l7, l8, l9, l10, l11, l12, l13, l14, l15, l16, l20, l31, l32, l36, l40, l48, l57, l59, l63, l64, l97, l99, l100, l101, l122, l127, l128, l250, l255, l262143, l262144, l30000, l100000, l12345, l1024, l4095, nI_eqs, nI_les, nI_lts, qI_eq, qI_eqn, nI_eqq, qI_lts, nI_ltp, nI_lep, qI_les, nI_add, nI_mul, qI_add, qI_s, qI_def, nI_clamps, bI_z, bI_o, bI_01, n01, n11, rf_some, rf_none, m1, m1n, bft, rN_d, n15, nI_and, sb1, r1, r2, bI_t, Bool.true_eq_false]
    show _ = some (some (Value.int (bI (decide (bc L ≤ 1) || (!aliF G L 4 0 0 && _)))), h)
    by_cases a : bc L ≤ 1
    · have a' : ¬ 1 < bc L := by omega
      rw [decide_eq_true a, Bool.true_or]
      simp (disch := omega) only [s51_0, s51_1, s51_2, s51_3, s51_4, s51_5, ↓reduceIte, Option.bind_some, Option.toList_some, Option.toList_none, List.cons_append, List.nil_append, if_true, if_false, true_or, or_true, true_and, and_true, not_true_eq_false, not_false_eq_true, Nat.reduceLT, Nat.reduceLeDiff, Nat.reduceEqDiff, Nat.reduceAdd, Nat.reduceMul, Nat.reduceSub, Nat.reducePow, Nat.reduceMod, Nat.reduceDiv, l0, l1, l2, l3, l4, l5, l6, l7, l8, l9, l10, l11, l12, l13, l14, l15, l16, l20, l31, l32, l36, l40, l48, l57, l59, l63, l64, l97, l99, l100, l101, l122, l127, l128, l250, l255, l262143, l262144, l30000, l100000, l12345, l1024, l4095, nI_eqs, nI_les, nI_lts, qI_eq, qI_eqn, nI_eqq, qI_lts, nI_ltp, nI_lep, qI_les, nI_add, nI_mul, qI_add, qI_s, qI_def, nI_clamps, bI_z, bI_o, bI_01, n01, n11, rf_some, rf_none, m1, m1n, bft, e231, a', bI_t]
    · have a' : 1 < bc L := by omega
      rw [decide_eq_false a, Bool.false_or]
      cases q : aliF G L 4 0 0 <;> rw [q] at e52
      · rw [Bool.not_false, Bool.true_and]
        simp (disch := omega) only [s51_0, s51_1, s51_2, s51_3, s51_6, s51_7, s51_8, s51_9, s51_10, s51_11, s51_12, s51_13, s51_14, s51_15, ↓reduceIte, Option.bind_some, Option.toList_some, Option.toList_none, List.cons_append, List.nil_append, if_true, if_false, true_or, or_true, true_and, and_true, not_true_eq_false, not_false_eq_true, Nat.reduceLT, Nat.reduceLeDiff, Nat.reduceEqDiff, Nat.reduceAdd, Nat.reduceMul, Nat.reduceSub, Nat.reducePow, Nat.reduceMod, Nat.reduceDiv, l0, l1, l2, l3, l4, l5, l6, l7, l8, l9, l10, l11, l12, l13, l14, l15, l16, l20, l31, l32, l36, l40, l48, l57, l59, l63, l64, l97, l99, l100, l101, l122, l127, l128, l250, l255, l262143, l262144, l30000, l100000, l12345, l1024, l4095, nI_eqs, nI_les, nI_lts, qI_eq, qI_eqn, nI_eqq, qI_lts, nI_ltp, nI_lep, qI_les, nI_add, nI_mul, qI_add, qI_s, qI_def, nI_clamps, bI_z, bI_o, bI_01, n01, n11, rf_some, rf_none, m1, m1n, bft, e231, a', n0, e52, bI_f]
        exact lp (Yc y) 0 p6 p7 p8 p9 (by omega)
      · rw [Bool.not_true, Bool.false_and]
        simp (disch := omega) only [s51_0, s51_1, s51_2, s51_3, s51_6, s51_7, s51_8, s51_9, s51_10, s51_11, s51_12, s51_13, ↓reduceIte, Option.bind_some, Option.toList_some, Option.toList_none, List.cons_append, List.nil_append, if_true, if_false, true_or, or_true, true_and, and_true, not_true_eq_false, not_false_eq_true, Nat.reduceLT, Nat.reduceLeDiff, Nat.reduceEqDiff, Nat.reduceAdd, Nat.reduceMul, Nat.reduceSub, Nat.reducePow, Nat.reduceMod, Nat.reduceDiv, l0, l1, l2, l3, l4, l5, l6, l7, l8, l9, l10, l11, l12, l13, l14, l15, l16, l20, l31, l32, l36, l40, l48, l57, l59, l63, l64, l97, l99, l100, l101, l122, l127, l128, l250, l255, l262143, l262144, l30000, l100000, l12345, l1024, l4095, nI_eqs, nI_les, nI_lts, qI_eq, qI_eqn, nI_eqq, qI_lts, nI_ltp, nI_lep, qI_les, nI_add, nI_mul, qI_add, qI_s, qI_def, nI_clamps, bI_z, bI_o, bI_01, n01, n11, rf_some, rf_none, m1, m1n, bft, e231, a', n0, e52, bI_f, bI_t, Bool.true_eq_false]
