/-! SETS, the developers -/
def uq (m : Nat) : Nat × Nat := (m % 4, m / 4)
theorem pk_uq (m : Nat) : pk (uq m) = m := by unfold pk uq; dsimp only; omega
theorem uq_pk {p : Nat × Nat} (h : p.1 < 4) : uq (pk p) = p := by
  obtain ⟨a, b⟩ := p
  unfold uq pk
  dsimp only at *
  rw [Prod.mk.injEq]; omega
def hsF (R col : Nat) (m i : Nat) : Bool := anyB (fun m => decide (R / 2 ^ m % 2 = 1) && decide (m % 4 = col + 1)) m i
def bhC (f : Nat × Nat → Nat → Nat × Nat) (k n i a : Nat) : Nat := itr (fun c a => a ||| 2 ^ pk (f (uq k) c)) n i a
def bhT (f : Nat × Nat → Nat → Nat × Nat) (n R m i a : Nat) : Nat := itr (fun k a => if R / 2 ^ k % 2 = 1 then bhC f k n 0 a else a) m i a
def tsR (f : Nat × Nat → Nat → Nat × Nat) (n col : Nat) (u t R : Nat) : Int32 := match u with
  | 0 => qI 0
  | u + 1 => if hsF R col 16 0 = true then nI t else tsR f n col u (t + 1) (R ||| bhT f n R 16 0 0)
def ROK (y : YS) (R : Nat) : Prop := R < 2 ^ 16 ∧ ∀ k, R / 2 ^ k % 2 = 1 → pOK y (uq k)
theorem x49 (d : Nat) (h : AH) {R col : Nat} (hR : R < 2 ^ 16) (hc : col < 3) (p : Option Value) : E (d + 1) 49 0 [some (.int (nI R)), some (.int (nI col)), p] [] h = some (some (.int (bI (hsF R col 16 0))), h) := by
  have lp : ∀ m i, i + m = 16 → E (d + 1) 49 2 [some (.int (nI R)), some (.int (nI col)), some (.int (nI i))] [] h = some (some (.int (bI (hsF R col m i))), h) := by
    intro m
    induction m with
    | zero =>
      intro i hi
      have hi' : i = 16 := hi
      subst hi'
      rw [s49_2]
      simp (disch := omega) only [s49_0, s49_1, s49_3, s49_4, s49_5, s49_6, s49_7, s49_8, s49_9, s49_10, s49_11, s49_12, s49_13, s49_14, s49_15, s49_16, s49_17, s49_18, s49_19, s49_20, s49_21, ↓reduceIte, Option.bind_some, Option.toList_some, Option.toList_none, List.cons_append, List.nil_append, if_true, if_false, true_or, or_true, true_and, and_true, not_true_eq_false, not_false_eq_true, Nat.reduceLT, Nat.reduceLeDiff, Nat.reduceEqDiff, Nat.reduceAdd, Nat.reduceMul, Nat.reduceSub, Nat.reducePow, Nat.reduceMod, Nat.reduceDiv, l0, l1, l2, l3, l4, l5, l6, l7, l8, l9, l10, l11, l12, l13, l14, l15, l16, l20, l31, l32, l36, l40, l48, l57, l59, l63, l64, l97, l99, l100, l101, l122, l127, l128, l250, l255, l262143, l262144, l30000, l100000, l12345, l1024, l4095, nI_eqs, nI_les, nI_lts, qI_eq, qI_eqn, nI_eqq, qI_lts, nI_ltp, nI_lep, qI_les, nI_add, nI_mul, qI_add, qI_s, qI_def, nI_clamps, bI_z, bI_o, bI_01, n01, n11, rf_some, rf_none, m1, m1n, bft]
      rfl
    | succ m ih =>
      intro i hi
      have h1' : ¬ 15 < i := by omega
      have e3 := fun d => x3 d h (f := i % 4) (s := i / 4) (by omega) (by omega)
      rw [show i % 4 + 4 * (i / 4) = i by omega] at e3
      have S : hsF R col (m + 1) i = ((decide (R / 2 ^ i % 2 = 1) && decide (i % 4 = col + 1)) || hsF R col m (i + 1)) := rfl
      rw [s49_2, S]
      by_cases a : R / 2 ^ i % 2 = 1
      · rw [decide_eq_true a, Bool.true_and]
        by_cases b : i % 4 = col + 1
        · rw [decide_eq_true b, Bool.true_or]
          have b' : (qI (i % 4) = nI col) = True := by rw [qI_eqn (by omega) (by omega)]; exact eq_true b
          simp (disch := omega) only [s49_0, s49_1, s49_3, s49_4, s49_5, s49_6, s49_7, s49_8, s49_9, s49_10, s49_11, s49_12, s49_13, s49_14, s49_15, s49_16, s49_17, s49_18, s49_19, s49_20, s49_21, ↓reduceIte, Option.bind_some, Option.toList_some, Option.toList_none, List.cons_append, List.nil_append, if_true, if_false, true_or, or_true, true_and, and_true, not_true_eq_false, not_false_eq_true, Nat.reduceLT, Nat.reduceLeDiff, Nat.reduceEqDiff, Nat.reduceAdd, Nat.reduceMul, Nat.reduceSub, Nat.reducePow, Nat.reduceMod, Nat.reduceDiv, l0, l1, l2, l3, l4, l5, l6, l7, l8, l9, l10, l11, l12, l13, l14, l15, l16, l20, l31, l32, l36, l40, l48, l57, l59, l63, l64, l97, l99, l100, l101, l122, l127, l128, l250, l255, l262143, l262144, l30000, l100000, l12345, l1024, l4095, nI_eqs, nI_les, nI_lts, qI_eq, qI_eqn, nI_eqq, qI_lts, nI_ltp, nI_lep, qI_les, nI_add, nI_mul, qI_add, qI_s, qI_def, nI_clamps, bI_z, bI_o, bI_01, n01, n11, rf_some, rf_none, m1, m1n, bft, nI_and, nI_or, nI_shl', nI_shr', a31, and1, h1', a, e3, b', bI_t]
        · rw [decide_eq_false b, Bool.false_or, ← ih (i + 1) (by omega)]
          have b' : (qI (i % 4) = nI col) = False := by rw [qI_eqn (by omega) (by omega)]; exact eq_false b
          simp (disch := omega) only [s49_0, s49_1, s49_3, s49_4, s49_5, s49_6, s49_7, s49_8, s49_9, s49_10, s49_11, s49_12, s49_13, s49_14, s49_15, s49_16, s49_17, s49_18, s49_19, s49_20, s49_21, ↓reduceIte, Option.bind_some, Option.toList_some, Option.toList_none, List.cons_append, List.nil_append, if_true, if_false, true_or, or_true, true_and, and_true, not_true_eq_false, not_false_eq_true, Nat.reduceLT, Nat.reduceLeDiff, Nat.reduceEqDiff, Nat.reduceAdd, Nat.reduceMul, Nat.reduceSub, Nat.reducePow, Nat.reduceMod, Nat.reduceDiv, l0, l1, l2, l3, l4, l5, l6, l7, l8, l9, l10, l11, l12, l13, l14, l15, l16, l20, l31, l32, l36, l40, l48, l57, l59, l63, l64, l97, l99, l100, l101, l122, l127, l128, l250, l255, l262143, l262144, l30000, l100000, l12345, l1024, l4095, nI_eqs, nI_les, nI_lts, qI_eq, qI_eqn, nI_eqq, qI_lts, nI_ltp, nI_lep, qI_les, nI_add, nI_mul, qI_add, qI_s, qI_def, nI_clamps, bI_z, bI_o, bI_01, n01, n11, rf_some, rf_none, m1, m1n, bft, nI_and, nI_or, nI_shl', nI_shr', a31, and1, h1', a, e3, b']
      · rw [decide_eq_false a, Bool.false_and, Bool.false_or, ← ih (i + 1) (by omega)]
        have a' : R / 2 ^ i % 2 = 0 := by omega
        simp (disch := omega) only [s49_0, s49_1, s49_3, s49_4, s49_5, s49_6, s49_7, s49_8, s49_9, s49_10, s49_11, s49_12, s49_13, s49_14, s49_15, s49_16, s49_17, s49_18, s49_19, s49_20, s49_21, ↓reduceIte, Option.bind_some, Option.toList_some, Option.toList_none, List.cons_append, List.nil_append, if_true, if_false, true_or, or_true, true_and, and_true, not_true_eq_false, not_false_eq_true, Nat.reduceLT, Nat.reduceLeDiff, Nat.reduceEqDiff, Nat.reduceAdd, Nat.reduceMul, Nat.reduceSub, Nat.reducePow, Nat.reduceMod, Nat.reduceDiv, l0, l1, l2, l3, l4, l5, l6, l7, l8, l9, l10, l11, l12, l13, l14, l15, l16, l20, l31, l32, l36, l40, l48, l57, l59, l63, l64, l97, l99, l100, l101, l122, l127, l128, l250, l255, l262143, l262144, l30000, l100000, l12345, l1024, l4095, nI_eqs, nI_les, nI_lts, qI_eq, qI_eqn, nI_eqq, qI_lts, nI_ltp, nI_lep, qI_les, nI_add, nI_mul, qI_add, qI_s, qI_def, nI_clamps, bI_z, bI_o, bI_01, n01, n11, rf_some, rf_none, m1, m1n, bft, nI_and, nI_or, nI_shl', nI_shr', a31, and1, h1', a']
  rw [s49_0, s49_1]
  exact lp 16 0 (by omega)
theorem bhC_ok {y : YS} {g : Nat} {k : Nat} (h3 : Yc y ≤ 3) (hk : pOK y (uq k)) : ∀ n i a, i + n ≤ Yc y → ROK y a → ROK y (bhC (stp y g) k n i a) := by
  intro n
  induction n with
  | zero => intro i a _ h; exact h
  | succ n ih =>
    intro i a hi h
    have sok := stp_ok (g := g) hk (show i < Yc y by omega)
    have s16 := pk16 h3 sok
    refine ih (i + 1) _ (by omega) ⟨Nat.or_lt_two_pow h.1 (Nat.pow_lt_pow_right (by decide) s16), fun j hj => ?_⟩
    have hj' : (a ||| 2 ^ pk (stp y g (uq k) i)).testBit j = true := by
      cases e : (a ||| 2 ^ pk (stp y g (uq k) i)).testBit j
      · rw [(bit0 _ _).mpr e] at hj; cases hj
      · rfl
    rw [Nat.testBit_or, Bool.or_eq_true, Nat.testBit_two_pow, decide_eq_true_iff] at hj'
    rcases hj' with q | q
    · refine h.2 j ?_
      have : ¬ (a / 2 ^ j % 2 = 0) := by rw [bit0, q]; decide
      omega
    · rw [← q, uq_pk (by have := sok.1; omega)]; exact sok
theorem bhT_ok {y : YS} {g : Nat} {R : Nat} (h3 : Yc y ≤ 3) (hR : ROK y R) : ∀ m i a, i + m ≤ 16 → ROK y a → ROK y (bhT (stp y g) (Yc y) R m i a) := by
  intro m
  induction m with
  | zero => intro i a _ h; exact h
  | succ m ih =>
    intro i a hi h
    refine ih (i + 1) _ (by omega) ?_
    show ROK y (if R / 2 ^ i % 2 = 1 then bhC (stp y g) i (Yc y) 0 a else a)
    split
    · rename_i w; exact bhC_ok h3 (hR.2 i w) _ _ _ (by omega) h
    · exact h
theorem ROK_or {y : YS} {a b : Nat} (ha : ROK y a) (hb : ROK y b) : ROK y (a ||| b) := by
  refine ⟨Nat.or_lt_two_pow ha.1 hb.1, fun j hj => ?_⟩
  have hj' : (a ||| b).testBit j = true := by
    cases e : (a ||| b).testBit j
    · rw [(bit0 _ _).mpr e] at hj; cases hj
    · rfl
  rw [Nat.testBit_or, Bool.or_eq_true] at hj'
  rcases hj' with q | q
  · refine ha.2 j ?_
    have : ¬ (a / 2 ^ j % 2 = 0) := by rw [bit0, q]; decide
    omega
  · refine hb.2 j ?_
    have : ¬ (b / 2 ^ j % 2 = 0) := by rw [bit0, q]; decide
    omega
theorem ROK_1 {y : YS} {p : Nat × Nat} (h3 : Yc y ≤ 3) (hp : pOK y p) : ROK y (2 ^ pk p) := by
  refine ⟨Nat.pow_lt_pow_right (by decide) (pk16 h3 hp), fun j hj => ?_⟩
  have hj' : (2 ^ pk p).testBit j = true := by
    cases e : (2 ^ pk p).testBit j
    · rw [(bit0 _ _).mpr e] at hj; cases hj
    · rfl
  rw [Nat.testBit_two_pow, decide_eq_true_iff] at hj'
  rw [← hj', uq_pk (by have := hp.1; omega)]; exact hp
theorem ROK_0 (y : YS) : ROK y 0 := ⟨by decide, fun j hj => by rw [Nat.zero_div] at hj; cases hj⟩
theorem x50 (d : Nat) {h : AH} {b : Nat} {y : YS} (xy : XY h b y) {g R : Nat} (hg : g < Yg y) (hR : ROK y R) (p3 p4 p5 : Option Value) : E (d + 3) 50 0 [some (.ref b), some (.int (nI g)), some (.int (nI R)), p3, p4, p5] [] h = some (some (.int (nI (bhT (stp y g) (Yc y) R 16 0 0))), h) := by
  have z0 := xy.1.1
  have yc := xy.2.1.1
  have ok := xy.2.2
  obtain ⟨⟨o2, o3⟩, o6, on, og, oc⟩ := id ok
  have hR16 := hR.1
  have lc : ∀ n i k a, i + n = Yc y → k < 16 → (R / 2 ^ k % 2 = 1) → E (d + 3) 50 9 [some (.ref b), some (.int (nI g)), some (.int (nI R)), some (.int (nI a)), some (.int (nI k)), some (.int (nI i))] [] h = E (d + 3) 50 32 [some (.ref b), some (.int (nI g)), some (.int (nI R)), some (.int (nI (bhC (stp y g) k n i a))), some (.int (nI k)), some (.int (nI (Yc y)))] [] h := by
    intro n
    induction n with
    | zero =>
      intro i k a hi hk hb
      have hi' : i = Yc y := hi
      rw [s50_9, hi']
      simp (disch := omega) only [s50_10, s50_11, s50_12, ↓reduceIte, Option.bind_some, Option.toList_some, Option.toList_none, List.cons_append, List.nil_append, if_true, if_false, true_or, or_true, true_and, and_true, not_true_eq_false, not_false_eq_true, Nat.reduceLT, Nat.reduceLeDiff, Nat.reduceEqDiff, Nat.reduceAdd, Nat.reduceMul, Nat.reduceSub, Nat.reducePow, Nat.reduceMod, Nat.reduceDiv, l0, l1, l2, l3, l4, l5, l6, l7, l8, l9, l10, l11, l12, l13, l14, l15, l16, l20, l31, l32, l36, l40, l48, l57, l59, l63, l64, l97, l99, l100, l101, l122, l127, l128, l250, l255, l262143, l262144, l30000, l100000, l12345, l1024, l4095, nI_eqs, nI_les, nI_lts, qI_eq, qI_eqn, nI_eqq, qI_lts, nI_ltp, nI_lep, qI_les, nI_add, nI_mul, qI_add, qI_s, qI_def, nI_clamps, bI_z, bI_o, bI_01, n01, n11, rf_some, rf_none, m1, m1n, bft, z0, yc, Nat.le_refl]
      rfl
    | succ n ih =>
      intro i k a hi hk hb
      have h1' : ¬ Yc y ≤ i := by omega
      have hp := hR.2 k hb
      have e76 := fun d => x76p d xy hg hp (show i < Yc y by omega)
      rw [pk_uq] at e76
      have s16 := pk16 o3 (stp_ok (g := g) hp (show i < Yc y by omega))
      have S : bhC (stp y g) k (n + 1) i a = bhC (stp y g) k n (i + 1) (a ||| 2 ^ pk (stp y g (uq k) i)) := rfl
      rw [S, ← ih (i + 1) k _ (by omega) hk hb, s50_9]
      simp (disch := omega) only [s50_10, s50_11, s50_12, s50_13, s50_14, s50_15, s50_16, s50_17, s50_18, s50_19, s50_20, s50_21, s50_22, s50_23, s50_24, s50_25, s50_26, s50_27, s50_28, s50_29, s50_30, s50_31, ↓reduceIte, Option.bind_some, Option.toList_some, Option.toList_none, List.cons_append, List.nil_append, if_true, if_false, true_or, or_true, true_and, and_true, not_true_eq_false, not_false_eq_true, Nat.reduceLT, Nat.reduceLeDiff, Nat.reduceEqDiff, Nat.reduceAdd, Nat.reduceMul, Nat.reduceSub, Nat.reducePow, Nat.reduceMod, Nat.reduceDiv, l0, l1, l2, l3, l4, l5, l6, l7, l8, l9, l10, l11, l12, l13, l14, l15, l16, l20, l31, l32, l36, l40, l48, l57, l59, l63, l64, l97, l99, l100, l101, l122, l127, l128, l250, l255, l262143, l262144, l30000, l100000, l12345, l1024, l4095, nI_eqs, nI_les, nI_lts, qI_eq, qI_eqn, nI_eqq, qI_lts, nI_ltp, nI_lep, qI_les, nI_add, nI_mul, qI_add, qI_s, qI_def, nI_clamps, bI_z, bI_o, bI_01, n01, n11, rf_some, rf_none, m1, m1n, bft, nI_and, nI_or, nI_shl', nI_shr', a31, and1, z0, yc, h1', hb, e76, Nat.one_mul]
  have lm : ∀ m i a p5, i + m = 16 → E (d + 3) 50 4 [some (.ref b), some (.int (nI g)), some (.int (nI R)), some (.int (nI a)), some (.int (nI i)), p5] [] h = some (some (.int (nI (bhT (stp y g) (Yc y) R m i a))), h) := by
    intro m
    induction m with
    | zero =>
      intro i a p5 hi
      have hi' : i = 16 := hi
      subst hi'
      rw [s50_4]
      simp (disch := omega) only [s50_5, s50_6, s50_34, s50_35, ↓reduceIte, Option.bind_some, Option.toList_some, Option.toList_none, List.cons_append, List.nil_append, if_true, if_false, true_or, or_true, true_and, and_true, not_true_eq_false, not_false_eq_true, Nat.reduceLT, Nat.reduceLeDiff, Nat.reduceEqDiff, Nat.reduceAdd, Nat.reduceMul, Nat.reduceSub, Nat.reducePow, Nat.reduceMod, Nat.reduceDiv, l0, l1, l2, l3, l4, l5, l6, l7, l8, l9, l10, l11, l12, l13, l14, l15, l16, l20, l31, l32, l36, l40, l48, l57, l59, l63, l64, l97, l99, l100, l101, l122, l127, l128, l250, l255, l262143, l262144, l30000, l100000, l12345, l1024, l4095, nI_eqs, nI_les, nI_lts, qI_eq, qI_eqn, nI_eqq, qI_lts, nI_ltp, nI_lep, qI_les, nI_add, nI_mul, qI_add, qI_s, qI_def, nI_clamps, bI_z, bI_o, bI_01, n01, n11, rf_some, rf_none, m1, m1n, bft]
      rfl
    | succ m ih =>
      intro i a p5 hi
      have h1' : ¬ 15 < i := by omega
      have S : bhT (stp y g) (Yc y) R (m + 1) i a = bhT (stp y g) (Yc y) R m (i + 1) (if R / 2 ^ i % 2 = 1 then bhC (stp y g) i (Yc y) 0 a else a) := rfl
      rw [S, s50_4]
      by_cases c : R / 2 ^ i % 2 = 1
      · rw [if_pos c, ← ih (i + 1) _ (some (.int (nI (Yc y)))) (by omega)]
        have e := lc (Yc y) 0 i a (by omega) (by omega) c
        simp (disch := omega) only [s50_5, s50_6, s50_7, s50_8, ↓reduceIte, Option.bind_some, Option.toList_some, Option.toList_none, List.cons_append, List.nil_append, if_true, if_false, true_or, or_true, true_and, and_true, not_true_eq_false, not_false_eq_true, Nat.reduceLT, Nat.reduceLeDiff, Nat.reduceEqDiff, Nat.reduceAdd, Nat.reduceMul, Nat.reduceSub, Nat.reducePow, Nat.reduceMod, Nat.reduceDiv, l0, l1, l2, l3, l4, l5, l6, l7, l8, l9, l10, l11, l12, l13, l14, l15, l16, l20, l31, l32, l36, l40, l48, l57, l59, l63, l64, l97, l99, l100, l101, l122, l127, l128, l250, l255, l262143, l262144, l30000, l100000, l12345, l1024, l4095, nI_eqs, nI_les, nI_lts, qI_eq, qI_eqn, nI_eqq, qI_lts, nI_ltp, nI_lep, qI_les, nI_add, nI_mul, qI_add, qI_s, qI_def, nI_clamps, bI_z, bI_o, bI_01, n01, n11, rf_some, rf_none, m1, m1n, bft, h1']
        rw [e]
        simp (disch := omega) only [s50_32, s50_33, ↓reduceIte, Option.bind_some, Option.toList_some, Option.toList_none, List.cons_append, List.nil_append, if_true, if_false, true_or, or_true, true_and, and_true, not_true_eq_false, not_false_eq_true, Nat.reduceLT, Nat.reduceLeDiff, Nat.reduceEqDiff, Nat.reduceAdd, Nat.reduceMul, Nat.reduceSub, Nat.reducePow, Nat.reduceMod, Nat.reduceDiv, l0, l1, l2, l3, l4, l5, l6, l7, l8, l9, l10, l11, l12, l13, l14, l15, l16, l20, l31, l32, l36, l40, l48, l57, l59, l63, l64, l97, l99, l100, l101, l122, l127, l128, l250, l255, l262143, l262144, l30000, l100000, l12345, l1024, l4095, nI_eqs, nI_les, nI_lts, qI_eq, qI_eqn, nI_eqq, qI_lts, nI_ltp, nI_lep, qI_les, nI_add, nI_mul, qI_add, qI_s, qI_def, nI_clamps, bI_z, bI_o, bI_01, n01, n11, rf_some, rf_none, m1, m1n, bft]
      · rw [if_neg c, ← ih (i + 1) _ (some (.int (nI 0))) (by omega)]
        have c' : R / 2 ^ i % 2 = 0 := by omega
        have y0 : ¬ Yc y ≤ 0 := by omega
        simp (disch := omega) only [s50_5, s50_6, s50_7, s50_8, s50_9, s50_10, s50_11, s50_12, s50_13, s50_14, s50_15, s50_16, s50_17, s50_18, s50_19, s50_32, s50_33, ↓reduceIte, Option.bind_some, Option.toList_some, Option.toList_none, List.cons_append, List.nil_append, if_true, if_false, true_or, or_true, true_and, and_true, not_true_eq_false, not_false_eq_true, Nat.reduceLT, Nat.reduceLeDiff, Nat.reduceEqDiff, Nat.reduceAdd, Nat.reduceMul, Nat.reduceSub, Nat.reducePow, Nat.reduceMod, Nat.reduceDiv, l0, l1, l2, l3, l4, l5, l6, l7, l8, l9, l10, l11, l12, l13, l14, l15, l16, l20, l31, l32, l36, l40, l48, l57, l59, l63, l64, l97, l99, l100, l101, l122, l127, l128, l250, l255, l262143, l262144, l30000, l100000, l12345, l1024, l4095, nI_eqs, nI_les, nI_lts, qI_eq, qI_eqn, nI_eqq, qI_lts, nI_ltp, nI_lep, qI_les, nI_add, nI_mul, qI_add, qI_s, qI_def, nI_clamps, bI_z, bI_o, bI_01, n01, n11, rf_some, rf_none, m1, m1n, bft, nI_and, nI_or, nI_shl', nI_shr', a31, and1, h1', z0, yc, y0, c']
  rw [s50_0, s50_1, s50_2, s50_3]
  exact lm 16 0 0 p5 (by omega)
theorem x48 (d : Nat) {h : AH} {b : Nat} {y : YS} (xy : XY h b y) {g col : Nat} (hg : g < Yg y) (hc : col < Yc y) (p3 p4 : Option Value) : E (d + 4) 48 0 [some (.ref b), some (.int (nI g)), some (.int (nI col)), p3, p4] [] h = some (some (.int (tsR (stp y g) (Yc y) col 16 0 (2 ^ pk (memP y g)))), h) := by
  have z0 := xy.1.1
  have ok := xy.2.2
  obtain ⟨⟨o2, o3⟩, o6, on, og, oc⟩ := id ok
  have mp := memP_ok ok hg
  have s16 := pk16 o3 mp
  have lp : ∀ u t R, t + u = 16 → ROK y R → E (d + 4) 48 8 [some (.ref b), some (.int (nI g)), some (.int (nI col)), some (.int (nI R)), some (.int (nI t))] [] h = some (some (.int (tsR (stp y g) (Yc y) col u t R)), h) := by
    intro u
    induction u with
    | zero =>
      intro t R ht hR
      have ht' : t = 16 := ht
      subst ht'
      rw [s48_8]
      simp (disch := omega) only [s48_0, s48_1, s48_2, s48_3, s48_4, s48_5, s48_6, s48_7, s48_9, s48_10, s48_11, s48_12, s48_13, s48_14, s48_15, s48_16, s48_17, s48_18, s48_19, s48_20, s48_21, s48_22, s48_23, s48_24, s48_25, s48_26, s48_27, ↓reduceIte, Option.bind_some, Option.toList_some, Option.toList_none, List.cons_append, List.nil_append, if_true, if_false, true_or, or_true, true_and, and_true, not_true_eq_false, not_false_eq_true, Nat.reduceLT, Nat.reduceLeDiff, Nat.reduceEqDiff, Nat.reduceAdd, Nat.reduceMul, Nat.reduceSub, Nat.reducePow, Nat.reduceMod, Nat.reduceDiv, l0, l1, l2, l3, l4, l5, l6, l7, l8, l9, l10, l11, l12, l13, l14, l15, l16, l20, l31, l32, l36, l40, l48, l57, l59, l63, l64, l97, l99, l100, l101, l122, l127, l128, l250, l255, l262143, l262144, l30000, l100000, l12345, l1024, l4095, nI_eqs, nI_les, nI_lts, qI_eq, qI_eqn, nI_eqq, qI_lts, nI_ltp, nI_lep, qI_les, nI_add, nI_mul, qI_add, qI_s, qI_def, nI_clamps, bI_z, bI_o, bI_01, n01, n11, rf_some, rf_none, m1, m1n, bft]
      rfl
    | succ u ih =>
      intro t R ht hR
      have h1' : ¬ 15 < t := by omega
      have e49 := fun d => x49 d h (R := R) (col := col) hR.1 (by omega) none
      have e50 := fun d => x50 d xy hg hR none none none
      rw [s48_8]
      show _ = some (some (Value.int (if hsF R col 16 0 = true then nI t else tsR (stp y g) (Yc y) col u (t + 1) (R ||| bhT (stp y g) (Yc y) R 16 0 0))), h)
      cases c : hsF R col 16 0 <;> rw [c] at e49
      · rw [if_neg (by decide), ← ih (t + 1) _ (by omega) (ROK_or hR (bhT_ok o3 hR _ _ _ (by omega) (ROK_0 y)))]
        simp (disch := omega) only [s48_0, s48_1, s48_2, s48_3, s48_4, s48_5, s48_6, s48_7, s48_9, s48_10, s48_11, s48_12, s48_13, s48_14, s48_15, s48_16, s48_17, s48_18, s48_19, s48_20, s48_21, s48_22, s48_23, s48_24, s48_25, s48_26, s48_27, ↓reduceIte, Option.bind_some, Option.toList_some, Option.toList_none, List.cons_append, List.nil_append, if_true, if_false, true_or, or_true, true_and, and_true, not_true_eq_false, not_false_eq_true, Nat.reduceLT, Nat.reduceLeDiff, Nat.reduceEqDiff, Nat.reduceAdd, Nat.reduceMul, Nat.reduceSub, Nat.reducePow, Nat.reduceMod, Nat.reduceDiv, l0, l1, l2, l3, l4, l5, l6, l7, l8, l9, l10, l11, l12, l13, l14, l15, l16, l20, l31, l32, l36, l40, l48, l57, l59, l63, l64, l97, l99, l100, l101, l122, l127, l128, l250, l255, l262143, l262144, l30000, l100000, l12345, l1024, l4095, nI_eqs, nI_les, nI_lts, qI_eq, qI_eqn, nI_eqq, qI_lts, nI_ltp, nI_lep, qI_les, nI_add, nI_mul, qI_add, qI_s, qI_def, nI_clamps, bI_z, bI_o, bI_01, n01, n11, rf_some, rf_none, m1, m1n, bft, nI_or, h1', e49, e50]
      · rw [if_pos rfl]
        simp (disch := omega) only [s48_0, s48_1, s48_2, s48_3, s48_4, s48_5, s48_6, s48_7, s48_9, s48_10, s48_11, s48_12, s48_13, s48_14, s48_15, s48_16, s48_17, s48_18, s48_19, s48_20, s48_21, s48_22, s48_23, s48_24, s48_25, s48_26, s48_27, ↓reduceIte, Option.bind_some, Option.toList_some, Option.toList_none, List.cons_append, List.nil_append, if_true, if_false, true_or, or_true, true_and, and_true, not_true_eq_false, not_false_eq_true, Nat.reduceLT, Nat.reduceLeDiff, Nat.reduceEqDiff, Nat.reduceAdd, Nat.reduceMul, Nat.reduceSub, Nat.reducePow, Nat.reduceMod, Nat.reduceDiv, l0, l1, l2, l3, l4, l5, l6, l7, l8, l9, l10, l11, l12, l13, l14, l15, l16, l20, l31, l32, l36, l40, l48, l57, l59, l63, l64, l97, l99, l100, l101, l122, l127, l128, l250, l255, l262143, l262144, l30000, l100000, l12345, l1024, l4095, nI_eqs, nI_les, nI_lts, qI_eq, qI_eqn, nI_eqq, qI_lts, nI_ltp, nI_lep, qI_les, nI_add, nI_mul, qI_add, qI_s, qI_def, nI_clamps, bI_z, bI_o, bI_01, n01, n11, rf_some, rf_none, m1, m1n, bft, h1', e49, Bool.true_eq_false]
  have e68 := fun d => x68p d xy hg
  have e := lp 16 0 (2 ^ pk (memP y g)) (by omega) (ROK_1 o3 mp)
  simp (disch := omega) only [s48_0, s48_1, s48_2, s48_3, s48_4, s48_5, s48_6, s48_7, ↓reduceIte, Option.bind_some, Option.toList_some, Option.toList_none, List.cons_append, List.nil_append, if_true, if_false, true_or, or_true, true_and, and_true, not_true_eq_false, not_false_eq_true, Nat.reduceLT, Nat.reduceLeDiff, Nat.reduceEqDiff, Nat.reduceAdd, Nat.reduceMul, Nat.reduceSub, Nat.reducePow, Nat.reduceMod, Nat.reduceDiv, l0, l1, l2, l3, l4, l5, l6, l7, l8, l9, l10, l11, l12, l13, l14, l15, l16, l20, l31, l32, l36, l40, l48, l57, l59, l63, l64, l97, l99, l100, l101, l122, l127, l128, l250, l255, l262143, l262144, l30000, l100000, l12345, l1024, l4095, nI_eqs, nI_les, nI_lts, qI_eq, qI_eqn, nI_eqq, qI_lts, nI_ltp, nI_lep, qI_les, nI_add, nI_mul, qI_add, qI_s, qI_def, nI_clamps, bI_z, bI_o, bI_01, n01, n11, rf_some, rf_none, m1, m1n, bft, nI_shl', a31, nI_and, z0, e68, Nat.one_mul]
  exact e
def s_sets (s : GS) (g c : Int32) : Int32 × GS := if inR g (Yg (gY s)) = true ∧ inR c (Yc (gY s)) = true then (tsR (stp (gY s) g.toNatClampNeg) (Yc (gY s)) c.toNatClampNeg 16 0 (2 ^ pk (memP (gY s) g.toNatClampNeg)), s) else rfS s 2
theorem c114 (d : Nat) {h : AH} {B : Nat} {s : GS} (hx : DX h B s) (g c : Int32) : DC (d + 5) 114 [some (.ref B), some (.int g), some (.int c)] h B (s_sets s g c) := by
  obtain ⟨⟨b0, b1, b2, b3, b4, b5, b6, b7⟩, xy, ⟨k0, k1⟩, xh, ⟨t0, t1, t2, t3, t4, t5⟩, rx, qx⟩ := id hx; have e131 := c131e hx; obtain ⟨⟨z0, z1, z2, z3, z4, z5, z6, z7, r1, r2, r3, r4, r5, r6, r7⟩, ⟨vc, vg, vn, vt, vz, vK, vA, vU, vM, vW, vC, vP⟩, ok⟩ := id xy; obtain ⟨⟨o2, o3⟩, o6, on, og, oc⟩ := id ok
  have e62 := fun d => x62 d xy g
  have e64 := fun d => x64 d xy c
  unfold s_sets
  cases a : inR g (Yg (gY s))
  · rw [if_neg (fun w => absurd w.1 (by decide))]
    rw [a] at e62
    refine DC.rf hx (by decide) (by decide) ?_
    simp (disch := omega) only [s114_0, s114_1, s114_2, s114_3, s114_4, s114_5, s114_6, s114_7, s114_8, s114_9, s114_10, s114_11, s114_12, s114_13, s114_14, s114_15, s114_16, s114_17, s114_18, s114_19, ↓reduceIte, Option.bind_some, Option.toList_some, Option.toList_none, List.cons_append, List.nil_append, if_true, if_false, true_or, or_true, true_and, and_true, not_true_eq_false, not_false_eq_true, Nat.reduceLT, Nat.reduceLeDiff, Nat.reduceEqDiff, Nat.reduceAdd, Nat.reduceMul, Nat.reduceSub, Nat.reducePow, Nat.reduceMod, Nat.reduceDiv, l0, l1, l2, l3, l4, l5, l6, l7, l8, l9, l10, l11, l12, l13, l14, l15, l16, l20, l31, l32, l36, l40, l48, l57, l59, l63, l64, l97, l99, l100, l101, l122, l127, l128, l250, l255, l262143, l262144, l30000, l100000, l12345, l1024, l4095, nI_eqs, nI_les, nI_lts, qI_eq, qI_eqn, nI_eqq, qI_lts, nI_ltp, nI_lep, qI_les, nI_add, nI_mul, qI_add, qI_s, qI_def, nI_clamps, bI_z, bI_o, bI_01, n01, n11, rf_some, rf_none, m1, m1n, bft, b0, b1, z0, e62, rN_d, e131]
  · rw [a] at e62
    cases a2 : inR c (Yc (gY s))
    · rw [if_neg (fun w => absurd w.2 (by decide))]
      rw [a2] at e64
      refine DC.rf hx (by decide) (by decide) ?_
      simp (disch := omega) only [s114_0, s114_1, s114_2, s114_3, s114_4, s114_5, s114_6, s114_7, s114_8, s114_9, s114_10, s114_11, s114_12, s114_13, s114_14, s114_15, s114_16, s114_17, s114_18, s114_19, ↓reduceIte, Option.bind_some, Option.toList_some, Option.toList_none, List.cons_append, List.nil_append, if_true, if_false, true_or, or_true, true_and, and_true, not_true_eq_false, not_false_eq_true, Nat.reduceLT, Nat.reduceLeDiff, Nat.reduceEqDiff, Nat.reduceAdd, Nat.reduceMul, Nat.reduceSub, Nat.reducePow, Nat.reduceMod, Nat.reduceDiv, l0, l1, l2, l3, l4, l5, l6, l7, l8, l9, l10, l11, l12, l13, l14, l15, l16, l20, l31, l32, l36, l40, l48, l57, l59, l63, l64, l97, l99, l100, l101, l122, l127, l128, l250, l255, l262143, l262144, l30000, l100000, l12345, l1024, l4095, nI_eqs, nI_les, nI_lts, qI_eq, qI_eqn, nI_eqq, qI_lts, nI_ltp, nI_lep, qI_les, nI_add, nI_mul, qI_add, qI_s, qI_def, nI_clamps, bI_z, bI_o, bI_01, n01, n11, rf_some, rf_none, m1, m1n, bft, b0, b1, z0, e62, e64, rN_d, e131, Bool.true_eq_false]
    · rw [if_pos ⟨rfl, rfl⟩]
      rw [a2] at e64
      obtain ⟨j, hj, rfl⟩ := inR_of (by omega) a
      obtain ⟨v, hv, rfl⟩ := inR_of (by omega) a2
      rw [nI_clamp (show j < 2 ^ 31 by omega), nI_clamp (show v < 2 ^ 31 by omega)]
      have e48 := fun d => x48 d xy hj hv none none
      refine DC.same hx ?_
      simp (disch := omega) only [s114_0, s114_1, s114_2, s114_3, s114_4, s114_5, s114_6, s114_7, s114_8, s114_9, s114_10, s114_11, s114_12, s114_13, s114_14, s114_15, s114_16, s114_17, s114_18, s114_19, ↓reduceIte, Option.bind_some, Option.toList_some, Option.toList_none, List.cons_append, List.nil_append, if_true, if_false, true_or, or_true, true_and, and_true, not_true_eq_false, not_false_eq_true, Nat.reduceLT, Nat.reduceLeDiff, Nat.reduceEqDiff, Nat.reduceAdd, Nat.reduceMul, Nat.reduceSub, Nat.reducePow, Nat.reduceMod, Nat.reduceDiv, l0, l1, l2, l3, l4, l5, l6, l7, l8, l9, l10, l11, l12, l13, l14, l15, l16, l20, l31, l32, l36, l40, l48, l57, l59, l63, l64, l97, l99, l100, l101, l122, l127, l128, l250, l255, l262143, l262144, l30000, l100000, l12345, l1024, l4095, nI_eqs, nI_les, nI_lts, qI_eq, qI_eqn, nI_eqq, qI_lts, nI_ltp, nI_lep, qI_les, nI_add, nI_mul, qI_add, qI_s, qI_def, nI_clamps, bI_z, bI_o, bI_01, n01, n11, rf_some, rf_none, m1, m1n, bft, b0, b1, z0, e62, e64, e48, Bool.true_eq_false]
