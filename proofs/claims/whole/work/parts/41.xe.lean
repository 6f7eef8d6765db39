/-! THE DEVELOPERS' SHELVES: element, holds -/
def elN (sh : Nat → SHT) (x i : Int32) : Int64 := if inR x 8 = true ∧ Hk (sh x.toNatClampNeg) = 1 ∧ inR i (Hn (sh x.toNatClampNeg)) = true then He (sh x.toNatClampNeg) i.toNatClampNeg else 0
theorem x84 (d : Nat) {h : AH} {B : Nat} {sh : Nat → SHT} (hx : XH h B sh) (x i : Int32) : E (d + 1) 84 0 [some (.ref B), some (.int x), some (.int i)] [] h = some (some (.long (elN sh x i)), h) := by
  have e132 := fun d => x132 d h x
  obtain ⟨z0, r4, z1, hs⟩ := hx
  unfold elN
  cases e : inR x 8
  · rw [e] at e132
    simp (disch := omega) only [s84_0, s84_1, s84_2, s84_3, s84_4, s84_5, s84_6, s84_7, s84_8, s84_9, s84_10, s84_11, s84_12, s84_13, s84_14, s84_15, s84_16, s84_17, s84_18, s84_19, s84_20, s84_21, s84_22, s84_23, s84_24, s84_25, ↓reduceIte, Option.bind_some, Option.toList_some, Option.toList_none, List.cons_append, List.nil_append, if_true, if_false, true_or, or_true, true_and, and_true, not_true_eq_false, not_false_eq_true, Nat.reduceLT, Nat.reduceLeDiff, Nat.reduceEqDiff, Nat.reduceAdd, Nat.reduceMul, Nat.reduceSub, Nat.reducePow, Nat.reduceMod, Nat.reduceDiv, l0, l1, l2, l3, l4, l5, l6, l7, l8, l9, l10, l11, l12, l13, l14, l15, l16, l20, l31, l32, l36, l40, l48, l57, l59, l63, l64, l97, l99, l100, l101, l122, l127, l128, l250, l255, l262143, l262144, l30000, l100000, l12345, l1024, l4095, nI_eqs, nI_les, nI_lts, qI_eq, qI_eqn, nI_eqq, qI_lts, nI_ltp, nI_lep, qI_les, nI_add, nI_mul, qI_add, qI_s, qI_def, nI_clamps, bI_z, bI_o, bI_01, n01, n11, rf_some, rf_none, m1, m1n, bft, e132, Bool.false_eq_true, false_and]
  · rw [e] at e132
    obtain ⟨s, hs8, rfl⟩ := inR_of (by decide) e
    obtain ⟨rs, sx⟩ := hs s hs8
    have e23 := fun d => x23 d sx
    have e25 := fun d => x25 d sx i
    have zz := sx.1.1
    have zr := sx.1.2.2
    have ze := sx.1.2.1
    have vv := sx.2.1.2.2.2
    have n40 := sx.2.2.n
    have g5 := gR (h := h) z1 (Or.inr (Or.inl rfl)) (i := s)
    rw [nI_clamp (by omega)]
    by_cases w : Hk (sh s) = 1
    · cases c : inR i (Hn (sh s))
      · rw [c] at e25
        simp (disch := omega) only [s84_0, s84_1, s84_2, s84_3, s84_4, s84_5, s84_6, s84_7, s84_8, s84_9, s84_10, s84_11, s84_12, s84_13, s84_14, s84_15, s84_16, s84_17, s84_18, s84_19, s84_20, s84_21, s84_22, s84_23, s84_24, s84_25, ↓reduceIte, Option.bind_some, Option.toList_some, Option.toList_none, List.cons_append, List.nil_append, if_true, if_false, true_or, or_true, true_and, and_true, not_true_eq_false, not_false_eq_true, Nat.reduceLT, Nat.reduceLeDiff, Nat.reduceEqDiff, Nat.reduceAdd, Nat.reduceMul, Nat.reduceSub, Nat.reducePow, Nat.reduceMod, Nat.reduceDiv, l0, l1, l2, l3, l4, l5, l6, l7, l8, l9, l10, l11, l12, l13, l14, l15, l16, l20, l31, l32, l36, l40, l48, l57, l59, l63, l64, l97, l99, l100, l101, l122, l127, l128, l250, l255, l262143, l262144, l30000, l100000, l12345, l1024, l4095, nI_eqs, nI_les, nI_lts, qI_eq, qI_eqn, nI_eqq, qI_lts, nI_ltp, nI_lep, qI_les, nI_add, nI_mul, qI_add, qI_s, qI_def, nI_clamps, bI_z, bI_o, bI_01, n01, n11, rf_some, rf_none, m1, m1n, bft, e132, e23, e25, w, z0, r4, g5, rs, zz, Bool.true_eq_false, Bool.false_eq_true, decide_true, and_false]
      · rw [c] at e25
        obtain ⟨j, hj, rfl⟩ := inR_of (by omega) c
        have := vv j hj
        simp (disch := omega) only [s84_0, s84_1, s84_2, s84_3, s84_4, s84_5, s84_6, s84_7, s84_8, s84_9, s84_10, s84_11, s84_12, s84_13, s84_14, s84_15, s84_16, s84_17, s84_18, s84_19, s84_20, s84_21, s84_22, s84_23, s84_24, s84_25, ↓reduceIte, Option.bind_some, Option.toList_some, Option.toList_none, List.cons_append, List.nil_append, if_true, if_false, true_or, or_true, true_and, and_true, not_true_eq_false, not_false_eq_true, Nat.reduceLT, Nat.reduceLeDiff, Nat.reduceEqDiff, Nat.reduceAdd, Nat.reduceMul, Nat.reduceSub, Nat.reducePow, Nat.reduceMod, Nat.reduceDiv, l0, l1, l2, l3, l4, l5, l6, l7, l8, l9, l10, l11, l12, l13, l14, l15, l16, l20, l31, l32, l36, l40, l48, l57, l59, l63, l64, l97, l99, l100, l101, l122, l127, l128, l250, l255, l262143, l262144, l30000, l100000, l12345, l1024, l4095, nI_eqs, nI_les, nI_lts, qI_eq, qI_eqn, nI_eqq, qI_lts, nI_ltp, nI_lep, qI_les, nI_add, nI_mul, qI_add, qI_s, qI_def, nI_clamps, bI_z, bI_o, bI_01, n01, n11, rf_some, rf_none, m1, m1n, bft, e132, e23, e25, w, z0, r4, g5, rs, zz, zr, gA ze, this, Bool.true_eq_false, decide_true]
    · simp (disch := omega) only [s84_0, s84_1, s84_2, s84_3, s84_4, s84_5, s84_6, s84_7, s84_8, s84_9, s84_10, s84_11, s84_12, s84_13, s84_14, s84_15, s84_16, s84_17, s84_18, s84_19, s84_20, s84_21, s84_22, s84_23, s84_24, s84_25, ↓reduceIte, Option.bind_some, Option.toList_some, Option.toList_none, List.cons_append, List.nil_append, if_true, if_false, true_or, or_true, true_and, and_true, not_true_eq_false, not_false_eq_true, Nat.reduceLT, Nat.reduceLeDiff, Nat.reduceEqDiff, Nat.reduceAdd, Nat.reduceMul, Nat.reduceSub, Nat.reducePow, Nat.reduceMod, Nat.reduceDiv, l0, l1, l2, l3, l4, l5, l6, l7, l8, l9, l10, l11, l12, l13, l14, l15, l16, l20, l31, l32, l36, l40, l48, l57, l59, l63, l64, l97, l99, l100, l101, l122, l127, l128, l250, l255, l262143, l262144, l30000, l100000, l12345, l1024, l4095, nI_eqs, nI_les, nI_lts, qI_eq, qI_eqn, nI_eqq, qI_lts, nI_ltp, nI_lep, qI_les, nI_add, nI_mul, qI_add, qI_s, qI_def, nI_clamps, bI_z, bI_o, bI_01, n01, n11, rf_some, rf_none, m1, m1n, bft, e132, e23, w, z0, r4, g5, rs, zz, Bool.true_eq_false, decide_false, false_and, and_false]
