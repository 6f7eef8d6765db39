/-! THE DEVELOPERS' SHELVES: stretches, rows, elements -/
/-- the refusal of the first n elements of the row in shelf x; 0: none -/
def strR (sh : Nat → SHT) (q : Bool) (x n : Int32) : Int32 := if q = true ∧ inR x 8 = true then (if Hk (sh x.toNatClampNeg) = 1 then (if inR n (Hn (sh x.toNatClampNeg) + 1) = true then nI 0 else rN 2) else rowR (sh x.toNatClampNeg)) else rN 2
theorem rN_ne {k : Nat} (h : 2 ≤ k) (h' : k ≤ 6) : (rN k = nI 0) = False := by
  rcases r26 h h' with rfl | rfl | rfl | rfl | rfl <;> decide
theorem x134 (d : Nat) {h : AH} {B : Nat} {sh : Nat → SHT} (hx : XH h B sh) (q : Bool) (x n : Int32) (p : Option Value) : E (d + 2) 134 0 [some (.ref B), some (.int (bI q)), some (.int x), some (.int n), p] [] h = some (some (.int (strR sh q x n)), h) := by
  have e133 := fun d => x133 d hx q x
  obtain ⟨z0, r4, z1, hs⟩ := hx
  unfold strR
  by_cases c : q = true ∧ inR x 8 = true
  · rw [if_pos c] at e133 ⊢
    obtain ⟨s, hs8, rfl⟩ := inR_of (by decide) c.2
    obtain ⟨rs, sx⟩ := hs s hs8
    have zz := sx.1.1
    have n40 := sx.2.2.n
    have g5 := gR (h := h) z1 (Or.inr (Or.inl rfl)) (i := s)
    have e26 := fun d => x26 d sx (nI 0) n
    have st : stB (nI 0) n (Hn (sh s)) = inR n (Hn (sh s) + 1) := by
      unfold stB
      rw [inR_nI (by decide) (by omega), decide_eq_true (by omega), Bool.and_true]
    rw [st] at e26
    rw [nI_clamp (by omega)] at e133 ⊢
    unfold rowR at e133 ⊢
    rcases zz_3 sx.2.2.1 with w | w | w
    · rw [w] at e133 ⊢
      rw [if_neg (by decide), if_neg (by decide)] at e133
      simp (disch := omega) only [s134_0, s134_1, s134_2, s134_3, s134_4, s134_5, s134_6, s134_7, s134_8, s134_9, s134_10, s134_11, s134_12, s134_13, s134_14, s134_15, s134_16, s134_17, s134_18, s134_19, s134_20, ↓reduceIte, Option.bind_some, Option.toList_some, Option.toList_none, List.cons_append, List.nil_append, if_true, if_false, true_or, or_true, true_and, and_true, not_true_eq_false, not_false_eq_true, Nat.reduceLT, Nat.reduceLeDiff, Nat.reduceEqDiff, Nat.reduceAdd, Nat.reduceMul, Nat.reduceSub, Nat.reducePow, Nat.reduceMod, Nat.reduceDiv, l0, l1, l2, l3, l4, l5, l6, l7, l8, l9, l10, l11, l12, l13, l14, l15, l16, l20, l31, l32, l36, l40, l48, l57, l59, l63, l64, l97, l99, l100, l101, l122, l127, l128, l250, l255, l262143, l262144, l30000, l100000, l12345, l1024, l4095, z0, e133, rN_ne, Nat.zero_ne_one]
    · rw [w] at e133 ⊢
      rw [if_neg (by decide), if_pos rfl] at e133
      cases e : inR n (Hn (sh s) + 1)
      · rw [e] at e26
        simp (disch := omega) only [s134_0, s134_1, s134_2, s134_3, s134_4, s134_5, s134_6, s134_7, s134_8, s134_9, s134_10, s134_11, s134_12, s134_13, s134_14, s134_15, s134_16, s134_17, s134_18, s134_19, s134_20, ↓reduceIte, Option.bind_some, Option.toList_some, Option.toList_none, List.cons_append, List.nil_append, if_true, if_false, true_or, or_true, true_and, and_true, not_true_eq_false, not_false_eq_true, Nat.reduceLT, Nat.reduceLeDiff, Nat.reduceEqDiff, Nat.reduceAdd, Nat.reduceMul, Nat.reduceSub, Nat.reducePow, Nat.reduceMod, Nat.reduceDiv, l0, l1, l2, l3, l4, l5, l6, l7, l8, l9, l10, l11, l12, l13, l14, l15, l16, l20, l31, l32, l36, l40, l48, l57, l59, l63, l64, l97, l99, l100, l101, l122, l127, l128, l250, l255, l262143, l262144, l30000, l100000, l12345, l1024, l4095, nI_eqs, nI_les, nI_lts, qI_eq, qI_eqn, nI_eqq, qI_lts, nI_ltp, nI_lep, qI_les, nI_add, nI_mul, qI_add, qI_s, qI_def, nI_clamps, bI_z, bI_o, bI_01, n01, n11, rf_some, rf_none, m1, m1n, bft, z0, e133, r4, g5, rs, zz, e26, rN_def, Bool.false_eq_true]
      · rw [e] at e26
        simp (disch := omega) only [s134_0, s134_1, s134_2, s134_3, s134_4, s134_5, s134_6, s134_7, s134_8, s134_9, s134_10, s134_11, s134_12, s134_13, s134_14, s134_15, s134_16, s134_17, s134_18, s134_19, s134_20, ↓reduceIte, Option.bind_some, Option.toList_some, Option.toList_none, List.cons_append, List.nil_append, if_true, if_false, true_or, or_true, true_and, and_true, not_true_eq_false, not_false_eq_true, Nat.reduceLT, Nat.reduceLeDiff, Nat.reduceEqDiff, Nat.reduceAdd, Nat.reduceMul, Nat.reduceSub, Nat.reducePow, Nat.reduceMod, Nat.reduceDiv, l0, l1, l2, l3, l4, l5, l6, l7, l8, l9, l10, l11, l12, l13, l14, l15, l16, l20, l31, l32, l36, l40, l48, l57, l59, l63, l64, l97, l99, l100, l101, l122, l127, l128, l250, l255, l262143, l262144, l30000, l100000, l12345, l1024, l4095, nI_eqs, nI_les, nI_lts, qI_eq, qI_eqn, nI_eqq, qI_lts, nI_ltp, nI_lep, qI_les, nI_add, nI_mul, qI_add, qI_s, qI_def, nI_clamps, bI_z, bI_o, bI_01, n01, n11, rf_some, rf_none, m1, m1n, bft, z0, e133, r4, g5, rs, zz, e26, rN_def, Bool.true_eq_false]
    · rw [w] at e133 ⊢
      rw [if_pos rfl] at e133
      simp (disch := omega) only [s134_0, s134_1, s134_2, s134_3, s134_4, s134_5, s134_6, s134_7, s134_8, s134_9, s134_10, s134_11, s134_12, s134_13, s134_14, s134_15, s134_16, s134_17, s134_18, s134_19, s134_20, ↓reduceIte, Option.bind_some, Option.toList_some, Option.toList_none, List.cons_append, List.nil_append, if_true, if_false, true_or, or_true, true_and, and_true, not_true_eq_false, not_false_eq_true, Nat.reduceLT, Nat.reduceLeDiff, Nat.reduceEqDiff, Nat.reduceAdd, Nat.reduceMul, Nat.reduceSub, Nat.reducePow, Nat.reduceMod, Nat.reduceDiv, l0, l1, l2, l3, l4, l5, l6, l7, l8, l9, l10, l11, l12, l13, l14, l15, l16, l20, l31, l32, l36, l40, l48, l57, l59, l63, l64, l97, l99, l100, l101, l122, l127, l128, l250, l255, l262143, l262144, l30000, l100000, l12345, l1024, l4095, z0, e133, rN_ne]
  · rw [if_neg c] at e133 ⊢
    simp (disch := omega) only [s134_0, s134_1, s134_2, s134_3, s134_4, s134_5, s134_6, s134_7, s134_8, s134_9, s134_10, s134_11, s134_12, s134_13, s134_14, s134_15, s134_16, s134_17, s134_18, s134_19, s134_20, ↓reduceIte, Option.bind_some, Option.toList_some, Option.toList_none, List.cons_append, List.nil_append, if_true, if_false, true_or, or_true, true_and, and_true, not_true_eq_false, not_false_eq_true, Nat.reduceLT, Nat.reduceLeDiff, Nat.reduceEqDiff, Nat.reduceAdd, Nat.reduceMul, Nat.reduceSub, Nat.reducePow, Nat.reduceMod, Nat.reduceDiv, l0, l1, l2, l3, l4, l5, l6, l7, l8, l9, l10, l11, l12, l13, l14, l15, l16, l20, l31, l32, l36, l40, l48, l57, l59, l63, l64, l97, l99, l100, l101, l122, l127, l128, l250, l255, l262143, l262144, l30000, l100000, l12345, l1024, l4095, z0, e133, rN_ne]
