/-! THE DEVELOPERS' SHELF: rows; what an element becomes -/
def fitL (s : Nat) (v : Int64) : Int64 := if s = 0 then v.toInt32.toInt8.toInt32.toInt64 else if s = 1 then v.toInt32.toInt16.toInt32.toInt64 else if s = 2 then v.toInt32.toInt64 else if s = 3 then v else if v = 0 then 0 else 1
theorem k5 {k : Nat} (h : k < 5) : k = 0 ∨ k = 1 ∨ k = 2 ∨ k = 3 ∨ k = 4 := by omega
theorem x31 (d : Nat) {h : AH} {o : Nat} {t : SHT} (hx : SX h o t) (h1 : Hk t = 1) (v : Int64) (p : Option Value) : E d 31 0 [some (.ref o), some (.long v), p] [] h = some (some (.long (fitL (Hs t) v)), h) := by
  obtain ⟨⟨z0, z1, r1⟩, ⟨v0, v1, v2, v3⟩, ⟨q0, q1, q2, q3, q4⟩⟩ := hx
  have := q1 h1
  have e0 : (lg_cmp v 0 = nI 0) = (v = 0) := propext (lg_cmp_eq v 0)
  rw [h1, if_neg (by decide), if_pos rfl] at v0
  unfold fitL
  rcases k5 this with e | e | e | e | e <;> rw [e] at v0 ⊢ <;> simp (disch := omega) only [s31_0, s31_1, s31_2, s31_3, s31_4, s31_5, s31_6, s31_7, s31_8, s31_9, s31_10, s31_11, s31_12, s31_13, s31_14, s31_15, s31_16, s31_17, s31_18, s31_19, s31_20, s31_21, s31_22, s31_23, s31_24, s31_25, s31_26, ↓reduceIte, Option.bind_some, Option.toList_some, Option.toList_none, List.cons_append, List.nil_append, if_true, if_false, true_or, or_true, true_and, and_true, not_true_eq_false, not_false_eq_true, Nat.reduceLT, Nat.reduceLeDiff, Nat.reduceEqDiff, Nat.reduceAdd, Nat.reduceMul, Nat.reduceSub, Nat.reducePow, Nat.reduceMod, Nat.reduceDiv, l0, l1, l2, l3, l4, l5, l6, l7, l8, l9, l10, l11, l12, l13, l14, l15, l16, l20, l31, l32, l36, l40, l48, l57, l59, l63, l64, l97, l99, l100, l101, l122, l127, l128, l250, l255, l262143, l262144, l30000, l100000, l12345, l1024, l4095, nI_eqs, nI_les, nI_lts, qI_eq, qI_eqn, nI_eqq, qI_lts, nI_ltp, nI_lep, qI_les, nI_add, nI_mul, qI_add, qI_s, qI_def, nI_clamps, bI_z, bI_o, bI_01, n01, n11, rf_some, rf_none, m1, m1n, bft, z0, v0, e0]
  by_cases q : v = 0
  · simp [q]
  · simp [q]
theorem m143 (d : Nat) (h : AH) {s : Nat} (hs : s < 5) (v : Int64) (p : Option Value) : E d 143 0 [some (.int (nI s)), some (.long v), p] [] h = some (some (.long (fitL s v)), h) := by
  have e0 : (lg_cmp v 0 = nI 0) = (v = 0) := propext (lg_cmp_eq v 0)
  unfold fitL
  rcases k5 hs with e | e | e | e | e <;> subst e <;> simp (disch := omega) only [s143_0, s143_1, s143_2, s143_3, s143_4, s143_5, s143_6, s143_7, s143_8, s143_9, s143_10, s143_11, s143_12, s143_13, s143_14, s143_15, s143_16, s143_17, s143_18, s143_19, s143_20, s143_21, s143_22, s143_23, s143_24, s143_25, ↓reduceIte, Option.bind_some, Option.toList_some, Option.toList_none, List.cons_append, List.nil_append, if_true, if_false, true_or, or_true, true_and, and_true, not_true_eq_false, not_false_eq_true, Nat.reduceLT, Nat.reduceLeDiff, Nat.reduceEqDiff, Nat.reduceAdd, Nat.reduceMul, Nat.reduceSub, Nat.reducePow, Nat.reduceMod, Nat.reduceDiv, l0, l1, l2, l3, l4, l5, l6, l7, l8, l9, l10, l11, l12, l13, l14, l15, l16, l20, l31, l32, l36, l40, l48, l57, l59, l63, l64, l97, l99, l100, l101, l122, l127, l128, l250, l255, l262143, l262144, l30000, l100000, l12345, l1024, l4095, nI_eqs, nI_les, nI_lts, qI_eq, qI_eqn, nI_eqq, qI_lts, nI_ltp, nI_lep, qI_les, nI_add, nI_mul, qI_add, qI_s, qI_def, nI_clamps, bI_z, bI_o, bI_01, n01, n11, rf_some, rf_none, m1, m1n, bft, e0]
  by_cases q : v = 0
  · simp [q]
  · simp [q]
theorem x29 (d : Nat) {h : AH} {o : Nat} {t : SHT} (hx : SX h o t) {s n : Nat} (hs : s < 5) (hn : n ≤ 40) (p : Option Value) : ∃ h', E d 29 0 [some (.ref o), some (.int (nI s)), some (.int (nI n)), p] [] h = some (none, h') ∧ SX h' o (sMk 1 s n 0 (fun _ => 0)) ∧ Fr0 (blk o 2) h h' := by
  have hA : ∀ j, j < 2 → blk o 2 (o + j) := fun j hj => ⟨by omega, by omega⟩
  have lp : ∀ m i h1, i + m = 40 → SS h1 o → (∀ j, j < i → hL h1 (o + 1) j = 0) → ∃ h2, E d 29 11 [some (.ref o), some (.int (nI s)), some (.int (nI n)), some (.int (nI i))] [] h1 = some (none, h2) ∧ (∀ j, j < 40 → hL h2 (o + 1) j = 0) ∧ hI h2 = hI h1 ∧ Fr0 (blk o 2) h1 h2 := by
    intro m
    induction m with
    | zero =>
      intro i h1 hi ss hz
      have hi' : i = 40 := hi
      subst hi'
      refine ⟨h1, ?_, hz, rfl, Fr0.refl _ _⟩
      rw [s29_11]
      simp (disch := omega) only [s29_0, s29_1, s29_2, s29_3, s29_4, s29_5, s29_6, s29_7, s29_8, s29_9, s29_10, s29_12, s29_13, s29_14, s29_15, s29_16, s29_17, s29_18, s29_19, s29_20, s29_21, ↓reduceIte, Option.bind_some, Option.toList_some, Option.toList_none, List.cons_append, List.nil_append, if_true, if_false, true_or, or_true, true_and, and_true, not_true_eq_false, not_false_eq_true, Nat.reduceLT, Nat.reduceLeDiff, Nat.reduceEqDiff, Nat.reduceAdd, Nat.reduceMul, Nat.reduceSub, Nat.reducePow, Nat.reduceMod, Nat.reduceDiv, l0, l1, l2, l3, l4, l5, l6, l7, l8, l9, l10, l11, l12, l13, l14, l15, l16, l20, l31, l32, l36, l40, l48, l57, l59, l63, l64, l97, l99, l100, l101, l122, l127, l128, l250, l255, l262143, l262144, l30000, l100000, l12345, l1024, l4095, nI_eqs, nI_les, nI_lts, qI_eq, qI_eqn, nI_eqq, qI_lts, nI_ltp, nI_lep, qI_les, nI_add, nI_mul, qI_add, qI_s, qI_def, nI_clamps, bI_z, bI_o, bI_01, n01, n11, rf_some, rf_none, m1, m1n, bft, Nat.le_refl]
    | succ m ih =>
      intro i h1 hi ss hz
      have c1 : ¬ 40 ≤ i := by omega
      obtain ⟨z0, z1, r1⟩ := id ss
      obtain ⟨h2, e, a, b, f⟩ := ih (i + 1) (stL h1 (o + 1) i 0) (by omega) ss (fun j hj => by
        rw [hL_stL]
        by_cases q : j = i
        · rw [if_pos ⟨rfl, q⟩]
        · rw [if_neg (fun w => q w.2)]; exact hz j (by omega))
      refine ⟨h2, ?_, a, ?_, (Fr0.stL _ (hA 1 (by decide)) _ _).trans f⟩
      · rw [s29_11]
        simp (disch := omega) only [s29_0, s29_1, s29_2, s29_3, s29_4, s29_5, s29_6, s29_7, s29_8, s29_9, s29_10, s29_12, s29_13, s29_14, s29_15, s29_16, s29_17, s29_18, s29_19, s29_20, s29_21, ↓reduceIte, Option.bind_some, Option.toList_some, Option.toList_none, List.cons_append, List.nil_append, if_true, if_false, true_or, or_true, true_and, and_true, not_true_eq_false, not_false_eq_true, Nat.reduceLT, Nat.reduceLeDiff, Nat.reduceEqDiff, Nat.reduceAdd, Nat.reduceMul, Nat.reduceSub, Nat.reducePow, Nat.reduceMod, Nat.reduceDiv, l0, l1, l2, l3, l4, l5, l6, l7, l8, l9, l10, l11, l12, l13, l14, l15, l16, l20, l31, l32, l36, l40, l48, l57, l59, l63, l64, l97, l99, l100, l101, l122, l127, l128, l250, l255, l262143, l262144, l30000, l100000, l12345, l1024, l4095, nI_eqs, nI_les, nI_lts, qI_eq, qI_eqn, nI_eqq, qI_lts, nI_ltp, nI_lep, qI_les, nI_add, nI_mul, qI_add, qI_s, qI_def, nI_clamps, bI_z, bI_o, bI_01, n01, n11, rf_some, rf_none, m1, m1n, bft, c1, z0, r1, gA z1]
        exact e
      · rw [b, hI_stL]
  obtain ⟨⟨z0, z1, r1⟩, -, -⟩ := hx
  obtain ⟨h2, e, a, b, f⟩ := lp 40 0 (stI (stI (stI h o 0 (nI s)) o 1 (qI 0)) o 2 (nI n)) (by omega) ⟨z0, z1, r1⟩ (fun j hj => absurd hj (Nat.not_lt_zero j))
  refine ⟨h2, ?_, ⟨?_, ?_, ?_⟩, ?_⟩
  · simp (disch := omega) only [s29_0, s29_1, s29_2, s29_3, s29_4, s29_5, s29_6, s29_7, s29_8, s29_9, s29_10, ↓reduceIte, Option.bind_some, Option.toList_some, Option.toList_none, List.cons_append, List.nil_append, if_true, if_false, true_or, or_true, true_and, and_true, not_true_eq_false, not_false_eq_true, Nat.reduceLT, Nat.reduceLeDiff, Nat.reduceEqDiff, Nat.reduceAdd, Nat.reduceMul, Nat.reduceSub, Nat.reducePow, Nat.reduceMod, Nat.reduceDiv, l0, l1, l2, l3, l4, l5, l6, l7, l8, l9, l10, l11, l12, l13, l14, l15, l16, l20, l31, l32, l36, l40, l48, l57, l59, l63, l64, l97, l99, l100, l101, l122, l127, l128, l250, l255, l262143, l262144, l30000, l100000, l12345, l1024, l4095, nI_eqs, nI_les, nI_lts, qI_eq, qI_eqn, nI_eqq, qI_lts, nI_ltp, nI_lep, qI_les, nI_add, nI_mul, qI_add, qI_s, qI_def, nI_clamps, bI_z, bI_o, bI_01, n01, n11, rf_some, rf_none, m1, m1n, bft, z0, ad1, ad2, hI_stI, hS_stI, hR_stI, hL_stI, alen_stI, hI_stL, hL_stL, hS_stL, hR_stL, alen_stL, false_and, and_false, and_self, eq_self]
    exact e
  · unfold SS
    rw [f.2.2.2.2.1, f.2.2.2.2.2.1]
    exact ⟨z0, z1, r1⟩
  · refine ⟨?_, fun q => absurd (show (1 : Nat) = 2 from q) (by decide), ?_, fun i hi => a i (Nat.lt_of_lt_of_le hi hn)⟩
    · rw [b]; simp only [hI_stI, Hk, Hs, sMk]; rfl
    · rw [b]; simp only [hI_stI, Hn, sMk]; rfl
  · exact ⟨show (1 : Nat) < 3 by decide, fun _ => hs, fun _ => hn, fun q => absurd rfl q, fun q => absurd (show (1 : Nat) = 2 from q) (by decide)⟩
  · exact (((Fr0.stI _ (hA 0 (by decide)) _ _).trans (Fr0.stI _ (hA 0 (by decide)) _ _)).trans (Fr0.stI _ (hA 0 (by decide)) _ _)).trans f
theorem x30 (d : Nat) {h : AH} {o : Nat} {t : SHT} (hx : SX h o t) (h1 : Hk t = 1) {i : Nat} (hi : i < Hn t) (v : Int64) (p : Option Value) : ∃ h', E (d + 1) 30 0 [some (.ref o), some (.int (nI i)), some (.long v), p] [] h = some (none, h') ∧ SX h' o (sMk 1 (Hs t) (Hn t) (Hg t) (fup (He t) i (fitL (Hs t) v))) ∧ Fr0 (blk o 2) h h' := by
  have hA : ∀ j, j < 2 → blk o 2 (o + j) := fun j hj => ⟨by omega, by omega⟩
  have n40 := hx.2.2.n
  have e31 := fun d => x31 d hx h1 v none
  have e25 := fun d => x25 d hx (nI i)
  rw [inR_nI (by omega) (by omega), decide_eq_true hi] at e25
  have xs := hx.1
  obtain ⟨⟨z0, z1, r1⟩, ⟨v0, v1, v2, v3⟩, ⟨q0, q1, q2, q3, q4⟩⟩ := hx
  refine ⟨stL h (o + 1) i (fitL (Hs t) v), ?_, ⟨xs, ?_, ?_⟩, Fr0.stL _ (hA 1 (by decide)) _ _⟩
  · simp (disch := omega) only [s30_0, s30_1, s30_2, s30_3, s30_4, s30_5, s30_6, s30_7, s30_8, s30_9, s30_10, s30_11, ↓reduceIte, Option.bind_some, Option.toList_some, Option.toList_none, List.cons_append, List.nil_append, if_true, if_false, true_or, or_true, true_and, and_true, not_true_eq_false, not_false_eq_true, Nat.reduceLT, Nat.reduceLeDiff, Nat.reduceEqDiff, Nat.reduceAdd, Nat.reduceMul, Nat.reduceSub, Nat.reducePow, Nat.reduceMod, Nat.reduceDiv, l0, l1, l2, l3, l4, l5, l6, l7, l8, l9, l10, l11, l12, l13, l14, l15, l16, l20, l31, l32, l36, l40, l48, l57, l59, l63, l64, l97, l99, l100, l101, l122, l127, l128, l250, l255, l262143, l262144, l30000, l100000, l12345, l1024, l4095, nI_eqs, nI_les, nI_lts, qI_eq, qI_eqn, nI_eqq, qI_lts, nI_ltp, nI_lep, qI_les, nI_add, nI_mul, qI_add, qI_s, qI_def, nI_clamps, bI_z, bI_o, bI_01, n01, n11, rf_some, rf_none, m1, m1n, bft, z0, r1, e25, e31, gA z1, Bool.true_eq_false]
  · refine ⟨?_, fun q => absurd (show (1 : Nat) = 2 from q) (by decide), ?_, ?_⟩
    · rw [hI_stL, v0, h1]; rfl
    · rw [hI_stL, v2]; rfl
    · intro j hj
      rw [hL_stL]
      show _ = fup (He t) i (fitL (Hs t) v) j
      unfold fup
      by_cases q : j = i
      · rw [if_pos ⟨rfl, q⟩, if_pos q]
      · rw [if_neg (fun w => q w.2), if_neg q]; exact v3 j hj
  · exact ⟨show (1 : Nat) < 3 by decide, fun _ => q1 h1, fun _ => q2 h1, fun q => absurd rfl q, fun q => absurd (show (1 : Nat) = 2 from q) (by decide)⟩
