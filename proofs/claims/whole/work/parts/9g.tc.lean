/-! NUMBERS told, the reference -/
def AG (A : Nat) (h h' : AH) : Prop := Fr0 (fun a => a = A ∨ a = A + 25) h h' ∧ ∀ j, j < 24 ∨ j = 30 → hI h' A j = hI h A j
theorem AG.trans {A : Nat} {h h1 h2 : AH} (f : AG A h h1) (g : AG A h1 h2) : AG A h h2 := ⟨f.1.trans g.1, fun j hj => (g.2 j hj).trans (f.2 j hj)⟩
theorem AF.ag {A : Nat} {h h' : AH} (f : AF A h h') : AG A h h' := ⟨f.1.mono (fun b w => Or.inl w), f.2⟩
theorem AG.told {A : Nat} (h : AH) (k : Nat) (v : Int32) : AG A h (stI h (A + 25) k v) := ⟨Fr0.stI (A := fun a => a = A ∨ a = A + 25) _ (Or.inr rfl) _ _, fun j hj => by rw [hI_stI, if_neg (fun w => by omega)]⟩
theorem AP.ag {h h' : AH} {A n : Nat} {b : Nat → Nat} (q : AP h A n b) (f : AG A h h') : AP h' A n b := by
  obtain ⟨a1, a2, a3, a4, a5, a6⟩ := q
  obtain ⟨⟨f1, f2, f3, f4, f5, f6, f7⟩, g⟩ := f
  exact ⟨by rw [f5]; exact a1, by rw [f6]; exact a2, by rw [f5]; exact a3, by rw [g 7 (by decide)]; exact a4, a5, fun i hi => by rw [(f7 (A + 15) (fun w => by omega) i).1]; exact a6 i hi⟩
theorem m168 (d : Nat) {h : AH} {A n : Nat} {b : Nat → Nat} {t : Nat × Nat × Nat} (q : AP h A n b) (tt : ATk h A n b t) : E d 168 0 [some (.ref A)] [] h = some (some (.int (nI 0)), stI h A 28 (nI t.2.1)) := by
  have a1 := q.1
  have t2 := tt.2.1
  simp (disch := omega) only [s168_0, s168_1, s168_2, s168_3, s168_4, s168_5, ↓reduceIte, Option.bind_some, Option.toList_some, Option.toList_none, List.cons_append, List.nil_append, if_true, if_false, true_or, or_true, true_and, and_true, not_true_eq_false, not_false_eq_true, Nat.reduceLT, Nat.reduceLeDiff, Nat.reduceEqDiff, Nat.reduceAdd, Nat.reduceMul, Nat.reduceSub, Nat.reducePow, Nat.reduceMod, Nat.reduceDiv, l0, l1, l2, l3, l4, l5, l6, l7, l8, l9, l10, l11, l12, l13, l14, l15, l16, l20, l31, l32, l36, l40, l48, l57, l59, l63, l64, l97, l99, l100, l101, l122, l127, l128, l250, l255, l262143, l262144, l30000, l100000, l12345, l1024, l4095, nI_eqs, nI_les, nI_lts, qI_eq, qI_eqn, nI_eqq, qI_lts, nI_ltp, nI_lep, qI_les, nI_add, nI_mul, qI_add, qI_s, qI_def, nI_clamps, bI_z, bI_o, bI_01, n01, n11, rf_some, rf_none, m1, m1n, bft, a1, t2]
/-- whether a number is told that may be -/
def inF (n : Nat) (b : Nat → Nat) (t : Nat × Nat × Nat) (lo hi : Int32) : Bool := if t.1 = 2 then decide (lo.toInt64 ≤ (nI (fgT n b t)).toInt64) && decide ((nI (fgT n b t)).toInt64 ≤ hi.toInt64) else false
theorem m170 (d : Nat) {h : AH} {A n : Nat} {b : Nat → Nat} {t : Nat × Nat × Nat} (q : AP h A n b) (tt : ATk h A n b t) (ok : tOK n t) (z29 : hR h A 29 = some (A + 25)) (s25 : hS h (A + 25) = some (0, 2)) {i : Nat} (hi : i < 2) (lo hi' : Int32) :
    (inF n b t lo hi' = true → ∃ h', E (d + 2) 170 0 [some (.ref A), some (.int (nI i)), some (.int lo), some (.int hi')] [] h = some (some (.int (nI 1)), h') ∧ AG A h h' ∧ ATk h' A n b (tkL n b t.2.2) ∧ hI h' (A + 25) i = nI (fgT n b t) ∧ ∀ j, j ≠ i → hI h' (A + 25) j = hI h (A + 25) j) ∧
    (inF n b t lo hi' = false → E (d + 2) 170 0 [some (.ref A), some (.int (nI i)), some (.int lo), some (.int hi')] [] h = some (some (.int (nI 0)), stI h A 28 (nI t.2.1))) := by
  have a1 := q.1
  have e168 := fun d => m168 d q tt
  obtain ⟨t1, t2, t3, t4⟩ := id tt
  obtain ⟨k1, k2, k3, k4⟩ := ok
  unfold inF
  by_cases c : t.1 = 2
  · rw [if_pos c]
    rw [c] at t1
    generalize hx : fgT n b t = x at *
    cases e : (decide (lo.toInt64 ≤ (nI x).toInt64) && decide ((nI x).toInt64 ≤ hi'.toInt64))
    · refine ⟨fun w => Bool.noConfusion w, fun _ => ?_⟩
      simp (disch := omega) only [s170_0, s170_1, s170_2, s170_3, s170_4, s170_5, s170_6, s170_7, s170_8, s170_9, s170_10, s170_11, s170_12, s170_13, s170_14, s170_15, ↓reduceIte, Option.bind_some, Option.toList_some, Option.toList_none, List.cons_append, List.nil_append, if_true, if_false, true_or, or_true, true_and, and_true, not_true_eq_false, not_false_eq_true, Nat.reduceLT, Nat.reduceLeDiff, Nat.reduceEqDiff, Nat.reduceAdd, Nat.reduceMul, Nat.reduceSub, Nat.reducePow, Nat.reduceMod, Nat.reduceDiv, l0, l1, l2, l3, l4, l5, l6, l7, l8, l9, l10, l11, l12, l13, l14, l15, l16, l20, l31, l32, l36, l40, l48, l57, l59, l63, l64, l97, l99, l100, l101, l122, l127, l128, l250, l255, l262143, l262144, l30000, l100000, l12345, l1024, l4095, nI_eqs, nI_les, nI_lts, qI_eq, qI_eqn, nI_eqq, qI_lts, nI_ltp, nI_lep, qI_les, nI_add, nI_mul, qI_add, qI_s, qI_def, nI_clamps, bI_z, bI_o, bI_01, n01, n11, rf_some, rf_none, m1, m1n, bft, a1, t1, t4, m137, e, bI_f, e168]
    · refine ⟨fun _ => ?_, fun w => Bool.noConfusion w⟩
      have g := AG.told (A := A) h i (nI x)
      have q2 := q.ag g
      have t3' : hI (stI h (A + 25) i (nI x)) A 24 = nI t.2.2 := by rw [hI_stI, if_neg (fun w => by omega)]; exact t3
      obtain ⟨h2, e2, F2, T2⟩ := m167 d q2 k3 t3'
      have f7 := F2.1.2.2.2.2.2.2
      refine ⟨h2, ?_, g.trans F2.ag, T2, ?_, fun j hj => ?_⟩
      · simp (disch := omega) only [s170_0, s170_1, s170_2, s170_3, s170_4, s170_5, s170_6, s170_7, s170_8, s170_9, s170_10, s170_11, s170_12, s170_16, s170_17, s170_18, s170_19, s170_20, s170_21, s170_22, s170_23, s170_24, s170_25, ↓reduceIte, Option.bind_some, Option.toList_some, Option.toList_none, List.cons_append, List.nil_append, if_true, if_false, true_or, or_true, true_and, and_true, not_true_eq_false, not_false_eq_true, Nat.reduceLT, Nat.reduceLeDiff, Nat.reduceEqDiff, Nat.reduceAdd, Nat.reduceMul, Nat.reduceSub, Nat.reducePow, Nat.reduceMod, Nat.reduceDiv, l0, l1, l2, l3, l4, l5, l6, l7, l8, l9, l10, l11, l12, l13, l14, l15, l16, l20, l31, l32, l36, l40, l48, l57, l59, l63, l64, l97, l99, l100, l101, l122, l127, l128, l250, l255, l262143, l262144, l30000, l100000, l12345, l1024, l4095, nI_eqs, nI_les, nI_lts, qI_eq, qI_eqn, nI_eqq, qI_lts, nI_ltp, nI_lep, qI_les, nI_add, nI_mul, qI_add, qI_s, qI_def, nI_clamps, bI_z, bI_o, bI_01, n01, n11, rf_some, rf_none, m1, m1n, bft, hS_stI, a1, t1, t4, m137, e, bI_t, z29, gA s25, e2, Bool.true_eq_false]
      · rw [(f7 (A + 25) (fun w => by omega) i).1, hI_stI, if_pos ⟨rfl, rfl⟩]
      · rw [(f7 (A + 25) (fun w => by omega) j).1, hI_stI, if_neg (fun w => hj w.2)]
  · rw [if_neg c]
    refine ⟨fun w => Bool.noConfusion w, fun _ => ?_⟩
    simp (disch := omega) only [s170_0, s170_1, s170_2, s170_3, s170_13, s170_14, s170_15, ↓reduceIte, Option.bind_some, Option.toList_some, Option.toList_none, List.cons_append, List.nil_append, if_true, if_false, true_or, or_true, true_and, and_true, not_true_eq_false, not_false_eq_true, Nat.reduceLT, Nat.reduceLeDiff, Nat.reduceEqDiff, Nat.reduceAdd, Nat.reduceMul, Nat.reduceSub, Nat.reducePow, Nat.reduceMod, Nat.reduceDiv, l0, l1, l2, l3, l4, l5, l6, l7, l8, l9, l10, l11, l12, l13, l14, l15, l16, l20, l31, l32, l36, l40, l48, l57, l59, l63, l64, l97, l99, l100, l101, l122, l127, l128, l250, l255, l262143, l262144, l30000, l100000, l12345, l1024, l4095, nI_eqs, nI_les, nI_lts, qI_eq, qI_eqn, nI_eqq, qI_lts, nI_ltp, nI_lep, qI_les, nI_add, nI_mul, qI_add, qI_s, qI_def, nI_clamps, bI_z, bI_o, bI_01, n01, n11, rf_some, rf_none, m1, m1n, bft, a1, t1, c, e168]
theorem m171 (d : Nat) {h : AH} {A n e : Nat} {b : Nat → Nat} (q : AP h A n b) (he : e ≤ n) (h4 : hI h A 24 = nI e) (z29 : hR h A 29 = some (A + 25)) (s25 : hS h (A + 25) = some (0, 2)) (lo hi : Int32) :
    (inF n b (tkL n b e) lo hi = true → ∃ h', E (d + 3) 171 0 [some (.ref A), some (.int lo), some (.int hi)] [] h = some (some (.int (nI 1)), h') ∧ AG A h h' ∧ ATk h' A n b (tkL n b (tkL n b e).2.2) ∧ hI h' (A + 25) 0 = nI (fgT n b (tkL n b e)) ∧ ∀ j, j ≠ 0 → hI h' (A + 25) j = hI h (A + 25) j) ∧
    (inF n b (tkL n b e) lo hi = false → ∃ h', E (d + 3) 171 0 [some (.ref A), some (.int lo), some (.int hi)] [] h = some (some (.int (nI 0)), h') ∧ AG A h h' ∧ hI h' A 28 = nI (tkL n b e).2.1) := by
  have a1 := q.1
  have n5 := q.2.2.2.2.1
  obtain ⟨h2, e2, F2, T2⟩ := m167 (d + 1) q he h4
  have ok := tkL_ok n5 b he
  have q2 := q.af F2
  have c1 := q2.1
  obtain ⟨v1, v2⟩ := m170 d q2 T2 ok (by rw [F2.1.2.2.2.2.2.1]; exact z29) (by rw [F2.1.2.2.2.2.1]; exact s25) (i := 0) (by decide) lo hi
  refine ⟨fun w => ?_, fun w => ?_⟩
  · obtain ⟨h3, e3, G3, T3, k1, k2⟩ := v1 w
    refine ⟨h3, ?_, F2.ag.trans G3, T3, k1, fun j hj => ?_⟩
    · simp (disch := omega) only [s171_0, s171_1, s171_2, s171_3, s171_4, s171_5, s171_6, s171_7, ↓reduceIte, Option.bind_some, Option.toList_some, Option.toList_none, List.cons_append, List.nil_append, if_true, if_false, true_or, or_true, true_and, and_true, not_true_eq_false, not_false_eq_true, Nat.reduceLT, Nat.reduceLeDiff, Nat.reduceEqDiff, Nat.reduceAdd, Nat.reduceMul, Nat.reduceSub, Nat.reducePow, Nat.reduceMod, Nat.reduceDiv, l0, l1, l2, l3, l4, l5, l6, l7, l8, l9, l10, l11, l12, l13, l14, l15, l16, l20, l31, l32, l36, l40, l48, l57, l59, l63, l64, l97, l99, l100, l101, l122, l127, l128, l250, l255, l262143, l262144, l30000, l100000, l12345, l1024, l4095, nI_eqs, nI_les, nI_lts, qI_eq, qI_eqn, nI_eqq, qI_lts, nI_ltp, nI_lep, qI_les, nI_add, nI_mul, qI_add, qI_s, qI_def, nI_clamps, bI_z, bI_o, bI_01, n01, n11, rf_some, rf_none, m1, m1n, bft, a1, c1, e2, e3]
    · rw [k2 j hj, (F2.1.2.2.2.2.2.2 (A + 25) (fun w => by omega) j).1]
  · have e3 := v2 w
    refine ⟨_, ?_, F2.ag.trans (AF.st h2 (k := 28) (by decide) (nI (tkL n b e).2.1)).ag, by rw [hI_stI, if_pos ⟨rfl, rfl⟩]⟩
    simp (disch := omega) only [s171_0, s171_1, s171_2, s171_3, s171_4, s171_5, s171_6, s171_7, ↓reduceIte, Option.bind_some, Option.toList_some, Option.toList_none, List.cons_append, List.nil_append, if_true, if_false, true_or, or_true, true_and, and_true, not_true_eq_false, not_false_eq_true, Nat.reduceLT, Nat.reduceLeDiff, Nat.reduceEqDiff, Nat.reduceAdd, Nat.reduceMul, Nat.reduceSub, Nat.reducePow, Nat.reduceMod, Nat.reduceDiv, l0, l1, l2, l3, l4, l5, l6, l7, l8, l9, l10, l11, l12, l13, l14, l15, l16, l20, l31, l32, l36, l40, l48, l57, l59, l63, l64, l97, l99, l100, l101, l122, l127, l128, l250, l255, l262143, l262144, l30000, l100000, l12345, l1024, l4095, nI_eqs, nI_les, nI_lts, qI_eq, qI_eqn, nI_eqq, qI_lts, nI_ltp, nI_lep, qI_les, nI_add, nI_mul, qI_add, qI_s, qI_def, nI_clamps, bI_z, bI_o, bI_01, n01, n11, rf_some, rf_none, m1, m1n, bft, a1, c1, e2, e3]
