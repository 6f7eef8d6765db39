/-! SEARCHES of the developers: reading states -/
theorem XY.kw {h h' : AH} {b : Nat} {y : YS} {W : Nat → Prop} (x : XY h b y) (f : KW W h h') (n : ∀ a, b ≤ a → a < b + 8 → W a) : XY h' b y := by
  obtain ⟨s, v, ok⟩ := x
  obtain ⟨f1, f2, f3, f4, f5⟩ := f
  refine ⟨?_, ?_, ok⟩
  · unfold XS at s ⊢
    rw [(f5 b (n _ (by omega) (by omega))).1, (f5 (b + 1) (n _ (by omega) (by omega))).1, (f5 (b + 2) (n _ (by omega) (by omega))).1, (f5 (b + 3) (n _ (by omega) (by omega))).1, (f5 (b + 4) (n _ (by omega) (by omega))).1, (f5 (b + 5) (n _ (by omega) (by omega))).1, (f5 (b + 6) (n _ (by omega) (by omega))).1, (f5 (b + 7) (n _ (by omega) (by omega))).1]
    simp only [fun j => ((f5 b (n _ (by omega) (by omega))).2 j).2.2]
    exact s
  · obtain ⟨vc, vg, vn, vt, vz, vK, vA, vU, vM, vW, vC, vP⟩ := v
    have e := fun a (h1 : b ≤ a) (h2 : a < b + 8) j => ((f5 a (n a h1 h2)).2 j).1
    unfold XV
    simp (disch := omega) only [e]
    exact ⟨vc, vg, vn, vt, vz, vK, vA, vU, vM, vW, vC, vP⟩
theorem x8 (d : Nat) {h : AH} {b : Nat} {y : YS} (xy : XY h b y) (p0 : Option Value) : E d 8 0 [p0, some (.ref b)] [] h = some (some (.int (bI (decide (Yg y ≤ 3 ∧ Yn y ≤ 3)))), h) := by
  have ok := xy.2.2
  obtain ⟨⟨z0, z1, z2, z3, z4, z5, z6, z7, r1, r2, r3, r4, r5, r6, r7⟩, ⟨vc, vg, vn, vt, vz, vK, vA, vU, vM, vW, vC, vP⟩, ok⟩ := xy
  obtain ⟨⟨o2, o3⟩, o6, on, og, oc⟩ := id ok
  by_cases a : Yg y ≤ 3
  · have a' : ¬ 3 < Yg y := by omega
    by_cases c : Yn y ≤ 3
    · have c' : ¬ 3 < Yn y := by omega
      rw [decide_eq_true ⟨a, c⟩]
      simp (disch := omega) only [s8_0, s8_1, s8_2, s8_3, s8_4, s8_5, s8_6, s8_7, s8_8, s8_9, s8_10, s8_11, ↓reduceIte, Option.bind_some, Option.toList_some, Option.toList_none, List.cons_append, List.nil_append, if_true, if_false, true_or, or_true, true_and, and_true, not_true_eq_false, not_false_eq_true, Nat.reduceLT, Nat.reduceLeDiff, Nat.reduceEqDiff, Nat.reduceAdd, Nat.reduceMul, Nat.reduceSub, Nat.reducePow, Nat.reduceMod, Nat.reduceDiv, l0, l1, l2, l3, l4, l5, l6, l7, l8, l9, l10, l11, l12, l13, l14, l15, l16, l20, l31, l32, l36, l40, l48, l57, l59, l63, l64, l97, l99, l100, l101, l122, l127, l128, l250, l255, l262143, l262144, l30000, l100000, l12345, l1024, l4095, nI_eqs, nI_les, nI_lts, qI_eq, qI_eqn, nI_eqq, qI_lts, nI_ltp, nI_lep, qI_les, nI_add, nI_mul, qI_add, qI_s, qI_def, nI_clamps, bI_z, bI_o, bI_01, n01, n11, rf_some, rf_none, m1, m1n, bft, z0, vg, vn, a', c', bI_t]
    · have c' : 3 < Yn y := by omega
      rw [decide_eq_false (fun w => c w.2)]
      simp (disch := omega) only [s8_0, s8_1, s8_2, s8_3, s8_4, s8_5, s8_6, s8_7, s8_8, s8_9, s8_10, s8_11, ↓reduceIte, Option.bind_some, Option.toList_some, Option.toList_none, List.cons_append, List.nil_append, if_true, if_false, true_or, or_true, true_and, and_true, not_true_eq_false, not_false_eq_true, Nat.reduceLT, Nat.reduceLeDiff, Nat.reduceEqDiff, Nat.reduceAdd, Nat.reduceMul, Nat.reduceSub, Nat.reducePow, Nat.reduceMod, Nat.reduceDiv, l0, l1, l2, l3, l4, l5, l6, l7, l8, l9, l10, l11, l12, l13, l14, l15, l16, l20, l31, l32, l36, l40, l48, l57, l59, l63, l64, l97, l99, l100, l101, l122, l127, l128, l250, l255, l262143, l262144, l30000, l100000, l12345, l1024, l4095, nI_eqs, nI_les, nI_lts, qI_eq, qI_eqn, nI_eqq, qI_lts, nI_ltp, nI_lep, qI_les, nI_add, nI_mul, qI_add, qI_s, qI_def, nI_clamps, bI_z, bI_o, bI_01, n01, n11, rf_some, rf_none, m1, m1n, bft, z0, vg, vn, a', c', bI_f]
  · have a' : 3 < Yg y := by omega
    rw [decide_eq_false (fun w => a w.1)]
    simp (disch := omega) only [s8_0, s8_1, s8_2, s8_3, s8_4, s8_5, s8_6, s8_7, s8_8, s8_9, s8_10, s8_11, ↓reduceIte, Option.bind_some, Option.toList_some, Option.toList_none, List.cons_append, List.nil_append, if_true, if_false, true_or, or_true, true_and, and_true, not_true_eq_false, not_false_eq_true, Nat.reduceLT, Nat.reduceLeDiff, Nat.reduceEqDiff, Nat.reduceAdd, Nat.reduceMul, Nat.reduceSub, Nat.reducePow, Nat.reduceMod, Nat.reduceDiv, l0, l1, l2, l3, l4, l5, l6, l7, l8, l9, l10, l11, l12, l13, l14, l15, l16, l20, l31, l32, l36, l40, l48, l57, l59, l63, l64, l97, l99, l100, l101, l122, l127, l128, l250, l255, l262143, l262144, l30000, l100000, l12345, l1024, l4095, nI_eqs, nI_les, nI_lts, qI_eq, qI_eqn, nI_eqq, qI_lts, nI_ltp, nI_lep, qI_les, nI_add, nI_mul, qI_add, qI_s, qI_def, nI_clamps, bI_z, bI_o, bI_01, n01, n11, rf_some, rf_none, m1, m1n, bft, z0, vg, a', bI_f]
theorem x9 (d : Nat) {h : AH} {b : Nat} {y : YS} (xy : XY h b y) (h3 : Yg y ≤ 3) (n3 : Yn y ≤ 3) (p1 p2 : Option Value) : E (d + 2) 9 0 [some (.ref b), p1, p2] [] h = some (some (.int (nI (ndY y))), h) := by
  have e74 := fun d => x74 d xy none none
  have ok := xy.2.2
  obtain ⟨⟨z0, z1, z2, z3, z4, z5, z6, z7, r1, r2, r3, r4, r5, r6, r7⟩, ⟨vc, vg, vn, vt, vz, vK, vA, vU, vM, vW, vC, vP⟩, ok⟩ := xy
  obtain ⟨⟨o2, o3⟩, o6, on, og, oc⟩ := id ok
  have lp : ∀ m i s, i + m = Yn y → E (d + 2) 9 5 [some (.ref b), some (.int (nI s)), some (.int (nI i))] [] h = some (some (.int (nI (itr (fun k s => s ||| YP y k * 2 ^ (12 + 2 * k)) m i s))), h) := by
    intro m
    induction m with
    | zero =>
      intro i s hi
      have hi' : i = Yn y := hi
      rw [s9_5]
      simp (disch := omega) only [s9_6, s9_7, s9_8, s9_9, s9_10, s9_11, s9_12, s9_13, s9_14, s9_15, s9_16, s9_17, s9_18, s9_19, s9_20, s9_21, s9_22, s9_23, s9_24, s9_25, s9_26, s9_27, s9_28, ↓reduceIte, Option.bind_some, Option.toList_some, Option.toList_none, List.cons_append, List.nil_append, if_true, if_false, true_or, or_true, true_and, and_true, not_true_eq_false, not_false_eq_true, Nat.reduceLT, Nat.reduceLeDiff, Nat.reduceEqDiff, Nat.reduceAdd, Nat.reduceMul, Nat.reduceSub, Nat.reducePow, Nat.reduceMod, Nat.reduceDiv, l0, l1, l2, l3, l4, l5, l6, l7, l8, l9, l10, l11, l12, l13, l14, l15, l16, l20, l31, l32, l36, l40, l48, l57, l59, l63, l64, l97, l99, l100, l101, l122, l127, l128, l250, l255, l262143, l262144, l30000, l100000, l12345, l1024, l4095, nI_eqs, nI_les, nI_lts, qI_eq, qI_eqn, nI_eqq, qI_lts, nI_ltp, nI_lep, qI_les, nI_add, nI_mul, qI_add, qI_s, qI_def, nI_clamps, bI_z, bI_o, bI_01, n01, n11, rf_some, rf_none, m1, m1n, bft, z0, vn, hi', Nat.le_refl, itr_0]
    | succ m ih =>
      intro i s hi
      have h1' : ¬ Yn y ≤ i := by omega
      have h2' : ¬ 3 ≤ i := by omega
      have vP' := vP i (by omega)
      have sh : nI (YP y i) <<< (nI (12 + 2 * i) &&& nI 31) = nI (YP y i * 2 ^ (12 + 2 * i)) := nI_shl (by omega)
      rw [s9_5, itr_s, ← ih (i + 1) _ (by omega)]
      simp (disch := omega) only [s9_6, s9_7, s9_8, s9_9, s9_10, s9_11, s9_12, s9_13, s9_14, s9_15, s9_16, s9_17, s9_18, s9_19, s9_20, s9_21, s9_22, s9_23, s9_24, s9_25, s9_26, ↓reduceIte, Option.bind_some, Option.toList_some, Option.toList_none, List.cons_append, List.nil_append, if_true, if_false, true_or, or_true, true_and, and_true, not_true_eq_false, not_false_eq_true, Nat.reduceLT, Nat.reduceLeDiff, Nat.reduceEqDiff, Nat.reduceAdd, Nat.reduceMul, Nat.reduceSub, Nat.reducePow, Nat.reduceMod, Nat.reduceDiv, l0, l1, l2, l3, l4, l5, l6, l7, l8, l9, l10, l11, l12, l13, l14, l15, l16, l20, l31, l32, l36, l40, l48, l57, l59, l63, l64, l97, l99, l100, l101, l122, l127, l128, l250, l255, l262143, l262144, l30000, l100000, l12345, l1024, l4095, nI_eqs, nI_les, nI_lts, qI_eq, qI_eqn, nI_eqq, qI_lts, nI_ltp, nI_lep, qI_les, nI_add, nI_mul, qI_add, qI_s, qI_def, nI_clamps, bI_z, bI_o, bI_01, n01, n11, rf_some, rf_none, m1, m1n, bft, z0, vn, r7, gI z7, vP', h1', h2', sh, nI_or]
  have e := lp (Yn y) 0 (pkM y) (by omega)
  unfold ndY
  rw [← e]
  simp (disch := omega) only [s9_0, s9_1, s9_2, s9_3, s9_4, ↓reduceIte, Option.bind_some, Option.toList_some, Option.toList_none, List.cons_append, List.nil_append, if_true, if_false, true_or, or_true, true_and, and_true, not_true_eq_false, not_false_eq_true, Nat.reduceLT, Nat.reduceLeDiff, Nat.reduceEqDiff, Nat.reduceAdd, Nat.reduceMul, Nat.reduceSub, Nat.reducePow, Nat.reduceMod, Nat.reduceDiv, l0, l1, l2, l3, l4, l5, l6, l7, l8, l9, l10, l11, l12, l13, l14, l15, l16, l20, l31, l32, l36, l40, l48, l57, l59, l63, l64, l97, l99, l100, l101, l122, l127, l128, l250, l255, l262143, l262144, l30000, l100000, l12345, l1024, l4095, nI_eqs, nI_les, nI_lts, qI_eq, qI_eqn, nI_eqq, qI_lts, nI_ltp, nI_lep, qI_les, nI_add, nI_mul, qI_add, qI_s, qI_def, nI_clamps, bI_z, bI_o, bI_01, n01, n11, rf_some, rf_none, m1, m1n, bft, z0, e74]
theorem memP_nd {y : YS} {s g : Nat} (h : uq (dg s (YU y g)) = (YF y (YU y g), YM y (YU y g))) : uq (dg s (YU y g)) = memP y g := h
theorem x10 (d : Nat) {h : AH} {b : Nat} {y : YS} (xy : XY h b y) (h3 : Yg y ≤ 3) (n3 : Yn y ≤ 3) {g c : Nat} (hg : g < Yg y) (hc : c < Yc y) : E (d + 3) 10 0 [some (.ref b), some (.int (nI g)), some (.int (nI c))] [] h = some (some (.int (nI (tcN y (ndY y) g c))), h) := by
  have e9 := fun d => x9 d xy h3 n3 none none
  have e68 := fun d => x68p d xy hg
  have ok := xy.2.2
  obtain ⟨v, m, -⟩ := ndY_ok ok h3 n3
  have u := ok.u hg
  have po := memP_ok ok hg
  have e76 := fun d => x76p d xy hg po hc none
  have sp := stp_ok (g := g) po hc
  have em := m (YU y g) u
  have c3' := ok.1.2
  have s16 : pk (stp y g (memP y g) c) < 16 := pk_16 ⟨by have := sp.1; omega, by have := sp.2; omega⟩
  have e6 := fun d => x6 d h (M := ndY y) (g := YU y g) (m := pk (stp y g (memP y g) c)) (by have := v.1; omega) (by omega) s16
  unfold tcN
  rw [em]
  obtain ⟨⟨z0, z1, z2, z3, z4, z5, z6, z7, r1, r2, r3, r4, r5, r6, r7⟩, ⟨vc, vg, vn, vt, vz, vK, vA, vU, vM, vW, vC, vP⟩, ok⟩ := xy
  have vU' := vU g hg
  simp (disch := omega) only [s10_0, s10_1, s10_2, s10_3, s10_4, s10_5, s10_6, s10_7, s10_8, s10_9, s10_10, s10_11, s10_12, s10_13, s10_14, ↓reduceIte, Option.bind_some, Option.toList_some, Option.toList_none, List.cons_append, List.nil_append, if_true, if_false, true_or, or_true, true_and, and_true, not_true_eq_false, not_false_eq_true, Nat.reduceLT, Nat.reduceLeDiff, Nat.reduceEqDiff, Nat.reduceAdd, Nat.reduceMul, Nat.reduceSub, Nat.reducePow, Nat.reduceMod, Nat.reduceDiv, l0, l1, l2, l3, l4, l5, l6, l7, l8, l9, l10, l11, l12, l13, l14, l15, l16, l20, l31, l32, l36, l40, l48, l57, l59, l63, l64, l97, l99, l100, l101, l122, l127, l128, l250, l255, l262143, l262144, l30000, l100000, l12345, l1024, l4095, nI_eqs, nI_les, nI_lts, qI_eq, qI_eqn, nI_eqq, qI_lts, nI_ltp, nI_lep, qI_les, nI_add, nI_mul, qI_add, qI_s, qI_def, nI_clamps, bI_z, bI_o, bI_01, n01, n11, rf_some, rf_none, m1, m1n, bft, z0, r3, gI z3, vU', e9, e68, e76, e6]
  rfl
theorem and3m (a : Nat) : a &&& 3 = a % 4 := by
  rw [show (3 : Nat) = 2 ^ 2 - 1 from rfl, Nat.and_two_pow_sub_one_eq_mod]
theorem x12 (d : Nat) {h : AH} {b : Nat} {y : YS} (xy : XY h b y) (h3 : Yg y ≤ 3) (n3 : Yn y ≤ 3) {s k : Nat} (v : VN y s) (hk : k < Yn y) (p3 p4 p5 p6 : Option Value) : E (d + 3) 12 0 [some (.ref b), some (.int (nI s)), some (.int (nI k)), p3, p4, p5, p6] [] h = some (some (.int (nI (stN y s k))), h) := by
  have ok := xy.2.2
  have s18 := v.1
  have e62 := fun d => x62 d xy (nI (plc s k))
  have p4' : plc s k < 4 := Nat.mod_lt _ (by decide)
  have sh : nI s >>> (nI (12 + 2 * k) &&& nI 31) = nI (s / 2 ^ (12 + 2 * k)) := nI_shr (by omega) (by omega)
  have an : nI (s / 2 ^ (12 + 2 * k)) &&& nI 3 = nI (plc s k) := by rw [nI_and, and3m]; rfl
  have xy' := xy
  obtain ⟨⟨z0, z1, z2, z3, z4, z5, z6, z7, r1, r2, r3, r4, r5, r6, r7⟩, ⟨vc, vg, vn, vt, vz, vK, vA, vU, vM, vW, vC, vP⟩, ok⟩ := xy
  obtain ⟨⟨o2, o3⟩, o6, on, og, oc⟩ := id ok
  rw [inR_nI (by omega) (by omega)] at e62
  unfold stN
  by_cases hp : plc s k < Yg y
  · rw [if_pos hp]
    rw [decide_eq_true hp] at e62
    have u := ok.u hp
    have hc := (oc k hk).1
    have po := (v.2.1 (YU y (plc s k)) (by omega)).1 u
    have vU' := vU _ hp
    have vC' := vC k hk
    have e5 := fun d => x5 d h (M := s) (g := YU y (plc s k)) (by omega) (by omega)
    have e76 := fun d => x76p d xy' hp po hc none
    have e75 := fun d => x75p d xy' hp po hc none none
    rw [pk_uq] at e76 e75
    have sp := stp_ok (g := plc s k) po hc
    have s16 : pk (stp y (plc s k) (uq (dg s (YU y (plc s k)))) (YC y k)) < 16 := pk_16 ⟨by have := sp.1; omega, by have := sp.2; omega⟩
    have e6 := fun d => x6 d h (M := s) (g := YU y (plc s k)) (m := pk (stp y (plc s k) (uq (dg s (YU y (plc s k)))) (YC y k))) (by omega) (by omega) s16
    have sl : nI 1 <<< (nI (12 + 2 * k) &&& nI 31) = nI (2 ^ (12 + 2 * k)) := by rw [nI_shl (by omega), Nat.one_mul]
    have L : lt1 y (plc s k) (uq (dg s (YU y (plc s k)))) (YC y k) = ltN y s (plc s k) (YC y k) := rfl
    have T : wd s (YU y (plc s k)) (pk (stp y (plc s k) (uq (dg s (YU y (plc s k)))) (YC y k))) = tcN y s (plc s k) (YC y k) := rfl
    cases l : ltN y s (plc s k) (YC y k) <;> rw [l] at L
    · rw [if_neg (by decide), ← T]
      have e75' : ∀ d : Nat, E (d + 1) 75 0 [some (.ref b), some (.int (nI (plc s k))), some (.int (nI (dg s (YU y (plc s k))))), some (.int (nI (YC y k))), none, none] [] h = some (some (.int (bI false)), h) := fun d => by rw [e75 d, L]
      simp (disch := omega) only [s12_0, s12_1, s12_2, s12_3, s12_4, s12_5, s12_6, s12_7, s12_8, s12_9, s12_10, s12_11, s12_12, s12_13, s12_14, s12_15, s12_18, s12_19, s12_20, s12_21, s12_22, s12_23, s12_24, s12_25, s12_26, s12_27, s12_28, s12_29, s12_30, s12_31, s12_32, s12_33, s12_34, s12_35, s12_36, s12_37, s12_38, s12_39, s12_40, s12_41, s12_42, s12_43, s12_44, s12_45, s12_46, s12_47, s12_48, s12_55, s12_56, ↓reduceIte, Option.bind_some, Option.toList_some, Option.toList_none, List.cons_append, List.nil_append, if_true, if_false, true_or, or_true, true_and, and_true, not_true_eq_false, not_false_eq_true, Nat.reduceLT, Nat.reduceLeDiff, Nat.reduceEqDiff, Nat.reduceAdd, Nat.reduceMul, Nat.reduceSub, Nat.reducePow, Nat.reduceMod, Nat.reduceDiv, l0, l1, l2, l3, l4, l5, l6, l7, l8, l9, l10, l11, l12, l13, l14, l15, l16, l20, l31, l32, l36, l40, l48, l57, l59, l63, l64, l97, l99, l100, l101, l122, l127, l128, l250, l255, l262143, l262144, l30000, l100000, l12345, l1024, l4095, nI_eqs, nI_les, nI_lts, qI_eq, qI_eqn, nI_eqq, qI_lts, nI_ltp, nI_lep, qI_les, nI_add, nI_mul, qI_add, qI_s, qI_def, nI_clamps, bI_z, bI_o, bI_01, n01, n11, rf_some, rf_none, m1, m1n, bft, z0, r3, gI z3, r6, gI z6, vU', vC', sh, an, e62, e5, e76, e75', e6, bI_t, bI_f, Bool.true_eq_false, Nat.add_zero]
    · rw [if_pos rfl, ← T]
      have e75' : ∀ d : Nat, E (d + 1) 75 0 [some (.ref b), some (.int (nI (plc s k))), some (.int (nI (dg s (YU y (plc s k))))), some (.int (nI (YC y k))), none, none] [] h = some (some (.int (bI true)), h) := fun d => by rw [e75 d, L]
      simp (disch := omega) only [s12_0, s12_1, s12_2, s12_3, s12_4, s12_5, s12_6, s12_7, s12_8, s12_9, s12_10, s12_11, s12_12, s12_13, s12_14, s12_15, s12_18, s12_19, s12_20, s12_21, s12_22, s12_23, s12_24, s12_25, s12_26, s12_27, s12_28, s12_29, s12_30, s12_31, s12_32, s12_33, s12_34, s12_35, s12_36, s12_37, s12_38, s12_39, s12_40, s12_41, s12_42, s12_43, s12_44, s12_45, s12_46, s12_47, s12_48, s12_49, s12_50, s12_51, s12_52, s12_53, s12_54, s12_56, ↓reduceIte, Option.bind_some, Option.toList_some, Option.toList_none, List.cons_append, List.nil_append, if_true, if_false, true_or, or_true, true_and, and_true, not_true_eq_false, not_false_eq_true, Nat.reduceLT, Nat.reduceLeDiff, Nat.reduceEqDiff, Nat.reduceAdd, Nat.reduceMul, Nat.reduceSub, Nat.reducePow, Nat.reduceMod, Nat.reduceDiv, l0, l1, l2, l3, l4, l5, l6, l7, l8, l9, l10, l11, l12, l13, l14, l15, l16, l20, l31, l32, l36, l40, l48, l57, l59, l63, l64, l97, l99, l100, l101, l122, l127, l128, l250, l255, l262143, l262144, l30000, l100000, l12345, l1024, l4095, nI_eqs, nI_les, nI_lts, qI_eq, qI_eqn, nI_eqq, qI_lts, nI_ltp, nI_lep, qI_les, nI_add, nI_mul, qI_add, qI_s, qI_def, nI_clamps, bI_z, bI_o, bI_01, n01, n11, rf_some, rf_none, m1, m1n, bft, z0, r3, gI z3, r6, gI z6, vU', vC', sh, an, sl, e62, e5, e76, e75', e6, bI_t, Bool.true_eq_false]
  · rw [if_neg hp]
    rw [decide_eq_false hp] at e62
    simp (disch := omega) only [s12_0, s12_1, s12_2, s12_3, s12_4, s12_5, s12_6, s12_7, s12_8, s12_9, s12_10, s12_11, s12_12, s12_13, s12_14, s12_15, s12_16, s12_17, ↓reduceIte, Option.bind_some, Option.toList_some, Option.toList_none, List.cons_append, List.nil_append, if_true, if_false, true_or, or_true, true_and, and_true, not_true_eq_false, not_false_eq_true, Nat.reduceLT, Nat.reduceLeDiff, Nat.reduceEqDiff, Nat.reduceAdd, Nat.reduceMul, Nat.reduceSub, Nat.reducePow, Nat.reduceMod, Nat.reduceDiv, l0, l1, l2, l3, l4, l5, l6, l7, l8, l9, l10, l11, l12, l13, l14, l15, l16, l20, l31, l32, l36, l40, l48, l57, l59, l63, l64, l97, l99, l100, l101, l122, l127, l128, l250, l255, l262143, l262144, l30000, l100000, l12345, l1024, l4095, nI_eqs, nI_les, nI_lts, qI_eq, qI_eqn, nI_eqq, qI_lts, nI_ltp, nI_lep, qI_les, nI_add, nI_mul, qI_add, qI_s, qI_def, nI_clamps, bI_z, bI_o, bI_01, n01, n11, rf_some, rf_none, m1, m1n, bft, z0, sh, an, e62, bI_f]
/-- where all carts are out -/
def GO (y : YS) : Nat := itr (fun k g => g ||| Yg y * 2 ^ (2 * k)) (Yn y) 0 0
def GOn (G K : Nat) : Nat := itr (fun k g => g ||| G * 2 ^ (2 * k)) K 0 0
theorem GO_n {G K : Nat} (h1 : G ≤ 3) (h2 : K ≤ 3) : GOn G K = (if 0 < K then G else 0) + (if 1 < K then 4 * G else 0) + (if 2 < K then 16 * G else 0) := by
  have a : G = 0 ∨ G = 1 ∨ G = 2 ∨ G = 3 := by omega
  have c : K = 0 ∨ K = 1 ∨ K = 2 ∨ K = 3 := by omega
  rcases a with rfl | rfl | rfl | rfl <;> rcases c with rfl | rfl | rfl | rfl <;> decide
theorem GO_iff {y : YS} (h3 : Yg y ≤ 3) (n3 : Yn y ≤ 3) {s : Nat} (v : VN y s) : s / 4096 = GO y ↔ glN y s = true := by
  rw [glN_iff, show GO y = GOn (Yg y) (Yn y) from rfl, GO_n h3 n3]
  obtain ⟨v1, v2, v3⟩ := v
  have w0 := v3 0 (by decide)
  have w1 := v3 1 (by decide)
  have w2 := v3 2 (by decide)
  have e : s / 4096 = plc s 0 + 4 * plc s 1 + 16 * plc s 2 := by
    simp only [plc, dg, wd, Nat.reduceMul, Nat.reduceAdd, Nat.reducePow]; omega
  have q0 : plc s 0 < 4 := Nat.mod_lt _ (by decide)
  have q1 : plc s 1 < 4 := Nat.mod_lt _ (by decide)
  have q2 : plc s 2 < 4 := Nat.mod_lt _ (by decide)
  rw [e]
  have eK : Yn y = 0 ∨ Yn y = 1 ∨ Yn y = 2 ∨ Yn y = 3 := by omega
  rcases eK with eK | eK | eK | eK <;> rw [eK] <;> rw [eK] at w0 w1 w2 <;> simp only [Nat.lt_irrefl, Nat.reduceLT, Nat.zero_lt_one, ↓reduceIte] <;> constructor
  all_goals first
    | (intro h k hk; rcases cc3 (show k < 3 by omega) with rfl | rfl | rfl <;> omega)
    | (intro h; have g0 := h 0; have g1 := h 1; have g2 := h 2; omega)
