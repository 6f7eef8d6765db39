/-! KNOW, the reference: one guess -/
theorem n210 (d : Nat) {h0 h : AH} {A : Nat} {s : GS} {W : Nat → Prop} {o g : Nat} {p : Nat × Nat} {n : Nat} {F S V : Nat → Nat → Int32} {q : Nat → Nat × Nat} {v : Nat → Bool} {c k : Nat} (w : Bool) (K : KH h0 h A s W o g p (n + 1) F S V) (L : LV (gY s) F S V (n + 1) q v) (hn : n < 6) (hg : g < Yg (gY s)) (hc : c < Yc (gY s)) (hk : k ≤ Yc (gY s)) :
    ∃ h2 p2, E (d + 3) 210 2 [some (.ref A), some (.ref o), some (.int (nI g)), some (.int (nI (n + 1))), some (.int (nI c)), some (.int (bI w)), some (.int (nI k))] [] h = E (d + 3) 210 2 [some (.ref A), some (.ref o), some (.int (nI g)), some (.int (nI (n + 1))), some (.int (nI c)), some (.int (bI w)), some (.int (nI (k + 1)))] [] h2 ∧ KH h0 h2 A s W o g p2 (n + 1) F S V ∧ (hI h2 (A + 46 + n) k = bI (v k && (lt1 (gY s) g (q k) c == w)) ∧ (v k = true → hI h2 (A + 30 + n) k = qI (stp (gY s) g (q k) c).1 ∧ hI h2 (A + 38 + n) k = qI (stp (gY s) g (q k) c).2)) ∧ ∀ j, j ≠ k → hI h2 (A + 30 + n) j = hI h (A + 30 + n) j ∧ hI h2 (A + 38 + n) j = hI h (A + 38 + n) j ∧ hI h2 (A + 46 + n) j = hI h (A + 46 + n) j := by
  have ok := K.1.1.1.2.2
  obtain ⟨⟨o2, o3⟩, o6, on, og, oc⟩ := id ok
  have u6 := ok.u6 hg
  have k4 : k < 4 := by omega
  have h1' : ¬ Yc (gY s) < k := by omega
  have sb1 : nI (n + 1) - nI 1 = nI n := by rw [nI_sub (by omega)]; rfl
  obtain ⟨c0, o0, -, -, -, -, -, -, -, -, -⟩ := K.1.mem hg
  obtain ⟨yc, ao, -⟩ := K.z
  obtain ⟨m1, m2, m3, m4, m5, m6, m7, m8, m9, m10, m11, m12⟩ := K.lv (l := n) (by omega)
  obtain ⟨-, -, -, -, -, -, u7, u8, u9, u10, u11, u12⟩ := K.lv (l := n + 1) (by omega)
  have q1 := K.c (n := n) (by omega) (b := 46) (Or.inr (Or.inr rfl)) k (nI 0)
  obtain ⟨Lv, Lq⟩ := L k hk
  have i1 := (q1.2 (n + 1) (Nat.le_refl _) (by omega) k)
  have I0 := (K.2 (n + 1) (Nat.le_refl _) (by omega) k)
  rw [Lv] at i1
  cases hv : v k
  · rw [hv] at i1
    refine ⟨_, p, ?_, q1, ⟨?_, fun w => Bool.noConfusion w⟩, fun j hj => ⟨?_, ?_, ?_⟩⟩
    · rw [s210_2]
      have i3 := i1.2.2
      simp (disch := omega) only [s210_3, s210_4, s210_5, s210_6, s210_7, s210_8, s210_9, s210_10, s210_11, s210_12, s210_13, s210_14, s210_15, s210_16, s210_17, s210_18, s210_19, s210_20, s210_21, s210_95, s210_96, ↓reduceIte, Option.bind_some, Option.toList_some, Option.toList_none, List.cons_append, List.nil_append, if_true, if_false, true_or, or_true, true_and, and_true, not_true_eq_false, not_false_eq_true, Nat.reduceLT, Nat.reduceLeDiff, Nat.reduceEqDiff, Nat.reduceAdd, Nat.reduceMul, Nat.reduceSub, Nat.reducePow, Nat.reduceMod, Nat.reduceDiv, l0, l1, l2, l3, l4, l5, l6, l7, l8, l9, l10, l11, l12, l13, l14, l15, l16, l20, l31, l32, l36, l40, l48, l57, l59, l63, l64, l97, l99, l100, l101, l122, l127, l128, l250, l255, l262143, l262144, l30000, l100000, l12345, l1024, l4095, nI_eqs, nI_les, nI_lts, qI_eq, qI_eqn, nI_eqq, qI_lts, nI_ltp, nI_lep, qI_les, nI_add, nI_mul, qI_add, qI_s, qI_def, nI_clamps, bI_z, bI_o, bI_01, n01, n11, rf_some, rf_none, m1, m1n, bft, ad1, hS_stI, hR_stI, alen_stI, nar_0, h1', sb1, c0, yc, m5, gR m6, m11, gA m12, u11, gA u12, i3, bI_f]
    · rw [hI_stI, if_pos ⟨rfl, rfl⟩]; rfl
    · rw [hI_stI, if_neg (fun w => by omega)]
    · rw [hI_stI, if_neg (fun w => by omega)]
    · rw [hI_stI, if_neg (fun w => hj w.2)]
  · rw [hv] at i1
    obtain ⟨a1, a2, a3⟩ := Lq hv
    rw [a1, a2] at i1
    obtain ⟨i2, i4, i3⟩ := i1
    obtain ⟨-, -, v1, v2, v3, v4, v5, v6, v7, -, -⟩ := q1.1.mem hg
    have q2 := q1.set a3
    obtain ⟨hB, e183, qB, fB⟩ := q2.try d hg hc none
    obtain ⟨-, -, -, -, w3, w4, w5, w6, w7, w8, w9⟩ := qB.1.mem hg
    obtain ⟨b0, b1, x1, x2, x3, x4, x5, x6, x7, -, -⟩ := qB.1.mem hg
    obtain ⟨r1, r2, r3, r4, r5, r6, r7, r8, r9, r10, r11, r12⟩ := qB.lv (l := n) (by omega)
    have q3 := qB.c (n := n) (by omega) (b := 46) (Or.inr (Or.inr rfl)) k (bI (lt1 (gY s) g (q k) c == w))
    have q4 := q3.c (n := n) (by omega) (b := 30) (Or.inl rfl) k (qI (stp (gY s) g (q k) c).1)
    have q5 := q4.c (n := n) (by omega) (b := 38) (Or.inr (Or.inl rfl)) k (qI (stp (gY s) g (q k) c).2)
    have f7 := fB.1.2.2.2.2.2.2
    refine ⟨_, _, ?_, q5, ⟨?_, fun _ => ⟨?_, ?_⟩⟩, fun j hj => ⟨?_, ?_, ?_⟩⟩
    · -- the memory set
      have z1 : hI (stI (stI h (A + 46 + n) k (nI 0)) (o + 19) (YU (gY s) g) (qI (q k).1)) (A + 21) g = nI (YU (gY s) g) := by
        rw [hI_stI, if_neg (fun w => by omega)]; exact v3
      have z2 : hI (stI (stI h (A + 46 + n) k (nI 0)) (o + 19) (YU (gY s) g) (qI (q k).1)) (A + 38 + (n + 1)) k = qI (q k).2 := by
        rw [hI_stI, if_neg (fun w => by omega)]; exact i4
      have z3 : ∀ z, hI (stI hB (A + 46 + n) k (z)) (A + 21) g = nI (YU (gY s) g) := fun z => by
        rw [hI_stI, if_neg (fun w => by omega)]; exact w3
      have z4 : ∀ z, hI (stI hB (A + 46 + n) k (z)) (o + 19) (YU (gY s) g) = qI (stp (gY s) g (q k) c).1 := fun z => by
        rw [hI_stI, if_neg (fun w => by omega)]; exact w8
      have z5 : ∀ z, hI (stI (stI hB (A + 46 + n) k (z)) (A + 30 + n) k (qI (stp (gY s) g (q k) c).1)) (A + 21) g = nI (YU (gY s) g) := fun z => by
        rw [hI_stI, if_neg (fun w => by omega)]; exact z3 z
      have z6 : ∀ z, hI (stI (stI hB (A + 46 + n) k (z)) (A + 30 + n) k (qI (stp (gY s) g (q k) c).1)) (o + 20) (YU (gY s) g) = qI (stp (gY s) g (q k) c).2 := fun z => by
        rw [hI_stI, hI_stI, if_neg (fun w => by omega), if_neg (fun w => by omega)]; exact w9
      have v2' : hS h (A + 21) = some (0, 6) := v2
      have v6' : hS h (o + 19) = some (0, 6) := v6
      have v7' : hS h (o + 20) = some (0, 6) := v7
      have v1' : hR h A 15 = some (A + 21) := v1
      have v4' : hR h o 13 = some (o + 19) := v4
      have v5' : hR h o 14 = some (o + 20) := v5
      have bb1 : bI (false == true) = nI 0 := rfl
      have bb2 : bI (true == false) = nI 0 := rfl
      rw [s210_2]
      cases hl : lt1 (gY s) g (q k) c <;> cases w <;> rw [hl] at e183 <;> simp (disch := omega) only [s210_3, s210_4, s210_5, s210_6, s210_7, s210_8, s210_9, s210_10, s210_11, s210_12, s210_13, s210_14, s210_15, s210_16, s210_17, s210_18, s210_19, s210_20, s210_21, s210_22, s210_23, s210_24, s210_25, s210_26, s210_27, s210_28, s210_29, s210_30, s210_31, s210_32, s210_33, s210_34, s210_35, s210_36, s210_37, s210_38, s210_39, s210_40, s210_41, s210_42, s210_43, s210_44, s210_45, s210_46, s210_47, s210_48, s210_49, s210_50, s210_51, s210_52, s210_53, s210_54, s210_55, s210_56, s210_57, s210_58, s210_59, s210_60, s210_61, s210_62, s210_63, s210_64, s210_65, s210_66, s210_67, s210_68, s210_69, s210_70, s210_71, s210_72, s210_73, s210_74, s210_75, s210_76, s210_77, s210_78, s210_79, s210_80, s210_81, s210_82, s210_83, s210_84, s210_85, s210_86, s210_87, s210_88, s210_89, s210_90, s210_91, s210_92, s210_93, s210_94, s210_95, s210_96, ↓reduceIte, Option.bind_some, Option.toList_some, Option.toList_none, List.cons_append, List.nil_append, if_true, if_false, true_or, or_true, true_and, and_true, not_true_eq_false, not_false_eq_true, Nat.reduceLT, Nat.reduceLeDiff, Nat.reduceEqDiff, Nat.reduceAdd, Nat.reduceMul, Nat.reduceSub, Nat.reducePow, Nat.reduceMod, Nat.reduceDiv, l0, l1, l2, l3, l4, l5, l6, l7, l8, l9, l10, l11, l12, l13, l14, l15, l16, l20, l31, l32, l36, l40, l48, l57, l59, l63, l64, l97, l99, l100, l101, l122, l127, l128, l250, l255, l262143, l262144, l30000, l100000, l12345, l1024, l4095, nI_eqs, nI_les, nI_lts, qI_eq, qI_eqn, nI_eqq, qI_lts, nI_ltp, nI_lep, qI_les, nI_add, nI_mul, qI_add, qI_s, qI_def, nI_clamps, bI_z, bI_o, bI_01, n01, n11, rf_some, rf_none, m1, m1n, bft, ad1, hS_stI, hR_stI, alen_stI, nar_0, nar_1, h1', sb1, c0, o0, yc, m1, gR m2, m3, gR m4, m5, gR m6, m7, gI m8, gA m8, m9, gA m10, m11, gA m12, u7, gI u8, u9, gI u10, u11, gA u12, i2, i3, v1', gI v2', v3, v4', gA v6', v5', gA v7', z1, z2, e183, bI_t, bI_f, b0, b1, r1, gR r2, r3, gR r4, r5, gR r6, r7, gA r8, r9, gA r10, r11, gA r12, x1, gI x2, x4, gI x6, x5, gI x7, z3, z4, z5, z6, w3, w8, w9, Bool.true_eq_false, beq_self_eq_true, bb1, bb2]
    · rw [hI_stI, hI_stI, hI_stI, if_neg (fun w => by omega), if_neg (fun w => by omega), if_pos ⟨rfl, rfl⟩, Bool.true_and]
    · rw [hI_stI, hI_stI, if_neg (fun w => by omega), if_pos ⟨rfl, rfl⟩]
    · rw [hI_stI, if_pos ⟨rfl, rfl⟩]
    · rw [hI_stI, hI_stI, hI_stI, if_neg (fun w => by omega), if_neg (fun w => by omega), if_neg (fun w => by omega), (f7 (A + 30 + n) (fun w => by unfold yA at w; omega) j).1, hI_stI, hI_stI, hI_stI, if_neg (fun w => by omega), if_neg (fun w => by omega), if_neg (fun w => by omega)]
    · rw [hI_stI, hI_stI, hI_stI, if_neg (fun w => by omega), if_neg (fun w => by omega), if_neg (fun w => by omega), (f7 (A + 38 + n) (fun w => by unfold yA at w; omega) j).1, hI_stI, hI_stI, hI_stI, if_neg (fun w => by omega), if_neg (fun w => by omega), if_neg (fun w => by omega)]
    · rw [hI_stI, hI_stI, hI_stI, if_neg (fun w => by omega), if_neg (fun w => by omega), if_neg (fun w => by omega), (f7 (A + 46 + n) (fun w => by unfold yA at w; omega) j).1, hI_stI, hI_stI, hI_stI, if_neg (fun w => by omega), if_neg (fun w => by omega), if_neg (fun w => by omega)]
