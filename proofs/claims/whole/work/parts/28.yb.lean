/-! THE DEVELOPERS' YARD: become -/
theorem p306 : pos3 (nI 0) (nI 0) (nI 6) = true := by decide
theorem knd_of {h : AH} {a t n : Nat} (hs : hS h a = some (t, n)) : knd h a = t := by unfold knd; rw [hs]
theorem hI_cpI (h : AH) (a sp b dp n c j : Nat) : hI (cpI h a sp b dp n) c j = if c = b then va_cpy (hI h a) (hI h b) sp dp n j else hI h c j := rfl
theorem hS_cpI (h : AH) (a sp b dp n : Nat) : hS (cpI h a sp b dp n) = hS h := rfl
theorem hR_cpI (h : AH) (a sp b dp n : Nat) : hR (cpI h a sp b dp n) = hR h := rfl
theorem hL_cpI (h : AH) (a sp b dp n : Nat) : hL (cpI h a sp b dp n) = hL h := rfl
theorem knd_cpI (h : AH) (a sp b dp n : Nat) : knd (cpI h a sp b dp n) = knd h := rfl
theorem alen_cpI (h : AH) (a sp b dp n : Nat) : alen (cpI h a sp b dp n) = alen h := rfl
theorem knd_stI (h : AH) (a k : Nat) (v : Int32) : knd (stI h a k v) = knd h := rfl
theorem Fr0.cpI {A : Nat → Prop} (h : AH) {b : Nat} (hb : A b) (a sp dp n : Nat) : Fr0 A h (cpI h a sp b dp n) := by
  refine ⟨rfl, rfl, rfl, rfl, rfl, rfl, fun c hc j => ⟨?_, rfl⟩⟩
  rw [hI_cpI, if_neg]
  rintro rfl
  exact hc hb
theorem cpy6 {f g : Nat → Int32} {j : Nat} (h : j < 6) : va_cpy f g 0 0 6 j = f j := by
  unfold va_cpy; rw [if_pos (by omega)]; congr 1; omega
theorem ad3 {x y : Nat} (h : x ≠ y) : (x = y) = False := eq_false h
def becH (h : AH) (a b : Nat) (y : YS) : AH := cpI (cpI (cpI (cpI (cpI (cpI (cpI (stI (stI (stI (stI (stI h a 0 (nI (Yc y))) a 1 (nI (Yg y))) a 2 (nI (Yn y))) a 3 (Yt y)) a 4 (Yz y)) (b + 1) 0 (a + 1) 0 6) (b + 2) 0 (a + 2) 0 6) (b + 3) 0 (a + 3) 0 6) (b + 4) 0 (a + 4) 0 6) (b + 5) 0 (a + 5) 0 6) (b + 6) 0 (a + 6) 0 6) (b + 7) 0 (a + 7) 0 6
theorem x59 (d : Nat) {h : AH} {a b : Nat} {y : YS} (ha : XS h a) (hx : XY h b y) (hd : b + 8 ≤ a ∨ a + 8 ≤ b) : ∃ h', E d 59 0 [some (.ref a), some (.ref b)] [] h = some (none, h') ∧ XY h' a y ∧ Fr0 (blk a 8) h h' := by
  have hA : ∀ j, j < 8 → blk a 8 (a + j) := fun j hj => ⟨by omega, by omega⟩
  have xs := ha
  obtain ⟨w0, w1, w2, w3, w4, w5, w6, w7, t1, t2, t3, t4, t5, t6, t7⟩ := ha
  obtain ⟨⟨z0, z1, z2, z3, z4, z5, z6, z7, r1, r2, r3, r4, r5, r6, r7⟩, ⟨vc, vg, vn, vt, vz, vK, vA, vU, vM, vW, vC, vP⟩, ok⟩ := hx
  obtain ⟨⟨o2, o3⟩, o6, on, og, oc⟩ := id ok
  refine ⟨becH h a b y, ?_, ⟨xs, ?_, ok⟩, ?_⟩
  · have n1 : ¬ b = a := by omega
    have c1 := knd_of w1
    have c2 := knd_of w2
    have c3 := knd_of w3
    have c4 := knd_of w4
    have c5 := knd_of w5
    have c6 := knd_of w6
    have c7 := knd_of w7
    have d1 := knd_of z1
    have d2 := knd_of z2
    have d3 := knd_of z3
    have d4 := knd_of z4
    have d5 := knd_of z5
    have d6 := knd_of z6
    have d7 := knd_of z7
    have l1 := alen_of w1
    have l2 := alen_of w2
    have l3 := alen_of w3
    have l4 := alen_of w4
    have l5 := alen_of w5
    have l6 := alen_of w6
    have l7 := alen_of w7
    have m1 := alen_of z1
    have m2 := alen_of z2
    have m3 := alen_of z3
    have m4 := alen_of z4
    have m5 := alen_of z5
    have m6 := alen_of z6
    have m7 := alen_of z7
    unfold becH
    simp (disch := omega) only [s59_0, s59_1, s59_2, s59_3, s59_4, s59_5, s59_6, s59_7, s59_8, s59_9, s59_10, s59_11, s59_12, s59_13, s59_14, s59_15, s59_16, s59_17, s59_18, s59_19, s59_20, s59_21, s59_22, s59_23, s59_24, s59_25, s59_26, s59_27, s59_28, s59_29, s59_30, s59_31, s59_32, s59_33, s59_34, s59_35, s59_36, s59_37, s59_38, s59_39, s59_40, s59_41, s59_42, s59_43, s59_44, s59_45, s59_46, s59_47, s59_48, s59_49, s59_50, s59_51, s59_52, s59_53, s59_54, s59_55, s59_56, s59_57, s59_58, s59_59, s59_60, s59_61, s59_62, s59_63, s59_64, s59_65, s59_66, s59_67, s59_68, s59_69, s59_70, s59_71, s59_72, s59_73, s59_74, s59_75, s59_76, ↓reduceIte, Option.bind_some, Option.toList_some, Option.toList_none, List.cons_append, List.nil_append, if_true, if_false, true_or, or_true, true_and, and_true, not_true_eq_false, not_false_eq_true, Nat.reduceLT, Nat.reduceLeDiff, Nat.reduceEqDiff, Nat.reduceAdd, Nat.reduceMul, Nat.reduceSub, Nat.reducePow, Nat.reduceMod, Nat.reduceDiv, zz_l0, zz_l6, nI_clamps, rf_some, w0, z0, t1, t2, t3, t4, t5, t6, t7, r1, r2, r3, r4, r5, r6, r7, c1, c2, c3, c4, c5, c6, c7, d1, d2, d3, d4, d5, d6, d7, l1, l2, l3, l4, l5, l6, l7, m1, m2, m3, m4, m5, m6, m7, vc, vg, vn, vt, vz, ad1, ad2, hI_stI, hS_stI, hR_stI, hL_stI, alen_stI, hI_stL, hL_stL, hS_stL, hR_stL, alen_stL, false_and, and_false, and_self, eq_self, n1, p306, hS_cpI, hR_cpI, knd_cpI, alen_cpI, knd_stI, Nat.zero_add, Nat.le_refl]
  · refine ⟨?_, ?_, ?_, ?_, ?_, ?_, ?_, ?_, ?_, ?_, ?_, ?_⟩
    all_goals simp (disch := omega) only [becH, hI_cpI, hI_stI, ad1, ad2, ad3, false_and, and_false, ↓reduceIte, Option.bind_some, Option.toList_some, Option.toList_none, List.cons_append, List.nil_append, if_true, if_false, true_or, or_true, true_and, and_true, not_true_eq_false, not_false_eq_true, Nat.reduceLT, Nat.reduceLeDiff, Nat.reduceEqDiff, Nat.reduceAdd, Nat.reduceMul, Nat.reduceSub, Nat.reducePow, Nat.reduceMod, Nat.reduceDiv]
    · intro g hg; rw [cpy6 (by omega)]; simp (disch := omega) only [hI_cpI, hI_stI, ad3, false_and, ↓reduceIte, Option.bind_some, Option.toList_some, Option.toList_none, List.cons_append, List.nil_append, if_true, if_false, true_or, or_true, true_and, and_true, not_true_eq_false, not_false_eq_true, Nat.reduceLT, Nat.reduceLeDiff, Nat.reduceEqDiff, Nat.reduceAdd, Nat.reduceMul, Nat.reduceSub, Nat.reducePow, Nat.reduceMod, Nat.reduceDiv]; exact vK g hg
    · intro g hg; rw [cpy6 (by omega)]; simp (disch := omega) only [hI_cpI, hI_stI, ad3, false_and, ↓reduceIte, Option.bind_some, Option.toList_some, Option.toList_none, List.cons_append, List.nil_append, if_true, if_false, true_or, or_true, true_and, and_true, not_true_eq_false, not_false_eq_true, Nat.reduceLT, Nat.reduceLeDiff, Nat.reduceEqDiff, Nat.reduceAdd, Nat.reduceMul, Nat.reduceSub, Nat.reducePow, Nat.reduceMod, Nat.reduceDiv]; exact vA g hg
    · intro g hg; rw [cpy6 (by omega)]; simp (disch := omega) only [hI_cpI, hI_stI, ad3, false_and, ↓reduceIte, Option.bind_some, Option.toList_some, Option.toList_none, List.cons_append, List.nil_append, if_true, if_false, true_or, or_true, true_and, and_true, not_true_eq_false, not_false_eq_true, Nat.reduceLT, Nat.reduceLeDiff, Nat.reduceEqDiff, Nat.reduceAdd, Nat.reduceMul, Nat.reduceSub, Nat.reducePow, Nat.reduceMod, Nat.reduceDiv]; exact vU g hg
    · intro g hg; rw [cpy6 (by omega)]; simp (disch := omega) only [hI_cpI, hI_stI, ad3, false_and, ↓reduceIte, Option.bind_some, Option.toList_some, Option.toList_none, List.cons_append, List.nil_append, if_true, if_false, true_or, or_true, true_and, and_true, not_true_eq_false, not_false_eq_true, Nat.reduceLT, Nat.reduceLeDiff, Nat.reduceEqDiff, Nat.reduceAdd, Nat.reduceMul, Nat.reduceSub, Nat.reducePow, Nat.reduceMod, Nat.reduceDiv]; exact vM g hg
    · intro g hg; rw [cpy6 (by omega)]; simp (disch := omega) only [hI_cpI, hI_stI, ad3, false_and, ↓reduceIte, Option.bind_some, Option.toList_some, Option.toList_none, List.cons_append, List.nil_append, if_true, if_false, true_or, or_true, true_and, and_true, not_true_eq_false, not_false_eq_true, Nat.reduceLT, Nat.reduceLeDiff, Nat.reduceEqDiff, Nat.reduceAdd, Nat.reduceMul, Nat.reduceSub, Nat.reducePow, Nat.reduceMod, Nat.reduceDiv]; exact vW g hg
    · intro g hg; rw [cpy6 (by omega)]; simp (disch := omega) only [hI_cpI, hI_stI, ad3, false_and, ↓reduceIte, Option.bind_some, Option.toList_some, Option.toList_none, List.cons_append, List.nil_append, if_true, if_false, true_or, or_true, true_and, and_true, not_true_eq_false, not_false_eq_true, Nat.reduceLT, Nat.reduceLeDiff, Nat.reduceEqDiff, Nat.reduceAdd, Nat.reduceMul, Nat.reduceSub, Nat.reducePow, Nat.reduceMod, Nat.reduceDiv]; exact vC g hg
    · intro g hg; rw [cpy6 (by omega)]; simp (disch := omega) only [hI_cpI, hI_stI, ad3, false_and, ↓reduceIte, Option.bind_some, Option.toList_some, Option.toList_none, List.cons_append, List.nil_append, if_true, if_false, true_or, or_true, true_and, and_true, not_true_eq_false, not_false_eq_true, Nat.reduceLT, Nat.reduceLeDiff, Nat.reduceEqDiff, Nat.reduceAdd, Nat.reduceMul, Nat.reduceSub, Nat.reducePow, Nat.reduceMod, Nat.reduceDiv]; exact vP g hg
  · have s := fun h k v => Fr0.stI h (hA 0 (by decide)) k v
    have c := fun (j : Nat) (hj : j < 8) h b => Fr0.cpI h (hA j hj) b 0 0 6
    exact (((((((((((s _ _ _).trans (s _ _ _)).trans (s _ _ _)).trans (s _ _ _)).trans (s _ _ _)).trans (c 1 (by decide) _ _)).trans (c 2 (by decide) _ _)).trans (c 3 (by decide) _ _)).trans (c 4 (by decide) _ _)).trans (c 5 (by decide) _ _)).trans (c 6 (by decide) _ _)).trans (c 7 (by decide) _ _)
