/-! SCRATCHED: orders, and the developers' way to count them -/
def ordR (y : YS) (g : Nat) (l : Nat) (p : Nat × Nat) (t : Nat → Nat) : Nat × Nat := match l with
  | 0 => (1, if p.1 = 0 then 0 else 2 ^ (p.1 - 1))
  | l + 1 => itr (fun c a => if 0 < t c ∧ lt1 y g p c = false then (a.1 + (ordR y g l (stp y g p c) (fup t c (t c - 1))).1, a.2 ||| (ordR y g l (stp y g p c) (fup t c (t c - 1))).2) else a) (Yc y) 0 (0, 0)
def ordS (y : YS) (g l : Nat) (p : Nat × Nat) (t : Nat → Nat) (c : Nat) (a : Nat × Nat) : Nat × Nat := if 0 < t c ∧ lt1 y g p c = false then (a.1 + (ordR y g l (stp y g p c) (fup t c (t c - 1))).1, a.2 ||| (ordR y g l (stp y g p c) (fup t c (t c - 1))).2) else a
theorem ordR_s (y : YS) (g l : Nat) (p : Nat × Nat) (t : Nat → Nat) : ordR y g (l + 1) p t = itr (ordS y g l p t) (Yc y) 0 (0, 0) := rfl
theorem ordR_lt {y : YS} {g : Nat} (h3 : Yc y ≤ 3) : ∀ l p t, pOK y p → (ordR y g l p t).1 ≤ 3 ^ l ∧ (ordR y g l p t).2 < 8 := by
  intro l
  induction l with
  | zero =>
    intro p t hp
    refine ⟨Nat.le_refl _, ?_⟩
    show (if p.1 = 0 then 0 else 2 ^ (p.1 - 1)) < 8
    split
    · decide
    · exact Nat.pow_lt_pow_right (n := 3) (by decide) (by have := hp.1; omega)
  | succ l ih =>
    intro p t hp
    have lp : ∀ m i (a : Nat × Nat), i + m = Yc y → a.2 < 8 → (itr (ordS y g l p t) m i a).1 ≤ a.1 + m * 3 ^ l ∧ (itr (ordS y g l p t) m i a).2 < 8 := by
      intro m
      induction m with
      | zero => intro i a _ h; exact ⟨by show a.1 ≤ a.1 + 0 * _; omega, h⟩
      | succ m ih2 =>
        intro i a hi h
        rw [itr_s]
        have o := stp_ok (g := g) hp (show i < Yc y by omega)
        have b := ih (stp y g p i) (fup t i (t i - 1)) o
        unfold ordS
        split
        · have r := ih2 (i + 1) (a.1 + (ordR y g l (stp y g p i) (fup t i (t i - 1))).1, a.2 ||| (ordR y g l (stp y g p i) (fup t i (t i - 1))).2) (by omega) (Nat.or_lt_two_pow (n := 3) h b.2)
          have q := r.1
          dsimp only at q
          refine ⟨Nat.le_trans q ?_, r.2⟩
          rw [Nat.succ_mul]; omega
        · have r := ih2 (i + 1) a (by omega) h
          refine ⟨Nat.le_trans r.1 ?_, r.2⟩
          rw [Nat.succ_mul]; omega
    rw [ordR_s]
    have r := lp (Yc y) 0 (0, 0) (by omega) (by decide)
    refine ⟨Nat.le_trans r.1 ?_, r.2⟩
    rw [Nat.pow_succ, Nat.zero_add, Nat.mul_comm]
    exact Nat.mul_le_mul_left _ h3
def pkH (t : Nat → Nat) : Nat := t 0 + 16 * t 1 + 256 * t 2
theorem c3 {c : Nat} (h : c < 3) : c = 0 ∨ c = 1 ∨ c = 2 := by omega
theorem pkH_dg {t : Nat → Nat} (h : t 0 + t 1 + t 2 ≤ 6) {c : Nat} (hc : c < 3) : pkH t / 2 ^ (4 * c) % 16 = t c := by
  unfold pkH
  rcases zz_3 hc with rfl | rfl | rfl
  · show (t 0 + 16 * t 1 + 256 * t 2) / 1 % 16 = _; omega
  · show (t 0 + 16 * t 1 + 256 * t 2) / 16 % 16 = _; omega
  · show (t 0 + 16 * t 1 + 256 * t 2) / 256 % 16 = _; omega
theorem pkH_up (t : Nat → Nat) {c : Nat} (hc : c < 3) : pkH (fup t c (t c + 1)) = pkH t + 2 ^ (4 * c) ∧ fup t c (t c + 1) 0 + fup t c (t c + 1) 1 + fup t c (t c + 1) 2 = t 0 + t 1 + t 2 + 1 := by
  unfold pkH fup
  rcases zz_3 hc with rfl | rfl | rfl
  · simp only [Nat.reduceEqDiff, if_true, if_false]; show t 0 + 1 + 16 * t 1 + 256 * t 2 = t 0 + 16 * t 1 + 256 * t 2 + 1 ∧ _; omega
  · simp only [Nat.reduceEqDiff, if_true, if_false]; show t 0 + 16 * (t 1 + 1) + 256 * t 2 = t 0 + 16 * t 1 + 256 * t 2 + 16 ∧ _; omega
  · simp only [Nat.reduceEqDiff, if_true, if_false]; show t 0 + 16 * t 1 + 256 * (t 2 + 1) = t 0 + 16 * t 1 + 256 * t 2 + 256 ∧ _; omega
theorem pkH_dn (t : Nat → Nat) {c : Nat} (hc : c < 3) (h : 0 < t c) : pkH t = pkH (fup t c (t c - 1)) + 2 ^ (4 * c) ∧ fup t c (t c - 1) 0 + fup t c (t c - 1) 1 + fup t c (t c - 1) 2 + 1 = t 0 + t 1 + t 2 := by
  unfold pkH fup
  rcases zz_3 hc with rfl | rfl | rfl
  · simp only [Nat.reduceEqDiff, if_true, if_false]; show t 0 + 16 * t 1 + 256 * t 2 = t 0 - 1 + 16 * t 1 + 256 * t 2 + 1 ∧ _; omega
  · simp only [Nat.reduceEqDiff, if_true, if_false]; show t 0 + 16 * t 1 + 256 * t 2 = t 0 + 16 * (t 1 - 1) + 256 * t 2 + 16 ∧ _; omega
  · simp only [Nat.reduceEqDiff, if_true, if_false]; show t 0 + 16 * t 1 + 256 * t 2 = t 0 + 16 * t 1 + 256 * (t 2 - 1) + 256 ∧ _; omega
theorem or8 {l m : Nat} (hm : m < 8) : l * 2 ^ 3 ||| m = 8 * l + m := by
  have := Nat.two_pow_add_eq_or_of_lt (show m < 2 ^ 3 by omega) l
  rw [Nat.mul_comm]
  simp only [Nat.reducePow] at this ⊢
  omega
theorem and7 {l m : Nat} (hm : m < 8) : (8 * l + m) &&& 7 = m := by
  rw [show (7 : Nat) = 2 ^ 3 - 1 from rfl, Nat.and_two_pow_sub_one_eq_mod]; omega
theorem x57 (d : Nat) {h : AH} {b : Nat} {y : YS} (xy : XY h b y) {g : Nat} (hg : g < Yg y) : ∀ l p t p5 p6 p7 p8, pOK y p → t 0 + t 1 + t 2 = l → l ≤ 6 → E (d + l + 3) 57 0 [some (.ref b), some (.int (nI g)), some (.int (nI (pk p))), some (.int (nI (pkH t))), some (.int (nI l)), p5, p6, p7, p8] [] h = some (some (.int (nI (8 * (ordR y g l p t).1 + (ordR y g l p t).2))), h) := by
  have z0 := xy.1.1
  have yc := xy.2.1.1
  have ok := xy.2.2
  obtain ⟨⟨o2, o3⟩, o6, on, og, oc⟩ := id ok
  intro l
  induction l with
  | zero =>
    intro p t p5 p6 p7 p8 hp ht _
    have e3 := fun d h => x3p d h o3 hp
    show _ = some (some (Value.int (nI (8 * 1 + if p.1 = 0 then 0 else 2 ^ (p.1 - 1)))), h)
    obtain ⟨f, s'⟩ := p
    dsimp only at e3 ⊢
    cases f with
    | zero =>
      simp (disch := omega) only [s57_0, s57_1, s57_2, s57_3, s57_4, s57_5, s57_6, s57_7, s57_8, s57_9, s57_10, s57_11, s57_12, s57_13, s57_14, s57_15, ↓reduceIte, Option.bind_some, Option.toList_some, Option.toList_none, List.cons_append, List.nil_append, if_true, if_false, true_or, or_true, true_and, and_true, not_true_eq_false, not_false_eq_true, Nat.reduceLT, Nat.reduceLeDiff, Nat.reduceEqDiff, Nat.reduceAdd, Nat.reduceMul, Nat.reduceSub, Nat.reducePow, Nat.reduceMod, Nat.reduceDiv, l0, l1, l2, l3, l4, l5, l6, l7, l8, l9, l10, l11, l12, l13, l14, l15, l16, l20, l31, l32, l36, l40, l48, l57, l59, l63, l64, l97, l99, l100, l101, l122, l127, l128, l250, l255, l262143, l262144, l30000, l100000, l12345, l1024, l4095, nI_eqs, nI_les, nI_lts, qI_eq, qI_eqn, nI_eqq, qI_lts, nI_ltp, nI_lep, qI_les, nI_add, nI_mul, qI_add, qI_s, qI_def, nI_clamps, bI_z, bI_o, bI_01, n01, n11, rf_some, rf_none, m1, m1n, bft, e3, Nat.lt_irrefl, nI_or]
      rfl
    | succ f =>
      have hf := hp.1
      dsimp only at hf
      have f0 : ¬ f + 1 = 0 := by omega
      have e8 : 8 ||| 1 * 2 ^ f = 8 * 1 + 2 ^ f := by
        rcases zz_3 (show f < 3 by omega) with rfl | rfl | rfl <;> decide
      simp (disch := omega) only [s57_0, s57_1, s57_2, s57_3, s57_4, s57_5, s57_6, s57_7, s57_8, s57_9, s57_10, s57_11, s57_12, s57_13, s57_14, s57_15, ↓reduceIte, Option.bind_some, Option.toList_some, Option.toList_none, List.cons_append, List.nil_append, if_true, if_false, true_or, or_true, true_and, and_true, not_true_eq_false, not_false_eq_true, Nat.reduceLT, Nat.reduceLeDiff, Nat.reduceEqDiff, Nat.reduceAdd, Nat.reduceMul, Nat.reduceSub, Nat.reducePow, Nat.reduceMod, Nat.reduceDiv, l0, l1, l2, l3, l4, l5, l6, l7, l8, l9, l10, l11, l12, l13, l14, l15, l16, l20, l31, l32, l36, l40, l48, l57, l59, l63, l64, l97, l99, l100, l101, l122, l127, l128, l250, l255, l262143, l262144, l30000, l100000, l12345, l1024, l4095, nI_eqs, nI_les, nI_lts, qI_eq, qI_eqn, nI_eqq, qI_lts, nI_ltp, nI_lep, qI_les, nI_add, nI_mul, qI_add, qI_s, qI_def, nI_clamps, bI_z, bI_o, bI_01, n01, n11, rf_some, rf_none, m1, m1n, bft, nI_and, nI_or, nI_shl', nI_shr', a31, e3, f0, Nat.lt_irrefl, e8, Nat.add_sub_cancel]
  | succ l ih =>
    intro p t p5 p6 p7 p8 hp ht hl
    have hsum : t 0 + t 1 + t 2 ≤ 6 := by omega
    have hH : pkH t < 2 ^ 31 := by unfold pkH; omega
    have lp : ∀ m i (a : Nat × Nat) p8, i + m = Yc y → a.1 ≤ i * 729 → a.2 < 8 → E (d + (l + 1) + 3) 57 22 [some (.ref b), some (.int (nI g)), some (.int (nI (pk p))), some (.int (nI (pkH t))), some (.int (nI (l + 1))), some (.int (nI a.1)), some (.int (nI a.2)), some (.int (nI i)), p8] [] h = some (some (.int (nI (8 * (itr (ordS y g l p t) m i a).1 + (itr (ordS y g l p t) m i a).2))), h) := by
      intro m
      induction m with
      | zero =>
        intro i a p8 hi ha1 ha2
        have hi' : i = Yc y := hi
        have q := or8 (l := a.1) ha2
        rw [s57_22]
        simp (disch := omega) only [s57_23, s57_24, s57_25, s57_73, s57_74, s57_75, s57_76, s57_77, s57_78, ↓reduceIte, Option.bind_some, Option.toList_some, Option.toList_none, List.cons_append, List.nil_append, if_true, if_false, true_or, or_true, true_and, and_true, not_true_eq_false, not_false_eq_true, Nat.reduceLT, Nat.reduceLeDiff, Nat.reduceEqDiff, Nat.reduceAdd, Nat.reduceMul, Nat.reduceSub, Nat.reducePow, Nat.reduceMod, Nat.reduceDiv, l0, l1, l2, l3, l4, l5, l6, l7, l8, l9, l10, l11, l12, l13, l14, l15, l16, l20, l31, l32, l36, l40, l48, l57, l59, l63, l64, l97, l99, l100, l101, l122, l127, l128, l250, l255, l262143, l262144, l30000, l100000, l12345, l1024, l4095, nI_eqs, nI_les, nI_lts, qI_eq, qI_eqn, nI_eqq, qI_lts, nI_ltp, nI_lep, qI_les, nI_add, nI_mul, qI_add, qI_s, qI_def, nI_clamps, bI_z, bI_o, bI_01, n01, n11, rf_some, rf_none, m1, m1n, bft, nI_and, nI_or, nI_shl', nI_shr', a31, z0, yc, hi', Nat.le_refl]
        rw [q]; rfl
      | succ m ih2 =>
        intro i a p8 hi ha1 ha2
        have h1' : ¬ Yc y ≤ i := by omega
        have dgi := pkH_dg hsum (show i < 3 by omega)
        have e75 := fun d => x75p d xy hg hp (show i < Yc y by omega)
        have e76 := fun d => x76p d xy hg hp (show i < Yc y by omega)
        rw [s57_22, itr_s]
        by_cases c0 : 0 < t i
        · have c0' : ¬ t i ≤ 0 := by omega
          cases q : lt1 y g p i <;> rw [q] at e75
          · have sok := stp_ok (g := g) hp (show i < Yc y by omega)
            obtain ⟨dn1, dn2⟩ := pkH_dn t (show i < 3 by omega) c0
            have hsub : nI (pkH t) - nI (2 ^ (4 * i)) = nI (pkH (fup t i (t i - 1))) := by
              rw [dn1, nI_sub (by omega)]; congr 1; omega
            have erc := fun p5 p6 p7 p8 => ih (stp y g p i) (fup t i (t i - 1)) p5 p6 p7 p8 sok (by omega) (by omega)
            rw [show d + l + 3 = d + (l + 1) + 2 by omega] at erc
            have lt := ordR_lt (g := g) o3 l (stp y g p i) (fup t i (t i - 1)) sok
            have p3 : 3 ^ l ≤ 3 ^ 6 := Nat.pow_le_pow_right (by decide) (by omega)
            have w1 : (8 * (ordR y g l (stp y g p i) (fup t i (t i - 1))).1 + (ordR y g l (stp y g p i) (fup t i (t i - 1))).2) / 2 ^ 3 = (ordR y g l (stp y g p i) (fup t i (t i - 1))).1 := by
              have := lt.2; show _ / 8 = _; omega
            have w2 := and7 (l := (ordR y g l (stp y g p i) (fup t i (t i - 1))).1) lt.2
            have S : ordS y g l p t i a = (a.1 + (ordR y g l (stp y g p i) (fup t i (t i - 1))).1, a.2 ||| (ordR y g l (stp y g p i) (fup t i (t i - 1))).2) := by unfold ordS; rw [if_pos ⟨c0, q⟩]
            have p36 : (3 : Nat) ^ 6 = 729 := by decide
            rw [S, ← ih2 (i + 1) _ (some (.int (nI (8 * (ordR y g l (stp y g p i) (fup t i (t i - 1))).1 + (ordR y g l (stp y g p i) (fup t i (t i - 1))).2)))) (by omega) (by dsimp only; omega) (Nat.or_lt_two_pow (n := 3) ha2 lt.2)]
            have cb : (ordR y g l (stp y g p i) (fup t i (t i - 1))).1 ≤ 729 := by omega
            have cb2 := lt.2
            simp (disch := omega) only [s57_23, s57_24, s57_25, s57_26, s57_27, s57_28, s57_29, s57_30, s57_31, s57_32, s57_33, s57_34, s57_35, s57_36, s57_37, s57_38, s57_39, s57_40, s57_41, s57_42, s57_43, s57_44, s57_45, s57_46, s57_47, s57_48, s57_49, s57_50, s57_51, s57_52, s57_53, s57_54, s57_55, s57_56, s57_57, s57_58, s57_59, s57_60, s57_61, s57_62, s57_63, s57_64, s57_65, s57_66, s57_67, s57_68, s57_69, s57_70, s57_71, s57_72, ↓reduceIte, Option.bind_some, Option.toList_some, Option.toList_none, List.cons_append, List.nil_append, if_true, if_false, true_or, or_true, true_and, and_true, not_true_eq_false, not_false_eq_true, Nat.reduceLT, Nat.reduceLeDiff, Nat.reduceEqDiff, Nat.reduceAdd, Nat.reduceMul, Nat.reduceSub, Nat.reducePow, Nat.reduceMod, Nat.reduceDiv, l0, l1, l2, l3, l4, l5, l6, l7, l8, l9, l10, l11, l12, l13, l14, l15, l16, l20, l31, l32, l36, l40, l48, l57, l59, l63, l64, l97, l99, l100, l101, l122, l127, l128, l250, l255, l262143, l262144, l30000, l100000, l12345, l1024, l4095, nI_eqs, nI_les, nI_lts, qI_eq, qI_eqn, nI_eqq, qI_lts, nI_ltp, nI_lep, qI_les, nI_add, nI_mul, qI_add, qI_s, qI_def, nI_clamps, bI_z, bI_o, bI_01, n01, n11, rf_some, rf_none, m1, m1n, bft, nI_and, nI_or, nI_shl', nI_shr', a31, z0, yc, h1', and15, dgi, c0', e75, e76, Nat.one_mul, hsub, erc, w1, w2]
          · have S : ordS y g l p t i a = a := by unfold ordS; rw [if_neg (fun w => by rw [q] at w; exact absurd w.2 (by decide))]
            rw [S, ← ih2 (i + 1) a p8 (by omega) (Nat.le_trans ha1 (Nat.mul_le_mul_right _ (Nat.le_succ i))) ha2]
            simp (disch := omega) only [s57_23, s57_24, s57_25, s57_26, s57_27, s57_28, s57_29, s57_30, s57_31, s57_32, s57_33, s57_34, s57_35, s57_36, s57_37, s57_38, s57_39, s57_40, s57_41, s57_42, s57_43, s57_44, s57_45, s57_46, s57_47, s57_48, s57_49, s57_50, s57_51, s57_52, s57_53, s57_54, s57_55, s57_56, s57_57, s57_58, s57_59, s57_60, s57_61, s57_62, s57_63, s57_64, s57_65, s57_66, s57_67, s57_68, s57_69, s57_70, s57_71, s57_72, ↓reduceIte, Option.bind_some, Option.toList_some, Option.toList_none, List.cons_append, List.nil_append, if_true, if_false, true_or, or_true, true_and, and_true, not_true_eq_false, not_false_eq_true, Nat.reduceLT, Nat.reduceLeDiff, Nat.reduceEqDiff, Nat.reduceAdd, Nat.reduceMul, Nat.reduceSub, Nat.reducePow, Nat.reduceMod, Nat.reduceDiv, l0, l1, l2, l3, l4, l5, l6, l7, l8, l9, l10, l11, l12, l13, l14, l15, l16, l20, l31, l32, l36, l40, l48, l57, l59, l63, l64, l97, l99, l100, l101, l122, l127, l128, l250, l255, l262143, l262144, l30000, l100000, l12345, l1024, l4095, nI_eqs, nI_les, nI_lts, qI_eq, qI_eqn, nI_eqq, qI_lts, nI_ltp, nI_lep, qI_les, nI_add, nI_mul, qI_add, qI_s, qI_def, nI_clamps, bI_z, bI_o, bI_01, n01, n11, rf_some, rf_none, m1, m1n, bft, nI_and, nI_or, nI_shl', nI_shr', a31, z0, yc, h1', and15, dgi, c0', e75, Bool.true_eq_false]
        · have S : ordS y g l p t i a = a := by unfold ordS; rw [if_neg (fun w => c0 w.1)]
          have c0' : t i ≤ 0 := by omega
          rw [S, ← ih2 (i + 1) a p8 (by omega) (Nat.le_trans ha1 (Nat.mul_le_mul_right _ (Nat.le_succ i))) ha2]
          simp (disch := omega) only [s57_23, s57_24, s57_25, s57_26, s57_27, s57_28, s57_29, s57_30, s57_31, s57_32, s57_33, s57_34, s57_35, s57_36, s57_37, s57_38, s57_39, s57_40, s57_41, s57_42, s57_43, s57_44, s57_45, s57_46, s57_47, s57_48, s57_49, s57_50, s57_51, s57_52, s57_53, s57_54, s57_55, s57_56, s57_57, s57_58, s57_59, s57_60, s57_61, s57_62, s57_63, s57_64, s57_65, s57_66, s57_67, s57_68, s57_69, s57_70, s57_71, s57_72, ↓reduceIte, Option.bind_some, Option.toList_some, Option.toList_none, List.cons_append, List.nil_append, if_true, if_false, true_or, or_true, true_and, and_true, not_true_eq_false, not_false_eq_true, Nat.reduceLT, Nat.reduceLeDiff, Nat.reduceEqDiff, Nat.reduceAdd, Nat.reduceMul, Nat.reduceSub, Nat.reducePow, Nat.reduceMod, Nat.reduceDiv, l0, l1, l2, l3, l4, l5, l6, l7, l8, l9, l10, l11, l12, l13, l14, l15, l16, l20, l31, l32, l36, l40, l48, l57, l59, l63, l64, l97, l99, l100, l101, l122, l127, l128, l250, l255, l262143, l262144, l30000, l100000, l12345, l1024, l4095, nI_eqs, nI_les, nI_lts, qI_eq, qI_eqn, nI_eqq, qI_lts, nI_ltp, nI_lep, qI_les, nI_add, nI_mul, qI_add, qI_s, qI_def, nI_clamps, bI_z, bI_o, bI_01, n01, n11, rf_some, rf_none, m1, m1n, bft, nI_and, nI_or, nI_shl', nI_shr', a31, z0, yc, h1', and15, dgi, c0']
    have e := lp (Yc y) 0 (0, 0) p8 (by omega) (by decide) (by decide)
    have l1' : 0 < l + 1 := by omega
    rw [ordR_s]
    simp (disch := omega) only [s57_0, s57_1, s57_2, s57_3, s57_4, s57_5, s57_6, s57_7, s57_8, s57_9, s57_10, s57_11, s57_12, s57_13, s57_14, s57_15, s57_16, s57_17, s57_18, s57_19, s57_20, s57_21, ↓reduceIte, Option.bind_some, Option.toList_some, Option.toList_none, List.cons_append, List.nil_append, if_true, if_false, true_or, or_true, true_and, and_true, not_true_eq_false, not_false_eq_true, Nat.reduceLT, Nat.reduceLeDiff, Nat.reduceEqDiff, Nat.reduceAdd, Nat.reduceMul, Nat.reduceSub, Nat.reducePow, Nat.reduceMod, Nat.reduceDiv, l0, l1, l2, l3, l4, l5, l6, l7, l8, l9, l10, l11, l12, l13, l14, l15, l16, l20, l31, l32, l36, l40, l48, l57, l59, l63, l64, l97, l99, l100, l101, l122, l127, l128, l250, l255, l262143, l262144, l30000, l100000, l12345, l1024, l4095, nI_eqs, nI_les, nI_lts, qI_eq, qI_eqn, nI_eqq, qI_lts, nI_ltp, nI_lep, qI_les, nI_add, nI_mul, qI_add, qI_s, qI_def, nI_clamps, bI_z, bI_o, bI_01, n01, n11, rf_some, rf_none, m1, m1n, bft, l1']
    exact e
/-- how many of each colour -/
def cnE (e : Nat → Int64) (m i : Nat) (t : Nat → Nat) : Nat → Nat := itr (fun i t => fup t (cv e i) (t (cv e i) + 1)) m i t
def scA (r : Nat × Nat) (w : Nat) : Int32 := if w = 0 then nI r.1 else nI r.2
def s_scratched (s : GS) (x n g w : Int32) : Int32 × GS := if crK (gH s) (gY s) (qgw s g w 2) x n 6 = 0 then (scA (ordR (gY s) g.toNatClampNeg n.toNatClampNeg (0, 0) (cnE (He (gH s x.toNatClampNeg)) n.toNatClampNeg 0 (fun _ => 0))) w.toNatClampNeg, s) else rfS s (crK (gH s) (gY s) (qgw s g w 2) x n 6)
theorem c121 (d : Nat) {h : AH} {B : Nat} {s : GS} (hx : DX h B s) (x n g w : Int32) (p5 p6 p7 : Option Value) : DC (d + 10) 121 [some (.ref B), some (.int x), some (.int n), some (.int g), some (.int w), p5, p6, p7] h B (s_scratched s x n g w) := by
  obtain ⟨⟨b0, b1, b2, b3, b4, b5, b6, b7⟩, xy, ⟨k0, k1⟩, xh, ⟨t0, t1, t2, t3, t4, t5⟩, rx, qx⟩ := id hx; have e131 := c131e hx; obtain ⟨⟨z0, z1, z2, z3, z4, z5, z6, z7, r1, r2, r3, r4, r5, r6, r7⟩, ⟨vc, vg, vn, vt, vz, vK, vA, vU, vM, vW, vC, vP⟩, ok⟩ := id xy; obtain ⟨⟨o2, o3⟩, o6, on, og, oc⟩ := id ok
  have e62 := fun d => x62 d xy g
  have e123 := fun d q => x123 d xh xy b1 q x n (most := 6) (by decide) none none none none
  have sok : ∀ k, k < 8 → SOK (gH s k) := fun k hk => (xh.2.2.2 k hk).2.2.2
  have hd : E (d + 10) 121 0 [some (.ref B), some (.int x), some (.int n), some (.int g), some (.int w), p5, p6, p7] [] h = E (d + 10) 121 18 [some (.ref B), some (.int x), some (.int n), some (.int g), some (.int w), p5, p6, p7] [.int (if crK (gH s) (gY s) (qgw s g w 2) x n 6 = 0 then nI 0 else rN (crK (gH s) (gY s) (qgw s g w 2) x n 6))] h := by
    unfold qgw
    have ef := fun d => e123 d false
    have et := fun d => e123 d true
    rw [bI_f] at ef
    rw [bI_t] at et
    cases a : inR g (Yg (gY s))
    · rw [a] at e62
      rw [Bool.false_and]
      simp (disch := omega) only [s121_0, s121_1, s121_2, s121_3, s121_4, s121_5, s121_6, s121_7, s121_8, s121_9, s121_10, s121_11, s121_12, s121_13, s121_14, s121_15, s121_16, s121_17, ↓reduceIte, Option.bind_some, Option.toList_some, Option.toList_none, List.cons_append, List.nil_append, if_true, if_false, true_or, or_true, true_and, and_true, not_true_eq_false, not_false_eq_true, Nat.reduceLT, Nat.reduceLeDiff, Nat.reduceEqDiff, Nat.reduceAdd, Nat.reduceMul, Nat.reduceSub, Nat.reducePow, Nat.reduceMod, Nat.reduceDiv, l0, l1, l2, l3, l4, l5, l6, l7, l8, l9, l10, l11, l12, l13, l14, l15, l16, l20, l31, l32, l36, l40, l48, l57, l59, l63, l64, l97, l99, l100, l101, l122, l127, l128, l250, l255, l262143, l262144, l30000, l100000, l12345, l1024, l4095, nI_eqs, nI_les, nI_lts, qI_eq, qI_eqn, nI_eqq, qI_lts, nI_ltp, nI_lep, qI_les, nI_add, nI_mul, qI_add, qI_s, qI_def, nI_clamps, bI_z, bI_o, bI_01, n01, n11, rf_some, rf_none, m1, m1n, bft, b0, b1, z0, e62, ef]
    · rw [a] at e62
      rw [Bool.true_and]
      rcases inR_cases w (n := 2) (by decide) with ⟨j, hj, rfl⟩ | ⟨f, f1, f2⟩ | ⟨f, f1, f2, f3, f4, f5⟩
      · have cg := inR_nI (g := j) (n := 2) (by omega) (by decide)
        rw [decide_eq_true hj] at cg
        rw [cg]
        have g1 : ¬ 1 < j := by omega
        simp (disch := omega) only [s121_0, s121_1, s121_2, s121_3, s121_4, s121_5, s121_6, s121_7, s121_8, s121_9, s121_10, s121_11, s121_12, s121_13, s121_14, s121_15, s121_16, s121_17, ↓reduceIte, Option.bind_some, Option.toList_some, Option.toList_none, List.cons_append, List.nil_append, if_true, if_false, true_or, or_true, true_and, and_true, not_true_eq_false, not_false_eq_true, Nat.reduceLT, Nat.reduceLeDiff, Nat.reduceEqDiff, Nat.reduceAdd, Nat.reduceMul, Nat.reduceSub, Nat.reducePow, Nat.reduceMod, Nat.reduceDiv, l0, l1, l2, l3, l4, l5, l6, l7, l8, l9, l10, l11, l12, l13, l14, l15, l16, l20, l31, l32, l36, l40, l48, l57, l59, l63, l64, l97, l99, l100, l101, l122, l127, l128, l250, l255, l262143, l262144, l30000, l100000, l12345, l1024, l4095, nI_eqs, nI_les, nI_lts, qI_eq, qI_eqn, nI_eqq, qI_lts, nI_ltp, nI_lep, qI_les, nI_add, nI_mul, qI_add, qI_s, qI_def, nI_clamps, bI_z, bI_o, bI_01, n01, n11, rf_some, rf_none, m1, m1n, bft, b0, b1, z0, e62, et, g1, Nat.not_lt_zero, Bool.true_eq_false]
      · rw [f]
        simp (disch := omega) only [s121_0, s121_1, s121_2, s121_3, s121_4, s121_5, s121_6, s121_7, s121_8, s121_9, s121_10, s121_11, s121_12, s121_13, s121_14, s121_15, s121_16, s121_17, ↓reduceIte, Option.bind_some, Option.toList_some, Option.toList_none, List.cons_append, List.nil_append, if_true, if_false, true_or, or_true, true_and, and_true, not_true_eq_false, not_false_eq_true, Nat.reduceLT, Nat.reduceLeDiff, Nat.reduceEqDiff, Nat.reduceAdd, Nat.reduceMul, Nat.reduceSub, Nat.reducePow, Nat.reduceMod, Nat.reduceDiv, l0, l1, l2, l3, l4, l5, l6, l7, l8, l9, l10, l11, l12, l13, l14, l15, l16, l20, l31, l32, l36, l40, l48, l57, l59, l63, l64, l97, l99, l100, l101, l122, l127, l128, l250, l255, l262143, l262144, l30000, l100000, l12345, l1024, l4095, nI_eqs, nI_les, nI_lts, qI_eq, qI_eqn, nI_eqq, qI_lts, nI_ltp, nI_lep, qI_les, nI_add, nI_mul, qI_add, qI_s, qI_def, nI_clamps, bI_z, bI_o, bI_01, n01, n11, rf_some, rf_none, m1, m1n, bft, b0, b1, z0, e62, ef, f1, Bool.true_eq_false]
      · rw [f]
        simp (disch := omega) only [s121_0, s121_1, s121_2, s121_3, s121_4, s121_5, s121_6, s121_7, s121_8, s121_9, s121_10, s121_11, s121_12, s121_13, s121_14, s121_15, s121_16, s121_17, ↓reduceIte, Option.bind_some, Option.toList_some, Option.toList_none, List.cons_append, List.nil_append, if_true, if_false, true_or, or_true, true_and, and_true, not_true_eq_false, not_false_eq_true, Nat.reduceLT, Nat.reduceLeDiff, Nat.reduceEqDiff, Nat.reduceAdd, Nat.reduceMul, Nat.reduceSub, Nat.reducePow, Nat.reduceMod, Nat.reduceDiv, l0, l1, l2, l3, l4, l5, l6, l7, l8, l9, l10, l11, l12, l13, l14, l15, l16, l20, l31, l32, l36, l40, l48, l57, l59, l63, l64, l97, l99, l100, l101, l122, l127, l128, l250, l255, l262143, l262144, l30000, l100000, l12345, l1024, l4095, nI_eqs, nI_les, nI_lts, qI_eq, qI_eqn, nI_eqq, qI_lts, nI_ltp, nI_lep, qI_les, nI_add, nI_mul, qI_add, qI_s, qI_def, nI_clamps, bI_z, bI_o, bI_01, n01, n11, rf_some, rf_none, m1, m1n, bft, b0, b1, z0, e62, ef, f1, (f5 1 rfl).2, Bool.true_eq_false]
  unfold s_scratched
  have kl := crK_lt (gH s) (gY s) (qgw s g w 2) x n 6
  unfold DC
  rw [hd]
  by_cases a : crK (gH s) (gY s) (qgw s g w 2) x n 6 = 0
  · rw [if_pos a, if_pos a]
    obtain ⟨qq, k, m, hk, rfl, wk, rfl, u1, u2, u3, hc⟩ := crK_0 (by decide) sok a
    unfold qgw at qq
    rw [Bool.and_eq_true] at qq
    obtain ⟨j, hj, rfl⟩ := inR_of (by omega) qq.1
    obtain ⟨v, hv, rfl⟩ := inR_of (by omega) qq.2
    rw [nI_clamp (show k < 2 ^ 31 by omega), nI_clamp (show m < 2 ^ 31 by omega), nI_clamp (show j < 2 ^ 31 by omega), nI_clamp (show v < 2 ^ 31 by omega)]
    have hcc : ∀ i, i < m → cv (He (gH s k)) i < Yc (gY s) ∧ He (gH s k) i = lN (cv (He (gH s k)) i) := fun i hi => cv_of (by omega) (hc i hi)
    have lq : ∀ l i t, i + l = m → t 0 + t 1 + t 2 = i → E (d + 10) 121 29 [some (.ref B), some (.int (nI k)), some (.int (nI m)), some (.int (nI j)), some (.int (nI v)), some (.int (nI 0)), some (.int (nI (pkH t))), some (.int (nI i))] [] h = E (d + 10) 121 45 [some (.ref B), some (.int (nI k)), some (.int (nI m)), some (.int (nI j)), some (.int (nI v)), some (.int (nI 0)), some (.int (nI (pkH (cnE (He (gH s k)) l i t)))), some (.int (nI m))] [] h ∧ (cnE (He (gH s k)) l i t) 0 + (cnE (He (gH s k)) l i t) 1 + (cnE (He (gH s k)) l i t) 2 = m := by
      intro l
      induction l with
      | zero =>
        intro i t hi ht
        have hi' : i = m := hi
        subst hi'
        refine ⟨?_, ht⟩
        rw [s121_29]
        simp (disch := omega) only [s121_30, s121_31, s121_32, s121_33, s121_34, s121_35, s121_36, s121_37, s121_38, s121_39, s121_40, s121_41, s121_42, s121_43, s121_44, ↓reduceIte, Option.bind_some, Option.toList_some, Option.toList_none, List.cons_append, List.nil_append, if_true, if_false, true_or, or_true, true_and, and_true, not_true_eq_false, not_false_eq_true, Nat.reduceLT, Nat.reduceLeDiff, Nat.reduceEqDiff, Nat.reduceAdd, Nat.reduceMul, Nat.reduceSub, Nat.reducePow, Nat.reduceMod, Nat.reduceDiv, l0, l1, l2, l3, l4, l5, l6, l7, l8, l9, l10, l11, l12, l13, l14, l15, l16, l20, l31, l32, l36, l40, l48, l57, l59, l63, l64, l97, l99, l100, l101, l122, l127, l128, l250, l255, l262143, l262144, l30000, l100000, l12345, l1024, l4095, nI_eqs, nI_les, nI_lts, qI_eq, qI_eqn, nI_eqq, qI_lts, nI_ltp, nI_lep, qI_les, nI_add, nI_mul, qI_add, qI_s, qI_def, nI_clamps, bI_z, bI_o, bI_01, n01, n11, rf_some, rf_none, m1, m1n, bft, Nat.le_refl]
        rfl
      | succ l ih =>
        intro i t hi ht
        have h1' : ¬ m ≤ i := by omega
        obtain ⟨c1, c2⟩ := hcc i (by omega)
        obtain ⟨w1, w2⟩ := pkH_up t (show cv (He (gH s k)) i < 3 by omega)
        have e122 := fun d => x122 d xh hk wk (show i < Hn (gH s k) by omega) c2
        obtain ⟨a1, a2⟩ := ih (i + 1) (fup t (cv (He (gH s k)) i) (t (cv (He (gH s k)) i) + 1)) (by omega) (by omega)
        refine ⟨?_, a2⟩
        have S : cnE (He (gH s k)) (l + 1) i t = cnE (He (gH s k)) l (i + 1) (fup t (cv (He (gH s k)) i) (t (cv (He (gH s k)) i) + 1)) := rfl
        rw [S, ← a1, w1, s121_29]
        simp (disch := omega) only [s121_30, s121_31, s121_32, s121_33, s121_34, s121_35, s121_36, s121_37, s121_38, s121_39, s121_40, s121_41, s121_42, s121_43, s121_44, ↓reduceIte, Option.bind_some, Option.toList_some, Option.toList_none, List.cons_append, List.nil_append, if_true, if_false, true_or, or_true, true_and, and_true, not_true_eq_false, not_false_eq_true, Nat.reduceLT, Nat.reduceLeDiff, Nat.reduceEqDiff, Nat.reduceAdd, Nat.reduceMul, Nat.reduceSub, Nat.reducePow, Nat.reduceMod, Nat.reduceDiv, l0, l1, l2, l3, l4, l5, l6, l7, l8, l9, l10, l11, l12, l13, l14, l15, l16, l20, l31, l32, l36, l40, l48, l57, l59, l63, l64, l97, l99, l100, l101, l122, l127, l128, l250, l255, l262143, l262144, l30000, l100000, l12345, l1024, l4095, nI_eqs, nI_les, nI_lts, qI_eq, qI_eqn, nI_eqq, qI_lts, nI_ltp, nI_lep, qI_les, nI_add, nI_mul, qI_add, qI_s, qI_def, nI_clamps, bI_z, bI_o, bI_01, n01, n11, rf_some, rf_none, m1, m1n, bft, nI_shl', a31, nI_and, h1', b0, e122, Nat.one_mul]
    obtain ⟨a1, a2⟩ := lq m 0 (fun _ => 0) (by omega) rfl
    have e57 := fun p5 p6 p7 p8 => x57 (d + 6 - m) xy hj m (0, 0) (cnE (He (gH s k)) m 0 (fun _ => 0)) p5 p6 p7 p8 ⟨Nat.zero_le _, Nat.zero_le _⟩ a2 (by omega)
    rw [show d + 6 - m + m + 3 = d + 9 by omega] at e57
    have lt := ordR_lt (y := gY s) (g := j) o3 m (0, 0) (cnE (He (gH s k)) m 0 (fun _ => 0)) ⟨Nat.zero_le _, Nat.zero_le _⟩
    generalize ordR (gY s) j m (0, 0) (cnE (He (gH s k)) m 0 (fun _ => 0)) = r at *
    have p3 : 3 ^ m ≤ 3 ^ 6 := Nat.pow_le_pow_right (by decide) (by omega)
    have p36 : (3 : Nat) ^ 6 = 729 := by decide
    have w1 : (8 * r.1 + r.2) / 2 ^ 3 = r.1 := by have := lt.2; show _ / 8 = _; omega
    have w2 := and7 (l := r.1) lt.2
    have cb : r.1 ≤ 729 := by omega
    have cb2 := lt.2
    have e2 := fun d => x2 d h (f := 0) (s := 0) (by decide) (by decide)
    have pk0 : nI (pk (0, 0)) = nI 0 := rfl
    rw [pk0] at e57
    have ph0 : nI (pkH (fun _ => 0)) = nI 0 := rfl
    rw [ph0] at a1
    refine ⟨h, ?_, hx, Fr0.refl _ _⟩
    unfold scA
    simp (disch := omega) only [s121_18, s121_19, s121_20, s121_21, s121_22, s121_23, s121_24, s121_25, s121_26, s121_27, s121_28, ↓reduceIte, Option.bind_some, Option.toList_some, Option.toList_none, List.cons_append, List.nil_append, if_true, if_false, true_or, or_true, true_and, and_true, not_true_eq_false, not_false_eq_true, Nat.reduceLT, Nat.reduceLeDiff, Nat.reduceEqDiff, Nat.reduceAdd, Nat.reduceMul, Nat.reduceSub, Nat.reducePow, Nat.reduceMod, Nat.reduceDiv, l0, l1, l2, l3, l4, l5, l6, l7, l8, l9, l10, l11, l12, l13, l14, l15, l16, l20, l31, l32, l36, l40, l48, l57, l59, l63, l64, l97, l99, l100, l101, l122, l127, l128, l250, l255, l262143, l262144, l30000, l100000, l12345, l1024, l4095, nI_eqs, nI_les, nI_lts, qI_eq, qI_eqn, nI_eqq, qI_lts, nI_ltp, nI_lep, qI_les, nI_add, nI_mul, qI_add, qI_s, qI_def, nI_clamps, bI_z, bI_o, bI_01, n01, n11, rf_some, rf_none, m1, m1n, bft, a1]
    by_cases v0 : v = 0
    · simp (disch := omega) only [s121_45, s121_46, s121_47, s121_48, s121_49, s121_50, s121_51, s121_52, s121_53, s121_54, s121_55, s121_56, s121_57, s121_58, s121_59, s121_60, s121_61, s121_62, s121_63, s121_64, ↓reduceIte, Option.bind_some, Option.toList_some, Option.toList_none, List.cons_append, List.nil_append, if_true, if_false, true_or, or_true, true_and, and_true, not_true_eq_false, not_false_eq_true, Nat.reduceLT, Nat.reduceLeDiff, Nat.reduceEqDiff, Nat.reduceAdd, Nat.reduceMul, Nat.reduceSub, Nat.reducePow, Nat.reduceMod, Nat.reduceDiv, l0, l1, l2, l3, l4, l5, l6, l7, l8, l9, l10, l11, l12, l13, l14, l15, l16, l20, l31, l32, l36, l40, l48, l57, l59, l63, l64, l97, l99, l100, l101, l122, l127, l128, l250, l255, l262143, l262144, l30000, l100000, l12345, l1024, l4095, nI_eqs, nI_les, nI_lts, qI_eq, qI_eqn, nI_eqq, qI_lts, nI_ltp, nI_lep, qI_les, nI_add, nI_mul, qI_add, qI_s, qI_def, nI_clamps, bI_z, bI_o, bI_01, n01, n11, rf_some, rf_none, m1, m1n, bft, nI_and, nI_or, nI_shl', nI_shr', a31, b0, b1, z0, e2, Nat.mul_zero, Nat.add_zero, e57, v0, w1]
    · simp (disch := omega) only [s121_45, s121_46, s121_47, s121_48, s121_49, s121_50, s121_51, s121_52, s121_53, s121_54, s121_55, s121_56, s121_57, s121_58, s121_59, s121_60, s121_61, s121_62, s121_63, s121_64, ↓reduceIte, Option.bind_some, Option.toList_some, Option.toList_none, List.cons_append, List.nil_append, if_true, if_false, true_or, or_true, true_and, and_true, not_true_eq_false, not_false_eq_true, Nat.reduceLT, Nat.reduceLeDiff, Nat.reduceEqDiff, Nat.reduceAdd, Nat.reduceMul, Nat.reduceSub, Nat.reducePow, Nat.reduceMod, Nat.reduceDiv, l0, l1, l2, l3, l4, l5, l6, l7, l8, l9, l10, l11, l12, l13, l14, l15, l16, l20, l31, l32, l36, l40, l48, l57, l59, l63, l64, l97, l99, l100, l101, l122, l127, l128, l250, l255, l262143, l262144, l30000, l100000, l12345, l1024, l4095, nI_eqs, nI_les, nI_lts, qI_eq, qI_eqn, nI_eqq, qI_lts, nI_ltp, nI_lep, qI_les, nI_add, nI_mul, qI_add, qI_s, qI_def, nI_clamps, bI_z, bI_o, bI_01, n01, n11, rf_some, rf_none, m1, m1n, bft, nI_and, nI_or, nI_shl', nI_shr', a31, b0, b1, z0, e2, Nat.mul_zero, Nat.add_zero, e57, v0, w2]
  · rw [if_neg a, if_neg a]
    have k2 := kl.2 a
    have ne := rN_ne k2 kl.1
    have e131k := e131 (d + 9) k2 kl.1
    refine ⟨_, ?_, hx.rf k2 kl.1⟩
    simp (disch := omega) only [s121_18, s121_19, s121_20, s121_21, s121_22, s121_23, s121_24, ↓reduceIte, Option.bind_some, Option.toList_some, Option.toList_none, List.cons_append, List.nil_append, if_true, if_false, true_or, or_true, true_and, and_true, not_true_eq_false, not_false_eq_true, Nat.reduceLT, Nat.reduceLeDiff, Nat.reduceEqDiff, Nat.reduceAdd, Nat.reduceMul, Nat.reduceSub, Nat.reducePow, Nat.reduceMod, Nat.reduceDiv, l0, l1, l2, l3, l4, l5, l6, l7, l8, l9, l10, l11, l12, l13, l14, l15, l16, l20, l31, l32, l36, l40, l48, l57, l59, l63, l64, l97, l99, l100, l101, l122, l127, l128, l250, l255, l262143, l262144, l30000, l100000, l12345, l1024, l4095, nI_eqs, nI_les, nI_lts, qI_eq, qI_eqn, nI_eqq, qI_lts, nI_ltp, nI_lep, qI_les, nI_add, nI_mul, qI_add, qI_s, qI_def, nI_clamps, bI_z, bI_o, bI_01, n01, n11, rf_some, rf_none, m1, m1n, bft, b0, ne, e131k]
    rfl
