/-! A YARD, and the developers' yard at b -/
/-- colours, gates, carts, tries, seed; kind, a, uses, first + 1, second + 1, scratches, colour, place -/
abbrev YS : Type := (Nat × Nat × Nat × Int32 × Int32) × (Nat → Nat) × (Nat → Nat) × (Nat → Nat) × (Nat → Nat) × (Nat → Nat) × (Nat → Int32) × (Nat → Nat) × (Nat → Nat)
def Yc (y : YS) : Nat := y.1.1
def Yg (y : YS) : Nat := y.1.2.1
def Yn (y : YS) : Nat := y.1.2.2.1
def Yt (y : YS) : Int32 := y.1.2.2.2.1
def Yz (y : YS) : Int32 := y.1.2.2.2.2
def YK (y : YS) : Nat → Nat := y.2.1
def YA (y : YS) : Nat → Nat := y.2.2.1
def YU (y : YS) : Nat → Nat := y.2.2.2.1
def YF (y : YS) : Nat → Nat := y.2.2.2.2.1
def YM (y : YS) : Nat → Nat := y.2.2.2.2.2.1
def YW (y : YS) : Nat → Int32 := y.2.2.2.2.2.2.1
def YC (y : YS) : Nat → Nat := y.2.2.2.2.2.2.2.1
def YP (y : YS) : Nat → Nat := y.2.2.2.2.2.2.2.2
def yMk (c g n : Nat) (t z : Int32) (K A U F S : Nat → Nat) (W : Nat → Int32) (C P : Nat → Nat) : YS := ((c, g, n, t, z), K, A, U, F, S, W, C, P)
def fup {α : Type} (f : Nat → α) (k : Nat) (v : α) : Nat → α := fun j => if j = k then v else f j
theorem fup_s {α : Type} (f : Nat → α) (k : Nat) (v : α) : fup f k v k = v := if_pos rfl
theorem fup_n {α : Type} (f : Nat → α) {k j : Nat} (v : α) (h : j ≠ k) : fup f k v j = f j := if_neg h
def sc (y : YS) (v : Nat) : YS := yMk v (Yg y) (Yn y) (Yt y) (Yz y) (YK y) (YA y) (YU y) (YF y) (YM y) (YW y) (YC y) (YP y)
def sg (y : YS) (v : Nat) : YS := yMk (Yc y) v (Yn y) (Yt y) (Yz y) (YK y) (YA y) (YU y) (YF y) (YM y) (YW y) (YC y) (YP y)
def sn (y : YS) (v : Nat) : YS := yMk (Yc y) (Yg y) v (Yt y) (Yz y) (YK y) (YA y) (YU y) (YF y) (YM y) (YW y) (YC y) (YP y)
def sT (y : YS) (v : Int32) : YS := yMk (Yc y) (Yg y) (Yn y) v (Yz y) (YK y) (YA y) (YU y) (YF y) (YM y) (YW y) (YC y) (YP y)
def sZ (y : YS) (v : Int32) : YS := yMk (Yc y) (Yg y) (Yn y) (Yt y) v (YK y) (YA y) (YU y) (YF y) (YM y) (YW y) (YC y) (YP y)
def sK (y : YS) (g v : Nat) : YS := yMk (Yc y) (Yg y) (Yn y) (Yt y) (Yz y) (fup (YK y) g v) (YA y) (YU y) (YF y) (YM y) (YW y) (YC y) (YP y)
def sA (y : YS) (g v : Nat) : YS := yMk (Yc y) (Yg y) (Yn y) (Yt y) (Yz y) (YK y) (fup (YA y) g v) (YU y) (YF y) (YM y) (YW y) (YC y) (YP y)
def sU (y : YS) (g v : Nat) : YS := yMk (Yc y) (Yg y) (Yn y) (Yt y) (Yz y) (YK y) (YA y) (fup (YU y) g v) (YF y) (YM y) (YW y) (YC y) (YP y)
def sM (y : YS) (g f s : Nat) : YS := yMk (Yc y) (Yg y) (Yn y) (Yt y) (Yz y) (YK y) (YA y) (YU y) (fup (YF y) g f) (fup (YM y) g s) (YW y) (YC y) (YP y)
def sW (y : YS) (g : Nat) (v : Int32) : YS := yMk (Yc y) (Yg y) (Yn y) (Yt y) (Yz y) (YK y) (YA y) (YU y) (YF y) (YM y) (fup (YW y) g v) (YC y) (YP y)
def sC (y : YS) (k v : Nat) : YS := yMk (Yc y) (Yg y) (Yn y) (Yt y) (Yz y) (YK y) (YA y) (YU y) (YF y) (YM y) (YW y) (fup (YC y) k v) (YP y)
def sP (y : YS) (k v : Nat) : YS := yMk (Yc y) (Yg y) (Yn y) (Yt y) (Yz y) (YK y) (YA y) (YU y) (YF y) (YM y) (YW y) (YC y) (fup (YP y) k v)
def YOK (y : YS) : Prop := (2 ≤ Yc y ∧ Yc y ≤ 3) ∧ Yg y ≤ 6 ∧ Yn y ≤ 6 ∧ (∀ g, g < Yg y → YK y g < 6 ∧ YA y g < 10 ∧ YU y g ≤ g ∧ YU y (YU y g) = YU y g ∧ YF y g ≤ Yc y ∧ YM y g ≤ Yc y) ∧ (∀ k, k < Yn y → YC y k < Yc y ∧ YP y k ≤ Yg y)
theorem YOK.u {y : YS} (ok : YOK y) {g : Nat} (hg : g < Yg y) : YU y g < Yg y := Nat.lt_of_le_of_lt (ok.2.2.2.1 g hg).2.2.1 hg
theorem YOK.u6 {y : YS} (ok : YOK y) {g : Nat} (hg : g < Yg y) : YU y g < 6 := Nat.lt_of_lt_of_le (ok.u hg) ok.2.1
/-- the developers' yard at b: the shapes; what it holds -/
def XS (h : AH) (b : Nat) : Prop := hS h b = some (103, 0) ∧ hS h (b + 1) = some (0, 6) ∧ hS h (b + 2) = some (0, 6) ∧ hS h (b + 3) = some (0, 6) ∧ hS h (b + 4) = some (0, 6) ∧ hS h (b + 5) = some (0, 6) ∧ hS h (b + 6) = some (0, 6) ∧ hS h (b + 7) = some (0, 6) ∧ hR h b 5 = some (b + 1) ∧ hR h b 6 = some (b + 2) ∧ hR h b 7 = some (b + 3) ∧ hR h b 8 = some (b + 4) ∧ hR h b 9 = some (b + 5) ∧ hR h b 10 = some (b + 6) ∧ hR h b 11 = some (b + 7)
def XV (h : AH) (b : Nat) (y : YS) : Prop := hI h b 0 = nI (Yc y) ∧ hI h b 1 = nI (Yg y) ∧ hI h b 2 = nI (Yn y) ∧ hI h b 3 = Yt y ∧ hI h b 4 = Yz y ∧ (∀ g, g < Yg y → hI h (b + 1) g = nI (YK y g)) ∧ (∀ g, g < Yg y → hI h (b + 2) g = nI (YA y g)) ∧ (∀ g, g < Yg y → hI h (b + 3) g = nI (YU y g)) ∧ (∀ g, g < Yg y → hI h (b + 4) g = nI (YF y g + 4 * YM y g)) ∧ (∀ g, g < Yg y → hI h (b + 5) g = YW y g) ∧ (∀ k, k < Yn y → hI h (b + 6) k = nI (YC y k)) ∧ (∀ k, k < Yn y → hI h (b + 7) k = nI (YP y k))
def XY (h : AH) (b : Nat) (y : YS) : Prop := XS h b ∧ XV h b y ∧ YOK y
/-- whether a gate lets in a colour; what it remembers then -/
def letB (col k a F S c : Nat) : Bool := if k = 0 then decide (c = a % col) else if k = 1 then decide (c + 1 = F) else if k = 2 then decide (c + 1 = F ∨ c + 1 = S) else if k = 3 then decide (c + 1 = S) else if k = 4 then decide (c + 1 = F ∧ ¬ c + 1 = S) else decide (a % 2 = 1)
def memF (l : Bool) (k F c : Nat) : Nat := if l = true ∨ k = 0 ∨ k = 5 then F else c + 1
def memS (l : Bool) (k F S c : Nat) : Nat := if k = 0 ∨ k = 5 then S else if k = 4 then (if l = true then c + 1 else S) else (if l = true then S else F)
theorem k6 {k : Nat} (h : k < 6) : k = 0 ∨ k = 1 ∨ k = 2 ∨ k = 3 ∨ k = 4 ∨ k = 5 := by omega
theorem and1 (a : Nat) : a &&& 1 = a % 2 := by rw [show (1 : Nat) = 2 ^ 1 - 1 from rfl, Nat.and_two_pow_sub_one_eq_mod]
theorem some_ite {c : Prop} [Decidable c] (x : Int32) (h : AH) (P : Prop) [Decidable P] (e : P ↔ c) : (if c then some (some (Value.int (nI 1)), h) else some (some (Value.int (nI 0)), h)) = some (some (Value.int (bI (decide P))), h) := by
  by_cases hc : c
  · rw [if_pos hc, decide_eq_true (e.mpr hc)]; rfl
  · rw [if_neg hc, decide_eq_false (fun q => hc (e.mp q))]; rfl
theorem x75 (d : Nat) {h : AH} {b : Nat} {y : YS} (hx : XY h b y) {g F S c : Nat} (hg : g < Yg y) (hF : F < 4) (hS' : S < 4) (hc : c < 3) (p4 p5 : Option Value) : E (d + 1) 75 0 [some (.ref b), some (.int (nI g)), some (.int (nI (F + 4 * S))), some (.int (nI c)), p4, p5] [] h = some (some (.int (bI (letB (Yc y) (YK y g) (YA y g) F S c))), h) := by
  obtain ⟨⟨z0, z1, z2, z3, z4, z5, z6, z7, r1, r2, r3, r4, r5, r6, r7⟩, ⟨vc, vg, vn, vt, vz, vK, vA, vU, vM, vW, vC, vP⟩, ok⟩ := hx
  obtain ⟨⟨o2, o3⟩, o6, on, og, oc⟩ := id ok
  obtain ⟨k1, a1, -⟩ := og g hg
  have ea := nI_rem (a := YA y g) (b := Yc y) (by omega) (by omega)
  rcases k6 k1 with e | e | e | e | e | e
  · have h0 : ¬ Yc y ≤ 0 := by omega
    have h1 : ¬ Yc y = 0 := by omega
    have hm := Nat.mod_lt (YA y g) (show Yc y > 0 by omega)
    simp (disch := omega) only [s75_0, s75_1, s75_2, s75_3, s75_4, s75_5, s75_6, s75_7, s75_8, s75_9, s75_10, s75_11, s75_12, s75_13, s75_14, s75_15, s75_16, s75_17, s75_18, s75_19, s75_20, s75_21, s75_22, s75_23, s75_24, s75_25, s75_26, s75_27, s75_28, s75_29, s75_30, s75_31, s75_32, s75_33, s75_34, s75_35, s75_36, s75_37, s75_38, s75_39, s75_40, s75_41, s75_42, s75_43, s75_44, s75_45, s75_46, s75_47, s75_48, s75_49, s75_50, s75_51, s75_52, s75_53, s75_54, s75_55, s75_56, s75_57, s75_58, s75_59, s75_60, s75_61, s75_62, s75_63, s75_64, s75_65, s75_66, s75_67, s75_68, s75_69, s75_70, s75_71, s75_72, ↓reduceIte, Option.bind_some, Option.toList_some, Option.toList_none, List.cons_append, List.nil_append, if_true, if_false, true_or, or_true, true_and, and_true, not_true_eq_false, not_false_eq_true, Nat.reduceLT, Nat.reduceLeDiff, Nat.reduceEqDiff, Nat.reduceAdd, Nat.reduceMul, Nat.reduceSub, Nat.reducePow, Nat.reduceMod, Nat.reduceDiv, l0, l1, l2, l3, l4, l5, l6, l7, l8, l9, l10, l11, l12, l13, l14, l15, l16, l20, l31, l32, l36, l40, l48, l57, l59, l63, l64, l97, l99, l100, l101, l122, l127, l128, l250, l255, l262143, l262144, l30000, l100000, l12345, l1024, l4095, nI_eqs, nI_les, nI_lts, qI_eq, qI_eqn, nI_eqq, qI_lts, nI_ltp, nI_lep, qI_les, nI_add, nI_mul, qI_add, qI_s, qI_def, nI_clamps, bI_z, bI_o, bI_01, n01, n11, rf_some, rf_none, m1, m1n, z0, r1, r2, r3, r4, r5, r6, r7, vc, vg, vn, vt, vz, gI z1, gI z2, gI z3, gI z4, gI z5, gI z6, gI z7, gA z1, gA z2, gA z3, gA z4, gA z5, gA z6, gA z7, vK, vA, x3 _ _ hF hS', x4 _ _ hF hS', e, ea, h0, h1, letB]
    by_cases q : c = YA y g % Yc y
    · simp [h1, q, bI]
    · simp [h1, q, bI]
  · simp (disch := omega) only [s75_0, s75_1, s75_2, s75_3, s75_4, s75_5, s75_6, s75_7, s75_8, s75_9, s75_10, s75_11, s75_12, s75_13, s75_14, s75_15, s75_16, s75_17, s75_18, s75_19, s75_20, s75_21, s75_22, s75_23, s75_24, s75_25, s75_26, s75_27, s75_28, s75_29, s75_30, s75_31, s75_32, s75_33, s75_34, s75_35, s75_36, s75_37, s75_38, s75_39, s75_40, s75_41, s75_42, s75_43, s75_44, s75_45, s75_46, s75_47, s75_48, s75_49, s75_50, s75_51, s75_52, s75_53, s75_54, s75_55, s75_56, s75_57, s75_58, s75_59, s75_60, s75_61, s75_62, s75_63, s75_64, s75_65, s75_66, s75_67, s75_68, s75_69, s75_70, s75_71, s75_72, ↓reduceIte, Option.bind_some, Option.toList_some, Option.toList_none, List.cons_append, List.nil_append, if_true, if_false, true_or, or_true, true_and, and_true, not_true_eq_false, not_false_eq_true, Nat.reduceLT, Nat.reduceLeDiff, Nat.reduceEqDiff, Nat.reduceAdd, Nat.reduceMul, Nat.reduceSub, Nat.reducePow, Nat.reduceMod, Nat.reduceDiv, l0, l1, l2, l3, l4, l5, l6, l7, l8, l9, l10, l11, l12, l13, l14, l15, l16, l20, l31, l32, l36, l40, l48, l57, l59, l63, l64, l97, l99, l100, l101, l122, l127, l128, l250, l255, l262143, l262144, l30000, l100000, l12345, l1024, l4095, nI_eqs, nI_les, nI_lts, qI_eq, qI_eqn, nI_eqq, qI_lts, nI_ltp, nI_lep, qI_les, nI_add, nI_mul, qI_add, qI_s, qI_def, nI_clamps, bI_z, bI_o, bI_01, n01, n11, rf_some, rf_none, m1, m1n, z0, r1, r2, r3, r4, r5, r6, r7, vc, vg, vn, vt, vz, gI z1, gI z2, gI z3, gI z4, gI z5, gI z6, gI z7, gA z1, gA z2, gA z3, gA z4, gA z5, gA z6, gA z7, vK, vA, x3 _ _ hF hS', x4 _ _ hF hS', e, letB]
    by_cases q : c + 1 = F
    · simp [q, bI]
    · simp [q, bI]
  · simp (disch := omega) only [s75_0, s75_1, s75_2, s75_3, s75_4, s75_5, s75_6, s75_7, s75_8, s75_9, s75_10, s75_11, s75_12, s75_13, s75_14, s75_15, s75_16, s75_17, s75_18, s75_19, s75_20, s75_21, s75_22, s75_23, s75_24, s75_25, s75_26, s75_27, s75_28, s75_29, s75_30, s75_31, s75_32, s75_33, s75_34, s75_35, s75_36, s75_37, s75_38, s75_39, s75_40, s75_41, s75_42, s75_43, s75_44, s75_45, s75_46, s75_47, s75_48, s75_49, s75_50, s75_51, s75_52, s75_53, s75_54, s75_55, s75_56, s75_57, s75_58, s75_59, s75_60, s75_61, s75_62, s75_63, s75_64, s75_65, s75_66, s75_67, s75_68, s75_69, s75_70, s75_71, s75_72, ↓reduceIte, Option.bind_some, Option.toList_some, Option.toList_none, List.cons_append, List.nil_append, if_true, if_false, true_or, or_true, true_and, and_true, not_true_eq_false, not_false_eq_true, Nat.reduceLT, Nat.reduceLeDiff, Nat.reduceEqDiff, Nat.reduceAdd, Nat.reduceMul, Nat.reduceSub, Nat.reducePow, Nat.reduceMod, Nat.reduceDiv, l0, l1, l2, l3, l4, l5, l6, l7, l8, l9, l10, l11, l12, l13, l14, l15, l16, l20, l31, l32, l36, l40, l48, l57, l59, l63, l64, l97, l99, l100, l101, l122, l127, l128, l250, l255, l262143, l262144, l30000, l100000, l12345, l1024, l4095, nI_eqs, nI_les, nI_lts, qI_eq, qI_eqn, nI_eqq, qI_lts, nI_ltp, nI_lep, qI_les, nI_add, nI_mul, qI_add, qI_s, qI_def, nI_clamps, bI_z, bI_o, bI_01, n01, n11, rf_some, rf_none, m1, m1n, z0, r1, r2, r3, r4, r5, r6, r7, vc, vg, vn, vt, vz, gI z1, gI z2, gI z3, gI z4, gI z5, gI z6, gI z7, gA z1, gA z2, gA z3, gA z4, gA z5, gA z6, gA z7, vK, vA, x3 _ _ hF hS', x4 _ _ hF hS', e, letB]
    by_cases q : c + 1 = F
    · simp [q, bI]
    · by_cases q' : c + 1 = S
      · simp [q', bI]
      · simp [q, q', bI]
  · simp (disch := omega) only [s75_0, s75_1, s75_2, s75_3, s75_4, s75_5, s75_6, s75_7, s75_8, s75_9, s75_10, s75_11, s75_12, s75_13, s75_14, s75_15, s75_16, s75_17, s75_18, s75_19, s75_20, s75_21, s75_22, s75_23, s75_24, s75_25, s75_26, s75_27, s75_28, s75_29, s75_30, s75_31, s75_32, s75_33, s75_34, s75_35, s75_36, s75_37, s75_38, s75_39, s75_40, s75_41, s75_42, s75_43, s75_44, s75_45, s75_46, s75_47, s75_48, s75_49, s75_50, s75_51, s75_52, s75_53, s75_54, s75_55, s75_56, s75_57, s75_58, s75_59, s75_60, s75_61, s75_62, s75_63, s75_64, s75_65, s75_66, s75_67, s75_68, s75_69, s75_70, s75_71, s75_72, ↓reduceIte, Option.bind_some, Option.toList_some, Option.toList_none, List.cons_append, List.nil_append, if_true, if_false, true_or, or_true, true_and, and_true, not_true_eq_false, not_false_eq_true, Nat.reduceLT, Nat.reduceLeDiff, Nat.reduceEqDiff, Nat.reduceAdd, Nat.reduceMul, Nat.reduceSub, Nat.reducePow, Nat.reduceMod, Nat.reduceDiv, l0, l1, l2, l3, l4, l5, l6, l7, l8, l9, l10, l11, l12, l13, l14, l15, l16, l20, l31, l32, l36, l40, l48, l57, l59, l63, l64, l97, l99, l100, l101, l122, l127, l128, l250, l255, l262143, l262144, l30000, l100000, l12345, l1024, l4095, nI_eqs, nI_les, nI_lts, qI_eq, qI_eqn, nI_eqq, qI_lts, nI_ltp, nI_lep, qI_les, nI_add, nI_mul, qI_add, qI_s, qI_def, nI_clamps, bI_z, bI_o, bI_01, n01, n11, rf_some, rf_none, m1, m1n, z0, r1, r2, r3, r4, r5, r6, r7, vc, vg, vn, vt, vz, gI z1, gI z2, gI z3, gI z4, gI z5, gI z6, gI z7, gA z1, gA z2, gA z3, gA z4, gA z5, gA z6, gA z7, vK, vA, x3 _ _ hF hS', x4 _ _ hF hS', e, letB]
    by_cases q : c + 1 = S
    · simp [q, bI]
    · simp [q, bI]
  · simp (disch := omega) only [s75_0, s75_1, s75_2, s75_3, s75_4, s75_5, s75_6, s75_7, s75_8, s75_9, s75_10, s75_11, s75_12, s75_13, s75_14, s75_15, s75_16, s75_17, s75_18, s75_19, s75_20, s75_21, s75_22, s75_23, s75_24, s75_25, s75_26, s75_27, s75_28, s75_29, s75_30, s75_31, s75_32, s75_33, s75_34, s75_35, s75_36, s75_37, s75_38, s75_39, s75_40, s75_41, s75_42, s75_43, s75_44, s75_45, s75_46, s75_47, s75_48, s75_49, s75_50, s75_51, s75_52, s75_53, s75_54, s75_55, s75_56, s75_57, s75_58, s75_59, s75_60, s75_61, s75_62, s75_63, s75_64, s75_65, s75_66, s75_67, s75_68, s75_69, s75_70, s75_71, s75_72, ↓reduceIte, Option.bind_some, Option.toList_some, Option.toList_none, List.cons_append, List.nil_append, if_true, if_false, true_or, or_true, true_and, and_true, not_true_eq_false, not_false_eq_true, Nat.reduceLT, Nat.reduceLeDiff, Nat.reduceEqDiff, Nat.reduceAdd, Nat.reduceMul, Nat.reduceSub, Nat.reducePow, Nat.reduceMod, Nat.reduceDiv, l0, l1, l2, l3, l4, l5, l6, l7, l8, l9, l10, l11, l12, l13, l14, l15, l16, l20, l31, l32, l36, l40, l48, l57, l59, l63, l64, l97, l99, l100, l101, l122, l127, l128, l250, l255, l262143, l262144, l30000, l100000, l12345, l1024, l4095, nI_eqs, nI_les, nI_lts, qI_eq, qI_eqn, nI_eqq, qI_lts, nI_ltp, nI_lep, qI_les, nI_add, nI_mul, qI_add, qI_s, qI_def, nI_clamps, bI_z, bI_o, bI_01, n01, n11, rf_some, rf_none, m1, m1n, z0, r1, r2, r3, r4, r5, r6, r7, vc, vg, vn, vt, vz, gI z1, gI z2, gI z3, gI z4, gI z5, gI z6, gI z7, gA z1, gA z2, gA z3, gA z4, gA z5, gA z6, gA z7, vK, vA, x3 _ _ hF hS', x4 _ _ hF hS', e, letB]
    by_cases q : c + 1 = F
    · subst q
      by_cases q' : c + 1 = S
      · simp [q', bI]
      · simp [q', bI]
    · simp [q, bI]
  · simp (disch := omega) only [s75_0, s75_1, s75_2, s75_3, s75_4, s75_5, s75_6, s75_7, s75_8, s75_9, s75_10, s75_11, s75_12, s75_13, s75_14, s75_15, s75_16, s75_17, s75_18, s75_19, s75_20, s75_21, s75_22, s75_23, s75_24, s75_25, s75_26, s75_27, s75_28, s75_29, s75_30, s75_31, s75_32, s75_33, s75_34, s75_35, s75_36, s75_37, s75_38, s75_39, s75_40, s75_41, s75_42, s75_43, s75_44, s75_45, s75_46, s75_47, s75_48, s75_49, s75_50, s75_51, s75_52, s75_53, s75_54, s75_55, s75_56, s75_57, s75_58, s75_59, s75_60, s75_61, s75_62, s75_63, s75_64, s75_65, s75_66, s75_67, s75_68, s75_69, s75_70, s75_71, s75_72, ↓reduceIte, Option.bind_some, Option.toList_some, Option.toList_none, List.cons_append, List.nil_append, if_true, if_false, true_or, or_true, true_and, and_true, not_true_eq_false, not_false_eq_true, Nat.reduceLT, Nat.reduceLeDiff, Nat.reduceEqDiff, Nat.reduceAdd, Nat.reduceMul, Nat.reduceSub, Nat.reducePow, Nat.reduceMod, Nat.reduceDiv, l0, l1, l2, l3, l4, l5, l6, l7, l8, l9, l10, l11, l12, l13, l14, l15, l16, l20, l31, l32, l36, l40, l48, l57, l59, l63, l64, l97, l99, l100, l101, l122, l127, l128, l250, l255, l262143, l262144, l30000, l100000, l12345, l1024, l4095, nI_eqs, nI_les, nI_lts, qI_eq, qI_eqn, nI_eqq, qI_lts, nI_ltp, nI_lep, qI_les, nI_add, nI_mul, qI_add, qI_s, qI_def, nI_clamps, bI_z, bI_o, bI_01, n01, n11, rf_some, rf_none, m1, m1n, z0, r1, r2, r3, r4, r5, r6, r7, vc, vg, vn, vt, vz, gI z1, gI z2, gI z3, gI z4, gI z5, gI z6, gI z7, gA z1, gA z2, gA z3, gA z4, gA z5, gA z6, gA z7, vK, vA, x3 _ _ hF hS', x4 _ _ hF hS', e, nI_and, and1, letB]
    by_cases q : YA y g % 2 = 1
    · simp [q, bI]
    · simp [q, bI]
