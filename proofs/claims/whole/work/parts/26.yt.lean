/-! THE DEVELOPERS' YARD: a TRY -/
theorem zz_l0 : (0 : Int32) = nI 0 := rfl
theorem zz_l1 : (1 : Int32) = nI 1 := rfl
theorem zz_l6 : (6 : Int32) = nI 6 := rfl
theorem zz_3 {k : Nat} (h : k < 3) : k = 0 ∨ k = 1 ∨ k = 2 := by omega
theorem alen_stI (h : AH) (a k : Nat) (v : Int32) : alen (stI h a k v) = alen h := rfl
theorem alen_stL (h : AH) (a k : Nat) (v : Int64) : alen (stL h a k v) = alen h := rfl
theorem ad1 {a k : Nat} (h : 0 < k) : (a = a + k) = False := by apply propext; constructor <;> intro q <;> first | omega | exact q.elim
theorem ad2 {a k : Nat} (h : 0 < k) : (a + k = a) = False := by apply propext; constructor <;> intro q <;> first | omega | exact q.elim
theorem memF_lt {l : Bool} {k F c n : Nat} (h : F < n) (hc : c + 1 < n) : memF l k F c < n := by
  unfold memF; split <;> assumption
theorem memS_lt {l : Bool} {k F S c n : Nat} (h : F < n) (hS : S < n) (hc : c + 1 < n) : memS l k F S c < n := by
  unfold memS; repeat' split
  all_goals assumption
theorem x76 (d : Nat) {h : AH} {b : Nat} {y : YS} (hx : XY h b y) {g F S c : Nat} (hg : g < Yg y) (hF : F < 4) (hS' : S < 4) (hc : c < 3) (p4 : Option Value) : E (d + 2) 76 0 [some (.ref b), some (.int (nI g)), some (.int (nI (F + 4 * S))), some (.int (nI c)), p4] [] h = some (some (.int (nI (memF (letB (Yc y) (YK y g) (YA y g) F S c) (YK y g) F c + 4 * memS (letB (Yc y) (YK y g) (YA y g) F S c) (YK y g) F S c))), h) := by
  have e75 := x75 d hx hg hF hS' hc
  have e2 := fun (d : Nat) => x2 d h (f := c + 1) (s := S) (by omega) hS'
  have e2' := fun (d : Nat) => x2 d h (f := F) (s := c + 1) hF (by omega)
  have e2'' := fun (d : Nat) => x2 d h (f := c + 1) (s := F) (by omega) hF
  simp only [qI_s] at e2 e2' e2''
  obtain ⟨⟨z0, z1, z2, z3, z4, z5, z6, z7, r1, r2, r3, r4, r5, r6, r7⟩, ⟨vc, vg, vn, vt, vz, vK, vA, vU, vM, vW, vC, vP⟩, ok⟩ := hx
  obtain ⟨⟨o2, o3⟩, o6, on, og, oc⟩ := id ok
  obtain ⟨k1, a1, -⟩ := og g hg
  rcases k6 k1 with e | e | e | e | e | e <;> rw [e] at e75 ⊢ <;> cases el : letB (Yc y) _ (YA y g) F S c <;> rw [el] at e75 <;> simp (disch := omega) only [s76_0, s76_1, s76_2, s76_3, s76_4, s76_5, s76_6, s76_7, s76_8, s76_9, s76_10, s76_11, s76_12, s76_13, s76_14, s76_15, s76_16, s76_17, s76_18, s76_19, s76_20, s76_21, s76_22, s76_23, s76_24, s76_25, s76_26, s76_27, s76_28, s76_29, s76_30, s76_31, s76_32, s76_33, s76_34, s76_35, s76_36, s76_37, s76_38, s76_39, s76_40, s76_41, s76_42, s76_43, s76_44, s76_45, ↓reduceIte, Option.bind_some, Option.toList_some, Option.toList_none, List.cons_append, List.nil_append, if_true, if_false, true_or, or_true, true_and, and_true, not_true_eq_false, not_false_eq_true, Nat.reduceLT, Nat.reduceLeDiff, Nat.reduceEqDiff, Nat.reduceAdd, Nat.reduceMul, Nat.reduceSub, Nat.reducePow, Nat.reduceMod, Nat.reduceDiv, l0, l1, l2, l3, l4, l5, l6, l7, l8, l9, l10, l11, l12, l13, l14, l15, l16, l20, l31, l32, l36, l40, l48, l57, l59, l63, l64, l97, l99, l100, l101, l122, l127, l128, l250, l255, l262143, l262144, l30000, l100000, l12345, l1024, l4095, nI_eqs, nI_les, nI_lts, qI_eq, qI_eqn, nI_eqq, qI_lts, nI_ltp, nI_lep, qI_les, nI_add, nI_mul, qI_add, qI_s, qI_def, nI_clamps, bI_z, bI_o, bI_01, n01, n11, rf_some, rf_none, m1, m1n, z0, r1, r2, r3, r4, r5, r6, r7, vc, vg, vn, vt, vz, gI z1, gI z2, gI z3, gI z4, gI z5, gI z6, gI z7, gA z1, gA z2, gA z3, gA z4, gA z5, gA z6, gA z7, vK, vA, x3 _ _ hF hS', x4 _ _ hF hS', e, e75, e2, e2', e2'', memF, memS] <;> simp [memF, memS, bI] 
def rem (y : YS) (g c : Nat) : YS := sM y (YU y g) (memF (letY y g c) (YK y g) (YF y (YU y g)) c) (memS (letY y g c) (YK y g) (YF y (YU y g)) (YM y (YU y g)) c)
def tryY (y : YS) (k : Nat) : YS := if letY y (YP y k) (YC y k) = true then sP (sT (rem y (YP y k) (YC y k)) (Yt y + nI 1)) k (YP y k + 1) else sW (sT (rem y (YP y k) (YC y k)) (Yt y + nI 1)) (YP y k) (YW y (YP y k) + nI 1)
theorem zz_try (y : YS) (k : Nat) : tryY y k = (if letY y (YP y k) (YC y k) = true then sP (sT (rem y (YP y k) (YC y k)) (Yt y + nI 1)) k (YP y k + 1) else sW (sT (rem y (YP y k) (YC y k)) (Yt y + nI 1)) (YP y k) (YW y (YP y k) + nI 1)) := rfl
theorem YOK.rem {y : YS} (ok : YOK y) {g c : Nat} (hg : g < Yg y) (hc : c < Yc y) : YOK (rem y g c) := by
  have u := ok.u hg
  obtain ⟨⟨o2, o3⟩, o6, on, og, oc⟩ := id ok
  refine ⟨⟨o2, o3⟩, o6, on, ?_, oc⟩
  intro j hj
  obtain ⟨q1, q2, q3, q4, q5, q6⟩ := og j hj
  obtain ⟨-, -, -, -, t5, t6⟩ := og (YU y g) u
  refine ⟨q1, q2, q3, q4, ?_, ?_⟩
  · show fup (YF y) _ _ j ≤ Yc y
    unfold fup; split
    · have := memF_lt (l := letY y g c) (k := YK y g) (F := YF y (YU y g)) (c := c) (n := Yc y + 1) (by omega) (by omega)
      omega
    · exact q5
  · show fup (YM y) _ _ j ≤ Yc y
    unfold fup; split
    · have := memS_lt (l := letY y g c) (k := YK y g) (F := YF y (YU y g)) (S := YM y (YU y g)) (c := c) (n := Yc y + 1) (by omega) (by omega) (by omega)
      omega
    · exact q6
theorem YOK.tryY {y : YS} (ok : YOK y) {k : Nat} (hk : k < Yn y) (hp : YP y k < Yg y) : YOK (tryY y k) := by
  have r := ok.rem hp (ok.2.2.2.2 k hk).1
  rw [zz_try]
  split
  · refine ⟨r.1, r.2.1, r.2.2.1, r.2.2.2.1, ?_⟩
    intro j hj
    refine ⟨(r.2.2.2.2 j hj).1, ?_⟩
    show fup (YP y) k (YP y k + 1) j ≤ Yg y
    unfold fup; split
    · omega
    · exact (r.2.2.2.2 j hj).2
  · exact r
theorem x77 (d : Nat) {h : AH} {b : Nat} {y : YS} (hx : XY h b y) {k : Nat} (hk : k < Yn y) (hp : YP y k < Yg y) (p2 p3 p4 : Option Value) : ∃ h', E (d + 3) 77 0 [some (.ref b), some (.int (nI k)), p2, p3, p4] [] h = some (some (.int (bI (letY y (YP y k) (YC y k)))), h') ∧ XY h' b (tryY y k) ∧ Fr0 (blk b 8) h h' := by
  have u := hx.2.2.u hp
  obtain ⟨c1, -⟩ := hx.2.2.2.2.2.2 k hk
  have hc3 := hx.2.2.1.2
  have hgu := hx.2.2.2.2.2.1 (YU y (YP y k)) u
  have hg6 := hx.2.2.2.1
  have hn6 := hx.2.2.2.2.1
  have e63 := fun d => x63 d hx (nI k)
  rw [inR_nI (by omega) (by omega), decide_eq_true hk] at e63
  have e62 := fun d => x62 d hx (nI (YP y k))
  rw [inR_nI (by omega) (by omega), decide_eq_true hp] at e62
  have e68 := fun d => x68 d hx hp
  have e75 := fun d => x75 d hx hp (F := YF y (YU y (YP y k))) (S := YM y (YU y (YP y k))) (c := YC y k) (by omega) (by omega) (by omega)
  have e76 := fun d => x76 d hx hp (F := YF y (YU y (YP y k))) (S := YM y (YU y (YP y k))) (c := YC y k) (by omega) (by omega) (by omega)
  have e69 := fun d => x69 d hx (f := memF (letY y (YP y k) (YC y k)) (YK y (YP y k)) (YF y (YU y (YP y k))) (YC y k)) (s := memS (letY y (YP y k) (YC y k)) (YK y (YP y k)) (YF y (YU y (YP y k))) (YM y (YU y (YP y k))) (YC y k)) hp
  change ∀ d p4 p5, E (d + 1) 75 0 _ _ _ = some (some (.int (bI (letY y (YP y k) (YC y k)))), _) at e75
  change ∀ d p4, E (d + 2) 76 0 _ _ _ = some (some (.int (nI (memF (letY y (YP y k) (YC y k)) (YK y (YP y k)) (YF y (YU y (YP y k))) (YC y k) + 4 * memS (letY y (YP y k) (YC y k)) (YK y (YP y k)) (YF y (YU y (YP y k))) (YM y (YU y (YP y k))) (YC y k)))), _) at e76
  have okn := hx.2.2.tryY hk hp
  have xs := hx.1
  have xv := hx.2.1
  have hA : ∀ j, j < 8 → blk b 8 (b + j) := fun j hj => ⟨by omega, by omega⟩
  obtain ⟨⟨z0, z1, z2, z3, z4, z5, z6, z7, r1, r2, r3, r4, r5, r6, r7⟩, ⟨vc, vg, vn, vt, vz, vK, vA, vU, vM, vW, vC, vP⟩, ok⟩ := hx
  cases el : letY y (YP y k) (YC y k)
  · rw [el] at e75 e76 e69
    refine ⟨stI (stI (stI h (b + 4) (YU y (YP y k)) (nI (memF false (YK y (YP y k)) (YF y (YU y (YP y k))) (YC y k) + 4 * memS false (YK y (YP y k)) (YF y (YU y (YP y k))) (YM y (YU y (YP y k))) (YC y k)))) b 3 (Yt y + nI 1)) (b + 5) (YP y k) (YW y (YP y k) + nI 1), ?_, ⟨?_, ?_, okn⟩, ?_⟩
    · simp (disch := omega) only [s77_0, s77_1, s77_2, s77_3, s77_4, s77_5, s77_6, s77_7, s77_8, s77_9, s77_10, s77_11, s77_12, s77_13, s77_14, s77_15, s77_16, s77_17, s77_18, s77_19, s77_20, s77_21, s77_22, s77_23, s77_24, s77_25, s77_26, s77_27, s77_28, s77_29, s77_30, s77_31, s77_32, s77_33, s77_34, s77_35, s77_36, s77_37, s77_38, s77_39, s77_40, s77_41, s77_42, s77_43, s77_44, s77_45, s77_46, s77_47, s77_48, s77_49, s77_50, s77_51, s77_52, s77_53, s77_54, s77_55, s77_56, s77_57, s77_58, s77_59, s77_60, s77_61, s77_62, s77_63, s77_64, s77_65, s77_66, s77_67, s77_68, ↓reduceIte, Option.bind_some, Option.toList_some, Option.toList_none, List.cons_append, List.nil_append, if_true, if_false, true_or, or_true, true_and, and_true, not_true_eq_false, not_false_eq_true, Nat.reduceLT, Nat.reduceLeDiff, Nat.reduceEqDiff, Nat.reduceAdd, Nat.reduceMul, Nat.reduceSub, Nat.reducePow, Nat.reduceMod, Nat.reduceDiv, l0, l1, l2, l3, l4, l5, l6, l7, l8, l9, l10, l11, l12, l13, l14, l15, l16, l20, l31, l32, l36, l40, l48, l57, l59, l63, l64, l97, l99, l100, l101, l122, l127, l128, l250, l255, l262143, l262144, l30000, l100000, l12345, l1024, l4095, nI_eqs, nI_les, nI_lts, qI_eq, qI_eqn, nI_eqq, qI_lts, nI_ltp, nI_lep, qI_les, nI_add, nI_mul, qI_add, qI_s, qI_def, nI_clamps, bI_z, bI_o, bI_01, n01, n11, rf_some, rf_none, m1, m1n, z0, r1, r2, r3, r4, r5, r6, r7, vc, vg, vn, vt, vz, gI z1, gI z2, gI z3, gI z4, gI z5, gI z6, gI z7, gA z1, gA z2, gA z3, gA z4, gA z5, gA z6, gA z7, vK, vA, vU, vM, vW, vC, vP, ad1, ad2, hI_stI, hS_stI, hR_stI, hL_stI, alen_stI, hI_stL, hL_stL, hS_stL, hR_stL, alen_stL, false_and, and_false, and_self, eq_self, e63, e62, e68, e75, e76, e69, Bool.true_eq_false]
    · exact xs
    · unfold tryY rem; rw [el, if_neg (by decide)]
      exact ((xv.M _ _ _).t _).W _ _
    · exact ((Fr0.stI _ (hA 4 (by decide)) _ _).trans (Fr0.stI _ (hA 0 (by decide)) _ _)).trans (Fr0.stI _ (hA 5 (by decide)) _ _)
  · rw [el] at e75 e76 e69
    refine ⟨stI (stI (stI h (b + 4) (YU y (YP y k)) (nI (memF true (YK y (YP y k)) (YF y (YU y (YP y k))) (YC y k) + 4 * memS true (YK y (YP y k)) (YF y (YU y (YP y k))) (YM y (YU y (YP y k))) (YC y k)))) b 3 (Yt y + nI 1)) (b + 7) k (nI (YP y k + 1)), ?_, ⟨?_, ?_, okn⟩, ?_⟩
    · simp (disch := omega) only [s77_0, s77_1, s77_2, s77_3, s77_4, s77_5, s77_6, s77_7, s77_8, s77_9, s77_10, s77_11, s77_12, s77_13, s77_14, s77_15, s77_16, s77_17, s77_18, s77_19, s77_20, s77_21, s77_22, s77_23, s77_24, s77_25, s77_26, s77_27, s77_28, s77_29, s77_30, s77_31, s77_32, s77_33, s77_34, s77_35, s77_36, s77_37, s77_38, s77_39, s77_40, s77_41, s77_42, s77_43, s77_44, s77_45, s77_46, s77_47, s77_48, s77_49, s77_50, s77_51, s77_52, s77_53, s77_54, s77_55, s77_56, s77_57, s77_58, s77_59, s77_60, s77_61, s77_62, s77_63, s77_64, s77_65, s77_66, s77_67, s77_68, ↓reduceIte, Option.bind_some, Option.toList_some, Option.toList_none, List.cons_append, List.nil_append, if_true, if_false, true_or, or_true, true_and, and_true, not_true_eq_false, not_false_eq_true, Nat.reduceLT, Nat.reduceLeDiff, Nat.reduceEqDiff, Nat.reduceAdd, Nat.reduceMul, Nat.reduceSub, Nat.reducePow, Nat.reduceMod, Nat.reduceDiv, l0, l1, l2, l3, l4, l5, l6, l7, l8, l9, l10, l11, l12, l13, l14, l15, l16, l20, l31, l32, l36, l40, l48, l57, l59, l63, l64, l97, l99, l100, l101, l122, l127, l128, l250, l255, l262143, l262144, l30000, l100000, l12345, l1024, l4095, nI_eqs, nI_les, nI_lts, qI_eq, qI_eqn, nI_eqq, qI_lts, nI_ltp, nI_lep, qI_les, nI_add, nI_mul, qI_add, qI_s, qI_def, nI_clamps, bI_z, bI_o, bI_01, n01, n11, rf_some, rf_none, m1, m1n, z0, r1, r2, r3, r4, r5, r6, r7, vc, vg, vn, vt, vz, gI z1, gI z2, gI z3, gI z4, gI z5, gI z6, gI z7, gA z1, gA z2, gA z3, gA z4, gA z5, gA z6, gA z7, vK, vA, vU, vM, vW, vC, vP, ad1, ad2, hI_stI, hS_stI, hR_stI, hL_stI, alen_stI, hI_stL, hL_stL, hS_stL, hR_stL, alen_stL, false_and, and_false, and_self, eq_self, e63, e62, e68, e75, e76, e69, Bool.true_eq_false]
    · exact xs
    · unfold tryY rem; rw [el, if_pos rfl]
      exact ((xv.M _ _ _).t _).P _ _
    · exact ((Fr0.stI _ (hA 4 (by decide)) _ _).trans (Fr0.stI _ (hA 0 (by decide)) _ _)).trans (Fr0.stI _ (hA 7 (by decide)) _ _)
