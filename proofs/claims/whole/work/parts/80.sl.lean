/-! SCRATCHED, the reference: the recursion and the call -/
theorem SQ.ct {h0 h : AH} {A : Nat} {s : GS} {W : Nat → Prop} {o g : Nat} {p : Nat × Nat} {l : Nat} {t t' : Nat → Nat} (q : SQ h0 h A s W o g p l t) (e : ∀ c, c < 3 → t c = t' c) : SQ h0 h A s W o g p l t' := ⟨q.1, q.2.1, q.2.2.1, q.2.2.2.1, fun c hc => by rw [← e c hc]; exact q.2.2.2.2 c hc⟩
theorem SQ.yc {h0 h : AH} {A : Nat} {s : GS} {W : Nat → Prop} {o g : Nat} {p : Nat × Nat} {l : Nat} {t : Nat → Nat} (q : SQ h0 h A s W o g p l t) : hI h A 9 = nI (Yc (gY s)) := q.1.1.1.2.1.1
def nnF (t : Nat → Nat) (m i b : Nat) : Nat := itr (fun c b => if 0 < t c then 0 else b) m i b
theorem nnF_0 (t : Nat → Nat) : ∀ m i, nnF t m i 0 = 0 := by
  intro m
  induction m with
  | zero => intro i; rfl
  | succ m ih =>
    intro i
    show nnF t m (i + 1) (if 0 < t i then 0 else 0) = 0
    rw [show (if 0 < t i then 0 else 0) = 0 by split <;> rfl]; exact ih _
theorem nnF_1 (t : Nat → Nat) : ∀ m i c, i ≤ c → c < i + m → 0 < t c → nnF t m i 1 = 0 := by
  intro m
  induction m with
  | zero => intro i c h1 h2; omega
  | succ m ih =>
    intro i c h1 h2 h3
    show nnF t m (i + 1) (if 0 < t i then 0 else 1) = 0
    by_cases e : c = i
    · subst e; rw [if_pos h3]; exact nnF_0 t m _
    · split
      · exact nnF_0 t m _
      · exact ih (i + 1) c (by omega) (by omega) h3
theorem m219 (d : Nat) {h0 : AH} {A : Nat} {s : GS} {W : Nat → Prop} {o g L : Nat} (nw : ¬ W L) (hg : g < Yg (gY s)) : ∀ l P t h p X Y p6 p7 p8 p9, pOK (gY s) P → t 0 + t 1 + t 2 = l → l ≤ 6 → (∀ c, Yc (gY s) ≤ c → c < 3 → t c = 0) → SQ h0 h A s W o g p L t → hI h A 38 = X → hI h A 39 = Y → ∃ h' p', E (d + l + 3) 219 0 [some (.ref A), some (.ref o), some (.int (nI g)), some (.ref L), some (.int (qI P.1)), some (.int (qI P.2)), p6, p7, p8, p9] [] h = some (none, h') ∧ SQ h0 h' A s W o g p' L t ∧ hI h' A 38 = X + nI (ordR (gY s) g l P t).1 ∧ hI h' A 39 = Y ||| nI (ordR (gY s) g l P t).2 := by
  intro l
  induction l with
  | zero =>
    intro P t h p X Y p6 p7 p8 p9 hP ht _ hz q hX hY
    have ok := q.1.1.1.2.2
    obtain ⟨⟨o2, o3⟩, o6, on, og, oc⟩ := id ok
    obtain ⟨c0, -, -, -, -, -, -, -, -, -, -⟩ := q.1.mem hg
    have yc := q.yc
    have sl := q.2.2.2.1
    have lp : ∀ m i, i + m = Yc (gY s) → E (d + 0 + 3) 219 4 [some (.ref A), some (.ref o), some (.int (nI g)), some (.ref L), some (.int (qI P.1)), some (.int (qI P.2)), some (.int (nI 1)), some (.int (nI i)), p8, p9] [] h = E (d + 0 + 3) 219 74 [some (.ref A), some (.ref o), some (.int (nI g)), some (.ref L), some (.int (qI P.1)), some (.int (qI P.2)), some (.int (nI 1)), some (.int (nI (Yc (gY s)))), p8, p9] [] h := by
      intro m
      induction m with
      | zero =>
        intro i hi
        have hi' : i = Yc (gY s) := hi
        rw [s219_4, hi']
        simp (disch := omega) only [s219_5, s219_6, s219_7, ↓reduceIte, Option.bind_some, Option.toList_some, Option.toList_none, List.cons_append, List.nil_append, if_true, if_false, true_or, or_true, true_and, and_true, not_true_eq_false, not_false_eq_true, Nat.reduceLT, Nat.reduceLeDiff, Nat.reduceEqDiff, Nat.reduceAdd, Nat.reduceMul, Nat.reduceSub, Nat.reducePow, Nat.reduceMod, Nat.reduceDiv, l0, l1, l2, l3, l4, l5, l6, l7, l8, l9, l10, l11, l12, l13, l14, l15, l16, l20, l31, l32, l36, l40, l48, l57, l59, l63, l64, l97, l99, l100, l101, l122, l127, l128, l250, l255, l262143, l262144, l30000, l100000, l12345, l1024, l4095, nI_eqs, nI_les, nI_lts, qI_eq, qI_eqn, nI_eqq, qI_lts, nI_ltp, nI_lep, qI_les, nI_add, nI_mul, qI_add, qI_s, qI_def, nI_clamps, bI_z, bI_o, bI_01, n01, n11, rf_some, rf_none, m1, m1n, bft, c0, yc, Nat.le_refl]
      | succ m ih =>
        intro i hi
        have h1' : ¬ Yc (gY s) ≤ i := by omega
        have il := q.2.2.2.2 i (by omega)
        have t0 : t i = 0 := by
          rcases zz_3 (show i < 3 by omega) with rfl | rfl | rfl <;> omega
        rw [t0] at il
        rw [s219_4, ← ih (i + 1) (by omega)]
        simp (disch := omega) only [s219_5, s219_6, s219_7, s219_8, s219_9, s219_10, s219_11, s219_72, s219_73, ↓reduceIte, Option.bind_some, Option.toList_some, Option.toList_none, List.cons_append, List.nil_append, if_true, if_false, true_or, or_true, true_and, and_true, not_true_eq_false, not_false_eq_true, Nat.reduceLT, Nat.reduceLeDiff, Nat.reduceEqDiff, Nat.reduceAdd, Nat.reduceMul, Nat.reduceSub, Nat.reducePow, Nat.reduceMod, Nat.reduceDiv, l0, l1, l2, l3, l4, l5, l6, l7, l8, l9, l10, l11, l12, l13, l14, l15, l16, l20, l31, l32, l36, l40, l48, l57, l59, l63, l64, l97, l99, l100, l101, l122, l127, l128, l250, l255, l262143, l262144, l30000, l100000, l12345, l1024, l4095, nI_eqs, nI_les, nI_lts, qI_eq, qI_eqn, nI_eqq, qI_lts, nI_ltp, nI_lep, qI_les, nI_add, nI_mul, qI_add, qI_s, qI_def, nI_clamps, bI_z, bI_o, bI_01, n01, n11, rf_some, rf_none, m1, m1n, bft, c0, yc, h1', gI sl, il, Nat.le_refl]
    have e := lp (Yc (gY s)) 0 (by omega)
    have fin : ∀ b, SQ h0 (stI (stI h A 38 (X + nI 1)) A 39 (Y ||| nI b)) A s W o g p L t ∧ hI (stI (stI h A 38 (X + nI 1)) A 39 (Y ||| nI b)) A 38 = X + nI 1 ∧ hI (stI (stI h A 38 (X + nI 1)) A 39 (Y ||| nI b)) A 39 = Y ||| nI b := by
      intro b
      refine ⟨(q.w (by decide) _).w (by decide) _, ?_, ?_⟩
      · simp (disch := omega) only [hI_stI, ↓reduceIte, Option.bind_some, Option.toList_some, Option.toList_none, List.cons_append, List.nil_append, if_true, if_false, true_or, or_true, true_and, and_true, not_true_eq_false, not_false_eq_true, Nat.reduceLT, Nat.reduceLeDiff, Nat.reduceEqDiff, Nat.reduceAdd, Nat.reduceMul, Nat.reduceSub, Nat.reducePow, Nat.reduceMod, Nat.reduceDiv, and_false]
      · simp (disch := omega) only [hI_stI, ↓reduceIte, Option.bind_some, Option.toList_some, Option.toList_none, List.cons_append, List.nil_append, if_true, if_false, true_or, or_true, true_and, and_true, not_true_eq_false, not_false_eq_true, Nat.reduceLT, Nat.reduceLeDiff, Nat.reduceEqDiff, Nat.reduceAdd, Nat.reduceMul, Nat.reduceSub, Nat.reducePow, Nat.reduceMod, Nat.reduceDiv, and_self]
    obtain ⟨f, s'⟩ := P
    have hP1 := hP.1
    dsimp only at hP1 e ⊢
    cases f with
    | zero =>
      refine ⟨_, p, ?_, fin 0⟩
      simp (disch := omega) only [s219_0, s219_1, s219_2, s219_3, ↓reduceIte, Option.bind_some, Option.toList_some, Option.toList_none, List.cons_append, List.nil_append, if_true, if_false, true_or, or_true, true_and, and_true, not_true_eq_false, not_false_eq_true, Nat.reduceLT, Nat.reduceLeDiff, Nat.reduceEqDiff, Nat.reduceAdd, Nat.reduceMul, Nat.reduceSub, Nat.reducePow, Nat.reduceMod, Nat.reduceDiv, l0, l1, l2, l3, l4, l5, l6, l7, l8, l9, l10, l11, l12, l13, l14, l15, l16, l20, l31, l32, l36, l40, l48, l57, l59, l63, l64, l97, l99, l100, l101, l122, l127, l128, l250, l255, l262143, l262144, l30000, l100000, l12345, l1024, l4095, nI_eqs, nI_les, nI_lts, qI_eq, qI_eqn, nI_eqq, qI_lts, nI_ltp, nI_lep, qI_les, nI_add, nI_mul, qI_add, qI_s, qI_def, nI_clamps, bI_z, bI_o, bI_01, n01, n11, rf_some, rf_none, m1, m1n, bft]
      rw [e]
      simp (disch := omega) only [s219_74, s219_75, s219_76, s219_77, s219_78, s219_79, s219_80, s219_81, s219_82, s219_83, s219_84, s219_85, s219_86, s219_87, s219_88, s219_89, s219_90, s219_91, s219_92, s219_93, s219_94, s219_95, ↓reduceIte, Option.bind_some, Option.toList_some, Option.toList_none, List.cons_append, List.nil_append, if_true, if_false, true_or, or_true, true_and, and_true, not_true_eq_false, not_false_eq_true, Nat.reduceLT, Nat.reduceLeDiff, Nat.reduceEqDiff, Nat.reduceAdd, Nat.reduceMul, Nat.reduceSub, Nat.reducePow, Nat.reduceMod, Nat.reduceDiv, l0, l1, l2, l3, l4, l5, l6, l7, l8, l9, l10, l11, l12, l13, l14, l15, l16, l20, l31, l32, l36, l40, l48, l57, l59, l63, l64, l97, l99, l100, l101, l122, l127, l128, l250, l255, l262143, l262144, l30000, l100000, l12345, l1024, l4095, nI_eqs, nI_les, nI_lts, qI_eq, qI_eqn, nI_eqq, qI_lts, nI_ltp, nI_lep, qI_les, nI_add, nI_mul, qI_add, qI_s, qI_def, nI_clamps, bI_z, bI_o, bI_01, n01, n11, rf_some, rf_none, m1, m1n, bft, ad1, ad2, hI_stI, hS_stI, hR_stI, hL_stI, alen_stI, hI_stL, hL_stL, hS_stL, hR_stL, alen_stL, false_and, and_false, and_self, eq_self, c0, hX, hY, Nat.reduceEqDiff]
    | succ f =>
      have f0 : ¬ f + 1 = 0 := by omega
      refine ⟨_, p, ?_, fin (2 ^ f)⟩
      simp (disch := omega) only [s219_0, s219_1, s219_2, s219_3, ↓reduceIte, Option.bind_some, Option.toList_some, Option.toList_none, List.cons_append, List.nil_append, if_true, if_false, true_or, or_true, true_and, and_true, not_true_eq_false, not_false_eq_true, Nat.reduceLT, Nat.reduceLeDiff, Nat.reduceEqDiff, Nat.reduceAdd, Nat.reduceMul, Nat.reduceSub, Nat.reducePow, Nat.reduceMod, Nat.reduceDiv, l0, l1, l2, l3, l4, l5, l6, l7, l8, l9, l10, l11, l12, l13, l14, l15, l16, l20, l31, l32, l36, l40, l48, l57, l59, l63, l64, l97, l99, l100, l101, l122, l127, l128, l250, l255, l262143, l262144, l30000, l100000, l12345, l1024, l4095, nI_eqs, nI_les, nI_lts, qI_eq, qI_eqn, nI_eqq, qI_lts, nI_ltp, nI_lep, qI_les, nI_add, nI_mul, qI_add, qI_s, qI_def, nI_clamps, bI_z, bI_o, bI_01, n01, n11, rf_some, rf_none, m1, m1n, bft, f0]
      rw [qI_s] at e
      rw [e]
      have g0 : (nI f = qI 0) = False := by rw [nI_eqq (by omega) (by decide)]; exact eq_false (by omega)
      simp (disch := omega) only [s219_74, s219_75, s219_76, s219_77, s219_78, s219_79, s219_80, s219_81, s219_82, s219_83, s219_84, s219_85, s219_86, s219_87, s219_88, s219_89, s219_90, s219_91, s219_92, s219_93, s219_94, s219_95, ↓reduceIte, Option.bind_some, Option.toList_some, Option.toList_none, List.cons_append, List.nil_append, if_true, if_false, true_or, or_true, true_and, and_true, not_true_eq_false, not_false_eq_true, Nat.reduceLT, Nat.reduceLeDiff, Nat.reduceEqDiff, Nat.reduceAdd, Nat.reduceMul, Nat.reduceSub, Nat.reducePow, Nat.reduceMod, Nat.reduceDiv, l0, l1, l2, l3, l4, l5, l6, l7, l8, l9, l10, l11, l12, l13, l14, l15, l16, l20, l31, l32, l36, l40, l48, l57, l59, l63, l64, l97, l99, l100, l101, l122, l127, l128, l250, l255, l262143, l262144, l30000, l100000, l12345, l1024, l4095, m1n, m1, nI_eqs, nI_shl', a31, nI_and, ad1, ad2, hI_stI, hS_stI, hR_stI, hL_stI, alen_stI, hI_stL, hL_stL, hS_stL, hR_stL, alen_stL, false_and, and_false, and_self, eq_self, c0, hX, hY, g0, Nat.one_mul]
  | succ l ih =>
    intro P t h p X Y p6 p7 p8 p9 hP ht hl hz q hX hY
    have ok := q.1.1.1.2.2
    obtain ⟨⟨o2, o3⟩, o6, on, og, oc⟩ := id ok
    have lp : ∀ m i (a : Nat × Nat) h p nn x8 x9, i + m = Yc (gY s) → SQ h0 h A s W o g p L t → hI h A 38 = X + nI a.1 → hI h A 39 = Y ||| nI a.2 → ∃ h2 p2 x8' x9', E (d + (l + 1) + 3) 219 4 [some (.ref A), some (.ref o), some (.int (nI g)), some (.ref L), some (.int (qI P.1)), some (.int (qI P.2)), some (.int (nI nn)), some (.int (nI i)), x8, x9] [] h = E (d + (l + 1) + 3) 219 74 [some (.ref A), some (.ref o), some (.int (nI g)), some (.ref L), some (.int (qI P.1)), some (.int (qI P.2)), some (.int (nI (nnF t m i nn))), some (.int (nI (Yc (gY s)))), x8', x9'] [] h2 ∧ SQ h0 h2 A s W o g p2 L t ∧ hI h2 A 38 = X + nI (itr (ordS (gY s) g l P t) m i a).1 ∧ hI h2 A 39 = Y ||| nI (itr (ordS (gY s) g l P t) m i a).2 := by
      intro m
      induction m with
      | zero =>
        intro i a h p nn x8 x9 hi q hX hY
        have hi' : i = Yc (gY s) := hi
        obtain ⟨c0, -, -, -, -, -, -, -, -, -, -⟩ := q.1.mem hg
        have yc := q.yc
        refine ⟨h, p, x8, x9, ?_, q, hX, hY⟩
        rw [s219_4, hi']
        simp (disch := omega) only [s219_5, s219_6, s219_7, ↓reduceIte, Option.bind_some, Option.toList_some, Option.toList_none, List.cons_append, List.nil_append, if_true, if_false, true_or, or_true, true_and, and_true, not_true_eq_false, not_false_eq_true, Nat.reduceLT, Nat.reduceLeDiff, Nat.reduceEqDiff, Nat.reduceAdd, Nat.reduceMul, Nat.reduceSub, Nat.reducePow, Nat.reduceMod, Nat.reduceDiv, l0, l1, l2, l3, l4, l5, l6, l7, l8, l9, l10, l11, l12, l13, l14, l15, l16, l20, l31, l32, l36, l40, l48, l57, l59, l63, l64, l97, l99, l100, l101, l122, l127, l128, l250, l255, l262143, l262144, l30000, l100000, l12345, l1024, l4095, nI_eqs, nI_les, nI_lts, qI_eq, qI_eqn, nI_eqq, qI_lts, nI_ltp, nI_lep, qI_les, nI_add, nI_mul, qI_add, qI_s, qI_def, nI_clamps, bI_z, bI_o, bI_01, n01, n11, rf_some, rf_none, m1, m1n, bft, c0, yc, Nat.le_refl]
        rfl
      | succ m ih2 =>
        intro i a h p nn x8 x9 hi q hX hY
        have h1' : ¬ Yc (gY s) ≤ i := by omega
        obtain ⟨c0, o0, u1, u2, u3, u4, u5, u6, u7, -, -⟩ := q.1.mem hg
        have yc := q.yc
        have sl := q.2.2.2.1
        have il := q.2.2.2.2 i (by omega)
        have uu := ok.u6 hg
        have ao : A + 53 ≤ o := (q.1.1.2.2.2.2.2.1.1 o q.1.2.1).2.1
        have ti : t i ≤ 6 := by
          rcases zz_3 (show i < 3 by omega) with rfl | rfl | rfl <;> omega
        rw [itr_s]
        have N : nnF t (m + 1) i nn = nnF t m (i + 1) (if 0 < t i then 0 else nn) := rfl
        rw [N, s219_4]
        by_cases c : 0 < t i
        · rw [if_pos c]
          have c' : ¬ t i ≤ 0 := by omega
          obtain ⟨qA, kA⟩ := q.set hP
          obtain ⟨hB, e183, qB, kB⟩ := qA.try (d + (l + 1)) hg (show i < Yc (gY s) by omega) none
          obtain ⟨b0, bo, w1, w2, w3, w4, w5, w6, w7, w8, w9⟩ := qB.1.mem hg
          cases e : lt1 (gY s) g P i <;> rw [e] at e183
          · have S : ordS (gY s) g l P t i a = (a.1 + (ordR (gY s) g l (stp (gY s) g P i) (fup t i (t i - 1))).1, a.2 ||| (ordR (gY s) g l (stp (gY s) g P i) (fup t i (t i - 1))).2) := by unfold ordS; rw [if_pos ⟨c, e⟩]
            have sB := qB.2.2.2.1
            have iB := qB.2.2.2.2 i (by omega)
            obtain ⟨qC, kC⟩ := qB.l nw i (t i - 1)
            obtain ⟨cc0, co, -, -, -, -, -, -, -, -, -⟩ := qC.1.mem hg
            obtain ⟨dn1, dn2⟩ := pkH_dn t (show i < 3 by omega) c
            obtain ⟨hD, pD, eD, qD, xD, yD⟩ := ih (stp (gY s) g P i) (fup t i (t i - 1)) _ _ (X + nI a.1) (Y ||| nI a.2) none none none none (stp_ok hP (by omega)) (by omega) (by omega) (fun c' h1 h2 => by
              unfold fup
              rw [if_neg (by omega)]
              exact hz c' h1 h2) qC (by rw [kC, kB, kA]; exact hX) (by rw [kC, kB, kA]; exact hY)
            rw [show d + l + 3 = d + (l + 1) + 2 by omega] at eD
            have sD := qD.2.2.2.1
            have iD := qD.2.2.2.2 i (by omega)
            rw [fup_s] at iD
            obtain ⟨qE, kE⟩ := qD.l nw i (t i - 1 + 1)
            have qF : SQ h0 (stI hD L i (nI (t i - 1 + 1))) A s W o g pD L t := qE.ct (fun c' _ => by
              unfold fup
              by_cases w : c' = i
              · subst w; rw [if_pos rfl]; omega
              · rw [if_neg w, if_neg w])
            obtain ⟨h2, p2, x8', x9', e2, z⟩ := ih2 (i + 1) (ordS (gY s) g l P t i a) _ pD 0 (some (.int (qI (stp (gY s) g P i).1))) (some (.int (qI (stp (gY s) g P i).2))) (by omega) qF (by rw [kE, xD, S, ← nI_add, Int32.add_assoc]) (by rw [kE, yD, S, ← nI_or, Int32.or_assoc])
            refine ⟨h2, p2, x8', x9', ?_, z⟩
            rw [← e2]
            simp (disch := omega) only [s219_5, s219_6, s219_7, s219_8, s219_9, s219_10, s219_11, s219_12, s219_13, s219_14, s219_15, s219_16, s219_17, s219_18, s219_19, s219_20, s219_21, s219_22, s219_23, s219_24, s219_25, s219_26, s219_27, s219_28, s219_29, s219_30, s219_31, s219_32, s219_33, s219_34, s219_35, s219_36, s219_37, s219_38, s219_39, s219_40, s219_41, s219_42, s219_43, s219_44, s219_45, s219_46, s219_47, s219_48, s219_49, s219_50, s219_51, s219_52, s219_53, s219_54, s219_55, s219_56, s219_57, s219_58, s219_59, s219_60, s219_61, s219_62, s219_63, s219_64, s219_65, s219_66, s219_67, s219_68, s219_69, s219_70, s219_71, s219_72, s219_73, ↓reduceIte, Option.bind_some, Option.toList_some, Option.toList_none, List.cons_append, List.nil_append, if_true, if_false, true_or, or_true, true_and, and_true, not_true_eq_false, not_false_eq_true, Nat.reduceLT, Nat.reduceLeDiff, Nat.reduceEqDiff, Nat.reduceAdd, Nat.reduceMul, Nat.reduceSub, Nat.reducePow, Nat.reduceMod, Nat.reduceDiv, l0, l1, l2, l3, l4, l5, l6, l7, l8, l9, l10, l11, l12, l13, l14, l15, l16, l20, l31, l32, l36, l40, l48, l57, l59, l63, l64, l97, l99, l100, l101, l122, l127, l128, l250, l255, l262143, l262144, l30000, l100000, l12345, l1024, l4095, nI_eqs, nI_les, nI_lts, qI_eq, qI_eqn, nI_eqq, qI_lts, nI_ltp, nI_lep, qI_les, nI_add, nI_mul, qI_add, qI_s, qI_def, nI_clamps, bI_z, bI_o, bI_01, n01, n11, rf_some, rf_none, m1, m1n, bft, ad1, ad2, hI_stI, hS_stI, hR_stI, hL_stI, alen_stI, hI_stL, hL_stL, hS_stL, hR_stL, alen_stL, false_and, and_false, and_self, eq_self, ad3, c0, o0, yc, h1', gI sl, il, c', u1, gI u2, u3, u4, u5, gA u6, gA u7, e183, b0, bo, w1, gI w2, w3, w4, w5, gI w6, gI w7, w8, w9, gI sB, gA sB, iB, nI_sub, cc0, co, eD, gI sD, gA sD, iD]
          · have S : ordS (gY s) g l P t i a = a := by unfold ordS; rw [if_neg (fun w => by rw [e] at w; exact absurd w.2 (by decide))]
            obtain ⟨h2, p2, x8', x9', e2, z⟩ := ih2 (i + 1) (ordS (gY s) g l P t i a) hB _ 0 x8 x9 (by omega) qB (by rw [S, kB, kA]; exact hX) (by rw [S, kB, kA]; exact hY)
            refine ⟨h2, p2, x8', x9', ?_, z⟩
            rw [← e2]
            simp (disch := omega) only [s219_5, s219_6, s219_7, s219_8, s219_9, s219_10, s219_11, s219_12, s219_13, s219_14, s219_15, s219_16, s219_17, s219_18, s219_19, s219_20, s219_21, s219_22, s219_23, s219_24, s219_25, s219_26, s219_27, s219_28, s219_29, s219_30, s219_31, s219_32, s219_33, s219_34, s219_72, s219_73, ↓reduceIte, Option.bind_some, Option.toList_some, Option.toList_none, List.cons_append, List.nil_append, if_true, if_false, true_or, or_true, true_and, and_true, not_true_eq_false, not_false_eq_true, Nat.reduceLT, Nat.reduceLeDiff, Nat.reduceEqDiff, Nat.reduceAdd, Nat.reduceMul, Nat.reduceSub, Nat.reducePow, Nat.reduceMod, Nat.reduceDiv, l0, l1, l2, l3, l4, l5, l6, l7, l8, l9, l10, l11, l12, l13, l14, l15, l16, l20, l31, l32, l36, l40, l48, l57, l59, l63, l64, l97, l99, l100, l101, l122, l127, l128, l250, l255, l262143, l262144, l30000, l100000, l12345, l1024, l4095, nI_eqs, nI_les, nI_lts, qI_eq, qI_eqn, nI_eqq, qI_lts, nI_ltp, nI_lep, qI_les, nI_add, nI_mul, qI_add, qI_s, qI_def, nI_clamps, bI_z, bI_o, bI_01, n01, n11, rf_some, rf_none, m1, m1n, bft, ad1, ad2, hI_stI, hS_stI, hR_stI, hL_stI, alen_stI, hI_stL, hL_stL, hS_stL, hR_stL, alen_stL, false_and, and_false, and_self, eq_self, ad3, c0, o0, yc, h1', gI sl, il, c', u1, gI u2, u3, u4, u5, gA u6, gA u7, e183, Bool.true_eq_false]
        · rw [if_neg c]
          have c' : t i ≤ 0 := by omega
          have S : ordS (gY s) g l P t i a = a := by unfold ordS; rw [if_neg (fun w => c w.1)]
          obtain ⟨h2, p2, x8', x9', e2, z⟩ := ih2 (i + 1) (ordS (gY s) g l P t i a) h p nn x8 x9 (by omega) q (by rw [S]; exact hX) (by rw [S]; exact hY)
          refine ⟨h2, p2, x8', x9', ?_, z⟩
          rw [← e2]
          simp (disch := omega) only [s219_5, s219_6, s219_7, s219_8, s219_9, s219_10, s219_11, s219_72, s219_73, ↓reduceIte, Option.bind_some, Option.toList_some, Option.toList_none, List.cons_append, List.nil_append, if_true, if_false, true_or, or_true, true_and, and_true, not_true_eq_false, not_false_eq_true, Nat.reduceLT, Nat.reduceLeDiff, Nat.reduceEqDiff, Nat.reduceAdd, Nat.reduceMul, Nat.reduceSub, Nat.reducePow, Nat.reduceMod, Nat.reduceDiv, l0, l1, l2, l3, l4, l5, l6, l7, l8, l9, l10, l11, l12, l13, l14, l15, l16, l20, l31, l32, l36, l40, l48, l57, l59, l63, l64, l97, l99, l100, l101, l122, l127, l128, l250, l255, l262143, l262144, l30000, l100000, l12345, l1024, l4095, nI_eqs, nI_les, nI_lts, qI_eq, qI_eqn, nI_eqq, qI_lts, nI_ltp, nI_lep, qI_les, nI_add, nI_mul, qI_add, qI_s, qI_def, nI_clamps, bI_z, bI_o, bI_01, n01, n11, rf_some, rf_none, m1, m1n, bft, c0, yc, h1', gI sl, il, c']
    obtain ⟨h2, p2, x8', x9', e2, q2, r1, r2⟩ := lp (Yc (gY s)) 0 (0, 0) h p 1 p8 p9 (by omega) q (by rw [hX]; show X = X + 0; rw [Int32.add_zero]) (by rw [hY]; show Y = Y ||| 0; rw [Int32.or_zero])
    have nz : nnF t (Yc (gY s)) 0 1 = 0 := by
      have : ∃ c, c < 3 ∧ 0 < t c := by
        by_cases a0 : 0 < t 0
        · exact ⟨0, by decide, a0⟩
        · by_cases a1 : 0 < t 1
          · exact ⟨1, by decide, a1⟩
          · exact ⟨2, by decide, by omega⟩
      obtain ⟨c, h1, h2⟩ := this
      have : c < Yc (gY s) := by
        by_cases w : Yc (gY s) ≤ c
        · have := hz c w h1; omega
        · omega
      exact nnF_1 t _ 0 c (by omega) (by omega) h2
    rw [nz] at e2
    refine ⟨h2, p2, ?_, q2, r1, r2⟩
    simp (disch := omega) only [s219_0, s219_1, s219_2, s219_3, ↓reduceIte, Option.bind_some, Option.toList_some, Option.toList_none, List.cons_append, List.nil_append, if_true, if_false, true_or, or_true, true_and, and_true, not_true_eq_false, not_false_eq_true, Nat.reduceLT, Nat.reduceLeDiff, Nat.reduceEqDiff, Nat.reduceAdd, Nat.reduceMul, Nat.reduceSub, Nat.reducePow, Nat.reduceMod, Nat.reduceDiv, l0, l1, l2, l3, l4, l5, l6, l7, l8, l9, l10, l11, l12, l13, l14, l15, l16, l20, l31, l32, l36, l40, l48, l57, l59, l63, l64, l97, l99, l100, l101, l122, l127, l128, l250, l255, l262143, l262144, l30000, l100000, l12345, l1024, l4095, nI_eqs, nI_les, nI_lts, qI_eq, qI_eqn, nI_eqq, qI_lts, nI_ltp, nI_lep, qI_les, nI_add, nI_mul, qI_add, qI_s, qI_def, nI_clamps, bI_z, bI_o, bI_01, n01, n11, rf_some, rf_none, m1, m1n, bft]
    rw [e2]
    simp (disch := omega) only [s219_74, s219_75, s219_95, ↓reduceIte, Option.bind_some, Option.toList_some, Option.toList_none, List.cons_append, List.nil_append, if_true, if_false, true_or, or_true, true_and, and_true, not_true_eq_false, not_false_eq_true, Nat.reduceLT, Nat.reduceLeDiff, Nat.reduceEqDiff, Nat.reduceAdd, Nat.reduceMul, Nat.reduceSub, Nat.reducePow, Nat.reduceMod, Nat.reduceDiv, l0, l1, l2, l3, l4, l5, l6, l7, l8, l9, l10, l11, l12, l13, l14, l15, l16, l20, l31, l32, l36, l40, l48, l57, l59, l63, l64, l97, l99, l100, l101, l122, l127, l128, l250, l255, l262143, l262144, l30000, l100000, l12345, l1024, l4095, nI_eqs, nI_les, nI_lts, qI_eq, qI_eqn, nI_eqq, qI_lts, nI_ltp, nI_lep, qI_les, nI_add, nI_mul, qI_add, qI_s, qI_def, nI_clamps, bI_z, bI_o, bI_01, n01, n11, rf_some, rf_none, m1, m1n, bft]
