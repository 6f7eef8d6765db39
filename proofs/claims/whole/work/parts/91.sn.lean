/-! KNOW, the reference: all guesses -/
theorem n209c (D : Nat) {h0 h : AH} {A : Nat} {s : GS} {W : Nat → Prop} {o g : Nat} {p : Nat × Nat} {n : Nat} {F S V : Nat → Nat → Int32} {q : Nat → Nat × Nat} {v : Nat → Bool} (K : KH h0 h A s W o g p n F S V) (L : LV (gY s) F S V n q v) (hn : n ≤ 6) (hg : g < Yg (gY s)) : ∀ m k a, k + m = Yc (gY s) + 1 → a ≤ k → E (D + 1) 209 4 [some (.ref A), some (.ref o), some (.int (nI g)), some (.int (nI n)), some (.int (nI a)), some (.int (nI k))] [] h = E (D + 1) 209 23 [some (.ref A), some (.ref o), some (.int (nI g)), some (.int (nI n)), some (.int (nI (cnV v m k a))), some (.int (nI (Yc (gY s) + 1)))] [] h := by
  have ok := K.1.1.1.2.2
  obtain ⟨⟨o2, o3⟩, o6, on, og, oc⟩ := id ok
  obtain ⟨c0, o0, -, -, -, -, -, -, -, -, -⟩ := K.1.mem hg
  obtain ⟨yc, ao, -⟩ := K.z
  obtain ⟨m1, m2, m3, m4, m5, m6, m7, m8, m9, m10, m11, m12⟩ := K.lv (l := n) (by omega)
  intro m
  induction m with
  | zero =>
    intro k a hk ha
    have hk' : k = Yc (gY s) + 1 := hk
    subst hk'
    rw [s209_4]
    simp (disch := omega) only [s209_5, s209_6, s209_7, ↓reduceIte, Option.bind_some, Option.toList_some, Option.toList_none, List.cons_append, List.nil_append, if_true, if_false, true_or, or_true, true_and, and_true, not_true_eq_false, not_false_eq_true, Nat.reduceLT, Nat.reduceLeDiff, Nat.reduceEqDiff, Nat.reduceAdd, Nat.reduceMul, Nat.reduceSub, Nat.reducePow, Nat.reduceMod, Nat.reduceDiv, l0, l1, l2, l3, l4, l5, l6, l7, l8, l9, l10, l11, l12, l13, l14, l15, l16, l20, l31, l32, l36, l40, l48, l57, l59, l63, l64, l97, l99, l100, l101, l122, l127, l128, l250, l255, l262143, l262144, l30000, l100000, l12345, l1024, l4095, nI_eqs, nI_les, nI_lts, qI_eq, qI_eqn, nI_eqq, qI_lts, nI_ltp, nI_lep, qI_les, nI_add, nI_mul, qI_add, qI_s, qI_def, nI_clamps, bI_z, bI_o, bI_01, n01, n11, rf_some, rf_none, m1, m1n, bft, c0, yc, Nat.lt_succ_self]
    rfl
  | succ m ih =>
    intro k a hk ha
    have h1' : ¬ Yc (gY s) < k := by omega
    have k4 : k < 4 := by omega
    have i1 := (K.2 n (Nat.le_refl _) (by omega) k).2.2
    rw [(L k (by omega)).1] at i1
    have T : cnV v (m + 1) k a = cnV v m (k + 1) (if v k = true then a + 1 else a) := rfl
    rw [s209_4, T]
    cases hv : v k <;> rw [hv] at i1
    · rw [if_neg (by decide), ← ih (k + 1) a (by omega) (by omega)]
      simp (disch := omega) only [s209_5, s209_6, s209_7, s209_8, s209_9, s209_10, s209_11, s209_12, s209_13, s209_14, s209_15, s209_16, s209_17, s209_18, s209_19, s209_20, s209_21, s209_22, ↓reduceIte, Option.bind_some, Option.toList_some, Option.toList_none, List.cons_append, List.nil_append, if_true, if_false, true_or, or_true, true_and, and_true, not_true_eq_false, not_false_eq_true, Nat.reduceLT, Nat.reduceLeDiff, Nat.reduceEqDiff, Nat.reduceAdd, Nat.reduceMul, Nat.reduceSub, Nat.reducePow, Nat.reduceMod, Nat.reduceDiv, l0, l1, l2, l3, l4, l5, l6, l7, l8, l9, l10, l11, l12, l13, l14, l15, l16, l20, l31, l32, l36, l40, l48, l57, l59, l63, l64, l97, l99, l100, l101, l122, l127, l128, l250, l255, l262143, l262144, l30000, l100000, l12345, l1024, l4095, nI_eqs, nI_les, nI_lts, qI_eq, qI_eqn, nI_eqq, qI_lts, nI_ltp, nI_lep, qI_les, nI_add, nI_mul, qI_add, qI_s, qI_def, nI_clamps, bI_z, bI_o, bI_01, n01, n11, rf_some, rf_none, m1, m1n, bft, h1', c0, yc, m5, gR m6, m11, gA m12, i1, bI_f, Nat.add_zero]
    · rw [if_pos rfl, ← ih (k + 1) (a + 1) (by omega) (by omega)]
      simp (disch := omega) only [s209_5, s209_6, s209_7, s209_8, s209_9, s209_10, s209_11, s209_12, s209_13, s209_14, s209_15, s209_16, s209_17, s209_18, s209_19, s209_20, s209_21, s209_22, ↓reduceIte, Option.bind_some, Option.toList_some, Option.toList_none, List.cons_append, List.nil_append, if_true, if_false, true_or, or_true, true_and, and_true, not_true_eq_false, not_false_eq_true, Nat.reduceLT, Nat.reduceLeDiff, Nat.reduceEqDiff, Nat.reduceAdd, Nat.reduceMul, Nat.reduceSub, Nat.reducePow, Nat.reduceMod, Nat.reduceDiv, l0, l1, l2, l3, l4, l5, l6, l7, l8, l9, l10, l11, l12, l13, l14, l15, l16, l20, l31, l32, l36, l40, l48, l57, l59, l63, l64, l97, l99, l100, l101, l122, l127, l128, l250, l255, l262143, l262144, l30000, l100000, l12345, l1024, l4095, nI_eqs, nI_les, nI_lts, qI_eq, qI_eqn, nI_eqq, qI_lts, nI_ltp, nI_lep, qI_les, nI_add, nI_mul, qI_add, qI_s, qI_def, nI_clamps, bI_z, bI_o, bI_01, n01, n11, rf_some, rf_none, m1, m1n, bft, h1', c0, yc, m5, gR m6, m11, gA m12, i1, bI_t]
theorem n210l (d : Nat) {h0 : AH} {A : Nat} {s : GS} {W : Nat → Prop} {o g : Nat} {n : Nat} {F S V : Nat → Nat → Int32} {q : Nat → Nat × Nat} {v : Nat → Bool} {c : Nat} (w : Bool) (L : LV (gY s) F S V (n + 1) q v) (hn : n < 6) (hg : g < Yg (gY s)) (hc : c < Yc (gY s)) : ∀ m k h p, k + m = Yc (gY s) + 1 → KH h0 h A s W o g p (n + 1) F S V → (∀ j, j < k → hI h (A + 46 + n) j = bI (v j && (lt1 (gY s) g (q j) c == w)) ∧ (v j = true → hI h (A + 30 + n) j = qI (stp (gY s) g (q j) c).1 ∧ hI h (A + 38 + n) j = qI (stp (gY s) g (q j) c).2)) → ∃ h2 p2, E (d + 3) 210 2 [some (.ref A), some (.ref o), some (.int (nI g)), some (.int (nI (n + 1))), some (.int (nI c)), some (.int (bI w)), some (.int (nI k))] [] h = E (d + 3) 210 97 [some (.ref A), some (.ref o), some (.int (nI g)), some (.int (nI (n + 1))), some (.int (nI c)), some (.int (bI w)), some (.int (nI (Yc (gY s) + 1)))] [] h2 ∧ KH h0 h2 A s W o g p2 (n + 1) F S V ∧ ∀ j, j < Yc (gY s) + 1 → hI h2 (A + 46 + n) j = bI (v j && (lt1 (gY s) g (q j) c == w)) ∧ (v j = true → hI h2 (A + 30 + n) j = qI (stp (gY s) g (q j) c).1 ∧ hI h2 (A + 38 + n) j = qI (stp (gY s) g (q j) c).2) := by
  intro m
  induction m with
  | zero =>
    intro k h p hk K hf
    have hk' : k = Yc (gY s) + 1 := hk
    subst hk'
    have ok := K.1.1.1.2.2
    obtain ⟨⟨o2, o3⟩, o6, on, og, oc⟩ := id ok
    obtain ⟨c0, o0, -, -, -, -, -, -, -, -, -⟩ := K.1.mem hg
    obtain ⟨yc, ao, -⟩ := K.z
    refine ⟨h, p, ?_, K, hf⟩
    rw [s210_2]
    simp (disch := omega) only [s210_3, s210_4, s210_5, ↓reduceIte, Option.bind_some, Option.toList_some, Option.toList_none, List.cons_append, List.nil_append, if_true, if_false, true_or, or_true, true_and, and_true, not_true_eq_false, not_false_eq_true, Nat.reduceLT, Nat.reduceLeDiff, Nat.reduceEqDiff, Nat.reduceAdd, Nat.reduceMul, Nat.reduceSub, Nat.reducePow, Nat.reduceMod, Nat.reduceDiv, l0, l1, l2, l3, l4, l5, l6, l7, l8, l9, l10, l11, l12, l13, l14, l15, l16, l20, l31, l32, l36, l40, l48, l57, l59, l63, l64, l97, l99, l100, l101, l122, l127, l128, l250, l255, l262143, l262144, l30000, l100000, l12345, l1024, l4095, nI_eqs, nI_les, nI_lts, qI_eq, qI_eqn, nI_eqq, qI_lts, nI_ltp, nI_lep, qI_les, nI_add, nI_mul, qI_add, qI_s, qI_def, nI_clamps, bI_z, bI_o, bI_01, n01, n11, rf_some, rf_none, m1, m1n, bft, c0, yc, Nat.lt_succ_self]
  | succ m ih =>
    intro k h p hk K hf
    obtain ⟨h2, p2, e, K2, u1, u2⟩ := n210 d w K L hn hg hc (show k ≤ Yc (gY s) by omega)
    obtain ⟨h3, p3, e3, K3, u3⟩ := ih (k + 1) h2 p2 (by omega) K2 (fun j hj => by
      by_cases e : j = k
      · subst e; exact u1
      · obtain ⟨a, b, c⟩ := u2 j e
        rw [a, b, c]; exact hf j (by omega))
    exact ⟨h3, p3, by rw [e, e3], K3, u3⟩
theorem n209 (d : Nat) {h0 : AH} {A : Nat} {s : GS} {W : Nat → Prop} {o g : Nat} (hg : g < Yg (gY s)) : ∀ n h p F S V q v p4 p5, n ≤ 6 → KH h0 h A s W o g p n F S V → LV (gY s) F S V n q v → ∃ h2 p2, E (d + 2 * n + 4) 209 0 [some (.ref A), some (.ref o), some (.int (nI g)), some (.int (nI n)), p4, p5] [] h = some (some (.int (bI (kS (lt1 (gY s) g) (stp (gY s) g) (Yc (gY s)) n q v))), h2) ∧ KH h0 h2 A s W o g p2 n F S V := by
  intro n
  induction n with
  | zero =>
    intro h p F S V q v p4 p5 hn K L
    have ok := K.1.1.1.2.2
    obtain ⟨⟨o2, o3⟩, o6, on, og, oc⟩ := id ok
    have e := n209c (d + 3) K L hn hg (Yc (gY s) + 1) 0 0 (by omega) (Nat.le_refl _)
    have cl := cnV_le v (Yc (gY s) + 1) 0 0
    obtain ⟨c0, o0, -, -, -, -, -, -, -, -, -⟩ := K.1.mem hg
    obtain ⟨yc, ao, -⟩ := K.z
    refine ⟨h, p, ?_, K⟩
    show _ = some (some (Value.int (bI (decide (cnV v (Yc (gY s) + 1) 0 0 ≤ 1)))), h)
    generalize cnV v (Yc (gY s) + 1) 0 0 = a at *
    rw [Nat.mul_zero, Nat.add_zero]
    simp (disch := omega) only [s209_0, s209_1, s209_2, s209_3, ↓reduceIte, Option.bind_some, Option.toList_some, Option.toList_none, List.cons_append, List.nil_append, if_true, if_false, true_or, or_true, true_and, and_true, not_true_eq_false, not_false_eq_true, Nat.reduceLT, Nat.reduceLeDiff, Nat.reduceEqDiff, Nat.reduceAdd, Nat.reduceMul, Nat.reduceSub, Nat.reducePow, Nat.reduceMod, Nat.reduceDiv, l0, l1, l2, l3, l4, l5, l6, l7, l8, l9, l10, l11, l12, l13, l14, l15, l16, l20, l31, l32, l36, l40, l48, l57, l59, l63, l64, l97, l99, l100, l101, l122, l127, l128, l250, l255, l262143, l262144, l30000, l100000, l12345, l1024, l4095, nI_eqs, nI_les, nI_lts, qI_eq, qI_eqn, nI_eqq, qI_lts, nI_ltp, nI_lep, qI_les, nI_add, nI_mul, qI_add, qI_s, qI_def, nI_clamps, bI_z, bI_o, bI_01, n01, n11, rf_some, rf_none, m1, m1n, bft]
    rw [e]
    have y0 : ¬ Yc (gY s) ≤ 0 := by omega
    by_cases c : a ≤ 1
    · have c' : ¬ 1 < a := by omega
      rw [decide_eq_true c]
      simp (disch := omega) only [s209_23, s209_24, s209_25, s209_26, s209_27, s209_28, s209_29, s209_30, s209_31, s209_32, s209_33, s209_34, s209_35, s209_36, s209_37, s209_38, s209_39, s209_40, s209_41, s209_42, s209_43, s209_44, s209_45, s209_46, s209_47, s209_48, s209_49, s209_50, s209_51, s209_52, s209_53, s209_54, s209_55, s209_56, s209_57, ↓reduceIte, Option.bind_some, Option.toList_some, Option.toList_none, List.cons_append, List.nil_append, if_true, if_false, true_or, or_true, true_and, and_true, not_true_eq_false, not_false_eq_true, Nat.reduceLT, Nat.reduceLeDiff, Nat.reduceEqDiff, Nat.reduceAdd, Nat.reduceMul, Nat.reduceSub, Nat.reducePow, Nat.reduceMod, Nat.reduceDiv, l0, l1, l2, l3, l4, l5, l6, l7, l8, l9, l10, l11, l12, l13, l14, l15, l16, l20, l31, l32, l36, l40, l48, l57, l59, l63, l64, l97, l99, l100, l101, l122, l127, l128, l250, l255, l262143, l262144, l30000, l100000, l12345, l1024, l4095, nI_eqs, nI_les, nI_lts, qI_eq, qI_eqn, nI_eqq, qI_lts, nI_ltp, nI_lep, qI_les, nI_add, nI_mul, qI_add, qI_s, qI_def, nI_clamps, bI_z, bI_o, bI_01, n01, n11, rf_some, rf_none, m1, m1n, bft, c', bI_t]
    · have c' : 1 < a := by omega
      rw [decide_eq_false c]
      simp (disch := omega) only [s209_23, s209_24, s209_25, s209_26, s209_27, s209_28, s209_29, s209_30, s209_31, s209_32, s209_33, s209_34, s209_35, s209_36, s209_37, s209_38, s209_39, s209_40, s209_41, s209_42, s209_43, s209_44, s209_45, s209_46, s209_47, s209_48, s209_49, s209_50, s209_51, s209_52, s209_53, s209_54, s209_55, s209_56, s209_57, ↓reduceIte, Option.bind_some, Option.toList_some, Option.toList_none, List.cons_append, List.nil_append, if_true, if_false, true_or, or_true, true_and, and_true, not_true_eq_false, not_false_eq_true, Nat.reduceLT, Nat.reduceLeDiff, Nat.reduceEqDiff, Nat.reduceAdd, Nat.reduceMul, Nat.reduceSub, Nat.reducePow, Nat.reduceMod, Nat.reduceDiv, l0, l1, l2, l3, l4, l5, l6, l7, l8, l9, l10, l11, l12, l13, l14, l15, l16, l20, l31, l32, l36, l40, l48, l57, l59, l63, l64, l97, l99, l100, l101, l122, l127, l128, l250, l255, l262143, l262144, l30000, l100000, l12345, l1024, l4095, nI_eqs, nI_les, nI_lts, qI_eq, qI_eqn, nI_eqq, qI_lts, nI_ltp, nI_lep, qI_les, nI_add, nI_mul, qI_add, qI_s, qI_def, nI_clamps, bI_z, bI_o, bI_01, n01, n11, rf_some, rf_none, m1, m1n, bft, c', c0, yc, y0, Nat.le_refl, bI_f]
  | succ n ih =>
    intro h p F S V q v p4 p5 hn K L
    rw [show d + 2 * (n + 1) + 4 = d + 2 * n + 6 by omega]
    have ok := K.1.1.1.2.2
    obtain ⟨⟨o2, o3⟩, o6, on, og, oc⟩ := id ok
    have cl := cnV_le v (Yc (gY s) + 1) 0 0
    have e := n209c (d + 2 * n + 5) K L hn hg (Yc (gY s) + 1) 0 0 (by omega) (Nat.le_refl _)
    have sb1 : nI (n + 1) - nI 1 = nI n := by rw [nI_sub (by omega)]; rfl
    -- behind one try
    have m210 : ∀ w h p c x6, c < Yc (gY s) → KH h0 h A s W o g p (n + 1) F S V → ∃ h2 p2, E (d + 2 * n + 5) 210 0 [some (.ref A), some (.ref o), some (.int (nI g)), some (.int (nI (n + 1))), some (.int (nI c)), some (.int (bI w)), x6] [] h = some (some (.int (bI (kS (lt1 (gY s) g) (stp (gY s) g) (Yc (gY s)) n (fun k => stp (gY s) g (q k) c) (fun k => v k && (lt1 (gY s) g (q k) c == w))))), h2) ∧ KH h0 h2 A s W o g p2 (n + 1) F S V := by
      intro w h p c x6 hc K
      obtain ⟨h2, p2, e2, K2, u2⟩ := n210l (d + 2 * n + 2) w L (by omega) hg hc (Yc (gY s) + 1) 0 h p (by omega) K (fun j hj => absurd hj (Nat.not_lt_zero j))
      have K3 : KH h0 h2 A s W o g p2 n (fun l k => if l = n then hI h2 (A + 30 + n) k else F l k) (fun l k => if l = n then hI h2 (A + 38 + n) k else S l k) (fun l k => if l = n then hI h2 (A + 46 + n) k else V l k) := ⟨K2.1, fun l q1 q2 k => by
        by_cases el : l = n
        · subst el
          dsimp only
          rw [if_pos rfl, if_pos rfl, if_pos rfl]; exact ⟨rfl, rfl, rfl⟩
        · dsimp only
          rw [if_neg el, if_neg el, if_neg el]; exact K2.2 l (by omega) q2 k⟩
      have L3 : LV (gY s) (fun l k => if l = n then hI h2 (A + 30 + n) k else F l k) (fun l k => if l = n then hI h2 (A + 38 + n) k else S l k) (fun l k => if l = n then hI h2 (A + 46 + n) k else V l k) n (fun k => stp (gY s) g (q k) c) (fun k => v k && (lt1 (gY s) g (q k) c == w)) := fun k hk => by
        dsimp only
        rw [if_pos rfl, if_pos rfl, if_pos rfl]
        obtain ⟨a1, a2⟩ := u2 k (by omega)
        refine ⟨a1, fun hv => ?_⟩
        rw [Bool.and_eq_true] at hv
        obtain ⟨b1, b2⟩ := a2 hv.1
        exact ⟨b1, b2, stp_ok ((L k hk).2 hv.1).2.2 hc⟩
      obtain ⟨h4, p4, e4, K4⟩ := ih h2 p2 _ _ _ _ _ none none (by omega) K3 L3
      obtain ⟨c0, o0, -, -, -, -, -, -, -, -, -⟩ := K2.1.mem hg
      have KB : kS (lt1 (gY s) g) (stp (gY s) g) (Yc (gY s)) n (fun k => stp (gY s) g (q k) c) (fun k => v k && (lt1 (gY s) g (q k) c == w)) = true ∨ kS (lt1 (gY s) g) (stp (gY s) g) (Yc (gY s)) n (fun k => stp (gY s) g (q k) c) (fun k => v k && (lt1 (gY s) g (q k) c == w)) = false := by
        cases kS (lt1 (gY s) g) (stp (gY s) g) (Yc (gY s)) n (fun k => stp (gY s) g (q k) c) (fun k => v k && (lt1 (gY s) g (q k) c == w))
        · exact Or.inr rfl
        · exact Or.inl rfl
      refine ⟨h4, p4, ?_, K4.1, fun l q1 q2 k => ?_⟩
      · rw [s210_0, s210_1]
        show E (d + 2 * n + 2 + 3) 210 2 _ _ _ = _
        have ez : (0 : Int32) = nI 0 := rfl
        rw [ez, e2]
        rcases KB with kb | kb <;> rw [kb] at e4 ⊢ <;> simp (disch := omega) only [s210_97, s210_98, s210_99, s210_100, s210_101, s210_102, s210_103, s210_104, ↓reduceIte, Option.bind_some, Option.toList_some, Option.toList_none, List.cons_append, List.nil_append, if_true, if_false, true_or, or_true, true_and, and_true, not_true_eq_false, not_false_eq_true, Nat.reduceLT, Nat.reduceLeDiff, Nat.reduceEqDiff, Nat.reduceAdd, Nat.reduceMul, Nat.reduceSub, Nat.reducePow, Nat.reduceMod, Nat.reduceDiv, l0, l1, l2, l3, l4, l5, l6, l7, l8, l9, l10, l11, l12, l13, l14, l15, l16, l20, l31, l32, l36, l40, l48, l57, l59, l63, l64, l97, l99, l100, l101, l122, l127, l128, l250, l255, l262143, l262144, l30000, l100000, l12345, l1024, l4095, nI_eqs, nI_les, nI_lts, qI_eq, qI_eqn, nI_eqq, qI_lts, nI_ltp, nI_lep, qI_les, nI_add, nI_mul, qI_add, qI_s, qI_def, nI_clamps, bI_z, bI_o, bI_01, n01, n11, rf_some, rf_none, m1, m1n, bft, c0, sb1, e4, bI_t, bI_f]
      · have := K4.2 l (by omega) q2 k
        dsimp only at this
        rw [if_neg (by omega), if_neg (by omega), if_neg (by omega)] at this
        exact this
    have lp : ∀ m c h p a, c + m = Yc (gY s) → KH h0 h A s W o g p (n + 1) F S V → ∃ h2 p2, E (d + 2 * n + 6) 209 30 [some (.ref A), some (.ref o), some (.int (nI g)), some (.int (nI (n + 1))), some (.int (nI a)), some (.int (nI c))] [] h = some (some (.int (bI (anyB (fun c => kS (lt1 (gY s) g) (stp (gY s) g) (Yc (gY s)) n (fun k => stp (gY s) g (q k) c) (fun k => v k && (lt1 (gY s) g (q k) c == false)) && kS (lt1 (gY s) g) (stp (gY s) g) (Yc (gY s)) n (fun k => stp (gY s) g (q k) c) (fun k => v k && (lt1 (gY s) g (q k) c == true))) m c))), h2) ∧ KH h0 h2 A s W o g p2 (n + 1) F S V := by
      intro m
      induction m with
      | zero =>
        intro c h p a hc K
        have hc' : c = Yc (gY s) := hc
        subst hc'
        obtain ⟨c0, o0, -, -, -, -, -, -, -, -, -⟩ := K.1.mem hg
        obtain ⟨yc, ao, -⟩ := K.z
        refine ⟨h, p, ?_, K⟩
        rw [s209_30]
        simp (disch := omega) only [s209_31, s209_32, s209_33, s209_56, s209_57, ↓reduceIte, Option.bind_some, Option.toList_some, Option.toList_none, List.cons_append, List.nil_append, if_true, if_false, true_or, or_true, true_and, and_true, not_true_eq_false, not_false_eq_true, Nat.reduceLT, Nat.reduceLeDiff, Nat.reduceEqDiff, Nat.reduceAdd, Nat.reduceMul, Nat.reduceSub, Nat.reducePow, Nat.reduceMod, Nat.reduceDiv, l0, l1, l2, l3, l4, l5, l6, l7, l8, l9, l10, l11, l12, l13, l14, l15, l16, l20, l31, l32, l36, l40, l48, l57, l59, l63, l64, l97, l99, l100, l101, l122, l127, l128, l250, l255, l262143, l262144, l30000, l100000, l12345, l1024, l4095, nI_eqs, nI_les, nI_lts, qI_eq, qI_eqn, nI_eqq, qI_lts, nI_ltp, nI_lep, qI_les, nI_add, nI_mul, qI_add, qI_s, qI_def, nI_clamps, bI_z, bI_o, bI_01, n01, n11, rf_some, rf_none, m1, m1n, bft, c0, yc, Nat.le_refl]
        rfl
      | succ m ih2 =>
        intro c h p a hc K
        have h1' : ¬ Yc (gY s) ≤ c := by omega
        have n0 : ¬ n + 1 ≤ 0 := by omega
        obtain ⟨c0, o0, -, -, -, -, -, -, -, -, -⟩ := K.1.mem hg
        obtain ⟨yc, ao, -⟩ := K.z
        obtain ⟨h2, p2, e2, K2⟩ := m210 false h p c none (by omega) K
        obtain ⟨c2, -, -, -, -, -, -, -, -, -, -⟩ := K2.1.mem hg
        rw [anyB_s]
        cases k1 : kS (lt1 (gY s) g) (stp (gY s) g) (Yc (gY s)) n (fun k => stp (gY s) g (q k) c) (fun k => v k && (lt1 (gY s) g (q k) c == false)) <;> rw [k1] at e2
        · rw [Bool.false_and, Bool.false_or]
          obtain ⟨h3, p3, e3, K3⟩ := ih2 (c + 1) h2 p2 a (by omega) K2
          refine ⟨h3, p3, ?_, K3⟩
          rw [bI_f] at e2
          rw [← e3, s209_30]
          simp (disch := omega) only [s209_31, s209_32, s209_33, s209_34, s209_35, s209_36, s209_37, s209_38, s209_39, s209_40, s209_41, s209_42, s209_43, s209_44, s209_45, s209_46, s209_47, s209_48, s209_49, s209_50, s209_51, s209_52, s209_53, s209_54, s209_55, ↓reduceIte, Option.bind_some, Option.toList_some, Option.toList_none, List.cons_append, List.nil_append, if_true, if_false, true_or, or_true, true_and, and_true, not_true_eq_false, not_false_eq_true, Nat.reduceLT, Nat.reduceLeDiff, Nat.reduceEqDiff, Nat.reduceAdd, Nat.reduceMul, Nat.reduceSub, Nat.reducePow, Nat.reduceMod, Nat.reduceDiv, l0, l1, l2, l3, l4, l5, l6, l7, l8, l9, l10, l11, l12, l13, l14, l15, l16, l20, l31, l32, l36, l40, l48, l57, l59, l63, l64, l97, l99, l100, l101, l122, l127, l128, l250, l255, l262143, l262144, l30000, l100000, l12345, l1024, l4095, nI_eqs, nI_les, nI_lts, qI_eq, qI_eqn, nI_eqq, qI_lts, nI_ltp, nI_lep, qI_les, nI_add, nI_mul, qI_add, qI_s, qI_def, nI_clamps, bI_z, bI_o, bI_01, n01, n11, rf_some, rf_none, m1, m1n, bft, h1', n0, c0, yc, e2, bI_f]
        · obtain ⟨h3, p3, e3, K3⟩ := m210 true h2 p2 c none (by omega) K2
          rw [bI_f, bI_t] at e2
          cases k2 : kS (lt1 (gY s) g) (stp (gY s) g) (Yc (gY s)) n (fun k => stp (gY s) g (q k) c) (fun k => v k && (lt1 (gY s) g (q k) c == true)) <;> rw [k2] at e3
          · rw [Bool.and_false, Bool.false_or]
            rw [bI_f, bI_t] at e3
            obtain ⟨h4, p4, e4, K4⟩ := ih2 (c + 1) h3 p3 a (by omega) K3
            refine ⟨h4, p4, ?_, K4⟩
            rw [← e4, s209_30]
            simp (disch := omega) only [s209_31, s209_32, s209_33, s209_34, s209_35, s209_36, s209_37, s209_38, s209_39, s209_40, s209_41, s209_42, s209_43, s209_44, s209_45, s209_46, s209_47, s209_48, s209_49, s209_50, s209_51, s209_52, s209_53, s209_54, s209_55, ↓reduceIte, Option.bind_some, Option.toList_some, Option.toList_none, List.cons_append, List.nil_append, if_true, if_false, true_or, or_true, true_and, and_true, not_true_eq_false, not_false_eq_true, Nat.reduceLT, Nat.reduceLeDiff, Nat.reduceEqDiff, Nat.reduceAdd, Nat.reduceMul, Nat.reduceSub, Nat.reducePow, Nat.reduceMod, Nat.reduceDiv, l0, l1, l2, l3, l4, l5, l6, l7, l8, l9, l10, l11, l12, l13, l14, l15, l16, l20, l31, l32, l36, l40, l48, l57, l59, l63, l64, l97, l99, l100, l101, l122, l127, l128, l250, l255, l262143, l262144, l30000, l100000, l12345, l1024, l4095, nI_eqs, nI_les, nI_lts, qI_eq, qI_eqn, nI_eqq, qI_lts, nI_ltp, nI_lep, qI_les, nI_add, nI_mul, qI_add, qI_s, qI_def, nI_clamps, bI_z, bI_o, bI_01, n01, n11, rf_some, rf_none, m1, m1n, bft, h1', n0, c0, c2, yc, e2, e3, Bool.true_eq_false]
          · rw [Bool.and_true, Bool.true_or]
            rw [bI_t] at e3
            refine ⟨h3, p3, ?_, K3⟩
            rw [s209_30]
            simp (disch := omega) only [s209_31, s209_32, s209_33, s209_34, s209_35, s209_36, s209_37, s209_38, s209_39, s209_40, s209_41, s209_42, s209_43, s209_44, s209_45, s209_46, s209_47, s209_48, s209_49, s209_50, s209_51, s209_52, s209_53, s209_54, s209_55, ↓reduceIte, Option.bind_some, Option.toList_some, Option.toList_none, List.cons_append, List.nil_append, if_true, if_false, true_or, or_true, true_and, and_true, not_true_eq_false, not_false_eq_true, Nat.reduceLT, Nat.reduceLeDiff, Nat.reduceEqDiff, Nat.reduceAdd, Nat.reduceMul, Nat.reduceSub, Nat.reducePow, Nat.reduceMod, Nat.reduceDiv, l0, l1, l2, l3, l4, l5, l6, l7, l8, l9, l10, l11, l12, l13, l14, l15, l16, l20, l31, l32, l36, l40, l48, l57, l59, l63, l64, l97, l99, l100, l101, l122, l127, l128, l250, l255, l262143, l262144, l30000, l100000, l12345, l1024, l4095, nI_eqs, nI_les, nI_lts, qI_eq, qI_eqn, nI_eqq, qI_lts, nI_ltp, nI_lep, qI_les, nI_add, nI_mul, qI_add, qI_s, qI_def, nI_clamps, bI_z, bI_o, bI_01, n01, n11, rf_some, rf_none, m1, m1n, bft, h1', n0, c0, c2, yc, e2, e3, bI_t]
    show ∃ h2 p2, _ = some (some (Value.int (bI (decide (cnV v (Yc (gY s) + 1) 0 0 ≤ 1) || _))), h2) ∧ _
    generalize cnV v (Yc (gY s) + 1) 0 0 = a at *
    by_cases c : a ≤ 1
    · have c' : ¬ 1 < a := by omega
      rw [decide_eq_true c, Bool.true_or]
      refine ⟨h, p, ?_, K⟩
      simp (disch := omega) only [s209_0, s209_1, s209_2, s209_3, ↓reduceIte, Option.bind_some, Option.toList_some, Option.toList_none, List.cons_append, List.nil_append, if_true, if_false, true_or, or_true, true_and, and_true, not_true_eq_false, not_false_eq_true, Nat.reduceLT, Nat.reduceLeDiff, Nat.reduceEqDiff, Nat.reduceAdd, Nat.reduceMul, Nat.reduceSub, Nat.reducePow, Nat.reduceMod, Nat.reduceDiv, l0, l1, l2, l3, l4, l5, l6, l7, l8, l9, l10, l11, l12, l13, l14, l15, l16, l20, l31, l32, l36, l40, l48, l57, l59, l63, l64, l97, l99, l100, l101, l122, l127, l128, l250, l255, l262143, l262144, l30000, l100000, l12345, l1024, l4095, nI_eqs, nI_les, nI_lts, qI_eq, qI_eqn, nI_eqq, qI_lts, nI_ltp, nI_lep, qI_les, nI_add, nI_mul, qI_add, qI_s, qI_def, nI_clamps, bI_z, bI_o, bI_01, n01, n11, rf_some, rf_none, m1, m1n, bft]
      rw [e]
      simp (disch := omega) only [s209_23, s209_24, s209_25, s209_26, s209_27, ↓reduceIte, Option.bind_some, Option.toList_some, Option.toList_none, List.cons_append, List.nil_append, if_true, if_false, true_or, or_true, true_and, and_true, not_true_eq_false, not_false_eq_true, Nat.reduceLT, Nat.reduceLeDiff, Nat.reduceEqDiff, Nat.reduceAdd, Nat.reduceMul, Nat.reduceSub, Nat.reducePow, Nat.reduceMod, Nat.reduceDiv, l0, l1, l2, l3, l4, l5, l6, l7, l8, l9, l10, l11, l12, l13, l14, l15, l16, l20, l31, l32, l36, l40, l48, l57, l59, l63, l64, l97, l99, l100, l101, l122, l127, l128, l250, l255, l262143, l262144, l30000, l100000, l12345, l1024, l4095, nI_eqs, nI_les, nI_lts, qI_eq, qI_eqn, nI_eqq, qI_lts, nI_ltp, nI_lep, qI_les, nI_add, nI_mul, qI_add, qI_s, qI_def, nI_clamps, bI_z, bI_o, bI_01, n01, n11, rf_some, rf_none, m1, m1n, bft, c', bI_t]
    · have c' : 1 < a := by omega
      rw [decide_eq_false c, Bool.false_or]
      obtain ⟨h2, p2, e2, K2⟩ := lp (Yc (gY s)) 0 h p a (by omega) K
      refine ⟨h2, p2, ?_, K2⟩
      simp (disch := omega) only [s209_0, s209_1, s209_2, s209_3, ↓reduceIte, Option.bind_some, Option.toList_some, Option.toList_none, List.cons_append, List.nil_append, if_true, if_false, true_or, or_true, true_and, and_true, not_true_eq_false, not_false_eq_true, Nat.reduceLT, Nat.reduceLeDiff, Nat.reduceEqDiff, Nat.reduceAdd, Nat.reduceMul, Nat.reduceSub, Nat.reducePow, Nat.reduceMod, Nat.reduceDiv, l0, l1, l2, l3, l4, l5, l6, l7, l8, l9, l10, l11, l12, l13, l14, l15, l16, l20, l31, l32, l36, l40, l48, l57, l59, l63, l64, l97, l99, l100, l101, l122, l127, l128, l250, l255, l262143, l262144, l30000, l100000, l12345, l1024, l4095, nI_eqs, nI_les, nI_lts, qI_eq, qI_eqn, nI_eqq, qI_lts, nI_ltp, nI_lep, qI_les, nI_add, nI_mul, qI_add, qI_s, qI_def, nI_clamps, bI_z, bI_o, bI_01, n01, n11, rf_some, rf_none, m1, m1n, bft]
      rw [e]
      simp (disch := omega) only [s209_23, s209_24, s209_25, s209_26, s209_27, s209_28, s209_29, ↓reduceIte, Option.bind_some, Option.toList_some, Option.toList_none, List.cons_append, List.nil_append, if_true, if_false, true_or, or_true, true_and, and_true, not_true_eq_false, not_false_eq_true, Nat.reduceLT, Nat.reduceLeDiff, Nat.reduceEqDiff, Nat.reduceAdd, Nat.reduceMul, Nat.reduceSub, Nat.reducePow, Nat.reduceMod, Nat.reduceDiv, l0, l1, l2, l3, l4, l5, l6, l7, l8, l9, l10, l11, l12, l13, l14, l15, l16, l20, l31, l32, l36, l40, l48, l57, l59, l63, l64, l97, l99, l100, l101, l122, l127, l128, l250, l255, l262143, l262144, l30000, l100000, l12345, l1024, l4095, nI_eqs, nI_les, nI_lts, qI_eq, qI_eqn, nI_eqq, qI_lts, nI_ltp, nI_lep, qI_les, nI_add, nI_mul, qI_add, qI_s, qI_def, nI_clamps, bI_z, bI_o, bI_01, n01, n11, rf_some, rf_none, m1, m1n, bft, c']
      exact e2
