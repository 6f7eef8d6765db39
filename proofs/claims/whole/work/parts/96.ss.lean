/-! LOCK and KEY, the reference: one row -/
def yR (y : YS) (r : Nat → Nat × Nat) : YS := yMk (Yc y) (Yg y) (Yn y) (Yt y) (Yz y) (YK y) (YA y) (YU y) (fun u => (r u).1) (fun u => (r u).2) (YW y) (YC y) (YP y)
theorem yR_0 (y : YS) : yR y (r0 y) = y := rfl
theorem yR_let (y : YS) (r : Nat → Nat × Nat) (g c : Nat) : letY (yR y r) g c = lt1 y g (r (YU y g)) c := rfl
theorem yR_rem (y : YS) (r : Nat → Nat × Nat) (g c : Nat) : rem (yR y r) g c = yR y (fup r (YU y g) (stp y g (r (YU y g)) c)) := by
  have e1 : (fun u => (fup r (YU y g) (stp y g (r (YU y g)) c) u).1) = fup (fun u => (r u).1) (YU y g) (stp y g (r (YU y g)) c).1 := by
    funext u; unfold fup; split <;> rfl
  have e2 : (fun u => (fup r (YU y g) (stp y g (r (YU y g)) c) u).2) = fup (fun u => (r u).2) (YU y g) (stp y g (r (YU y g)) c).2 := by
    funext u; unfold fup; split <;> rfl
  unfold yR
  rw [e1, e2]
  rfl
/-- the thinking model at o, its memories r -/
def TR (h0 h : AH) (A : Nat) (s : GS) (W : Nat → Prop) (o : Nat) (r : Nat → Nat × Nat) : Prop := MX h A s W ∧ hR h A 23 = some o ∧ MY h o (yR (gY s) r) ∧ KW W h0 h ∧ RM A h0 h 0 0
theorem TR.try {h0 h : AH} {A : Nat} {s : GS} {W : Nat → Prop} {o g : Nat} {r : Nat → Nat × Nat} (t : TR h0 h A s W o r) (d : Nat) (hg : g < Yg (gY s)) {c : Nat} (hc : c < Yc (gY s)) (p3 : Option Value) : ∃ h', E (d + 2) 183 0 [some (.ref o), some (.int (nI g)), some (.int (nI c)), p3] [] h = some (some (.int (bI (lt1 (gY s) g (r (YU (gY s) g)) c))), h') ∧ TR h0 h' A s W o (fup r (YU (gY s) g) (stp (gY s) g (r (YU (gY s) g)) c)) := by
  obtain ⟨x1, q1, y1, kw, rm⟩ := t
  obtain ⟨h2, e183, y2, f2⟩ := m183 d y1 (g := g) (c := c) hg hc p3
  rw [yR_let] at e183
  rw [yR_rem] at y2
  have zo := x1.o q1 f2.bk
  exact ⟨h2, e183, zo.1, by rw [f2.1.2.2.2.2.2.1]; exact q1, y2, kw.trans zo.2.1, rm.trans zo.2.2⟩
def ky (y : YS) (n row : Nat) (r : Nat → Nat × Nat) : Bool := match n with
  | 0 => true
  | n + 1 => thX (thR y (row / Yc y ^ n % Yc y) (Yg y) 0 r) false (fun r' => ky y n row r')
theorem m212 (d : Nat) {h0 h : AH} {A : Nat} {s : GS} {W : Nat → Prop} (X : XM h0 h A s W) {m row : Nat} (hm : m ≤ 6) (hr : row < 730) (p3 p4 p5 p6 p7 : Option Value) : ∃ h2, E (d + 4) 212 0 [some (.ref A), some (.int (nI m)), some (.int (nI row)), p3, p4, p5, p6, p7] [] h = some (some (.int (bI (ky (gY s) m row (r0 (gY s))))), h2) ∧ XM h0 h2 A s W := by
  obtain ⟨hx, kw0, rm0⟩ := X
  obtain ⟨my, mh, ⟨t1, t2, t3, t4, t5⟩, mr, mz, mg, mw, mn, mwn⟩ := id hx; have e136 := c136e hx; have b0 := my.1.1; obtain ⟨⟨z0, z1, z2, z3, z4, z5, z6, z7, z8, r1, r2, r3, r4, r5, r6, r7, r8⟩, ⟨vc, vg, vn, vt, vz, vK, vA, vU, vF, vM, vW, vC, vP⟩, ok⟩ := id my; obtain ⟨⟨o2, o3⟩, o6, on, og, oc⟩ := id ok
  have p3le : ∀ k, k ≤ 6 → Yc (gY s) ^ k ≤ 729 ∧ 0 < Yc (gY s) ^ k := fun k hk => by
    have a1 : Yc (gY s) ^ k ≤ 3 ^ k := Nat.pow_le_pow_left o3 k
    have a2 : 3 ^ k ≤ 3 ^ 6 := Nat.pow_le_pow_right (by decide) hk
    have : (3 : Nat) ^ 6 = 729 := by decide
    exact ⟨by omega, Nat.pow_pos (by omega)⟩
  obtain ⟨h1, o, e225, x1, q1, y1, a1, kw1, rm1⟩ := c225 (d + 1) hx
  have T1 : TR h0 h1 A s W o (r0 (gY s)) := ⟨x1, q1, by rw [yR_0]; exact y1, kw0.trans kw1, rm0.trans rm1⟩
  -- the weight of the first place
  have lb : ∀ l i p6 p7, i + l = m → ∃ i', E (d + 4) 212 7 [some (.ref A), some (.int (nI m)), some (.int (nI row)), some (.ref o), some (.int (nI (Yc (gY s) ^ (i - 1)))), some (.int (nI i)), p6, p7] [] h1 = E (d + 4) 212 17 [some (.ref A), some (.int (nI m)), some (.int (nI row)), some (.ref o), some (.int (nI (Yc (gY s) ^ (m - 1)))), i', p6, p7] [] h1 ∨ i = 0 := by
    intro l
    induction l with
    | zero =>
      intro i p6 p7 hi
      have hi' : i = m := hi
      subst hi'
      refine ⟨some (.int (nI i)), Or.inl ?_⟩
      rw [s212_7]
      simp (disch := omega) only [s212_8, s212_9, ↓reduceIte, Option.bind_some, Option.toList_some, Option.toList_none, List.cons_append, List.nil_append, if_true, if_false, true_or, or_true, true_and, and_true, not_true_eq_false, not_false_eq_true, Nat.reduceLT, Nat.reduceLeDiff, Nat.reduceEqDiff, Nat.reduceAdd, Nat.reduceMul, Nat.reduceSub, Nat.reducePow, Nat.reduceMod, Nat.reduceDiv, l0, l1, l2, l3, l4, l5, l6, l7, l8, l9, l10, l11, l12, l13, l14, l15, l16, l20, l31, l32, l36, l40, l48, l57, l59, l63, l64, l97, l99, l100, l101, l122, l127, l128, l250, l255, l262143, l262144, l30000, l100000, l12345, l1024, l4095, nI_eqs, nI_les, nI_lts, qI_eq, qI_eqn, nI_eqq, qI_lts, nI_ltp, nI_lep, qI_les, nI_add, nI_mul, qI_add, qI_s, qI_def, nI_clamps, bI_z, bI_o, bI_01, n01, n11, rf_some, rf_none, m1, m1n, bft, Nat.le_refl]
    | succ l ih =>
      intro i p6 p7 hi
      by_cases i0 : i = 0
      · exact ⟨none, Or.inr i0⟩
      · have h1' : ¬ m ≤ i := by omega
        have c0 := x1.1.1.1
        have yc : hI h1 A 9 = nI (Yc (gY s)) := x1.1.2.1.1
        have pw : Yc (gY s) ^ (i - 1) * Yc (gY s) = Yc (gY s) ^ (i + 1 - 1) := by
          rw [← Nat.pow_succ]; congr 1; omega
        obtain ⟨i', e | e⟩ := ih (i + 1) p6 p7 (by omega)
        · refine ⟨i', Or.inl ?_⟩
          rw [← e, s212_7]
          simp (disch := omega) only [s212_8, s212_9, s212_10, s212_11, s212_12, s212_13, s212_14, s212_15, s212_16, ↓reduceIte, Option.bind_some, Option.toList_some, Option.toList_none, List.cons_append, List.nil_append, if_true, if_false, true_or, or_true, true_and, and_true, not_true_eq_false, not_false_eq_true, Nat.reduceLT, Nat.reduceLeDiff, Nat.reduceEqDiff, Nat.reduceAdd, Nat.reduceMul, Nat.reduceSub, Nat.reducePow, Nat.reduceMod, Nat.reduceDiv, l0, l1, l2, l3, l4, l5, l6, l7, l8, l9, l10, l11, l12, l13, l14, l15, l16, l20, l31, l32, l36, l40, l48, l57, l59, l63, l64, l97, l99, l100, l101, l122, l127, l128, l250, l255, l262143, l262144, l30000, l100000, l12345, l1024, l4095, nI_eqs, nI_les, nI_lts, qI_eq, qI_eqn, nI_eqq, qI_lts, nI_ltp, nI_lep, qI_les, nI_add, nI_mul, qI_add, qI_s, qI_def, nI_clamps, bI_z, bI_o, bI_01, n01, n11, rf_some, rf_none, m1, m1n, bft, h1', c0, yc, pw]
        · omega
  -- the gates
  have lg : ∀ c b i l g h1 r, c < Yc (gY s) → g + l = Yg (gY s) → TR h0 h1 A s W o r → match thR (gY s) c l g r with
      | none => ∃ h2, E (d + 4) 212 36 [some (.ref A), some (.int (nI m)), some (.int (nI row)), some (.ref o), some (.int (nI b)), some (.int (nI i)), some (.int (nI c)), some (.int (nI g))] [] h1 = some (some (.int (nI 0)), h2) ∧ XM h0 h2 A s W
      | some r' => ∃ h2, E (d + 4) 212 36 [some (.ref A), some (.int (nI m)), some (.int (nI row)), some (.ref o), some (.int (nI b)), some (.int (nI i)), some (.int (nI c)), some (.int (nI g))] [] h1 = E (d + 4) 212 49 [some (.ref A), some (.int (nI m)), some (.int (nI row)), some (.ref o), some (.int (nI b)), some (.int (nI i)), some (.int (nI c)), some (.int (nI (Yg (gY s))))] [] h2 ∧ TR h0 h2 A s W o r' := by
    intro c b i l
    induction l with
    | zero =>
      intro g h1 r hc hg T
      have hg' : g = Yg (gY s) := hg
      subst hg'
      have c0 := T.1.1.1.1
      have yg : hI h1 A 10 = nI (Yg (gY s)) := T.1.1.2.1.2.1
      refine ⟨h1, ?_, T⟩
      rw [s212_36]
      simp (disch := omega) only [s212_37, s212_38, s212_39, ↓reduceIte, Option.bind_some, Option.toList_some, Option.toList_none, List.cons_append, List.nil_append, if_true, if_false, true_or, or_true, true_and, and_true, not_true_eq_false, not_false_eq_true, Nat.reduceLT, Nat.reduceLeDiff, Nat.reduceEqDiff, Nat.reduceAdd, Nat.reduceMul, Nat.reduceSub, Nat.reducePow, Nat.reduceMod, Nat.reduceDiv, l0, l1, l2, l3, l4, l5, l6, l7, l8, l9, l10, l11, l12, l13, l14, l15, l16, l20, l31, l32, l36, l40, l48, l57, l59, l63, l64, l97, l99, l100, l101, l122, l127, l128, l250, l255, l262143, l262144, l30000, l100000, l12345, l1024, l4095, nI_eqs, nI_les, nI_lts, qI_eq, qI_eqn, nI_eqq, qI_lts, nI_ltp, nI_lep, qI_les, nI_add, nI_mul, qI_add, qI_s, qI_def, nI_clamps, bI_z, bI_o, bI_01, n01, n11, rf_some, rf_none, m1, m1n, bft, c0, yg, Nat.le_refl]
    | succ l ih =>
      intro g h1 r hc hg T
      have h1' : ¬ Yg (gY s) ≤ g := by omega
      have c0 := T.1.1.1.1
      have yg : hI h1 A 10 = nI (Yg (gY s)) := T.1.1.2.1.2.1
      have oo := T.2.2.1.1.1
      obtain ⟨h2, e183, T2⟩ := T.try (d + 1) (show g < Yg (gY s) by omega) hc none
      have S : thR (gY s) c (l + 1) g r = if lt1 (gY s) g (r (YU (gY s) g)) c = true then thR (gY s) c l (g + 1) (fup r (YU (gY s) g) (stp (gY s) g (r (YU (gY s) g)) c)) else none := rfl
      rw [S]
      cases lq : lt1 (gY s) g (r (YU (gY s) g)) c <;> rw [lq] at e183
      · rw [if_neg (by decide)]
        refine ⟨h2, ?_, T2.1, T2.2.2.2.1, T2.2.2.2.2⟩
        rw [s212_36]
        simp (disch := omega) only [s212_37, s212_38, s212_39, s212_40, s212_41, s212_42, s212_43, s212_44, s212_45, s212_46, ↓reduceIte, Option.bind_some, Option.toList_some, Option.toList_none, List.cons_append, List.nil_append, if_true, if_false, true_or, or_true, true_and, and_true, not_true_eq_false, not_false_eq_true, Nat.reduceLT, Nat.reduceLeDiff, Nat.reduceEqDiff, Nat.reduceAdd, Nat.reduceMul, Nat.reduceSub, Nat.reducePow, Nat.reduceMod, Nat.reduceDiv, l0, l1, l2, l3, l4, l5, l6, l7, l8, l9, l10, l11, l12, l13, l14, l15, l16, l20, l31, l32, l36, l40, l48, l57, l59, l63, l64, l97, l99, l100, l101, l122, l127, l128, l250, l255, l262143, l262144, l30000, l100000, l12345, l1024, l4095, nI_eqs, nI_les, nI_lts, qI_eq, qI_eqn, nI_eqq, qI_lts, nI_ltp, nI_lep, qI_les, nI_add, nI_mul, qI_add, qI_s, qI_def, nI_clamps, bI_z, bI_o, bI_01, n01, n11, rf_some, rf_none, m1, m1n, bft, c0, yg, oo, h1', e183, bI_f]
      · rw [if_pos rfl]
        have i1 := ih (g + 1) h2 _ hc (by omega) T2
        have st : E (d + 4) 212 36 [some (.ref A), some (.int (nI m)), some (.int (nI row)), some (.ref o), some (.int (nI b)), some (.int (nI i)), some (.int (nI c)), some (.int (nI g))] [] h1 = E (d + 4) 212 36 [some (.ref A), some (.int (nI m)), some (.int (nI row)), some (.ref o), some (.int (nI b)), some (.int (nI i)), some (.int (nI c)), some (.int (nI (g + 1)))] [] h2 := by
          rw [s212_36]
          simp (disch := omega) only [s212_37, s212_38, s212_39, s212_40, s212_41, s212_42, s212_43, s212_44, s212_47, s212_48, ↓reduceIte, Option.bind_some, Option.toList_some, Option.toList_none, List.cons_append, List.nil_append, if_true, if_false, true_or, or_true, true_and, and_true, not_true_eq_false, not_false_eq_true, Nat.reduceLT, Nat.reduceLeDiff, Nat.reduceEqDiff, Nat.reduceAdd, Nat.reduceMul, Nat.reduceSub, Nat.reducePow, Nat.reduceMod, Nat.reduceDiv, l0, l1, l2, l3, l4, l5, l6, l7, l8, l9, l10, l11, l12, l13, l14, l15, l16, l20, l31, l32, l36, l40, l48, l57, l59, l63, l64, l97, l99, l100, l101, l122, l127, l128, l250, l255, l262143, l262144, l30000, l100000, l12345, l1024, l4095, nI_eqs, nI_les, nI_lts, qI_eq, qI_eqn, nI_eqq, qI_lts, nI_ltp, nI_lep, qI_les, nI_add, nI_mul, qI_add, qI_s, qI_def, nI_clamps, bI_z, bI_o, bI_01, n01, n11, rf_some, rf_none, m1, m1n, bft, c0, yg, oo, h1', e183, bI_t, Bool.true_eq_false]
        rw [st]; exact i1
  -- the places
  have lp : ∀ l i b h1 r p6 p7, i + l = m → (∀ k, l = k + 1 → b = Yc (gY s) ^ k) → TR h0 h1 A s W o r → ∃ h2, E (d + 4) 212 19 [some (.ref A), some (.int (nI m)), some (.int (nI row)), some (.ref o), some (.int (nI b)), some (.int (nI i)), p6, p7] [] h1 = some (some (.int (bI (ky (gY s) l row r))), h2) ∧ XM h0 h2 A s W := by
    intro l
    induction l with
    | zero =>
      intro i b h1 r p6 p7 hi hb T
      have hi' : i = m := hi
      subst hi'
      refine ⟨h1, ?_, T.1, T.2.2.2.1, T.2.2.2.2⟩
      rw [s212_19]
      simp (disch := omega) only [s212_20, s212_21, s212_51, s212_52, ↓reduceIte, Option.bind_some, Option.toList_some, Option.toList_none, List.cons_append, List.nil_append, if_true, if_false, true_or, or_true, true_and, and_true, not_true_eq_false, not_false_eq_true, Nat.reduceLT, Nat.reduceLeDiff, Nat.reduceEqDiff, Nat.reduceAdd, Nat.reduceMul, Nat.reduceSub, Nat.reducePow, Nat.reduceMod, Nat.reduceDiv, l0, l1, l2, l3, l4, l5, l6, l7, l8, l9, l10, l11, l12, l13, l14, l15, l16, l20, l31, l32, l36, l40, l48, l57, l59, l63, l64, l97, l99, l100, l101, l122, l127, l128, l250, l255, l262143, l262144, l30000, l100000, l12345, l1024, l4095, nI_eqs, nI_les, nI_lts, qI_eq, qI_eqn, nI_eqq, qI_lts, nI_ltp, nI_lep, qI_les, nI_add, nI_mul, qI_add, qI_s, qI_def, nI_clamps, bI_z, bI_o, bI_01, n01, n11, rf_some, rf_none, m1, m1n, bft, Nat.le_refl]
      rfl
    | succ l ih =>
      intro i b h1 r p6 p7 hi hb T
      have hb' := hb l rfl
      subst hb'
      obtain ⟨pl, pp⟩ := p3le l (by omega)
      have h1' : ¬ m ≤ i := by omega
      have c0 := T.1.1.1.1
      have yc : hI h1 A 9 = nI (Yc (gY s)) := T.1.1.2.1.1
      generalize hw : Yc (gY s) ^ l = w at *
      have w0 : ¬ w = 0 := by omega
      have y0 : ¬ Yc (gY s) = 0 := by omega
      have dw : row / w ≤ row := Nat.div_le_self _ _
      have dv := nI_div (a := row) (b := w) (by omega) (by omega)
      have dv2 := nI_div (a := row / w) (b := Yc (gY s)) (by omega) (by omega)
      have dv3 := nI_div (a := w) (b := Yc (gY s)) (by omega) (by omega)
      have rm2 : nI (row / w) - nI (row / w / Yc (gY s) * Yc (gY s)) = nI (row / w % Yc (gY s)) := by
        rw [nI_sub (Nat.div_mul_le_self _ _)]
        congr 1
        have := Nat.div_add_mod (row / w) (Yc (gY s))
        rw [Nat.mul_comm] at this
        omega
      have cl : row / w % Yc (gY s) < Yc (gY s) := Nat.mod_lt _ (by omega)
      have S : ky (gY s) (l + 1) row r = thX (thR (gY s) (row / Yc (gY s) ^ l % Yc (gY s)) (Yg (gY s)) 0 r) false (fun r' => ky (gY s) l row r') := rfl
      rw [S, hw]
      have i1 := lg (row / w % Yc (gY s)) (w / Yc (gY s)) i (Yg (gY s)) 0 h1 r cl (by omega) T
      have st : E (d + 4) 212 19 [some (.ref A), some (.int (nI m)), some (.int (nI row)), some (.ref o), some (.int (nI w)), some (.int (nI i)), p6, p7] [] h1 = E (d + 4) 212 36 [some (.ref A), some (.int (nI m)), some (.int (nI row)), some (.ref o), some (.int (nI (w / Yc (gY s)))), some (.int (nI i)), some (.int (nI (row / w % Yc (gY s)))), some (.int (nI 0))] [] h1 := by
        rw [s212_19]
        simp (disch := omega) only [s212_20, s212_21, s212_22, s212_23, s212_24, s212_25, s212_26, s212_27, s212_28, s212_29, s212_30, s212_31, s212_32, s212_33, s212_34, s212_35, ↓reduceIte, Option.bind_some, Option.toList_some, Option.toList_none, List.cons_append, List.nil_append, if_true, if_false, true_or, or_true, true_and, and_true, not_true_eq_false, not_false_eq_true, Nat.reduceLT, Nat.reduceLeDiff, Nat.reduceEqDiff, Nat.reduceAdd, Nat.reduceMul, Nat.reduceSub, Nat.reducePow, Nat.reduceMod, Nat.reduceDiv, l0, l1, l2, l3, l4, l5, l6, l7, l8, l9, l10, l11, l12, l13, l14, l15, l16, l20, l31, l32, l36, l40, l48, l57, l59, l63, l64, l97, l99, l100, l101, l122, l127, l128, l250, l255, l262143, l262144, l30000, l100000, l12345, l1024, l4095, nI_eqs, nI_les, nI_lts, qI_eq, qI_eqn, nI_eqq, qI_lts, nI_ltp, nI_lep, qI_les, nI_add, nI_mul, qI_add, qI_s, qI_def, nI_clamps, bI_z, bI_o, bI_01, n01, n11, rf_some, rf_none, m1, m1n, bft, c0, yc, h1', w0, y0, dv, dv2, dv3, rm2]
      rw [st]
      cases th : thR (gY s) (row / w % Yc (gY s)) (Yg (gY s)) 0 r with
      | none =>
        rw [th] at i1
        exact i1
      | some r' =>
        rw [th] at i1
        obtain ⟨h2, e2, T2⟩ := i1
        obtain ⟨h3, e3, X3⟩ := ih (i + 1) (w / Yc (gY s)) h2 r' (some (.int (nI (row / w % Yc (gY s))))) (some (.int (nI (Yg (gY s))))) (by omega) (fun k hk => by
          rw [← hw, hk, Nat.pow_succ, Nat.mul_div_cancel _ (by omega)]) T2
        refine ⟨h3, ?_, X3⟩
        rw [e2]
        simp (disch := omega) only [s212_49, s212_50, ↓reduceIte, Option.bind_some, Option.toList_some, Option.toList_none, List.cons_append, List.nil_append, if_true, if_false, true_or, or_true, true_and, and_true, not_true_eq_false, not_false_eq_true, Nat.reduceLT, Nat.reduceLeDiff, Nat.reduceEqDiff, Nat.reduceAdd, Nat.reduceMul, Nat.reduceSub, Nat.reducePow, Nat.reduceMod, Nat.reduceDiv, l0, l1, l2, l3, l4, l5, l6, l7, l8, l9, l10, l11, l12, l13, l14, l15, l16, l20, l31, l32, l36, l40, l48, l57, l59, l63, l64, l97, l99, l100, l101, l122, l127, l128, l250, l255, l262143, l262144, l30000, l100000, l12345, l1024, l4095, nI_eqs, nI_les, nI_lts, qI_eq, qI_eqn, nI_eqq, qI_lts, nI_ltp, nI_lep, qI_les, nI_add, nI_mul, qI_add, qI_s, qI_def, nI_clamps, bI_z, bI_o, bI_01, n01, n11, rf_some, rf_none, m1, m1n, bft]
        exact e3
  by_cases m0 : m = 0
  · subst m0
    obtain ⟨h2, e2, X2⟩ := lp 0 0 1 h1 _ p6 p7 rfl (fun k hk => by omega) T1
    refine ⟨h2, ?_, X2⟩
    simp (disch := omega) only [s212_0, s212_1, s212_2, s212_3, s212_4, s212_5, s212_6, s212_7, s212_8, s212_9, s212_10, s212_11, s212_12, s212_13, s212_14, s212_15, s212_16, s212_17, s212_18, s212_7, ↓reduceIte, Option.bind_some, Option.toList_some, Option.toList_none, List.cons_append, List.nil_append, if_true, if_false, true_or, or_true, true_and, and_true, not_true_eq_false, not_false_eq_true, Nat.reduceLT, Nat.reduceLeDiff, Nat.reduceEqDiff, Nat.reduceAdd, Nat.reduceMul, Nat.reduceSub, Nat.reducePow, Nat.reduceMod, Nat.reduceDiv, l0, l1, l2, l3, l4, l5, l6, l7, l8, l9, l10, l11, l12, l13, l14, l15, l16, l20, l31, l32, l36, l40, l48, l57, l59, l63, l64, l97, l99, l100, l101, l122, l127, l128, l250, l255, l262143, l262144, l30000, l100000, l12345, l1024, l4095, nI_eqs, nI_les, nI_lts, qI_eq, qI_eqn, nI_eqq, qI_lts, nI_ltp, nI_lep, qI_les, nI_add, nI_mul, qI_add, qI_s, qI_def, nI_clamps, bI_z, bI_o, bI_01, n01, n11, rf_some, rf_none, m1, m1n, bft, b0, e225, Nat.zero_le]
    exact e2
  · obtain ⟨i', e | e⟩ := lb (m - 1) 1 p6 p7 (by omega)
    · obtain ⟨h2, e2, X2⟩ := lp m 0 (Yc (gY s) ^ (m - 1)) h1 _ p6 p7 (by omega) (fun k hk => by rw [hk]; rfl) T1
      refine ⟨h2, ?_, X2⟩
      have e' : E (d + 4) 212 7 [some (.ref A), some (.int (nI m)), some (.int (nI row)), some (.ref o), some (.int (nI 1)), some (.int (nI 1)), p6, p7] [] h1 = _ := e
      simp (disch := omega) only [s212_0, s212_1, s212_2, s212_3, s212_4, s212_5, s212_6, ↓reduceIte, Option.bind_some, Option.toList_some, Option.toList_none, List.cons_append, List.nil_append, if_true, if_false, true_or, or_true, true_and, and_true, not_true_eq_false, not_false_eq_true, Nat.reduceLT, Nat.reduceLeDiff, Nat.reduceEqDiff, Nat.reduceAdd, Nat.reduceMul, Nat.reduceSub, Nat.reducePow, Nat.reduceMod, Nat.reduceDiv, l0, l1, l2, l3, l4, l5, l6, l7, l8, l9, l10, l11, l12, l13, l14, l15, l16, l20, l31, l32, l36, l40, l48, l57, l59, l63, l64, l97, l99, l100, l101, l122, l127, l128, l250, l255, l262143, l262144, l30000, l100000, l12345, l1024, l4095, nI_eqs, nI_les, nI_lts, qI_eq, qI_eqn, nI_eqq, qI_lts, nI_ltp, nI_lep, qI_les, nI_add, nI_mul, qI_add, qI_s, qI_def, nI_clamps, bI_z, bI_o, bI_01, n01, n11, rf_some, rf_none, m1, m1n, bft, b0, e225]
      rw [e']
      simp (disch := omega) only [s212_17, s212_18, ↓reduceIte, Option.bind_some, Option.toList_some, Option.toList_none, List.cons_append, List.nil_append, if_true, if_false, true_or, or_true, true_and, and_true, not_true_eq_false, not_false_eq_true, Nat.reduceLT, Nat.reduceLeDiff, Nat.reduceEqDiff, Nat.reduceAdd, Nat.reduceMul, Nat.reduceSub, Nat.reducePow, Nat.reduceMod, Nat.reduceDiv, l0, l1, l2, l3, l4, l5, l6, l7, l8, l9, l10, l11, l12, l13, l14, l15, l16, l20, l31, l32, l36, l40, l48, l57, l59, l63, l64, l97, l99, l100, l101, l122, l127, l128, l250, l255, l262143, l262144, l30000, l100000, l12345, l1024, l4095, nI_eqs, nI_les, nI_lts, qI_eq, qI_eqn, nI_eqq, qI_lts, nI_ltp, nI_lep, qI_les, nI_add, nI_mul, qI_add, qI_s, qI_def, nI_clamps, bI_z, bI_o, bI_01, n01, n11, rf_some, rf_none, m1, m1n, bft]
      exact e2
    · omega
theorem m213 (d : Nat) {h : AH} {A : Nat} {s : GS} {W : Nat → Prop} (hx : MX h A s W) {m : Nat} (hm : m ≤ 6) (p2 p3 : Option Value) : E (d + 1) 213 0 [some (.ref A), some (.int (nI m)), p2, p3] [] h = some (some (.int (nI (Yc (gY s) ^ m))), h) := by
  have c0 := hx.1.1.1
  have yc : hI h A 9 = nI (Yc (gY s)) := hx.1.2.1.1
  have lp : ∀ l i, i + l = m → E (d + 1) 213 4 [some (.ref A), some (.int (nI m)), some (.int (nI (Yc (gY s) ^ i))), some (.int (nI i))] [] h = some (some (.int (nI (Yc (gY s) ^ m))), h) := by
    intro l
    induction l with
    | zero =>
      intro i hi
      have hi' : i = m := hi
      subst hi'
      rw [s213_4]
      simp (disch := omega) only [s213_5, s213_6, s213_7, s213_8, s213_9, s213_10, s213_11, s213_12, s213_13, s213_14, s213_15, ↓reduceIte, Option.bind_some, Option.toList_some, Option.toList_none, List.cons_append, List.nil_append, if_true, if_false, true_or, or_true, true_and, and_true, not_true_eq_false, not_false_eq_true, Nat.reduceLT, Nat.reduceLeDiff, Nat.reduceEqDiff, Nat.reduceAdd, Nat.reduceMul, Nat.reduceSub, Nat.reducePow, Nat.reduceMod, Nat.reduceDiv, l0, l1, l2, l3, l4, l5, l6, l7, l8, l9, l10, l11, l12, l13, l14, l15, l16, l20, l31, l32, l36, l40, l48, l57, l59, l63, l64, l97, l99, l100, l101, l122, l127, l128, l250, l255, l262143, l262144, l30000, l100000, l12345, l1024, l4095, nI_eqs, nI_les, nI_lts, qI_eq, qI_eqn, nI_eqq, qI_lts, nI_ltp, nI_lep, qI_les, nI_add, nI_mul, qI_add, qI_s, qI_def, nI_clamps, bI_z, bI_o, bI_01, n01, n11, rf_some, rf_none, m1, m1n, bft, Nat.le_refl]
    | succ l ih =>
      intro i hi
      have h1' : ¬ m ≤ i := by omega
      have pw := (Nat.pow_succ (n := Yc (gY s)) (m := i)).symm
      rw [← ih (i + 1) (by omega), s213_4]
      simp (disch := omega) only [s213_5, s213_6, s213_7, s213_8, s213_9, s213_10, s213_11, s213_12, s213_13, ↓reduceIte, Option.bind_some, Option.toList_some, Option.toList_none, List.cons_append, List.nil_append, if_true, if_false, true_or, or_true, true_and, and_true, not_true_eq_false, not_false_eq_true, Nat.reduceLT, Nat.reduceLeDiff, Nat.reduceEqDiff, Nat.reduceAdd, Nat.reduceMul, Nat.reduceSub, Nat.reducePow, Nat.reduceMod, Nat.reduceDiv, l0, l1, l2, l3, l4, l5, l6, l7, l8, l9, l10, l11, l12, l13, l14, l15, l16, l20, l31, l32, l36, l40, l48, l57, l59, l63, l64, l97, l99, l100, l101, l122, l127, l128, l250, l255, l262143, l262144, l30000, l100000, l12345, l1024, l4095, nI_eqs, nI_les, nI_lts, qI_eq, qI_eqn, nI_eqq, qI_lts, nI_ltp, nI_lep, qI_les, nI_add, nI_mul, qI_add, qI_s, qI_def, nI_clamps, bI_z, bI_o, bI_01, n01, n11, rf_some, rf_none, m1, m1n, bft, h1', c0, yc, pw]
  have i1 := lp m 0 (by omega)
  rw [Nat.pow_zero] at i1
  simp (disch := omega) only [s213_0, s213_1, s213_2, s213_3, ↓reduceIte, Option.bind_some, Option.toList_some, Option.toList_none, List.cons_append, List.nil_append, if_true, if_false, true_or, or_true, true_and, and_true, not_true_eq_false, not_false_eq_true, Nat.reduceLT, Nat.reduceLeDiff, Nat.reduceEqDiff, Nat.reduceAdd, Nat.reduceMul, Nat.reduceSub, Nat.reducePow, Nat.reduceMod, Nat.reduceDiv, l0, l1, l2, l3, l4, l5, l6, l7, l8, l9, l10, l11, l12, l13, l14, l15, l16, l20, l31, l32, l36, l40, l48, l57, l59, l63, l64, l97, l99, l100, l101, l122, l127, l128, l250, l255, l262143, l262144, l30000, l100000, l12345, l1024, l4095, nI_eqs, nI_les, nI_lts, qI_eq, qI_eqn, nI_eqq, qI_lts, nI_ltp, nI_lep, qI_les, nI_add, nI_mul, qI_add, qI_s, qI_def, nI_clamps, bI_z, bI_o, bI_01, n01, n11, rf_some, rf_none, m1, m1n, bft]
  exact i1
