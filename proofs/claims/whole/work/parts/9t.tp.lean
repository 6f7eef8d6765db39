/-! A YARD READ, the reference -/
theorem tkL_ge (n : Nat) (b : Nat → Nat) (e : Nat) : e ≤ (tkL n b e).2.1 ∧ (tkL n b e).2.1 ≤ (tkL n b e).2.2 ∧ ((tkL n b e).1 ≠ 0 → (tkL n b e).2.1 < (tkL n b e).2.2) ∧ ((tkL n b e).1 = 0 → e ≤ n → (tkL n b e).2.1 = n) ∧ ((tkL n b e).1 ≠ 0 → (tkL n b e).2.1 < n) := by
  have fl := spn_le isS b (n - e) e
  unfold tkL
  generalize spn isS b (n - e) e = f at *
  have f1 := spn_le isL b (n - f) f
  have f2 := spn_le isD b (n - f) f
  split
  · exact ⟨fl.1, Nat.le_refl _, fun w => absurd rfl w, fun _ _ => by dsimp only; omega, fun w => absurd rfl w⟩
  · rename_i z
    obtain ⟨l, hl⟩ : ∃ l, n - f = l + 1 := ⟨n - f - 1, by omega⟩
    split
    · rename_i z1
      refine ⟨fl.1, f1.1, fun _ => ?_, fun w => absurd w (show ¬ (1 : Nat) = 0 by decide), fun _ => by dsimp only; omega⟩
      dsimp only
      have g := spn_le isL b l (f + 1)
      have : spn isL b (n - f) f = spn isL b l (f + 1) := by
        rw [hl]
        show (if isL (b f) = true then spn isL b l (f + 1) else f) = _
        rw [if_pos z1]
      omega
    · split
      · rename_i z1
        refine ⟨fl.1, f2.1, fun _ => ?_, fun w => absurd w (show ¬ (2 : Nat) = 0 by decide), fun _ => by dsimp only; omega⟩
        dsimp only
        have g := spn_le isD b l (f + 1)
        have : spn isD b (n - f) f = spn isD b l (f + 1) := by
          rw [hl]
          show (if isD (b f) = true then spn isD b l (f + 1) else f) = _
          rw [if_pos z1]
        omega
      · refine ⟨fl.1, Nat.le_succ _, fun _ => Nat.lt_succ_self _, fun w => ?_, fun _ => by dsimp only; omega⟩
        dsimp only at w
        split at w <;> omega
theorem kn2_pr {n g c : Nat} {b : Nat → Nat} {y : YS} {t : Nat × Nat × Nat} {r : YS × (Nat × Nat × Nat)} (ht : t.2.1 ≤ t.2.2) (h : stKnows2 n b y g c t = .inl r) : t.2.1 ≤ r.2.2.1 := by
  have g1 := tkL_ge n b t.2.2
  have g2 := tkL_ge n b (tkL n b t.2.2).2.2
  unfold stKnows2 at h
  split at h
  · split at h
    · cases h; dsimp only; omega
    · cases h
  · cases h; dsimp only; omega
theorem kn_pr {n g : Nat} {b : Nat → Nat} {y : YS} {t : Nat × Nat × Nat} {r : YS × (Nat × Nat × Nat)} (ht : t.2.1 ≤ t.2.2) (h : stKnows n b y g t = .inl r) : t.2.1 ≤ r.2.2.1 := by
  have g1 := tkL_ge n b t.2.2
  have g2 := tkL_ge n b (tkL n b t.2.2).2.2
  unfold stKnows at h
  split at h
  · split at h
    · have := kn2_pr g2.2.1 h; omega
    · cases h
  · cases h; dsimp only; omega
theorem st_pr {n : Nat} {b : Nat → Nat} {y : YS} {t : Nat × Nat × Nat} {r : YS × (Nat × Nat × Nat)} (ht : t.1 ≠ 0 → t.2.1 < t.2.2) (h : stS n b y t = .inl r) : t.2.1 < r.2.2.1 := by
  have g1 := tkL_ge n b t.2.2
  have g2 := tkL_ge n b (tkL n b t.2.2).2.2
  have g3 := tkL_ge n b (tkL n b (tkL n b t.2.2).2.2).2.2
  have g4 := tkL_ge n b (tkL n b (tkL n b (tkL n b t.2.2).2.2).2.2).2.2
  have ww : ∀ w, isW b t w = true → t.2.1 < t.2.2 := fun w hw => by
    apply ht
    unfold isW at hw
    split at hw
    · rename_i c; rw [c.1]; decide
    · exact Bool.noConfusion hw
  unfold stS at h
  split at h
  · rename_i w
    have w := ww _ w
    unfold stColours at h
    split at h
    · split at h
      · cases h; dsimp only; omega
      · cases h
    · cases h
  · split at h
    · rename_i w
      have w := ww _ w
      unfold stGate at h
      split at h
      · split at h
        · split at h
          · have := kn_pr g3.2.1 h; omega
          · cases h
        · cases h
      · cases h
    · split at h
      · rename_i w
        have w := ww _ w
        unfold stCart at h
        split at h
        · split at h
          · unfold stAt at h
            split at h
            · split at h
              · cases h; dsimp only; omega
              · cases h
            · cases h; dsimp only; omega
          · cases h
        · cases h
      · split at h
        · rename_i w
          have w := ww _ w
          unfold stShare at h
          split at h
          · split at h
            · cases h; dsimp only; omega
            · cases h
          · cases h
        · split at h
          · rename_i w
            have w := ww _ w
            unfold stForget at h
            split at h
            · cases h; dsimp only; omega
            · cases h
          · cases h
theorem st_end {n : Nat} {b : Nat → Nat} {y : YS} {t : Nat × Nat × Nat} (h : t.1 ≠ 1) : stS n b y t = .inr t.2.1 := by
  have ww : ∀ w, isW b t w = false := fun w => by
    unfold isW; rw [if_neg (fun q => h q.1)]
  unfold stS
  rw [ww, if_neg (by decide), ww, if_neg (by decide), ww, if_neg (by decide), ww, if_neg (by decide), ww, if_neg (by decide)]
def FN (A : Nat) (h h' : AH) : Prop := Fr0 (fun a => yA A a ∨ a = A + 25) h h' ∧ ∀ j, j < 24 → yFl j = false → hI h' A j = hI h A j
theorem FN.trans {A : Nat} {h h1 h2 : AH} (f : FN A h h1) (g : FN A h1 h2) : FN A h h2 := ⟨f.1.trans g.1, fun j hj hk => (g.2 j hj hk).trans (f.2 j hj hk)⟩
theorem FM.fn {A : Nat} {h h' : AH} (f : FM A h h') : FN A h h' := ⟨f.1, fun j hj => f.2 j (Or.inl hj)⟩
theorem FN.st {A : Nat} (h : AH) {k : Nat} (hk : 24 ≤ k) (v : Int32) : FN A h (stI h A k v) := ⟨Fr0.stI (A := fun a => yA A a ∨ a = A + 25) _ (Or.inl (Or.inl rfl)) _ _, fun j hj _ => by rw [hI_stI, if_neg (fun w => by omega)]⟩
def NR (A n : Nat) (b : Nat → Nat) (h : AH) (e : Option (Option Value × AH)) (r : (Nat × YS) ⊕ Nat) : Prop := match r with
  | .inl r => ∃ h' e', e = some (some (.int (nI 1)), h') ∧ PN h' A n b r.2 e' ∧ hI h' A 30 = nI r.1 ∧ FN A h h'
  | .inr p => ∃ h', e = some (some (.int (nI 0)), h') ∧ FN A h h' ∧ hI h' A 28 = nI p
theorem NR.pre {A n : Nat} {b : Nat → Nat} {h h1 : AH} {e : Option (Option Value × AH)} {r : (Nat × YS) ⊕ Nat} (f : FN A h h1) (q : NR A n b h1 e r) : NR A n b h e r := by
  cases r with
  | inl z =>
    obtain ⟨h', e', a1, a2, a3, a4⟩ := q
    exact ⟨h', e', a1, a2, a3, f.trans a4⟩
  | inr p =>
    obtain ⟨h', a1, a3, a4⟩ := q
    exact ⟨h', a1, f.trans a3, a4⟩
theorem PN.k30 {h : AH} {A n e : Nat} {b : Nat → Nat} {y : YS} (q : PN h A n b y e) (v : Int32) : PN (stI h A 30 v) A n b y e := by
  obtain ⟨q1, ⟨t1, t2, t3, t4⟩, q3, q4, q5⟩ := q
  obtain ⟨a1, a2, a3, a4, a5, a6⟩ := q1
  refine ⟨⟨a1, a2, a3, ?_, a5, fun i hi => ?_⟩, ⟨?_, ?_, ?_, ?_⟩, q3, ⟨q4.1, q4.2.1.fx (fun j hj => ?_) (fun b h1 h2 j => ?_), q4.2.2⟩, q5⟩
  · rw [hI_stI, if_neg (fun w => by omega)]; exact a4
  · rw [hI_stI, if_neg (fun w => by omega)]; exact a6 i hi
  · rw [hI_stI, if_neg (fun w => by omega)]; exact t1
  · rw [hI_stI, if_neg (fun w => by omega)]; exact t2
  · rw [hI_stI, if_neg (fun w => by omega)]; exact t3
  · rw [hI_stI, if_neg (fun w => by omega)]; exact t4
  · unfold yFl at hj; simp only [Bool.or_eq_true, beq_iff_eq] at hj
    rw [hI_stI, if_neg (fun w => by omega)]
  · rw [hI_stI, if_neg (fun w => by omega)]
def rd3 (n : Nat) (b : Nat → Nat) (m : Nat) (y : YS) (t : Nat × Nat × Nat) (k : Nat) : (Nat × YS) ⊕ Nat := if t.1 = 0 then .inl (k, y) else if t.1 = 3 then rdS n b m y (tkL n b t.2.2) (k + 1) else .inr t.2.1
theorem rdS_s (n : Nat) (b : Nat → Nat) (m : Nat) (y : YS) (t : Nat × Nat × Nat) (k : Nat) : rdS n b (m + 1) y t k = match stS n b y t with
    | .inr p => .inr p
    | .inl r => rd3 n b m r.1 r.2 k := rfl
theorem n176 (d : Nat) {A n : Nat} {b : Nat → Nat} : ∀ m k h y e, ((tkL n b e).1 = 3 → n ≤ m + (tkL n b (tkL n b e).2.2).2.1) → k + m ≤ 250 → hI h A 30 = nI k → PN h A n b y e → WM h → NR A n b h (E (d + 6) 176 13 [some (.ref A)] [] h) (rd3 n b m y (tkL n b e) k) := by
  intro m
  induction m with
  | zero =>
    intro k h y e i1 i2 k1 q w
    have a1 := q.1.1
    obtain ⟨t1, t2, t3, t4⟩ := q.2.1
    have ok := q.tok
    unfold rd3
    by_cases z0 : (tkL n b e).1 = 0
    · rw [if_pos z0]
      rw [z0] at t1
      refine ⟨h, e, ?_, q, k1, (FM.refl _ _).fn⟩
      rw [s176_13]
      simp (disch := omega) only [s176_14, s176_15, s176_37, s176_38, ↓reduceIte, Option.bind_some, Option.toList_some, Option.toList_none, List.cons_append, List.nil_append, if_true, if_false, true_or, or_true, true_and, and_true, not_true_eq_false, not_false_eq_true, Nat.reduceLT, Nat.reduceLeDiff, Nat.reduceEqDiff, Nat.reduceAdd, Nat.reduceMul, Nat.reduceSub, Nat.reducePow, Nat.reduceMod, Nat.reduceDiv, l0, l1, l2, l3, l4, l5, l6, l7, l8, l9, l10, l11, l12, l13, l14, l15, l16, l20, l31, l32, l36, l40, l48, l57, l59, l63, l64, l97, l99, l100, l101, l122, l127, l128, l250, l255, l262143, l262144, l30000, l100000, l12345, l1024, l4095, nI_eqs, nI_les, nI_lts, qI_eq, qI_eqn, nI_eqq, qI_lts, nI_ltp, nI_lep, qI_les, nI_add, nI_mul, qI_add, qI_s, qI_def, nI_clamps, bI_z, bI_o, bI_01, n01, n11, rf_some, rf_none, m1, m1n, bft, a1, t1]
    · rw [if_neg z0]
      by_cases z3 : (tkL n b e).1 = 3
      · rw [if_pos z3]
        have i1 := i1 z3
        rw [z3] at t1
        obtain ⟨h2, e2, f2, T2⟩ := m167 (d + 4) q.1 ok.2.2.1 t3
        have F2 := f2.ag.fm
        have q2 : PN h2 A n b y (tkL n b e).2.2 := ⟨q.1.af f2, T2, ok.2.2.1, q.2.2.2.1.ag f2.ag, q.2.2.2.2.fm F2⟩
        have m := m175 d q2 (w.kx F2.1.2.2.1 F2.1.2.2.2.1) none
        have g := tkL_ge n b (tkL n b e).2.2
        have te : (tkL n b (tkL n b e).2.2).1 = 0 := Classical.byContradiction fun w => by have := g.2.2.2.2 w; omega
        rw [st_end (by rw [te]; decide)] at m
        obtain ⟨h3, e3, f3, k3⟩ := m
        refine ⟨h3, ?_, (F2.trans f3).fn, k3⟩
        have b1 := q2.1.1
        rw [s176_13]
        simp (disch := omega) only [s176_14, s176_15, s176_16, s176_17, s176_18, s176_19, s176_23, s176_24, s176_25, s176_26, s176_27, s176_28, s176_29, ↓reduceIte, Option.bind_some, Option.toList_some, Option.toList_none, List.cons_append, List.nil_append, if_true, if_false, true_or, or_true, true_and, and_true, not_true_eq_false, not_false_eq_true, Nat.reduceLT, Nat.reduceLeDiff, Nat.reduceEqDiff, Nat.reduceAdd, Nat.reduceMul, Nat.reduceSub, Nat.reducePow, Nat.reduceMod, Nat.reduceDiv, l0, l1, l2, l3, l4, l5, l6, l7, l8, l9, l10, l11, l12, l13, l14, l15, l16, l20, l31, l32, l36, l40, l48, l57, l59, l63, l64, l97, l99, l100, l101, l122, l127, l128, l250, l255, l262143, l262144, l30000, l100000, l12345, l1024, l4095, nI_eqs, nI_les, nI_lts, qI_eq, qI_eqn, nI_eqq, qI_lts, nI_ltp, nI_lep, qI_les, nI_add, nI_mul, qI_add, qI_s, qI_def, nI_clamps, bI_z, bI_o, bI_01, n01, n11, rf_some, rf_none, m1, m1n, bft, a1, t1, b1, e2, e3]
      · rw [if_neg z3]
        obtain ⟨e1, f1, k1⟩ := q.wrong
        refine ⟨_, ?_, f1.fn, k1⟩
        have z3' : ¬ 3 = (tkL n b e).1 := fun w => z3 w.symm
        have tl := ok.1
        rw [s176_13]
        simp (disch := omega) only [s176_14, s176_15, s176_16, s176_17, s176_18, s176_19, s176_20, s176_21, s176_22, ↓reduceIte, Option.bind_some, Option.toList_some, Option.toList_none, List.cons_append, List.nil_append, if_true, if_false, true_or, or_true, true_and, and_true, not_true_eq_false, not_false_eq_true, Nat.reduceLT, Nat.reduceLeDiff, Nat.reduceEqDiff, Nat.reduceAdd, Nat.reduceMul, Nat.reduceSub, Nat.reducePow, Nat.reduceMod, Nat.reduceDiv, l0, l1, l2, l3, l4, l5, l6, l7, l8, l9, l10, l11, l12, l13, l14, l15, l16, l20, l31, l32, l36, l40, l48, l57, l59, l63, l64, l97, l99, l100, l101, l122, l127, l128, l250, l255, l262143, l262144, l30000, l100000, l12345, l1024, l4095, nI_eqs, nI_les, nI_lts, qI_eq, qI_eqn, nI_eqq, qI_lts, nI_ltp, nI_lep, qI_les, nI_add, nI_mul, qI_add, qI_s, qI_def, nI_clamps, bI_z, bI_o, bI_01, n01, n11, rf_some, rf_none, m1, m1n, bft, a1, t1, e1, z0, z3, z3']
  | succ m ih =>
    intro k h y e i1 i2 k1 q w
    have a1 := q.1.1
    obtain ⟨t1, t2, t3, t4⟩ := q.2.1
    have ok := q.tok
    unfold rd3
    by_cases z0 : (tkL n b e).1 = 0
    · rw [if_pos z0]
      rw [z0] at t1
      refine ⟨h, e, ?_, q, k1, (FM.refl _ _).fn⟩
      rw [s176_13]
      simp (disch := omega) only [s176_14, s176_15, s176_37, s176_38, ↓reduceIte, Option.bind_some, Option.toList_some, Option.toList_none, List.cons_append, List.nil_append, if_true, if_false, true_or, or_true, true_and, and_true, not_true_eq_false, not_false_eq_true, Nat.reduceLT, Nat.reduceLeDiff, Nat.reduceEqDiff, Nat.reduceAdd, Nat.reduceMul, Nat.reduceSub, Nat.reducePow, Nat.reduceMod, Nat.reduceDiv, l0, l1, l2, l3, l4, l5, l6, l7, l8, l9, l10, l11, l12, l13, l14, l15, l16, l20, l31, l32, l36, l40, l48, l57, l59, l63, l64, l97, l99, l100, l101, l122, l127, l128, l250, l255, l262143, l262144, l30000, l100000, l12345, l1024, l4095, nI_eqs, nI_les, nI_lts, qI_eq, qI_eqn, nI_eqq, qI_lts, nI_ltp, nI_lep, qI_les, nI_add, nI_mul, qI_add, qI_s, qI_def, nI_clamps, bI_z, bI_o, bI_01, n01, n11, rf_some, rf_none, m1, m1n, bft, a1, t1]
    · rw [if_neg z0]
      by_cases z3 : (tkL n b e).1 = 3
      · rw [if_pos z3]
        have i1 := i1 z3
        rw [z3] at t1
        obtain ⟨h2, e2, f2, T2⟩ := m167 (d + 4) q.1 ok.2.2.1 t3
        have F2 := f2.ag.fm
        have q2 : PN h2 A n b y (tkL n b e).2.2 := ⟨q.1.af f2, T2, ok.2.2.1, q.2.2.2.1.ag f2.ag, q.2.2.2.2.fm F2⟩
        have w2 := w.kx F2.1.2.2.1 F2.1.2.2.2.1
        have mm := m175 d q2 w2 none
        have g := tkL_ge n b (tkL n b e).2.2
        have b1 := q2.1.1
        have pr := fun r => st_pr (n := n) (b := b) (y := y) (t := tkL n b (tkL n b e).2.2) (r := r) g.2.2.1
        rw [rdS_s]
        generalize stS n b y (tkL n b (tkL n b e).2.2) = r at *
        cases r with
        | inr p =>
          obtain ⟨h3, e3, f3, k3⟩ := mm
          refine ⟨h3, ?_, (F2.trans f3).fn, k3⟩
          rw [s176_13]
          simp (disch := omega) only [s176_14, s176_15, s176_16, s176_17, s176_18, s176_19, s176_23, s176_24, s176_25, s176_26, s176_27, s176_28, s176_29, ↓reduceIte, Option.bind_some, Option.toList_some, Option.toList_none, List.cons_append, List.nil_append, if_true, if_false, true_or, or_true, true_and, and_true, not_true_eq_false, not_false_eq_true, Nat.reduceLT, Nat.reduceLeDiff, Nat.reduceEqDiff, Nat.reduceAdd, Nat.reduceMul, Nat.reduceSub, Nat.reducePow, Nat.reduceMod, Nat.reduceDiv, l0, l1, l2, l3, l4, l5, l6, l7, l8, l9, l10, l11, l12, l13, l14, l15, l16, l20, l31, l32, l36, l40, l48, l57, l59, l63, l64, l97, l99, l100, l101, l122, l127, l128, l250, l255, l262143, l262144, l30000, l100000, l12345, l1024, l4095, nI_eqs, nI_les, nI_lts, qI_eq, qI_eqn, nI_eqq, qI_lts, nI_ltp, nI_lep, qI_les, nI_add, nI_mul, qI_add, qI_s, qI_def, nI_clamps, bI_z, bI_o, bI_01, n01, n11, rf_some, rf_none, m1, m1n, bft, a1, t1, b1, e2, e3]
        | inl r =>
          obtain ⟨y', t'⟩ := r
          obtain ⟨h3, e', e3, q3, t3, f3⟩ := mm
          dsimp only at q3 t3
          subst t3
          have pr := pr _ rfl
          dsimp only at pr
          have k3 : hI h3 A 30 = nI k := by rw [f3.2 30 (Or.inr rfl) (by decide), F2.2 30 (Or.inr rfl) (by decide)]; exact k1
          have q4 := q3.k30 (nI (k + 1))
          have F4 := (F2.trans f3).fn.trans (FN.st h3 (k := 30) (by decide) (nI (k + 1)))
          have c1 := q3.1.1
          have st : E (d + 6) 176 13 [some (.ref A)] [] h = E (d + 6) 176 13 [some (.ref A)] [] (stI h3 A 30 (nI (k + 1))) := by
            rw [s176_13]
            simp (disch := omega) only [s176_14, s176_15, s176_16, s176_17, s176_18, s176_19, s176_23, s176_24, s176_25, s176_26, s176_27, s176_30, s176_31, s176_32, s176_33, s176_34, s176_35, s176_36, ↓reduceIte, Option.bind_some, Option.toList_some, Option.toList_none, List.cons_append, List.nil_append, if_true, if_false, true_or, or_true, true_and, and_true, not_true_eq_false, not_false_eq_true, Nat.reduceLT, Nat.reduceLeDiff, Nat.reduceEqDiff, Nat.reduceAdd, Nat.reduceMul, Nat.reduceSub, Nat.reducePow, Nat.reduceMod, Nat.reduceDiv, l0, l1, l2, l3, l4, l5, l6, l7, l8, l9, l10, l11, l12, l13, l14, l15, l16, l20, l31, l32, l36, l40, l48, l57, l59, l63, l64, l97, l99, l100, l101, l122, l127, l128, l250, l255, l262143, l262144, l30000, l100000, l12345, l1024, l4095, nI_eqs, nI_les, nI_lts, qI_eq, qI_eqn, nI_eqq, qI_lts, nI_ltp, nI_lep, qI_les, nI_add, nI_mul, qI_add, qI_s, qI_def, nI_clamps, bI_z, bI_o, bI_01, n01, n11, rf_some, rf_none, m1, m1n, bft, a1, t1, b1, c1, e2, e3, k3]
          rw [st]
          refine NR.pre F4 (ih (k + 1) _ y' e' (fun _ => ?_) (by omega) (by rw [hI_stI, if_pos ⟨rfl, rfl⟩]) q4 (w.kx F4.1.2.2.1 F4.1.2.2.2.1))
          have g1 := tkL_ge n b e'
          have g2 := tkL_ge n b (tkL n b e').2.2
          omega
      · rw [if_neg z3]
        obtain ⟨e1, f1, k1⟩ := q.wrong
        refine ⟨_, ?_, f1.fn, k1⟩
        have z3' : ¬ 3 = (tkL n b e).1 := fun w => z3 w.symm
        have tl := ok.1
        rw [s176_13]
        simp (disch := omega) only [s176_14, s176_15, s176_16, s176_17, s176_18, s176_19, s176_20, s176_21, s176_22, ↓reduceIte, Option.bind_some, Option.toList_some, Option.toList_none, List.cons_append, List.nil_append, if_true, if_false, true_or, or_true, true_and, and_true, not_true_eq_false, not_false_eq_true, Nat.reduceLT, Nat.reduceLeDiff, Nat.reduceEqDiff, Nat.reduceAdd, Nat.reduceMul, Nat.reduceSub, Nat.reducePow, Nat.reduceMod, Nat.reduceDiv, l0, l1, l2, l3, l4, l5, l6, l7, l8, l9, l10, l11, l12, l13, l14, l15, l16, l20, l31, l32, l36, l40, l48, l57, l59, l63, l64, l97, l99, l100, l101, l122, l127, l128, l250, l255, l262143, l262144, l30000, l100000, l12345, l1024, l4095, nI_eqs, nI_les, nI_lts, qI_eq, qI_eqn, nI_eqq, qI_lts, nI_ltp, nI_lep, qI_les, nI_add, nI_mul, qI_add, qI_s, qI_def, nI_clamps, bI_z, bI_o, bI_01, n01, n11, rf_some, rf_none, m1, m1n, bft, a1, t1, e1, z0, z3, z3']
theorem m176 (d : Nat) {h : AH} {A n : Nat} {b : Nat → Nat} {y : YS} (q : AP h A n b) (my : MY h A y) (tz : TZ h A) (w : WM h) : NR A n b h (E (d + 6) 176 0 [some (.ref A)] [] h) (rdY n b y) := by
  have f1 : FN A h (stI (stI h A 30 (nI 1)) A 24 (nI 0)) := (FN.st h (k := 30) (by decide) _).trans (FN.st _ (k := 24) (by decide) _)
  have a1 := q.1
  have n5 := q.2.2.2.2.1
  have q1 : AP (stI (stI h A 30 (nI 1)) A 24 (nI 0)) A n b := by
    obtain ⟨a1, a2, a3, a4, a5, a6⟩ := q
    refine ⟨a1, a2, a3, ?_, a5, fun i hi => ?_⟩
    · rw [hI_stI, if_neg (fun w => by omega), hI_stI, if_neg (fun w => by omega)]; exact a4
    · rw [hI_stI, if_neg (fun w => by omega), hI_stI, if_neg (fun w => by omega)]; exact a6 i hi
  have m1 : MY (stI (stI h A 30 (nI 1)) A 24 (nI 0)) A y := ⟨my.1.of f1.1, my.2.1.fx (fun j hj => by unfold yFl at hj; simp only [Bool.or_eq_true, beq_iff_eq] at hj; rw [hI_stI, if_neg (fun w => by omega), hI_stI, if_neg (fun w => by omega)]) (fun b h1 h2 j => by rw [hI_stI, if_neg (fun w => by omega), hI_stI, if_neg (fun w => by omega)]), my.2.2⟩
  obtain ⟨h2, e2, f2, T2⟩ := m167 (d + 4) (e := 0) q1 (Nat.zero_le _) (by rw [hI_stI, if_pos ⟨rfl, rfl⟩])
  have F2 := f2.ag.fm
  have F := f1.trans F2.fn
  have w2 := w.kx F.1.2.2.1 F.1.2.2.2.1
  have q2 : PN h2 A n b y 0 := ⟨q1.af f2, T2, Nat.zero_le _, m1.ag f2.ag, by unfold TZ at *; rw [F.1.2.2.2.2.1, F.1.2.2.2.2.2.1]; exact tz⟩
  have k2 : hI h2 A 30 = nI 1 := by rw [F2.2 30 (Or.inr rfl) (by decide), hI_stI, if_neg (fun w => by omega), hI_stI, if_pos ⟨rfl, rfl⟩]
  have mm := m175 d q2 w2 none
  have g := tkL_ge n b 0
  have b1 := q2.1.1
  have pr := fun r => st_pr (n := n) (b := b) (y := y) (t := tkL n b 0) (r := r) g.2.2.1
  unfold rdY
  rw [rdS_s]
  generalize stS n b y (tkL n b 0) = r at *
  cases r with
  | inr p =>
    obtain ⟨h3, e3, f3, k3⟩ := mm
    refine ⟨h3, ?_, F.trans f3.fn, k3⟩
    simp (disch := omega) only [s176_0, s176_1, s176_2, s176_3, s176_4, s176_5, s176_6, s176_7, s176_8, s176_9, s176_10, s176_11, s176_12, ↓reduceIte, Option.bind_some, Option.toList_some, Option.toList_none, List.cons_append, List.nil_append, if_true, if_false, true_or, or_true, true_and, and_true, not_true_eq_false, not_false_eq_true, Nat.reduceLT, Nat.reduceLeDiff, Nat.reduceEqDiff, Nat.reduceAdd, Nat.reduceMul, Nat.reduceSub, Nat.reducePow, Nat.reduceMod, Nat.reduceDiv, l0, l1, l2, l3, l4, l5, l6, l7, l8, l9, l10, l11, l12, l13, l14, l15, l16, l20, l31, l32, l36, l40, l48, l57, l59, l63, l64, l97, l99, l100, l101, l122, l127, l128, l250, l255, l262143, l262144, l30000, l100000, l12345, l1024, l4095, nI_eqs, nI_les, nI_lts, qI_eq, qI_eqn, nI_eqq, qI_lts, nI_ltp, nI_lep, qI_les, nI_add, nI_mul, qI_add, qI_s, qI_def, nI_clamps, bI_z, bI_o, bI_01, n01, n11, rf_some, rf_none, m1, m1n, bft, hS_stI, a1, b1, e2, e3]
  | inl r =>
    obtain ⟨y', t'⟩ := r
    obtain ⟨h3, e', e3, q3, t3, f3⟩ := mm
    dsimp only at q3 t3
    subst t3
    have pr := pr _ rfl
    dsimp only at pr
    have k3 : hI h3 A 30 = nI 1 := by rw [f3.2 30 (Or.inr rfl) (by decide)]; exact k2
    have F3 := F.trans f3.fn
    have st : E (d + 6) 176 0 [some (.ref A)] [] h = E (d + 6) 176 13 [some (.ref A)] [] h3 := by
      simp (disch := omega) only [s176_0, s176_1, s176_2, s176_3, s176_4, s176_5, s176_6, s176_7, s176_8, s176_9, s176_10, ↓reduceIte, Option.bind_some, Option.toList_some, Option.toList_none, List.cons_append, List.nil_append, if_true, if_false, true_or, or_true, true_and, and_true, not_true_eq_false, not_false_eq_true, Nat.reduceLT, Nat.reduceLeDiff, Nat.reduceEqDiff, Nat.reduceAdd, Nat.reduceMul, Nat.reduceSub, Nat.reducePow, Nat.reduceMod, Nat.reduceDiv, l0, l1, l2, l3, l4, l5, l6, l7, l8, l9, l10, l11, l12, l13, l14, l15, l16, l20, l31, l32, l36, l40, l48, l57, l59, l63, l64, l97, l99, l100, l101, l122, l127, l128, l250, l255, l262143, l262144, l30000, l100000, l12345, l1024, l4095, nI_eqs, nI_les, nI_lts, qI_eq, qI_eqn, nI_eqq, qI_lts, nI_ltp, nI_lep, qI_les, nI_add, nI_mul, qI_add, qI_s, qI_def, nI_clamps, bI_z, bI_o, bI_01, n01, n11, rf_some, rf_none, m1, m1n, bft, hS_stI, a1, b1, e2, e3]
    rw [st]
    refine NR.pre F3 (n176 d 249 1 _ y' e' (fun _ => ?_) (by decide) k3 q3 (w.kx F3.1.2.2.1 F3.1.2.2.2.1))
    have g1 := tkL_ge n b e'
    have g2 := tkL_ge n b (tkL n b e').2.2
    omega
theorem MX.ty {h h' : AH} {A n : Nat} {s : GS} {W : Nat → Prop} {y : YS} {b : Nat → Nat} (x : MX h A s W) (q : MY h' A y) (m : MT h' A n b) (f : Fr0 (fun a => yA A a ∨ a = A + 25) h h') : MX h' A (pY (pT s n b) y) W ∧ Fr0 (blk A 53) h h' := by
  obtain ⟨x1, x2, x3, x4, x5, x6, x7, x8, x9⟩ := x
  exact ⟨⟨q, x2.fr0 f (fun b _ _ w => by unfold yA at w; omega), m, x4.fr0 f (fun w => by unfold yA at w; omega), x5.fr0 f, x6.fr0 f (fun b w => Or.inl (by unfold yA at w; omega)), x7, by rw [f.1]; exact x8, by rw [f.1]; exact x9⟩, f.mono fun b w => by unfold yA at w; unfold blk; omega⟩
theorem c177 (d : Nat) {h : AH} {A : Nat} {s : GS} {W : Nat → Prop} (hx : MX h A s W) (w : WM h) (p1 p2 : Option Value) : MC (d + 7) 177 [some (.ref A), p1, p2] h A W (s_yard s) := by
  obtain ⟨h1, o, e1, x1, r1, my1, o1, kw1, rm1⟩ := c225 (d + 4) hx
  have b0 := hx.1.1.1
  have c0 := x1.1.1.1
  have w1 := w.kx kw1.1 kw1.2.1
  have q := m176 d (y := gY s) (n := gn s) (b := gb s) (A := A) ⟨c0, x1.2.2.1⟩ x1.1 ⟨x1.2.2.2.2.1.1, x1.2.2.2.2.1.2.1⟩ w1
  have tz : ∀ h2, FN A h1 h2 → MT (stI h2 A 7 (nI 0)) A 0 (gb s) ∧ Fr0 (fun a => yA A a ∨ a = A + 25) h1 (stI h2 A 7 (nI 0)) := fun h2 f => by
    have g := f.1.trans (Fr0.stI (A := fun a => yA A a ∨ a = A + 25) h2 (a := A) (Or.inl (Or.inl rfl)) 7 (nI 0))
    have t := x1.2.2.1
    exact ⟨⟨by rw [g.2.2.2.2.2.1]; exact t.1, by rw [g.2.2.2.2.1]; exact t.2.1, by rw [hI_stI, if_pos ⟨rfl, rfl⟩], Nat.zero_le _, fun i hi => absurd hi (Nat.not_lt_zero _)⟩, g⟩
  have st : E (d + 7) 177 0 [some (.ref A), p1, p2] [] h = (E (d + 6) 176 0 [some (.ref A)] [] h1).bind fun r => E (d + 7) 177 5 [some (.ref A), some (.ref o), p2] (r.1.toList ++ []) r.2 := by
    simp (disch := omega) only [s177_0, s177_1, s177_2, s177_3, s177_4, ↓reduceIte, Option.bind_some, Option.toList_some, Option.toList_none, List.cons_append, List.nil_append, if_true, if_false, true_or, or_true, true_and, and_true, not_true_eq_false, not_false_eq_true, Nat.reduceLT, Nat.reduceLeDiff, Nat.reduceEqDiff, Nat.reduceAdd, Nat.reduceMul, Nat.reduceSub, Nat.reducePow, Nat.reduceMod, Nat.reduceDiv, l0, l1, l2, l3, l4, l5, l6, l7, l8, l9, l10, l11, l12, l13, l14, l15, l16, l20, l31, l32, l36, l40, l48, l57, l59, l63, l64, l97, l99, l100, l101, l122, l127, l128, l250, l255, l262143, l262144, l30000, l100000, l12345, l1024, l4095, nI_eqs, nI_les, nI_lts, qI_eq, qI_eqn, nI_eqq, qI_lts, nI_ltp, nI_lep, qI_les, nI_add, nI_mul, qI_add, qI_s, qI_def, nI_clamps, bI_z, bI_o, bI_01, n01, n11, rf_some, rf_none, m1, m1n, bft, b0, c0, e1]
  unfold s_yard
  generalize rdY (gn s) (gb s) (gY s) = r at *
  cases r with
  | inl r =>
    obtain ⟨k, y⟩ := r
    obtain ⟨h2, e', e2, q2, k2, f2⟩ := q
    dsimp only at q2 k2
    obtain ⟨t3, g3⟩ := tz h2 f2
    have m3 : MY (stI h2 A 7 (nI 0)) A y := ⟨q2.2.2.2.1.1.of (Fr0.stI (A := fun a => a = A) h2 rfl 7 (nI 0)), q2.2.2.2.1.2.1.fx (fun j hj => by unfold yFl at hj; simp only [Bool.or_eq_true, beq_iff_eq] at hj; rw [hI_stI, if_neg (fun w => by omega)]) (fun b h1 h2 j => by rw [hI_stI, if_neg (fun w => by omega)]), q2.2.2.2.1.2.2⟩
    obtain ⟨x3, f3⟩ := x1.ty m3 t3 g3
    have rm3 := f3.rm A
    refine ⟨_, ?_, x3, kw1.trans (f3.kw x1.2.2.2.2.2.2.1), by unfold RM at *; omega⟩
    have d0 := q2.1.1
    have k3 : hI (stI h2 A 7 (nI 0)) A 30 = nI k := by rw [hI_stI, if_neg (fun w => by omega)]; exact k2
    rw [st, e2]
    simp (disch := omega) only [s177_5, s177_6, s177_7, s177_8, s177_9, s177_10, s177_23, s177_24, s177_25, ↓reduceIte, Option.bind_some, Option.toList_some, Option.toList_none, List.cons_append, List.nil_append, if_true, if_false, true_or, or_true, true_and, and_true, not_true_eq_false, not_false_eq_true, Nat.reduceLT, Nat.reduceLeDiff, Nat.reduceEqDiff, Nat.reduceAdd, Nat.reduceMul, Nat.reduceSub, Nat.reducePow, Nat.reduceMod, Nat.reduceDiv, l0, l1, l2, l3, l4, l5, l6, l7, l8, l9, l10, l11, l12, l13, l14, l15, l16, l20, l31, l32, l36, l40, l48, l57, l59, l63, l64, l97, l99, l100, l101, l122, l127, l128, l250, l255, l262143, l262144, l30000, l100000, l12345, l1024, l4095, nI_eqs, nI_les, nI_lts, qI_eq, qI_eqn, nI_eqq, qI_lts, nI_ltp, nI_lep, qI_les, nI_add, nI_mul, qI_add, qI_s, qI_def, nI_clamps, bI_z, bI_o, bI_01, n01, n11, rf_some, rf_none, m1, m1n, bft, hS_stI, d0, k3]
  | inr p =>
    obtain ⟨h2, e2, f2, k2⟩ := q
    obtain ⟨t3, g3⟩ := tz h2 f2
    have s3 : MS (stI h2 A 7 (nI 0)) A := x1.1.1.of g3
    have y3 : MY (stI h2 A 7 (nI 0)) o (gY s) := my1.fr0 g3 (fun b h1 h2 w => by unfold yA at w; omega)
    obtain ⟨h4, e4, y4, f4⟩ := m227 (d + 5) s3 y3 (Or.inr (by omega))
    have t4 : MT h4 A 0 (gb s) := t3.fr0 f4.1 (f4.2 7 (by decide)) (fun w => by unfold yA at w; omega)
    have g4 := g3.trans (f4.1.mono (B := fun a => yA A a ∨ a = A + 25) (fun a w => Or.inl w))
    obtain ⟨x4, f4'⟩ := x1.ty y4 t4 g4
    have e5 := c136e x4 (d + 6) (k := 2) (by decide) (by decide)
    obtain ⟨x5, f5⟩ := x4.rf (k := 2) (by decide) (by decide)
    have F5 := f4'.trans f5
    have rm5 := F5.rm A
    refine ⟨_, ?_, x5, kw1.trans (F5.kw x1.2.2.2.2.2.2.1), by unfold RM at *; omega⟩
    have d0 : hS h2 A = some (105, 0) := by rw [f2.1.2.2.2.2.1]; exact c0
    have d4 : hS h4 A = some (105, 0) := by rw [g4.2.2.2.2.1]; exact c0
    have d5 : hS (RFM h4 A 2) A = some (105, 0) := d4
    have k5 : hI (RFM h4 A 2) A 28 = nI p := by
      unfold RFM
      rw [hI_stI, if_neg (fun w => by omega), f4.2 28 (by decide), hI_stI, if_neg (fun w => by omega)]; exact k2
    rw [st, e2]
    simp (disch := omega) only [s177_5, s177_6, s177_7, s177_8, s177_9, s177_10, s177_11, s177_12, s177_13, s177_14, s177_15, s177_16, s177_17, s177_18, s177_19, s177_20, s177_21, s177_22, ↓reduceIte, Option.bind_some, Option.toList_some, Option.toList_none, List.cons_append, List.nil_append, if_true, if_false, true_or, or_true, true_and, and_true, not_true_eq_false, not_false_eq_true, Nat.reduceLT, Nat.reduceLeDiff, Nat.reduceEqDiff, Nat.reduceAdd, Nat.reduceMul, Nat.reduceSub, Nat.reducePow, Nat.reduceMod, Nat.reduceDiv, l0, l1, l2, l3, l4, l5, l6, l7, l8, l9, l10, l11, l12, l13, l14, l15, l16, l20, l31, l32, l36, l40, l48, l57, l59, l63, l64, l97, l99, l100, l101, l122, l127, l128, l250, l255, l262143, l262144, l30000, l100000, l12345, l1024, l4095, nI_eqs, nI_les, nI_lts, qI_eq, qI_eqn, nI_eqq, qI_lts, nI_ltp, nI_lep, qI_les, nI_add, nI_mul, qI_add, qI_s, qI_def, nI_clamps, bI_z, bI_o, bI_01, n01, n11, rf_some, rf_none, m1, m1n, bft, hS_stI, d0, d4, d5, k5, rN_d, e4, e5]
