/-! SEARCHES of the reference: states that can come to be -/
def ZP (h0 h : AH) (A : Nat) (s : GS) (W : Nat → Prop) (fa qa n q : Nat) (Q : Nat → Nat) : Prop := ∃ f, FH h0 h A s W fa qa n f q Q ∧ QI (gY s) f q Q
theorem ZP.push {h0 h : AH} {A : Nat} {s : GS} {W : Nat → Prop} {fa qa n q : Nat} {Q : Nat → Nat} (x : ZP h0 h A s W fa qa n q Q) {o t : Nat} {Y : YS} (y : FO h A s o Y) (r : RY (gY s) t Y) (h3 : Yg (gY s) ≤ 3) (n3 : Yn (gY s) ≤ 3) (d : Nat) : ∃ h' q' Q', E (d + 2) 200 0 [some (.ref A), some (.ref o), none] [] h = some (none, h') ∧ ZP h0 h' A s W fa qa n q' Q' ∧ FO h' A s o Y ∧ q ≤ q' ∧ (∀ i, i < q → Q' i = Q i) ∧ inQ q' Q' t := by
  obtain ⟨f, fh, qi⟩ := x
  obtain ⟨h', f', q', Q', e, a, b, c, k1, k2, k3⟩ := c200 d fh y r h3 n3 qi none
  exact ⟨h', q', Q', e, ⟨f', a, c⟩, b, k1, k2, k3⟩
theorem ZP.fresh {h0 h : AH} {A : Nat} {s : GS} {W : Nat → Prop} {fa qa n q : Nat} {Q : Nat → Nat} (x : ZP h0 h A s W fa qa n q Q) (d : Nat) : ∃ h' o, E (d + 2) 225 0 [some (.ref A)] [] h = some (some (.ref o), h') ∧ ZP h0 h' A s W fa qa n q Q ∧ FO h' A s o (gY s) := by
  obtain ⟨f, fh, qi⟩ := x
  obtain ⟨h', o, e, a, b⟩ := fh.fresh d
  exact ⟨h', o, e, ⟨f, a, qi⟩, b⟩
theorem ZP.o {h0 h h' : AH} {A : Nat} {s : GS} {W : Nat → Prop} {fa qa n q : Nat} {Q : Nat → Nat} (x : ZP h0 h A s W fa qa n q Q) {o : Nat} {Y Y' : YS} (y : FO h A s o Y) (fr : Fr0 (blk o 25) h h') (my : MY h' o Y') (st : ST (gY s) Y') : ZP h0 h' A s W fa qa n q Q ∧ FO h' A s o Y' := by
  obtain ⟨f, fh, qi⟩ := x
  exact ⟨⟨f, fh.o y.1 fr, qi⟩, by rw [fr.2.2.2.2.2.1]; exact y.1, my, st⟩
theorem ZP.c {h0 h : AH} {A : Nat} {s : GS} {W : Nat → Prop} {fa qa n q : Nat} {Q : Nat → Nat} (x : ZP h0 h A s W fa qa n q Q) (h3 : Yg (gY s) ≤ 3) (n3 : Yn (gY s) ≤ 3) : hS h A = some (105, 0) ∧ hI h A 9 = nI (Yc (gY s)) ∧ hI h A 10 = nI (Yg (gY s)) ∧ hI h A 17 = nI (Yn (gY s)) ∧ hR h A 32 = some qa ∧ hS h qa = some (0, n) ∧ hI h A 33 = nI q ∧ (∀ i, i < q → hI h qa i = nI (rho (gY s) (Q i)) ∧ VN (gY s) (Q i)) ∧ q ≤ sts (gY s) ∧ sts (gY s) ≤ n ∧ n ≤ 262144 := by
  obtain ⟨f, ⟨x1, x2, x3, x4, x5, x6, x7, x8, x9, x10, x11, x12⟩, qi⟩ := x
  exact ⟨x1.1.1.1, x1.1.2.1.1, x1.1.2.1.2.1, x1.1.2.1.2.2.1, x5, x7, x12, fun i hi => ⟨x11 i hi, (qi.1 i hi).1⟩, qi.le h3 n3, x9, x8⟩
/-- the tries of a foe -/
theorem m201f (d : Nat) {h0 : AH} {A : Nat} {s : GS} {W : Nat → Prop} {fa qa n : Nat} (ok : YOK (gY s)) (h3 : Yg (gY s) ≤ 3) (n3 : Yn (gY s) ≤ 3) (p2 p6 p7 : Option Value) {g : Nat} (hg : g < Yg (gY s)) : ∀ m c h q Q p5, c + m = Yc (gY s) → ZP h0 h A s W fa qa n q Q → ∃ h' q' Q' p5', E (d + 5) 201 45 [some (.ref A), some (.int (nI 1)), p2, some (.int (nI g)), some (.int (nI c)), p5, p6, p7] [] h = E (d + 5) 201 37 [some (.ref A), some (.int (nI 1)), p2, some (.int (nI (g + 1))), some (.int (nI (Yc (gY s)))), p5', p6, p7] [] h' ∧ ZP h0 h' A s W fa qa n q' Q' ∧ q ≤ q' ∧ (∀ i, i < q → Q' i = Q i) ∧ ∀ k, c ≤ k → k < Yc (gY s) → inQ q' Q' (tcN (gY s) (ndY (gY s)) g k) := by
  intro m
  induction m with
  | zero =>
    intro c h q Q p5 hc x
    have hc' : c = Yc (gY s) := hc
    obtain ⟨a0, a1, -⟩ := x.c h3 n3
    refine ⟨h, q, Q, p5, ?_, x, Nat.le_refl _, fun _ _ => rfl, fun k h1 h2 => by omega⟩
    have c3' := ok.1.2
    rw [s201_45, hc']
    simp (disch := omega) only [s201_46, s201_47, s201_48, s201_62, s201_63, ↓reduceIte, Option.bind_some, Option.toList_some, Option.toList_none, List.cons_append, List.nil_append, if_true, if_false, true_or, or_true, true_and, and_true, not_true_eq_false, not_false_eq_true, Nat.reduceLT, Nat.reduceLeDiff, Nat.reduceEqDiff, Nat.reduceAdd, Nat.reduceMul, Nat.reduceSub, Nat.reducePow, Nat.reduceMod, Nat.reduceDiv, l0, l1, l2, l3, l4, l5, l6, l7, l8, l9, l10, l11, l12, l13, l14, l15, l16, l20, l31, l32, l36, l40, l48, l57, l59, l63, l64, l97, l99, l100, l101, l122, l127, l128, l250, l255, l262143, l262144, l30000, l100000, l12345, l1024, l4095, nI_eqs, nI_les, nI_lts, qI_eq, qI_eqn, nI_eqq, qI_lts, nI_ltp, nI_lep, qI_les, nI_add, nI_mul, qI_add, qI_s, qI_def, nI_clamps, bI_z, bI_o, bI_01, n01, n11, rf_some, rf_none, m1, m1n, bft, a0, a1, Nat.le_refl]
  | succ m ih =>
    intro c h q Q p5 hc x
    have cl : ¬ Yc (gY s) ≤ c := by omega
    have c3' := ok.1.2
    obtain ⟨a0, a1, -⟩ := x.c h3 n3
    obtain ⟨h1, o, e1, x1, y1⟩ := x.fresh (d + 2)
    have b1 := y1.2.1.1.1
    obtain ⟨h2, e2, my2, f2⟩ := m183 (d + 2) y1.2.1 hg (show c < Yc (gY s) by omega) none
    have r2 := (RY.nd ok h3 n3).rem ok h3 n3 hg (show c < Yc (gY s) by omega)
    obtain ⟨x2, y2⟩ := x1.o y1 f2.bk my2 r2.1
    have a2 := (x2.c h3 n3).1
    obtain ⟨h3', q', Q', e3, x3, y3, k1, k2, k3⟩ := x2.push y2 r2 h3 n3 (d + 2)
    obtain ⟨h', q'', Q'', p5', e4, x4, k4, k5, k6⟩ := ih (c + 1) h3' q' Q' (some (.ref o)) (by omega) x3
    refine ⟨h', q'', Q'', p5', ?_, x4, by omega, fun i hi => by rw [k5 i (by omega)]; exact k2 i hi, fun k h1 h2 => ?_⟩
    · rw [← e4, s201_45]
      simp (disch := omega) only [s201_46, s201_47, s201_48, s201_49, s201_50, s201_51, s201_52, s201_53, s201_54, s201_55, s201_56, s201_57, s201_58, s201_59, s201_60, s201_61, ↓reduceIte, Option.bind_some, Option.toList_some, Option.toList_none, List.cons_append, List.nil_append, if_true, if_false, true_or, or_true, true_and, and_true, not_true_eq_false, not_false_eq_true, Nat.reduceLT, Nat.reduceLeDiff, Nat.reduceEqDiff, Nat.reduceAdd, Nat.reduceMul, Nat.reduceSub, Nat.reducePow, Nat.reduceMod, Nat.reduceDiv, l0, l1, l2, l3, l4, l5, l6, l7, l8, l9, l10, l11, l12, l13, l14, l15, l16, l20, l31, l32, l36, l40, l48, l57, l59, l63, l64, l97, l99, l100, l101, l122, l127, l128, l250, l255, l262143, l262144, l30000, l100000, l12345, l1024, l4095, nI_eqs, nI_les, nI_lts, qI_eq, qI_eqn, nI_eqq, qI_lts, nI_ltp, nI_lep, qI_les, nI_add, nI_mul, qI_add, qI_s, qI_def, nI_clamps, bI_z, bI_o, bI_01, n01, n11, rf_some, rf_none, m1, m1n, bft, a0, a1, a2, cl, b1, e1, e2, e3]
    · by_cases w : k = c
      · rw [w]; exact k3.mono k4 k5
      · exact k6 k (by omega) h2
theorem m201g (d : Nat) {h0 : AH} {A : Nat} {s : GS} {W : Nat → Prop} {fa qa n : Nat} (ok : YOK (gY s)) (h3 : Yg (gY s) ≤ 3) (n3 : Yn (gY s) ≤ 3) (p2 p6 p7 : Option Value) : ∀ m g h q Q p4 p5, g + m = Yg (gY s) → ZP h0 h A s W fa qa n q Q → ∃ h' q' Q' p4' p5', E (d + 5) 201 37 [some (.ref A), some (.int (nI 1)), p2, some (.int (nI g)), p4, p5, p6, p7] [] h = E (d + 5) 201 64 [some (.ref A), some (.int (nI 1)), p2, some (.int (nI (Yg (gY s)))), p4', p5', p6, p7] [] h' ∧ ZP h0 h' A s W fa qa n q' Q' ∧ q ≤ q' ∧ (∀ i, i < q → Q' i = Q i) ∧ ∀ j k, g ≤ j → j < Yg (gY s) → k < Yc (gY s) → inQ q' Q' (tcN (gY s) (ndY (gY s)) j k) := by
  intro m
  induction m with
  | zero =>
    intro g h q Q p4 p5 hg x
    have hg' : g = Yg (gY s) := hg
    obtain ⟨a0, a1, a10, -⟩ := x.c h3 n3
    refine ⟨h, q, Q, p4, p5, ?_, x, Nat.le_refl _, fun _ _ => rfl, fun j k h1 h2 => by omega⟩
    rw [s201_37, hg']
    simp (disch := omega) only [s201_38, s201_39, s201_40, ↓reduceIte, Option.bind_some, Option.toList_some, Option.toList_none, List.cons_append, List.nil_append, if_true, if_false, true_or, or_true, true_and, and_true, not_true_eq_false, not_false_eq_true, Nat.reduceLT, Nat.reduceLeDiff, Nat.reduceEqDiff, Nat.reduceAdd, Nat.reduceMul, Nat.reduceSub, Nat.reducePow, Nat.reduceMod, Nat.reduceDiv, l0, l1, l2, l3, l4, l5, l6, l7, l8, l9, l10, l11, l12, l13, l14, l15, l16, l20, l31, l32, l36, l40, l48, l57, l59, l63, l64, l97, l99, l100, l101, l122, l127, l128, l250, l255, l262143, l262144, l30000, l100000, l12345, l1024, l4095, nI_eqs, nI_les, nI_lts, qI_eq, qI_eqn, nI_eqq, qI_lts, nI_ltp, nI_lep, qI_les, nI_add, nI_mul, qI_add, qI_s, qI_def, nI_clamps, bI_z, bI_o, bI_01, n01, n11, rf_some, rf_none, m1, m1n, bft, a0, a10, Nat.le_refl]
  | succ m ih =>
    intro g h q Q p4 p5 hg x
    have gl : ¬ Yg (gY s) ≤ g := by omega
    obtain ⟨a0, a1, a10, -⟩ := x.c h3 n3
    obtain ⟨h1, q1, Q1, p5', e1, x1, k1, k2, k3⟩ := m201f d ok h3 n3 p2 p6 p7 (show g < Yg (gY s) by omega) (Yc (gY s)) 0 h q Q p5 (by omega) x
    obtain ⟨h', q2, Q2, p4', p5'', e2, x2, k4, k5, k6⟩ := ih (g + 1) h1 q1 Q1 (some (.int (nI (Yc (gY s))))) p5' (by omega) x1
    refine ⟨h', q2, Q2, p4', p5'', ?_, x2, by omega, fun i hi => by rw [k5 i (by omega)]; exact k2 i hi, fun j k h1 h2 h3 => ?_⟩
    · rw [← e2, ← e1, s201_37]
      simp (disch := omega) only [s201_38, s201_39, s201_40, s201_41, s201_42, s201_43, s201_44, ↓reduceIte, Option.bind_some, Option.toList_some, Option.toList_none, List.cons_append, List.nil_append, if_true, if_false, true_or, or_true, true_and, and_true, not_true_eq_false, not_false_eq_true, Nat.reduceLT, Nat.reduceLeDiff, Nat.reduceEqDiff, Nat.reduceAdd, Nat.reduceMul, Nat.reduceSub, Nat.reducePow, Nat.reduceMod, Nat.reduceDiv, l0, l1, l2, l3, l4, l5, l6, l7, l8, l9, l10, l11, l12, l13, l14, l15, l16, l20, l31, l32, l36, l40, l48, l57, l59, l63, l64, l97, l99, l100, l101, l122, l127, l128, l250, l255, l262143, l262144, l30000, l100000, l12345, l1024, l4095, nI_eqs, nI_les, nI_lts, qI_eq, qI_eqn, nI_eqq, qI_lts, nI_ltp, nI_lep, qI_les, nI_add, nI_mul, qI_add, qI_s, qI_def, nI_clamps, bI_z, bI_o, bI_01, n01, n11, rf_some, rf_none, m1, m1n, bft, a0, a10, gl, Nat.one_ne_zero]
    · by_cases w : j = g
      · rw [w]; exact (k3 k (Nat.zero_le _) h3).mono k4 k5
      · exact k6 j k (by omega) h2 h3
/-- the steps of one state -/
theorem m201k (d : Nat) {h0 : AH} {A : Nat} {s : GS} {W : Nat → Prop} {fa qa n o : Nat} (ok : YOK (gY s)) (h3 : Yg (gY s) ≤ 3) (n3 : Yn (gY s) ≤ 3) (p1 p2 p6 p7 : Option Value) {i : Nat} : ∀ m k h q Q Y, k + m = Yn (gY s) → ZP h0 h A s W fa qa n q Q → FO h A s o Y → i < q → ∃ h' q' Q' Y', E (d + 5) 201 75 [some (.ref A), p1, p2, some (.ref o), some (.int (nI i)), some (.int (nI k)), p6, p7] [] h = E (d + 5) 201 69 [some (.ref A), p1, p2, some (.ref o), some (.int (nI (i + 1))), some (.int (nI (Yn (gY s)))), p6, p7] [] h' ∧ ZP h0 h' A s W fa qa n q' Q' ∧ FO h' A s o Y' ∧ q ≤ q' ∧ (∀ j, j < q → Q' j = Q j) ∧ ∀ j, k ≤ j → j < Yn (gY s) → plc (Q i) j < Yg (gY s) → inQ q' Q' (stN (gY s) (Q i) j) := by
  intro m
  induction m with
  | zero =>
    intro k h q Q Y hk x y hi
    have hk' : k = Yn (gY s) := hk
    obtain ⟨a0, a1, a10, a17, -⟩ := x.c h3 n3
    refine ⟨h, q, Q, Y, ?_, x, y, Nat.le_refl _, fun _ _ => rfl, fun j h1 h2 => by omega⟩
    rw [s201_75, hk']
    simp (disch := omega) only [s201_76, s201_77, s201_78, s201_98, s201_99, ↓reduceIte, Option.bind_some, Option.toList_some, Option.toList_none, List.cons_append, List.nil_append, if_true, if_false, true_or, or_true, true_and, and_true, not_true_eq_false, not_false_eq_true, Nat.reduceLT, Nat.reduceLeDiff, Nat.reduceEqDiff, Nat.reduceAdd, Nat.reduceMul, Nat.reduceSub, Nat.reducePow, Nat.reduceMod, Nat.reduceDiv, l0, l1, l2, l3, l4, l5, l6, l7, l8, l9, l10, l11, l12, l13, l14, l15, l16, l20, l31, l32, l36, l40, l48, l57, l59, l63, l64, l97, l99, l100, l101, l122, l127, l128, l250, l255, l262143, l262144, l30000, l100000, l12345, l1024, l4095, nI_eqs, nI_les, nI_lts, qI_eq, qI_eqn, nI_eqq, qI_lts, nI_ltp, nI_lep, qI_les, nI_add, nI_mul, qI_add, qI_s, qI_def, nI_clamps, bI_z, bI_o, bI_01, n01, n11, rf_some, rf_none, m1, m1n, bft, a0, a17, Nat.le_refl]
  | succ m ih =>
    intro k h q Q Y hk x y hi
    have kl : ¬ Yn (gY s) ≤ k := by omega
    obtain ⟨a0, a1, a10, a17, a32, aq, a33, av, qs, sn, nl⟩ := x.c h3 n3
    obtain ⟨hv, v⟩ := av i hi
    have b0 := y.2.1.1.1
    obtain ⟨h1, e1, y1, f1⟩ := m197 (d + 4) y.2.1 ok h3 n3 y.2.2 v none none
    have r1 := RY.be y.2.2 v
    obtain ⟨x1, z1⟩ := x.o y (f1.mono (fun b w => by unfold blk; omega)) y1 r1.1
    have b1 := y1.1.1
    have e141 := fun d => m141 d y1 (k := k) (by rw [r1.1.2.2.1]; omega)
    rw [r1.1.2.1, r1.2.2.2 k (by omega)] at e141
    have a1' := (x1.c h3 n3).1
    by_cases hp : plc (Q i) k < Yg (gY s)
    · rw [decide_eq_false (by omega)] at e141
      obtain ⟨h2, e2, y2, f2⟩ := m184 (d + 1) y1 (k := k) (by rw [r1.1.2.2.1]; omega) (by rw [r1.2.2.2 k (by omega), r1.1.2.1]; exact hp) none none
      have r2 := r1.try ok h3 n3 (show k < Yn (gY s) by omega) hp
      obtain ⟨x2, z2⟩ := x1.o z1 f2.bk y2 r2.1
      have a2 := (x2.c h3 n3).1
      obtain ⟨h3', q', Q', e3, x3, y3, k1, k2, k3⟩ := x2.push z2 r2 h3 n3 (d + 2)
      have ei : Q' i = Q i := k2 i hi
      obtain ⟨h', q'', Q'', Y', e4, x4, y4, k4, k5, k6⟩ := ih (k + 1) h3' q' Q' _ (by omega) x3 y3 (by omega)
      refine ⟨h', q'', Q'', Y', ?_, x4, y4, by omega, fun j hj => by rw [k5 j (by omega)]; exact k2 j hj, fun j h1 h2 h3 => ?_⟩
      · rw [← e4, s201_75]
        simp (disch := omega) only [s201_76, s201_77, s201_78, s201_79, s201_80, s201_81, s201_82, s201_83, s201_84, s201_85, s201_86, s201_87, s201_88, s201_89, s201_90, s201_91, s201_92, s201_93, s201_94, s201_95, s201_96, s201_97, ↓reduceIte, Option.bind_some, Option.toList_some, Option.toList_none, List.cons_append, List.nil_append, if_true, if_false, true_or, or_true, true_and, and_true, not_true_eq_false, not_false_eq_true, Nat.reduceLT, Nat.reduceLeDiff, Nat.reduceEqDiff, Nat.reduceAdd, Nat.reduceMul, Nat.reduceSub, Nat.reducePow, Nat.reduceMod, Nat.reduceDiv, l0, l1, l2, l3, l4, l5, l6, l7, l8, l9, l10, l11, l12, l13, l14, l15, l16, l20, l31, l32, l36, l40, l48, l57, l59, l63, l64, l97, l99, l100, l101, l122, l127, l128, l250, l255, l262143, l262144, l30000, l100000, l12345, l1024, l4095, nI_eqs, nI_les, nI_lts, qI_eq, qI_eqn, nI_eqq, qI_lts, nI_ltp, nI_lep, qI_les, nI_add, nI_mul, qI_add, qI_s, qI_def, nI_clamps, bI_z, bI_o, bI_01, n01, n11, rf_some, rf_none, m1, m1n, bft, a0, a17, kl, a32, gI aq, hv, b0, b1, a2, e1, e141, e2, e3, bI_f]
      · by_cases w : j = k
        · rw [w]; exact k3.mono k4 k5
        · have := k6 j (by omega) h2 (by rw [ei]; exact h3)
          rw [ei] at this; exact this
    · rw [decide_eq_true (by omega)] at e141
      obtain ⟨h', q'', Q'', Y', e4, x4, y4, k4, k5, k6⟩ := ih (k + 1) h1 q Q _ (by omega) x1 z1 hi
      refine ⟨h', q'', Q'', Y', ?_, x4, y4, k4, k5, fun j h1 h2 h3 => ?_⟩
      · rw [← e4, s201_75]
        simp (disch := omega) only [s201_76, s201_77, s201_78, s201_79, s201_80, s201_81, s201_82, s201_83, s201_84, s201_85, s201_86, s201_87, s201_88, s201_96, s201_97, ↓reduceIte, Option.bind_some, Option.toList_some, Option.toList_none, List.cons_append, List.nil_append, if_true, if_false, true_or, or_true, true_and, and_true, not_true_eq_false, not_false_eq_true, Nat.reduceLT, Nat.reduceLeDiff, Nat.reduceEqDiff, Nat.reduceAdd, Nat.reduceMul, Nat.reduceSub, Nat.reducePow, Nat.reduceMod, Nat.reduceDiv, l0, l1, l2, l3, l4, l5, l6, l7, l8, l9, l10, l11, l12, l13, l14, l15, l16, l20, l31, l32, l36, l40, l48, l57, l59, l63, l64, l97, l99, l100, l101, l122, l127, l128, l250, l255, l262143, l262144, l30000, l100000, l12345, l1024, l4095, nI_eqs, nI_les, nI_lts, qI_eq, qI_eqn, nI_eqq, qI_lts, nI_ltp, nI_lep, qI_les, nI_add, nI_mul, qI_add, qI_s, qI_def, nI_clamps, bI_z, bI_o, bI_01, n01, n11, rf_some, rf_none, m1, m1n, bft, a0, a17, kl, a32, gI aq, hv, b0, b1, e1, e141, bI_t, Bool.true_eq_false]
      · by_cases w : j = k
        · rw [w] at h3; exact absurd h3 hp
        · exact k6 j (by omega) h2 h3
theorem m201e (d : Nat) {h0 : AH} {A : Nat} {s : GS} {W : Nat → Prop} {fa qa n o : Nat} (ok : YOK (gY s)) (h3 : Yg (gY s) ≤ 3) (n3 : Yn (gY s) ≤ 3) (p1 p2 p6 p7 : Option Value) : ∀ m i h q Q Y p5, i + m = sts (gY s) → i ≤ q → ZP h0 h A s W fa qa n q Q → FO h A s o Y → CL (gY s) q Q i → ∃ h' q' Q' Y' p4' p5', E (d + 5) 201 69 [some (.ref A), p1, p2, some (.ref o), some (.int (nI i)), p5, p6, p7] [] h = E (d + 5) 201 100 [some (.ref A), p1, p2, some (.ref o), p4', p5', p6, p7] [] h' ∧ ZP h0 h' A s W fa qa n q' Q' ∧ FO h' A s o Y' ∧ q ≤ q' ∧ (∀ j, j < q → Q' j = Q j) ∧ CL (gY s) q' Q' q' := by
  intro m
  induction m with
  | zero =>
    intro i h q Q Y p5 hi iq x y cl
    obtain ⟨a0, a1, a10, a17, a32, aq, a33, av, qs, sn, nl⟩ := x.c h3 n3
    have hq : q = i := by omega
    subst hq
    refine ⟨h, q, Q, Y, some (.int (nI q)), p5, ?_, x, y, Nat.le_refl _, fun _ _ => rfl, cl⟩
    rw [s201_69]
    simp (disch := omega) only [s201_70, s201_71, s201_72, ↓reduceIte, Option.bind_some, Option.toList_some, Option.toList_none, List.cons_append, List.nil_append, if_true, if_false, true_or, or_true, true_and, and_true, not_true_eq_false, not_false_eq_true, Nat.reduceLT, Nat.reduceLeDiff, Nat.reduceEqDiff, Nat.reduceAdd, Nat.reduceMul, Nat.reduceSub, Nat.reducePow, Nat.reduceMod, Nat.reduceDiv, l0, l1, l2, l3, l4, l5, l6, l7, l8, l9, l10, l11, l12, l13, l14, l15, l16, l20, l31, l32, l36, l40, l48, l57, l59, l63, l64, l97, l99, l100, l101, l122, l127, l128, l250, l255, l262143, l262144, l30000, l100000, l12345, l1024, l4095, nI_eqs, nI_les, nI_lts, qI_eq, qI_eqn, nI_eqq, qI_lts, nI_ltp, nI_lep, qI_les, nI_add, nI_mul, qI_add, qI_s, qI_def, nI_clamps, bI_z, bI_o, bI_01, n01, n11, rf_some, rf_none, m1, m1n, bft, a0, a33, Nat.le_refl]
  | succ m ih =>
    intro i h q Q Y p5 hi iq x y cl
    obtain ⟨a0, a1, a10, a17, a32, aq, a33, av, qs, sn, nl⟩ := x.c h3 n3
    rcases Nat.eq_or_lt_of_le iq with w | w
    · subst w
      refine ⟨h, i, Q, Y, some (.int (nI i)), p5, ?_, x, y, Nat.le_refl _, fun _ _ => rfl, cl⟩
      rw [s201_69]
      simp (disch := omega) only [s201_70, s201_71, s201_72, ↓reduceIte, Option.bind_some, Option.toList_some, Option.toList_none, List.cons_append, List.nil_append, if_true, if_false, true_or, or_true, true_and, and_true, not_true_eq_false, not_false_eq_true, Nat.reduceLT, Nat.reduceLeDiff, Nat.reduceEqDiff, Nat.reduceAdd, Nat.reduceMul, Nat.reduceSub, Nat.reducePow, Nat.reduceMod, Nat.reduceDiv, l0, l1, l2, l3, l4, l5, l6, l7, l8, l9, l10, l11, l12, l13, l14, l15, l16, l20, l31, l32, l36, l40, l48, l57, l59, l63, l64, l97, l99, l100, l101, l122, l127, l128, l250, l255, l262143, l262144, l30000, l100000, l12345, l1024, l4095, nI_eqs, nI_les, nI_lts, qI_eq, qI_eqn, nI_eqq, qI_lts, nI_ltp, nI_lep, qI_les, nI_add, nI_mul, qI_add, qI_s, qI_def, nI_clamps, bI_z, bI_o, bI_01, n01, n11, rf_some, rf_none, m1, m1n, bft, a0, a33, Nat.le_refl]
    · have il : ¬ q ≤ i := by omega
      obtain ⟨h1, q1, Q1, Y1, e1, x1, y1, k1, k2, k3⟩ := m201k d (o := o) ok h3 n3 p1 p2 p6 p7 (Yn (gY s)) 0 h q Q Y (by omega) x y w
      obtain ⟨h', q2, Q2, Y2, p4', p5', e2, x2, y2, k4, k5, k6⟩ := ih (i + 1) h1 q1 Q1 Y1 (some (.int (nI (Yn (gY s))))) (by omega) (by omega) x1 y1 (fun j hj k hk hp => by
        by_cases z : j = i
        · rw [z, k2 i w] at hp ⊢
          exact k3 k (Nat.zero_le _) hk hp
        · rw [k2 j (by omega)] at hp ⊢
          exact (cl j (by omega) k hk hp).mono k1 k2)
      refine ⟨h', q2, Q2, Y2, p4', p5', ?_, x2, y2, by omega, fun j hj => by rw [k5 j (by omega)]; exact k2 j hj, k6⟩
      rw [← e2, ← e1, s201_69]
      simp (disch := omega) only [s201_70, s201_71, s201_72, s201_73, s201_74, ↓reduceIte, Option.bind_some, Option.toList_some, Option.toList_none, List.cons_append, List.nil_append, if_true, if_false, true_or, or_true, true_and, and_true, not_true_eq_false, not_false_eq_true, Nat.reduceLT, Nat.reduceLeDiff, Nat.reduceEqDiff, Nat.reduceAdd, Nat.reduceMul, Nat.reduceSub, Nat.reducePow, Nat.reduceMod, Nat.reduceDiv, l0, l1, l2, l3, l4, l5, l6, l7, l8, l9, l10, l11, l12, l13, l14, l15, l16, l20, l31, l32, l36, l40, l48, l57, l59, l63, l64, l97, l99, l100, l101, l122, l127, l128, l250, l255, l262143, l262144, l30000, l100000, l12345, l1024, l4095, nI_eqs, nI_les, nI_lts, qI_eq, qI_eqn, nI_eqq, qI_lts, nI_ltp, nI_lep, qI_les, nI_add, nI_mul, qI_add, qI_s, qI_def, nI_clamps, bI_z, bI_o, bI_01, n01, n11, rf_some, rf_none, m1, m1n, bft, a0, a33, il]
/-- all states that can come to be are in the table -/
theorem m201b (d : Nat) {h : AH} {A : Nat} {s : GS} {W : Nat → Prop} (x : MX h A s W) (h3 : Yg (gY s) ≤ 3) (n3 : Yn (gY s) ≤ 3) (b : Bool) (p2 p3 p4 p5 p6 p7 : Option Value) : ∃ h' fa qa n q Q o Y p2' p4' p5', E (d + 5) 201 0 [some (.ref A), some (.int (bI b)), p2, p3, p4, p5, p6, p7] [] h = E (d + 5) 201 100 [some (.ref A), some (.int (bI b)), p2', some (.ref o), p4', p5', p6, p7] [] h' ∧ ZP h h' A s W fa qa n q Q ∧ FO h' A s o Y ∧ CL (gY s) q Q q ∧ inQ q Q (ndY (gY s)) ∧ (b = true → ∀ j k, j < Yg (gY s) → k < Yc (gY s) → inQ q Q (tcN (gY s) (ndY (gY s)) j k)) := by
  have ok := x.1.2.2
  obtain ⟨h1, fa, qa, n, e1, fh1⟩ := m201a d x h3 n3 (some (.int (bI b))) p2 p3 p4 p5 p6 p7
  have x1 : ZP h h1 A s W fa qa n 0 (fun _ => 0) := ⟨_, fh1, fun i hi => absurd hi (Nat.not_lt_zero _), fun a b ha => absurd ha (Nat.not_lt_zero _), fun t _ => Or.inl rfl⟩
  have a1 := (x1.c h3 n3).1
  obtain ⟨h2, o2, e2, x2, y2⟩ := x1.fresh (d + 2)
  have a2 := (x2.c h3 n3).1
  obtain ⟨h3', q3, Q3, e3, x3, y3, k1, k2, k3⟩ := x2.push y2 (RY.nd ok h3 n3) h3 n3 (d + 2)
  have st : E (d + 5) 201 0 [some (.ref A), some (.int (bI b)), p2, p3, p4, p5, p6, p7] [] h = E (d + 5) 201 37 [some (.ref A), some (.int (bI b)), some (.int (nI (sts (gY s)))), some (.int (nI 0)), p4, p5, p6, p7] [] h3' := by
    rw [e1]
    simp (disch := omega) only [s201_31, s201_32, s201_33, s201_34, s201_35, s201_36, ↓reduceIte, Option.bind_some, Option.toList_some, Option.toList_none, List.cons_append, List.nil_append, if_true, if_false, true_or, or_true, true_and, and_true, not_true_eq_false, not_false_eq_true, Nat.reduceLT, Nat.reduceLeDiff, Nat.reduceEqDiff, Nat.reduceAdd, Nat.reduceMul, Nat.reduceSub, Nat.reducePow, Nat.reduceMod, Nat.reduceDiv, l0, l1, l2, l3, l4, l5, l6, l7, l8, l9, l10, l11, l12, l13, l14, l15, l16, l20, l31, l32, l36, l40, l48, l57, l59, l63, l64, l97, l99, l100, l101, l122, l127, l128, l250, l255, l262143, l262144, l30000, l100000, l12345, l1024, l4095, nI_eqs, nI_les, nI_lts, qI_eq, qI_eqn, nI_eqq, qI_lts, nI_ltp, nI_lep, qI_les, nI_add, nI_mul, qI_add, qI_s, qI_def, nI_clamps, bI_z, bI_o, bI_01, n01, n11, rf_some, rf_none, m1, m1n, bft, a1, a2, e2, e3]
  -- the foe's tries
  have foe : ∃ h4 q4 Q4 p3' p4' p5', E (d + 5) 201 37 [some (.ref A), some (.int (bI b)), some (.int (nI (sts (gY s)))), some (.int (nI 0)), p4, p5, p6, p7] [] h3' = E (d + 5) 201 64 [some (.ref A), some (.int (bI b)), some (.int (nI (sts (gY s)))), p3', p4', p5', p6, p7] [] h4 ∧ ZP h h4 A s W fa qa n q4 Q4 ∧ q3 ≤ q4 ∧ (∀ i, i < q3 → Q4 i = Q3 i) ∧ (b = true → ∀ j k, j < Yg (gY s) → k < Yc (gY s) → inQ q4 Q4 (tcN (gY s) (ndY (gY s)) j k)) := by
    cases b
    · obtain ⟨c0, c1, c10, -⟩ := x3.c h3 n3
      refine ⟨h3', q3, Q3, some (.int (nI 0)), p4, p5, ?_, x3, Nat.le_refl _, fun _ _ => rfl, fun w => Bool.noConfusion w⟩
      rw [s201_37]
      by_cases g0 : Yg (gY s) ≤ 0
      · simp (disch := omega) only [s201_38, s201_39, s201_40, s201_41, s201_42, ↓reduceIte, Option.bind_some, Option.toList_some, Option.toList_none, List.cons_append, List.nil_append, if_true, if_false, true_or, or_true, true_and, and_true, not_true_eq_false, not_false_eq_true, Nat.reduceLT, Nat.reduceLeDiff, Nat.reduceEqDiff, Nat.reduceAdd, Nat.reduceMul, Nat.reduceSub, Nat.reducePow, Nat.reduceMod, Nat.reduceDiv, l0, l1, l2, l3, l4, l5, l6, l7, l8, l9, l10, l11, l12, l13, l14, l15, l16, l20, l31, l32, l36, l40, l48, l57, l59, l63, l64, l97, l99, l100, l101, l122, l127, l128, l250, l255, l262143, l262144, l30000, l100000, l12345, l1024, l4095, nI_eqs, nI_les, nI_lts, qI_eq, qI_eqn, nI_eqq, qI_lts, nI_ltp, nI_lep, qI_les, nI_add, nI_mul, qI_add, qI_s, qI_def, nI_clamps, bI_z, bI_o, bI_01, n01, n11, rf_some, rf_none, m1, m1n, bft, c0, c10, g0]
      · simp (disch := omega) only [s201_38, s201_39, s201_40, s201_41, s201_42, ↓reduceIte, Option.bind_some, Option.toList_some, Option.toList_none, List.cons_append, List.nil_append, if_true, if_false, true_or, or_true, true_and, and_true, not_true_eq_false, not_false_eq_true, Nat.reduceLT, Nat.reduceLeDiff, Nat.reduceEqDiff, Nat.reduceAdd, Nat.reduceMul, Nat.reduceSub, Nat.reducePow, Nat.reduceMod, Nat.reduceDiv, l0, l1, l2, l3, l4, l5, l6, l7, l8, l9, l10, l11, l12, l13, l14, l15, l16, l20, l31, l32, l36, l40, l48, l57, l59, l63, l64, l97, l99, l100, l101, l122, l127, l128, l250, l255, l262143, l262144, l30000, l100000, l12345, l1024, l4095, nI_eqs, nI_les, nI_lts, qI_eq, qI_eqn, nI_eqq, qI_lts, nI_ltp, nI_lep, qI_les, nI_add, nI_mul, qI_add, qI_s, qI_def, nI_clamps, bI_z, bI_o, bI_01, n01, n11, rf_some, rf_none, m1, m1n, bft, c0, c10, g0, bI_f]
    · obtain ⟨h4, q4, Q4, p4', p5', e4, x4, k4, k5, k6⟩ := m201g d ok h3 n3 (some (.int (nI (sts (gY s))))) p6 p7 (Yg (gY s)) 0 h3' q3 Q3 p4 p5 (by omega) x3
      exact ⟨h4, q4, Q4, _, p4', p5', e4, x4, k4, k5, fun _ j k h1 h2 => k6 j k (Nat.zero_le _) h1 h2⟩
  obtain ⟨h4, q4, Q4, p3', p4', p5', e4, x4, k4, k5, k6⟩ := foe
  have a4 := (x4.c h3 n3).1
  obtain ⟨h5, o5, e5, x5, y5⟩ := x4.fresh (d + 2)
  obtain ⟨h6, q6, Q6, Y6, p4'', p5'', e6, x6, y6, k7, k8, cl⟩ := m201e d ok h3 n3 (some (.int (bI b))) (some (.int (nI (sts (gY s))))) p6 p7 (sts (gY s)) 0 h5 q4 Q4 (gY s) p5' (by omega) (Nat.zero_le _) x5 y5 (fun j hj => absurd hj (Nat.not_lt_zero _))
  refine ⟨h6, fa, qa, n, q6, Q6, o5, Y6, some (.int (nI (sts (gY s)))), p4'', p5'', ?_, x6, y6, cl, (k3.mono k4 k5).mono k7 k8, fun w j k h1 h2 => (k6 w j k h1 h2).mono k7 k8⟩
  rw [st, e4, ← e6]
  simp (disch := omega) only [s201_64, s201_65, s201_66, s201_67, s201_68, ↓reduceIte, Option.bind_some, Option.toList_some, Option.toList_none, List.cons_append, List.nil_append, if_true, if_false, true_or, or_true, true_and, and_true, not_true_eq_false, not_false_eq_true, Nat.reduceLT, Nat.reduceLeDiff, Nat.reduceEqDiff, Nat.reduceAdd, Nat.reduceMul, Nat.reduceSub, Nat.reducePow, Nat.reduceMod, Nat.reduceDiv, l0, l1, l2, l3, l4, l5, l6, l7, l8, l9, l10, l11, l12, l13, l14, l15, l16, l20, l31, l32, l36, l40, l48, l57, l59, l63, l64, l97, l99, l100, l101, l122, l127, l128, l250, l255, l262143, l262144, l30000, l100000, l12345, l1024, l4095, nI_eqs, nI_les, nI_lts, qI_eq, qI_eqn, nI_eqq, qI_lts, nI_ltp, nI_lep, qI_les, nI_add, nI_mul, qI_add, qI_s, qI_def, nI_clamps, bI_z, bI_o, bI_01, n01, n11, rf_some, rf_none, m1, m1n, bft, a4, e5]
