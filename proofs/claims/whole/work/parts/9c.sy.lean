/-! THE TAPE'S TOKENS, the reference: numbers, look -/
theorem n167d (d : Nat) {H : AH} {A n f : Nat} {b : Nat → Nat} (qB : AP H A n b) (fl : f ≤ n) (g4 : hI H A 24 = nI f) (g6 : hI H A 26 = nI f) (g7 : hI H A 27 = nI 0) (z2 : f < n) (cl : isL (b f) = false) (cd : isD (b f) = true) : ∃ h', E (d + 1) 167 26 [some (.ref A)] [] H = some (none, h') ∧ AF A H h' ∧ ATk h' A n b (2, f, spn isD b (n - f) f) := by
  have n5 := qB.2.2.2.2.1
  obtain ⟨c1, c2, c3, c4, c5, c6⟩ := id qB
  have z' : ¬ f = n := by omega
  obtain ⟨b1, b2⟩ := c6 f z2
  have e165 := m165 d H b2
  have e166 := m166 d H b2
  rw [cl] at e165
  rw [cd] at e166
  have F4 : AF A H (stI H A 25 (nI 2)) := AF.st H (by decide) (nI 2)
  have j4 : hI (stI H A 25 (nI 2)) A 24 = nI f := by rw [hI_stI, if_neg (fun w => by omega)]; exact g4
  have j6 : hI (stI H A 25 (nI 2)) A 26 = nI f := by rw [hI_stI, if_neg (fun w => by omega)]; exact g6
  have j7 : hI (stI H A 25 (nI 2)) A 27 = nI 0 := by rw [hI_stI, if_neg (fun w => by omega)]; exact g7
  have j5 : hI (stI H A 25 (nI 2)) A 25 = nI 2 := by rw [hI_stI, if_pos ⟨rfl, rfl⟩]
  have st : E (d + 1) 167 26 [some (.ref A)] [] H = E (d + 1) 167 74 [some (.ref A)] [] (stI H A 25 (nI 2)) := by
    simp (disch := omega) only [s167_26, s167_27, s167_28, s167_29, s167_30, s167_35, s167_36, s167_37, s167_38, s167_39, s167_40, s167_41, s167_64, s167_65, s167_66, s167_67, s167_68, s167_69, s167_70, s167_71, s167_72, s167_73, ↓reduceIte, Option.bind_some, Option.toList_some, Option.toList_none, List.cons_append, List.nil_append, if_true, if_false, true_or, or_true, true_and, and_true, not_true_eq_false, not_false_eq_true, Nat.reduceLT, Nat.reduceLeDiff, Nat.reduceEqDiff, Nat.reduceAdd, Nat.reduceMul, Nat.reduceSub, Nat.reducePow, Nat.reduceMod, Nat.reduceDiv, l0, l1, l2, l3, l4, l5, l6, l7, l8, l9, l10, l11, l12, l13, l14, l15, l16, l20, l31, l32, l36, l40, l48, l57, l59, l63, l64, l97, l99, l100, l101, l122, l127, l128, l250, l255, l262143, l262144, l30000, l100000, l12345, l1024, l4095, nI_eqs, nI_les, nI_lts, qI_eq, qI_eqn, nI_eqq, qI_lts, nI_ltp, nI_lep, qI_les, nI_add, nI_mul, qI_add, qI_s, qI_def, nI_clamps, bI_z, bI_o, bI_01, n01, n11, rf_some, rf_none, m1, m1n, bft, c1, c2, gI c3, c4, g4, z', b1, e165, e166, bI_f, bI_t, Bool.true_eq_false]
  have qC := qB.st (k := 25) (by decide) (nI 2)
  rw [st]
  generalize stI H A 25 (nI 2) = K at *
  obtain ⟨h2, e2, F2, k4, k5, k6, k7⟩ := n167c d (n - f) f 0 K (fr := f) (by omega) (Nat.le_refl _) ⟨Nat.zero_le _, fun _ => Eq.refl 0, fun _ => Nat.zero_le _⟩ qC j4 j6 j7
  have e3 : E (d + 1) 167 74 [some (.ref A)] [] K = some (none, h2) := by rw [e2, s167_134]
  have k5' : hI h2 A 25 = nI 2 := by rw [k5, j5]
  have k7' : hI h2 A 27 = nI (fgT n b (2, f, spn isD b (n - f) f)) := by rw [fgT_yes]; exact k7
  exact ⟨h2, e3, F4.trans F2, k5', k6, k4, k7'⟩
theorem n167h (d : Nat) {h : AH} {A n e : Nat} {b : Nat → Nat} (q : AP h A n b) (he : e ≤ n) (h4 : hI h A 24 = nI e) : ∃ H, E (d + 1) 167 0 [some (.ref A)] [] h = E (d + 1) 167 26 [some (.ref A)] [] H ∧ AF A h H ∧ hI H A 24 = nI (spn isS b (n - e) e) ∧ hI H A 26 = nI (spn isS b (n - e) e) ∧ hI H A 27 = nI 0 := by
  have eA := n167a d (n - e) e h (by omega) q h4
  generalize spn isS b (n - e) e = f at *
  obtain ⟨a1, a2, a3, a4, a5, a6⟩ := id q
  refine ⟨stI (stI (stI h A 24 (nI f)) A 26 (nI f)) A 27 (nI 0), ?_, ((AF.st h (k := 24) (by decide) (nI f)).trans (AF.st _ (k := 26) (by decide) (nI f))).trans (AF.st _ (k := 27) (by decide) (nI 0)), ?_, ?_, ?_⟩
  · rw [eA]
    simp (disch := omega) only [s167_19, s167_20, s167_21, s167_22, s167_23, s167_24, s167_25, ↓reduceIte, Option.bind_some, Option.toList_some, Option.toList_none, List.cons_append, List.nil_append, if_true, if_false, true_or, or_true, true_and, and_true, not_true_eq_false, not_false_eq_true, Nat.reduceLT, Nat.reduceLeDiff, Nat.reduceEqDiff, Nat.reduceAdd, Nat.reduceMul, Nat.reduceSub, Nat.reducePow, Nat.reduceMod, Nat.reduceDiv, l0, l1, l2, l3, l4, l5, l6, l7, l8, l9, l10, l11, l12, l13, l14, l15, l16, l20, l31, l32, l36, l40, l48, l57, l59, l63, l64, l97, l99, l100, l101, l122, l127, l128, l250, l255, l262143, l262144, l30000, l100000, l12345, l1024, l4095, nI_eqs, nI_les, nI_lts, qI_eq, qI_eqn, nI_eqq, qI_lts, nI_ltp, nI_lep, qI_les, nI_add, nI_mul, qI_add, qI_s, qI_def, nI_clamps, bI_z, bI_o, bI_01, n01, n11, rf_some, rf_none, m1, m1n, bft, ad1, ad2, hI_stI, hS_stI, hR_stI, hL_stI, alen_stI, hI_stL, hL_stL, hS_stL, hR_stL, alen_stL, false_and, and_false, and_self, eq_self, a1]
  · rw [hI_stI, if_neg (fun w => by omega), hI_stI, if_neg (fun w => by omega), hI_stI, if_pos ⟨rfl, rfl⟩]
  · rw [hI_stI, if_neg (fun w => by omega), hI_stI, if_pos ⟨rfl, rfl⟩]
  · rw [hI_stI, if_pos ⟨rfl, rfl⟩]
theorem m167 (d : Nat) {h : AH} {A n e : Nat} {b : Nat → Nat} (q : AP h A n b) (he : e ≤ n) (h4 : hI h A 24 = nI e) : ∃ h', E (d + 1) 167 0 [some (.ref A)] [] h = some (none, h') ∧ AF A h h' ∧ ATk h' A n b (tkL n b e) := by
  obtain ⟨H, e0, F0, g4, g6, g7⟩ := n167h d q he h4
  have fl := (spn_le isS b (n - e) e).2
  have qB := q.af F0
  have fin : ∀ t, (∃ h', E (d + 1) 167 26 [some (.ref A)] [] H = some (none, h') ∧ AF A H h' ∧ ATk h' A n b t) → ∃ h', E (d + 1) 167 0 [some (.ref A)] [] h = some (none, h') ∧ AF A h h' ∧ ATk h' A n b t := fun t ⟨h', u1, u2, u3⟩ => ⟨h', e0.trans u1, F0.trans u2, u3⟩
  unfold tkL
  generalize spn isS b (n - e) e = f at *
  by_cases z : n ≤ f
  · rw [if_pos z]
    exact fin _ (n167e d qB (by omega) g4 g6 g7 (by omega))
  · rw [if_neg z]
    cases cl : isL (b f)
    · rw [if_neg (by decide)]
      cases cd : isD (b f)
      · rw [if_neg (by decide)]
        exact fin _ (n167o d qB (by omega) g4 g6 g7 (by omega) cl cd)
      · rw [if_pos rfl]
        exact fin _ (n167d d qB (by omega) g4 g6 g7 (by omega) cl cd)
    · rw [if_pos rfl]
      exact fin _ (n167w d qB (by omega) g4 g6 g7 (by omega) cl)
