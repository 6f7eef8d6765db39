/-! THE START: the developers' object, the whole -/
theorem x80a (d : Nat) {h0 : AH} {B : Nat} (hn0 : hN h0 = B + 1) (sB0 : hS h0 B = some (104, 0)) (p1 : Option Value) : ∃ h', E (d + 1) 80 0 [some (.ref B), p1] [] h0 = E (d + 1) 80 20 [some (.ref B), p1] [] h' ∧ XY h' (B + 1) y00 ∧ XY h' (B + 9) y00 ∧ XY h' (B + 17) y00 ∧ hN h' = B + 25 ∧ hU h' = hU h0 + 162 ∧ KW (fun b => b < B) h0 h' ∧ hS h' B = some (104, 0) ∧ hI h' B 3 = nI 0 ∧ hR h' B 0 = some (B + 1) ∧ hR h' B 1 = some (B + 9) ∧ hR h' B 2 = some (B + 17) := by
  obtain ⟨mm1, x1, o1, n1, u1, e1⟩ := mk58 hn0
  obtain ⟨h1, E1, kw1, kx1, n1', u1', a1, b1, c1⟩ := o1.st (B := B) (k := 0) (v := some (B + 1)) (by omega) hn0 (by omega) (by omega)
  have y1 := x1.kw kx1 (fun a w1 w2 => (by omega : a ≠ B))
  have r1 : hR h1 B 0 = some (B + 1) := by rw [c1, if_pos rfl]
  obtain ⟨m2, x2, o2, n2, u2, e2⟩ := mk58 (n1'.trans n1)
  obtain ⟨h2, E2, kw2, kx2, n2', u2', a2, b2, c2⟩ := o2.st (B := B) (k := 1) (v := some (B + 1 + 8)) (by omega) (n1'.trans n1) (by omega) (by omega)
  have y2 := x2.kw kx2 (fun a w1 w2 => (by omega : a ≠ B))
  have y12 := y1.kw kw2 (fun a w1 w2 => ⟨by omega, by omega⟩)
  have r21 : hR h2 B 0 = some (B + 1) := by rw [c2, if_neg (by decide)]; exact r1
  have r22 : hR h2 B 1 = some (B + 9) := by rw [c2, if_pos rfl]
  obtain ⟨m3, x3, o3, n3, u3, e3⟩ := mk58 (n2'.trans n2)
  obtain ⟨h3, E3, kw3, kx3, n3', u3', a3, b3, c3⟩ := o3.st (B := B) (k := 2) (v := some (B + 1 + 8 + 8)) (by omega) (n2'.trans n2) (by omega) (by omega)
  have y3 := x3.kw kx3 (fun a w1 w2 => (by omega : a ≠ B))
  have y13 := y12.kw kw3 (fun a w1 w2 => ⟨by omega, by omega⟩)
  have y23 := y2.kw kw3 (fun a w1 w2 => ⟨by omega, by omega⟩)
  have r31 : hR h3 B 0 = some (B + 1) := by rw [c3, if_neg (by decide)]; exact r21
  have r32 : hR h3 B 1 = some (B + 9) := by rw [c3, if_neg (by decide)]; exact r22
  have r33 : hR h3 B 2 = some (B + 17) := by rw [c3, if_pos rfl]
  have sB1 : hS h1 B = some (104, 0) := a1.trans sB0
  have sB2 : hS h2 B = some (104, 0) := a2.trans sB1
  have sB3 : hS h3 B = some (104, 0) := a3.trans sB2
  have S1 : hS mm1 B = some (104, 0) := by rw [(o1.2.2 B (by omega)).1]; exact sB0
  have S2 : hS m2 B = some (104, 0) := by rw [(o2.2.2 B (by omega)).1]; exact sB1
  have S3 : hS m3 B = some (104, 0) := by rw [(o3.2.2 B (by omega)).1]; exact sB2
  obtain ⟨h4, E4⟩ : ∃ h4, stI h3 B 3 (nI 0) = h4 := ⟨_, rfl⟩
  have kw4 : KW (fun b => b ≠ B) h3 h4 := by
    rw [← E4]
    exact ⟨rfl, rfl, Nat.le_refl _, Nat.le_refl _, fun b hb => ⟨rfl, fun j => ⟨by rw [hI_stI, if_neg (fun w => hb w.1)], rfl, rfl⟩⟩⟩
  have i4 : hI h4 B 3 = nI 0 := by rw [← E4, hI_stI, if_pos ⟨rfl, rfl⟩]
  have s4 : hS h4 B = some (104, 0) := by rw [← E4]; exact sB3
  have q4 : ∀ j, hR h4 B j = hR h3 B j := fun j => by rw [← E4]; rfl
  have n4 : hN h4 = hN h3 := by rw [← E4]; rfl
  have u4 : hU h4 = hU h3 := by rw [← E4]; rfl
  refine ⟨h4, ?_, y13.kw kw4 (fun a w1 w2 => (by omega : a ≠ B)), y23.kw kw4 (fun a w1 w2 => (by omega : a ≠ B)), y3.kw kw4 (fun a w1 w2 => (by omega : a ≠ B)), by omega, by omega, ?_, s4, i4, by rw [q4]; exact r31, by rw [q4]; exact r32, by rw [q4]; exact r33⟩
  · have t1 : E (d + 1) 80 0 [some (.ref B), p1] [] h0 = E (d + 1) 80 7 [some (.ref B), p1] [] h1 := by
      simp (disch := omega) only [s80_0, s80_1, s80_2, s80_3, s80_4, s80_5, s80_6, ↓reduceIte, Option.bind_some, Option.toList_some, Option.toList_none, List.cons_append, List.nil_append, if_true, if_false, true_or, or_true, true_and, and_true, not_true_eq_false, not_false_eq_true, Nat.reduceLT, Nat.reduceLeDiff, Nat.reduceEqDiff, Nat.reduceAdd, Nat.reduceMul, Nat.reduceSub, Nat.reducePow, Nat.reduceMod, Nat.reduceDiv, l0, l1, l2, l3, l4, l5, l6, l7, l8, l9, l10, l11, l12, l13, l14, l15, l16, l20, l31, l32, l36, l40, l48, l57, l59, l63, l64, l97, l99, l100, l101, l122, l127, l128, l250, l255, l262143, l262144, l30000, l100000, l12345, l1024, l4095, nI_eqs, nI_les, nI_lts, qI_eq, qI_eqn, nI_eqq, qI_lts, nI_ltp, nI_lep, qI_les, nI_add, nI_mul, qI_add, qI_s, qI_def, nI_clamps, bI_z, bI_o, bI_01, n01, n11, rf_some, rf_none, m1, m1n, bft, hn0, e1, S1, E1]
    have t2 : E (d + 1) 80 7 [some (.ref B), p1] [] h1 = E (d + 1) 80 12 [some (.ref B), p1] [] h2 := by
      have z := n1'.trans n1
      simp (disch := omega) only [s80_7, s80_8, s80_9, s80_10, s80_11, ↓reduceIte, Option.bind_some, Option.toList_some, Option.toList_none, List.cons_append, List.nil_append, if_true, if_false, true_or, or_true, true_and, and_true, not_true_eq_false, not_false_eq_true, Nat.reduceLT, Nat.reduceLeDiff, Nat.reduceEqDiff, Nat.reduceAdd, Nat.reduceMul, Nat.reduceSub, Nat.reducePow, Nat.reduceMod, Nat.reduceDiv, z, e2, S2, E2]
    have t3 : E (d + 1) 80 12 [some (.ref B), p1] [] h2 = E (d + 1) 80 20 [some (.ref B), p1] [] h4 := by
      have z := n2'.trans n2
      simp (disch := omega) only [s80_12, s80_13, s80_14, s80_15, s80_16, s80_17, s80_18, s80_19, ↓reduceIte, Option.bind_some, Option.toList_some, Option.toList_none, List.cons_append, List.nil_append, if_true, if_false, true_or, or_true, true_and, and_true, not_true_eq_false, not_false_eq_true, Nat.reduceLT, Nat.reduceLeDiff, Nat.reduceEqDiff, Nat.reduceAdd, Nat.reduceMul, Nat.reduceSub, Nat.reducePow, Nat.reduceMod, Nat.reduceDiv, l0, l1, l2, l3, l4, l5, l6, l7, l8, l9, l10, l11, l12, l13, l14, l15, l16, l20, l31, l32, l36, l40, l48, l57, l59, l63, l64, l97, l99, l100, l101, l122, l127, l128, l250, l255, l262143, l262144, l30000, l100000, l12345, l1024, l4095, n01, z, e3, S3, E3, sB3, and_self, E4]
    rw [t1, t2, t3]
  · exact (((kw1.mono (fun b hb => ⟨by omega, by omega⟩)).trans (kw2.mono (fun b hb => ⟨by omega, by omega⟩))).trans (kw3.mono (fun b hb => ⟨by omega, by omega⟩))).trans (kw4.mono (fun b hb => by omega))
theorem x80b (d : Nat) {h4 : AH} {B : Nat} (n4 : hN h4 = B + 25) (s4 : hS h4 B = some (104, 0)) (p1 : Option Value) : ∃ h', E (d + 1) 80 20 [some (.ref B), p1] [] h4 = E (d + 1) 80 40 [some (.ref B), some (.int (nI 0))] [] h' ∧ hN h' = B + 32 ∧ hU h' = hU h4 + 5393 ∧ KW (fun b => b < B + 25 ∧ b ≠ B) h4 h' ∧ hS h' B = some (104, 0) ∧ hI h' B 3 = hI h4 B 3 ∧ (hR h' B 0 = hR h4 B 0 ∧ hR h' B 1 = hR h4 B 1 ∧ hR h' B 2 = hR h4 B 2 ∧ hR h' B 4 = some (B + 25) ∧ hR h' B 5 = some (B + 26) ∧ hR h' B 6 = some (B + 28) ∧ hR h' B 7 = some (B + 31)) ∧ hS h' (B + 25) = some (5, 8) ∧ (hS h' (B + 26) = some (102, 0) ∧ hR h' (B + 26) 0 = some (B + 27) ∧ hS h' (B + 27) = some (0, 250) ∧ hI h' (B + 26) 1 = nI 0) ∧ (hS h' (B + 28) = some (100, 0) ∧ hR h' (B + 28) 0 = some (B + 29) ∧ hS h' (B + 29) = some (1, 4096) ∧ hR h' (B + 28) 1 = some (B + 30) ∧ hS h' (B + 30) = some (1, 1024) ∧ hI h' (B + 28) 2 = nI 0 ∧ ∀ w, hL h' (B + 29) w = 0) ∧ hS h' (B + 31) = some (0, 5) ∧ ∀ j, hI h' (B + 31) j = 0 := by
  obtain ⟨m5, F5, o5, n5, u5, t5, -⟩ := mkC n4 (5, 8) 8
  obtain ⟨h5, E5, kw5, kx5, n5', u5', a5, b5, c5⟩ := o5.st (B := B) (k := 4) (v := some (B + 25)) (by omega) n4 (by omega) (by omega)
  obtain ⟨m6, ⟨t1, t2, t3, t4⟩, o6, n6, u6, e6⟩ := mk32 (n5'.trans n5)
  obtain ⟨h6, E6, kw6, kx6, n6', u6', a6, b6, c6⟩ := o6.st (B := B) (k := 5) (v := some (B + 25 + 1)) (by omega) (n5'.trans n5) (by omega) (by omega)
  obtain ⟨m7, ⟨w1, w2, w3, w4, w5, w6, w7⟩, o7, n7, u7, e7⟩ := mk7 (n6'.trans n6)
  obtain ⟨h7, E7', kw7, kx7, n7', u7', a7, b7, c7⟩ := o7.st (B := B) (k := 6) (v := some (B + 25 + 1 + 2)) (by omega) (n6'.trans n6) (by omega) (by omega)
  obtain ⟨m8, F8, o8, n8, u8, t8, i8⟩ := mkC (n7'.trans n7) (0, 5) 5
  obtain ⟨h8, E8, kw8, kx8, n8', u8', a8, b8, c8⟩ := o8.st (B := B) (k := 7) (v := some (B + 25 + 1 + 2 + 3)) (by omega) (n7'.trans n7) (by omega) (by omega)
  have sB5 : hS h5 B = some (104, 0) := a5.trans s4
  have sB6 : hS h6 B = some (104, 0) := a6.trans sB5
  have sB7 : hS h7 B = some (104, 0) := a7.trans sB6
  have sB8 : hS h8 B = some (104, 0) := a8.trans sB7
  have S5 : hS m5 B = some (104, 0) := by rw [(o5.2.2 B (by omega)).1]; exact s4
  have S6 : hS m6 B = some (104, 0) := by rw [(o6.2.2 B (by omega)).1]; exact sB5
  have S7 : hS m7 B = some (104, 0) := by rw [(o7.2.2 B (by omega)).1]; exact sB6
  have S8 : hS m8 B = some (104, 0) := by rw [(o8.2.2 B (by omega)).1]; exact sB7
  have k78 := (kw8.mono (W' := fun b => b < B + 31 ∧ b ≠ B) (fun b hb => ⟨by omega, hb.2⟩))
  have k68 := (kw7.mono (W' := fun b => b < B + 28 ∧ b ≠ B) (fun b hb => ⟨by omega, hb.2⟩)).trans (k78.mono (fun b hb => ⟨by omega, hb.2⟩))
  have k58 := (kw6.mono (W' := fun b => b < B + 26 ∧ b ≠ B) (fun b hb => ⟨by omega, hb.2⟩)).trans (k68.mono (fun b hb => ⟨by omega, hb.2⟩))
  have k48 := (kw5.mono (W' := fun b => b < B + 25 ∧ b ≠ B) (fun b hb => ⟨by omega, hb.2⟩)).trans (k58.mono (fun b hb => ⟨by omega, hb.2⟩))
  have g5 := kx5.2.2.2.2
  have g6 := kx6.2.2.2.2
  have g7 := kx7.2.2.2.2
  have g8 := kx8.2.2.2.2
  have f5 := k58.2.2.2.2
  have f6 := k68.2.2.2.2
  have f7 := k78.2.2.2.2
  refine ⟨h8, ?_, by omega, by omega, k48, sB8, ?_, ⟨?_, ?_, ?_, ?_, ?_, ?_, ?_⟩, ?_, ⟨?_, ?_, ?_, ?_⟩, ⟨?_, ?_, ?_, ?_, ?_, ?_, fun w => ?_⟩, ?_, fun j => ?_⟩
  · have gl : (¬ (8 : Nat) < 0 ∧ (8 : Nat) ≤ 67108864) = True := eq_true ⟨by omega, by omega⟩
    have gl5 : (¬ (5 : Nat) < 0 ∧ (5 : Nat) ≤ 67108864) = True := eq_true ⟨by omega, by omega⟩
    have c8' : nI 8 < nI 0 ↔ False := by decide
    have c5' : nI 5 < nI 0 ↔ False := by decide
    have z5 := n5'.trans n5
    have z6 := n6'.trans n6
    have z7 := n7'.trans n7
    have s1 : E (d + 1) 80 20 [some (.ref B), p1] [] h4 = E (d + 1) 80 24 [some (.ref B), p1] [] h5 := by
      simp (disch := omega) only [s80_20, s80_21, s80_22, s80_23, ↓reduceIte, Option.bind_some, Option.toList_some, Option.toList_none, List.cons_append, List.nil_append, if_true, if_false, true_or, or_true, true_and, and_true, not_true_eq_false, not_false_eq_true, Nat.reduceLT, Nat.reduceLeDiff, Nat.reduceEqDiff, Nat.reduceAdd, Nat.reduceMul, Nat.reduceSub, Nat.reducePow, Nat.reduceMod, Nat.reduceDiv, l0, l1, l2, l3, l4, l5, l6, l7, l8, l9, l10, l11, l12, l13, l14, l15, l16, l20, l31, l32, l36, l40, l48, l57, l59, l63, l64, l97, l99, l100, l101, l122, l127, l128, l250, l255, l262143, l262144, l30000, l100000, l12345, l1024, l4095, nI_clamps, c8', n4, F5, S5, E5]
    have s2 : E (d + 1) 80 24 [some (.ref B), p1] [] h5 = E (d + 1) 80 29 [some (.ref B), p1] [] h6 := by
      simp (disch := omega) only [s80_24, s80_25, s80_26, s80_27, s80_28, ↓reduceIte, Option.bind_some, Option.toList_some, Option.toList_none, List.cons_append, List.nil_append, if_true, if_false, true_or, or_true, true_and, and_true, not_true_eq_false, not_false_eq_true, Nat.reduceLT, Nat.reduceLeDiff, Nat.reduceEqDiff, Nat.reduceAdd, Nat.reduceMul, Nat.reduceSub, Nat.reducePow, Nat.reduceMod, Nat.reduceDiv, z5, e6, S6, E6]
    have s3 : E (d + 1) 80 29 [some (.ref B), p1] [] h6 = E (d + 1) 80 34 [some (.ref B), p1] [] h7 := by
      simp (disch := omega) only [s80_29, s80_30, s80_31, s80_32, s80_33, ↓reduceIte, Option.bind_some, Option.toList_some, Option.toList_none, List.cons_append, List.nil_append, if_true, if_false, true_or, or_true, true_and, and_true, not_true_eq_false, not_false_eq_true, Nat.reduceLT, Nat.reduceLeDiff, Nat.reduceEqDiff, Nat.reduceAdd, Nat.reduceMul, Nat.reduceSub, Nat.reducePow, Nat.reduceMod, Nat.reduceDiv, z6, e7, S7, E7']
    have s5 : E (d + 1) 80 34 [some (.ref B), p1] [] h7 = E (d + 1) 80 40 [some (.ref B), some (.int (nI 0))] [] h8 := by
      simp (disch := omega) only [s80_34, s80_35, s80_36, s80_37, s80_38, s80_39, ↓reduceIte, Option.bind_some, Option.toList_some, Option.toList_none, List.cons_append, List.nil_append, if_true, if_false, true_or, or_true, true_and, and_true, not_true_eq_false, not_false_eq_true, Nat.reduceLT, Nat.reduceLeDiff, Nat.reduceEqDiff, Nat.reduceAdd, Nat.reduceMul, Nat.reduceSub, Nat.reducePow, Nat.reduceMod, Nat.reduceDiv, l0, l1, l2, l3, l4, l5, l6, l7, l8, l9, l10, l11, l12, l13, l14, l15, l16, l20, l31, l32, l36, l40, l48, l57, l59, l63, l64, l97, l99, l100, l101, l122, l127, l128, l250, l255, l262143, l262144, l30000, l100000, l12345, l1024, l4095, nI_clamps, c5', z7, F8, S8, E8]
    rw [s1, s2, s3, s5]
  · rw [b8, b7, b6, b5]
  · rw [c8, if_neg (by decide), c7, if_neg (by decide), c6, if_neg (by decide), c5, if_neg (by decide)]
  · rw [c8, if_neg (by decide), c7, if_neg (by decide), c6, if_neg (by decide), c5, if_neg (by decide)]
  · rw [c8, if_neg (by decide), c7, if_neg (by decide), c6, if_neg (by decide), c5, if_neg (by decide)]
  · rw [c8, if_neg (by decide), c7, if_neg (by decide), c6, if_neg (by decide), c5, if_pos rfl]
  · rw [c8, if_neg (by decide), c7, if_neg (by decide), c6, if_pos rfl]
  · rw [c8, if_neg (by decide), c7, if_pos rfl]
  · rw [c8, if_pos rfl]
  · rw [(f5 (B + 25) ⟨by omega, by omega⟩).1, (g5 (B + 25) (by omega)).1]; exact t5
  · rw [(f6 (B + 26) ⟨by omega, by omega⟩).1, (g6 (B + 26) (by omega)).1]; exact t1
  · rw [((f6 (B + 26) ⟨by omega, by omega⟩).2 0).2.2, ((g6 (B + 26) (by omega)).2 0).2.2]; exact t2
  · rw [(f6 (B + 27) ⟨by omega, by omega⟩).1, (g6 (B + 27) (by omega)).1]; exact t3
  · rw [((f6 (B + 26) ⟨by omega, by omega⟩).2 1).1, ((g6 (B + 26) (by omega)).2 1).1]; exact t4
  · rw [(f7 (B + 28) ⟨by omega, by omega⟩).1, (g7 (B + 28) (by omega)).1]; exact w1
  · rw [((f7 (B + 28) ⟨by omega, by omega⟩).2 0).2.2, ((g7 (B + 28) (by omega)).2 0).2.2]; exact w2
  · rw [(f7 (B + 29) ⟨by omega, by omega⟩).1, (g7 (B + 29) (by omega)).1]; exact w3
  · rw [((f7 (B + 28) ⟨by omega, by omega⟩).2 1).2.2, ((g7 (B + 28) (by omega)).2 1).2.2]; exact w4
  · rw [(f7 (B + 30) ⟨by omega, by omega⟩).1, (g7 (B + 30) (by omega)).1]; exact w5
  · rw [((f7 (B + 28) ⟨by omega, by omega⟩).2 2).1, ((g7 (B + 28) (by omega)).2 2).1]; exact w6
  · rw [((f7 (B + 29) ⟨by omega, by omega⟩).2 w).2.1, ((g7 (B + 29) (by omega)).2 w).2.1]; exact w7 w
  · rw [(g8 (B + 31) (by omega)).1]; exact t8
  · rw [((g8 (B + 31) (by omega)).2 j).1]; exact i8 j
theorem x80 (d : Nat) {h0 : AH} {B : Nat} (hn0 : hN h0 = B + 1) (sB0 : hS h0 B = some (104, 0)) (p1 : Option Value) : ∃ h', E (d + 1) 80 0 [some (.ref B), p1] [] h0 = some (none, h') ∧ DX h' B s00 ∧ hN h' = B + 48 ∧ hU h' = hU h0 + 5907 ∧ KW (fun b => b < B) h0 h' ∧ LE h' B (B + 30) 0 := by
  obtain ⟨h4, e4, y1, y2, y3, n4, u4, kw4, s4, i4, r0, r1, r2⟩ := x80a d hn0 sB0 p1
  obtain ⟨h8, e8, n8, u8, kw8, s8, i8, ⟨q0, q1, q2, q4, q5, q6, q7⟩, s25, ⟨t1, t2, t3, t4⟩, ⟨w1, w2, w3, w4, w5, w6, w7⟩, s31, i31⟩ := x80b d n4 s4 p1
  obtain ⟨h9, e9, n9, u9, kw9, s9, sx9⟩ := x80l d 8 0 h8 (by decide) (by omega) s8 q4 s25 (fun j hj => absurd hj (Nat.not_lt_zero _))
  have k9 : ∀ b, b < B + 32 → b ≠ B + 25 → hS h9 b = hS h8 b ∧ ∀ j, hI h9 b j = hI h8 b j ∧ hL h9 b j = hL h8 b j ∧ hR h9 b j = hR h8 b j := fun b h1 h2 => kw9.2.2.2.2 b ⟨by omega, h2⟩
  have kB := k9 B (by omega) (by omega)
  have K49 : KW (fun b => b < B + 25 ∧ b ≠ B) h4 h9 := kw8.trans (kw9.mono (fun b hb => ⟨by omega, by omega⟩))
  have R : ∀ j, hR h9 B j = hR h8 B j := fun j => (kB.2 j).2.2
  have S0 : hS h9 B = some (104, 0) := by rw [kB.1]; exact s8
  have X1 := y1.kw K49 (fun a w1 w2 => ⟨by omega, by omega⟩)
  have X2 := y2.kw K49 (fun a w1 w2 => ⟨by omega, by omega⟩)
  have X3 := y3.kw K49 (fun a w1 w2 => ⟨by omega, by omega⟩)
  have k28 := k9 (B + 28) (by omega) (by omega)
  have k29 := k9 (B + 29) (by omega) (by omega)
  have k26 := k9 (B + 26) (by omega) (by omega)
  have R28 : hR h9 (B + 28) 1 = some (B + 30) := by rw [(k28.2 1).2.2]; exact w4
  have S30 : hS h9 (B + 30) = some (1, 1024 * 2 ^ 0) := by rw [(k9 (B + 30) (by omega) (by omega)).1]; exact w5
  have L29 : ∀ w, hL h9 (B + 29) w = 0 := fun w => by rw [(k29.2 w).2.1]; exact w7 w
  refine ⟨h9, ?_, ⟨⟨S0, ?_, ?_, ?_, ?_, ?_, X2.1, X3.1⟩, X1, ⟨?_, fun y hy => (by cases hy)⟩, ⟨S0, ?_, s9, sx9⟩, ⟨?_, ?_, ?_, ?_, Nat.zero_le _, fun i hi => absurd hi (Nat.not_lt_zero _)⟩, ⟨S0, ?_, ?_, fun k hk => ?_⟩, ⟨?_, ?_, ?_, B + 30, 0, 0, R28, Or.inl rfl, by omega, S30, by decide, Nat.zero_le _, ?_, fun w hw => absurd (L29 w) hw⟩⟩, n9, by omega, ?_, ⟨R28, S30, by decide, Or.inl rfl, by omega⟩⟩
  · rw [e4, e8]; exact e9
  · rw [R, q0]; exact r0
  · rw [R, q1]; exact r1
  · rw [R, q2]; exact r2
  · rw [R]; exact q5
  · rw [R]; exact q6
  · rw [(kB.2 3).1, i8, i4]; rfl
  · rw [R]; exact q4
  · rw [k26.1]; exact t1
  · rw [(k26.2 0).2.2]; exact t2
  · rw [(k9 (B + 27) (by omega) (by omega)).1]; exact t3
  · rw [(k26.2 1).1]; exact t4
  · rw [R]; exact q7
  · rw [(k9 (B + 31) (by omega) (by omega)).1]; exact s31
  · rw [((k9 (B + 31) (by omega) (by omega)).2 k).1, i31]; rfl
  · rw [k28.1]; exact w1
  · rw [(k28.2 0).2.2]; exact w2
  · rw [k29.1]; exact w3
  · rw [(k28.2 2).1]; exact w6
  · exact (kw4.mono (fun b hb => hb)).trans (K49.mono (fun b hb => ⟨by omega, by omega⟩))
