/-! THE LAW: its loop, and the whole of it over the abstract machine -/
theorem law_sw (d : Nat) {S B A N0 U0 n p : Nat} {hs h : AH} {s : GS} {l e j : Nat} (iv : IV B A N0 U0 hs h s l e j) (hSB : S < B) (s8 : hS hs S = some (8, n)) (hp : p + 6 ≤ n) (hn : n ≤ 3072) (v : Int32) : ∃ h' s' l' e', E (d + 19) 232 21 [some (.ref S), some (.ref B), some (.ref A), some (.int (nI p))] [.int v] h = E (d + 19) 232 1068 [some (.ref S), some (.ref B), some (.ref A), some (.int (nI p))] [] h' ∧ IV B A N0 U0 hs h' s' l' e' (j + 1) := by
  rw [s232_21]
  by_cases q0 : v = 0
  · rw [if_pos q0]; exact law_0 d iv hSB s8 hp hn
  rw [if_neg q0]
  by_cases q1 : v = 1
  · rw [if_pos q1]; exact law_1 d iv hSB s8 hp hn
  rw [if_neg q1]
  by_cases q2 : v = 2
  · rw [if_pos q2]; exact law_2 d iv hSB s8 hp hn
  rw [if_neg q2]
  by_cases q3 : v = 3
  · rw [if_pos q3]; exact law_3 d iv hSB s8 hp hn
  rw [if_neg q3]
  by_cases q4 : v = 4
  · rw [if_pos q4]; exact law_4 d iv hSB s8 hp hn
  rw [if_neg q4]
  by_cases q5 : v = 5
  · rw [if_pos q5]; exact law_5 d iv hSB s8 hp hn
  rw [if_neg q5]
  by_cases q6 : v = 6
  · rw [if_pos q6]; exact law_6 d iv hSB s8 hp hn
  rw [if_neg q6]
  by_cases q7 : v = 7
  · rw [if_pos q7]; exact law_7 d iv hSB s8 hp hn
  rw [if_neg q7]
  by_cases q8 : v = 8
  · rw [if_pos q8]; exact law_8 d iv hSB s8 hp hn
  rw [if_neg q8]
  by_cases q9 : v = 9
  · rw [if_pos q9]; exact law_9 d iv hSB s8 hp hn
  rw [if_neg q9]
  by_cases q10 : v = 10
  · rw [if_pos q10]; exact law_10 d iv hSB s8 hp hn
  rw [if_neg q10]
  by_cases q11 : v = 11
  · rw [if_pos q11]; exact law_11 d iv hSB s8 hp hn
  rw [if_neg q11]
  by_cases q12 : v = 12
  · rw [if_pos q12]; exact law_12 d iv hSB s8 hp hn
  rw [if_neg q12]
  by_cases q13 : v = 13
  · rw [if_pos q13]; exact law_13 d iv hSB s8 hp hn
  rw [if_neg q13]
  by_cases q14 : v = 14
  · rw [if_pos q14]; exact law_14 d iv hSB s8 hp hn
  rw [if_neg q14]
  by_cases q15 : v = 15
  · rw [if_pos q15]; exact law_15 d iv hSB s8 hp hn
  rw [if_neg q15]
  by_cases q16 : v = 16
  · rw [if_pos q16]; exact law_16 d iv hSB s8 hp hn
  rw [if_neg q16]
  by_cases q17 : v = 17
  · rw [if_pos q17]; exact law_17 d iv hSB s8 hp hn
  rw [if_neg q17]
  by_cases q18 : v = 18
  · rw [if_pos q18]; exact law_18 d iv hSB s8 hp hn
  rw [if_neg q18]
  by_cases q19 : v = 19
  · rw [if_pos q19]; exact law_19 d iv hSB s8 hp hn
  rw [if_neg q19]
  by_cases q20 : v = 20
  · rw [if_pos q20]; exact law_20 d iv hSB s8 hp hn
  rw [if_neg q20]
  by_cases q21 : v = 21
  · rw [if_pos q21]; exact law_21 d iv hSB s8 hp hn
  rw [if_neg q21]
  by_cases q22 : v = 22
  · rw [if_pos q22]; exact law_22 d iv hSB s8 hp hn
  rw [if_neg q22]
  by_cases q23 : v = 23
  · rw [if_pos q23]; exact law_23 d iv hSB s8 hp hn
  rw [if_neg q23]
  by_cases q24 : v = 24
  · rw [if_pos q24]; exact law_24 d iv hSB s8 hp hn
  rw [if_neg q24]
  by_cases q25 : v = 25
  · rw [if_pos q25]; exact law_25 d iv hSB s8 hp hn
  rw [if_neg q25]
  by_cases q26 : v = 26
  · rw [if_pos q26]; exact law_26 d iv hSB s8 hp hn
  rw [if_neg q26]
  by_cases q27 : v = 27
  · rw [if_pos q27]; exact law_27 d iv hSB s8 hp hn
  rw [if_neg q27]
  by_cases q28 : v = 28
  · rw [if_pos q28]; exact law_28 d iv hSB s8 hp hn
  rw [if_neg q28]
  by_cases q29 : v = 29
  · rw [if_pos q29]; exact law_29 d iv hSB s8 hp hn
  rw [if_neg q29]
  by_cases q30 : v = 30
  · rw [if_pos q30]; exact law_30 d iv hSB s8 hp hn
  rw [if_neg q30]
  by_cases q31 : v = 31
  · rw [if_pos q31]; exact law_31 d iv hSB s8 hp hn
  rw [if_neg q31]
  by_cases q32 : v = 32
  · rw [if_pos q32]; exact law_32 d iv hSB s8 hp hn
  rw [if_neg q32]
  by_cases q33 : v = 33
  · rw [if_pos q33]; exact law_33 d iv hSB s8 hp hn
  rw [if_neg q33]
  by_cases q34 : v = 34
  · rw [if_pos q34]; exact law_34 d iv hSB s8 hp hn
  rw [if_neg q34]
  by_cases q35 : v = 35
  · rw [if_pos q35]; exact law_35 d iv hSB s8 hp hn
  rw [if_neg q35]
  by_cases q36 : v = 36
  · rw [if_pos q36]; exact law_36 d iv hSB s8 hp hn
  rw [if_neg q36]
  by_cases q37 : v = 37
  · rw [if_pos q37]; exact law_37 d iv hSB s8 hp hn
  rw [if_neg q37]
  by_cases q38 : v = 38
  · rw [if_pos q38]; exact law_38 d iv hSB s8 hp hn
  rw [if_neg q38]
  by_cases q39 : v = 39
  · rw [if_pos q39]; exact law_39 d iv hSB s8 hp hn
  rw [if_neg q39]
  by_cases q40 : v = 40
  · rw [if_pos q40]; exact law_40 d iv hSB s8 hp hn
  rw [if_neg q40]
  by_cases q41 : v = 41
  · rw [if_pos q41]; exact law_41 d iv hSB s8 hp hn
  rw [if_neg q41]
  by_cases q42 : v = 42
  · rw [if_pos q42]; exact law_42 d iv hSB s8 hp hn
  rw [if_neg q42]
  exact ⟨h, s, l, e, rfl, iv.same⟩
theorem lt6 {n p : Nat} (hn : n ≤ 3072) (hp : p ≤ 4000) : (nI n - nI 6 < nI p) = (n < p + 6) := by
  apply propext
  rcases Nat.lt_or_ge n 6 with w | w
  · have a : n = 0 ∨ n = 1 ∨ n = 2 ∨ n = 3 ∨ n = 4 ∨ n = 5 := by omega
    have e : (nI n - nI 6).toInt = (n : Int) - 6 := by
      rcases a with rfl | rfl | rfl | rfl | rfl | rfl <;> decide
    rw [Int32.lt_iff_toInt_lt, e, nI_toInt (by omega)]
    omega
  · rw [nI_sub w, nI_lts (by omega) (by omega)]
    omega
theorem law_lp (d : Nat) {S B A N0 U0 n : Nat} {hs : AH} (hSB : S < B) (s8 : hS hs S = some (8, n)) (hn : n ≤ 3072) : ∀ m p h s l e j, p + 6 * m ≤ n → n < p + 6 * m + 6 → IV B A N0 U0 hs h s l e j → ∃ h' s' l' e', E (d + 19) 232 10 [some (.ref S), some (.ref B), some (.ref A), some (.int (nI p))] [] h = some (some (.int (nI 1)), h') ∧ IV B A N0 U0 hs h' s' l' e' (j + m) := by
  intro m
  induction m with
  | zero =>
    intro p h s l e j h1 h2 iv
    have s8h : hS h S = some (8, n) := by rw [(iv.2.2.2.2.2.2.2.1.2.2.2.2 S hSB).1]; exact s8
    have L := lenA_of s8h (by decide)
    have lt := lt6 (n := n) (p := p) hn (by omega)
    have lt' : (nI n - nI 6 < nI p) = True := by rw [lt]; exact eq_true (by omega)
    refine ⟨h, s, l, e, ?_, iv⟩
    rw [s232_10]
    simp (disch := omega) only [s232_11, s232_12, s232_13, s232_14, s232_15, s232_1070, s232_1071, ↓reduceIte, Option.bind_some, Option.toList_some, Option.toList_none, List.cons_append, List.nil_append, if_true, if_false, true_or, or_true, true_and, and_true, not_true_eq_false, not_false_eq_true, Nat.reduceLT, Nat.reduceLeDiff, Nat.reduceEqDiff, Nat.reduceAdd, Nat.reduceMul, Nat.reduceSub, Nat.reducePow, Nat.reduceMod, Nat.reduceDiv, l0, l1, l2, l3, l4, l5, l6, l7, l8, l9, l10, l11, l12, l13, l14, l15, l16, l20, l31, l32, l36, l40, l48, l57, l59, l63, l64, l97, l99, l100, l101, l122, l127, l128, l250, l255, l262143, l262144, l30000, l100000, l12345, l1024, l4095, L, lt', n01, n11]
  | succ m ih =>
    intro p h s l e j h1 h2 iv
    have s8h : hS h S = some (8, n) := by rw [(iv.2.2.2.2.2.2.2.1.2.2.2.2 S hSB).1]; exact s8
    have L := lenA_of s8h (by decide)
    by_cases c : n < p + 6
    · exfalso; omega
    · have lt := lt6 (n := n) (p := p) hn (by omega)
      have lt' : (nI n - nI 6 < nI p) = False := by rw [lt]; exact eq_false c
      obtain ⟨h', s', l', e', e1, iv'⟩ := law_sw d iv hSB s8 (p := p) (by omega) hn (hI h S p &&& nI 63)
      obtain ⟨h'', s'', l'', e'', e2, iv''⟩ := ih (p + 6) h' s' l' e' (j + 1) (by omega) (by omega) iv'
      refine ⟨h'', s'', l'', e'', ?_, by rw [show j + (m + 1) = j + 1 + m by omega]; exact iv''⟩
      rw [← e2, s232_10]
      simp (disch := omega) only [s232_11, s232_12, s232_13, s232_14, s232_15, s232_16, s232_17, s232_18, s232_19, s232_20, ↓reduceIte, Option.bind_some, Option.toList_some, Option.toList_none, List.cons_append, List.nil_append, if_true, if_false, true_or, or_true, true_and, and_true, not_true_eq_false, not_false_eq_true, Nat.reduceLT, Nat.reduceLeDiff, Nat.reduceEqDiff, Nat.reduceAdd, Nat.reduceMul, Nat.reduceSub, Nat.reducePow, Nat.reduceMod, Nat.reduceDiv, l0, l1, l2, l3, l4, l5, l6, l7, l8, l9, l10, l11, l12, l13, l14, l15, l16, l20, l31, l32, l36, l40, l48, l57, l59, l63, l64, l97, l99, l100, l101, l122, l127, l128, l250, l255, l262143, l262144, l30000, l100000, l12345, l1024, l4095, L, lt', gS s8h, nI_clamps]
      rw [e1]
      simp (disch := omega) only [s232_1068, s232_1069, ↓reduceIte, Option.bind_some, Option.toList_some, Option.toList_none, List.cons_append, List.nil_append, if_true, if_false, true_or, or_true, true_and, and_true, not_true_eq_false, not_false_eq_true, Nat.reduceLT, Nat.reduceLeDiff, Nat.reduceEqDiff, Nat.reduceAdd, Nat.reduceMul, Nat.reduceSub, Nat.reducePow, Nat.reduceMod, Nat.reduceDiv, l0, l1, l2, l3, l4, l5, l6, l7, l8, l9, l10, l11, l12, l13, l14, l15, l16, l20, l31, l32, l36, l40, l48, l57, l59, l63, l64, l97, l99, l100, l101, l122, l127, l128, l250, l255, l262143, l262144, l30000, l100000, l12345, l1024, l4095, nI_add]
theorem SZ_le (n : Nat) : SZ n ≤ 423252 := by
  have : ∀ l : List Nat, (l.filter fun v => decide (v ≤ n)).sum ≤ l.sum := by
    intro l
    induction l with
    | nil => exact Nat.le_refl _
    | cons a l ih =>
      rw [List.filter_cons, List.sum_cons]
      split
      · rw [List.sum_cons]; omega
      · omega
  exact Nat.le_trans (this szs) (by decide)
theorem MX.pot {h : AH} {A : Nat} {s : GS} {W : Nat → Prop} (x : MX h A s W) : pN h A ≤ 524394 ∧ pU h A ≤ 848242 := by
  obtain ⟨g1, g2, g3, g4, f, q, n, r1, r2, s1, s2, nl, -⟩ := x.2.2.2.2.2.1
  have e : fN h A = n := by
    unfold fN; rw [r1]
    show alen h f 2 = n
    exact alen_of s1
  have o : ∀ k, oB h A k ≤ 1 := fun k => by unfold oB; split <;> omega
  have o1 := o 22
  have o2 := o 23
  have z := SZ_le n
  unfold pN pU
  rw [e]; omega
theorem OLD.kw {a : Nat} {h h' : AH} (o : OLD a h h') (n : hN h ≤ hN h') (u : hU h ≤ hU h') {W : Nat → Prop} (w : ∀ b, W b → b < a) : KW W h h' := ⟨o.1, o.2.1, n, u, fun b hb => o.2.2 b (w b hb)⟩
theorem law_all (d : Nat) {S n : Nat} {hs : AH} (hSB : S < hN hs) (s8 : hS hs S = some (8, n)) (hn : n ≤ 3072) (wk : WK hs) (wm : WM hs) : ∃ h', E (d + 19) 232 0 [some (.ref S), none, none, none] [] hs = some (some (.int (nI 1)), h') ∧ hN h' ≤ hN hs + 530000 ∧ hU h' ≤ hU hs + 1500000 := by
  generalize hB : hN hs = B at *
  obtain ⟨h1, E1, o1, n1, u1, t1, i1⟩ := mkC hB (104, 0) 8
  obtain ⟨h2, e2, dx, n2, u2, kw2, le⟩ := x80 (d + 17) n1 t1 none
  have hA : hN h2 = B + 48 := n2
  obtain ⟨mx, o3, n3, u3, p3, q3⟩ := MX.start (h := h2) (W := WD B (B + 30)) hA (fun b hb => by unfold WD at hb; omega)
  obtain ⟨h3, E3⟩ : ∃ h3, H135_25 (newC h2 (105, 0) 40) (B + 48) = h3 := ⟨_, rfl⟩
  have e3 : ∀ d, E d 135 0 [some (.ref (B + 48))] [] (newC h2 (105, 0) 40) = some (none, h3) := fun d => by
    rw [← E3]; exact E135 d (by rw [hN_newC, hA]) (by rw [hS_newC, if_pos hA.symm])
  rw [E3] at mx o3 n3 u3 p3 q3
  have k1 : KW (fun b => b < B) hs h1 := o1.kw (by omega) (by omega) (fun b hb => hb)
  have k3 : KW (WD B (B + 30)) h2 h3 := o3.kw (by omega) (by omega) (fun b hb => by unfold WD at hb; omega)
  obtain ⟨dx3, le3⟩ := dx.kw le k3
  have K : KW (fun b => b < B) hs h3 := (k1.trans kw2).trans (k3.mono (fun b hb => Or.inl (by omega)))
  have iv : IV B (B + 48) (B + 101) (hU h3) hs h3 s00 (B + 30) 0 0 := ⟨dx3, mx, le3, fun x hx w => absurd (show (0 : Nat) = 2 from w) (by decide), wk.kx K.1 K.2.1, wm.kx K.1 K.2.1, by omega, K, by omega, by omega⟩
  obtain ⟨h', s', l', e', e4, iv'⟩ := law_lp d hSB s8 hn (n / 6) 0 h3 s00 (B + 30) 0 0 (by omega) (by omega) iv
  have pt := iv'.2.1.pot
  have e8 := iv'.2.2.1.2.2.1
  have pw : 2 ^ e' ≤ 2 ^ 8 := Nat.pow_le_pow_right (by decide) e8
  have b1 := iv'.2.2.2.2.2.2.2.2.1
  have b2 := iv'.2.2.2.2.2.2.2.2.2
  refine ⟨h', ?_, by omega, by omega⟩
  rw [← e4]
  simp (disch := omega) only [s232_0, s232_1, s232_2, s232_3, s232_4, s232_5, s232_6, s232_7, s232_8, s232_9, ↓reduceIte, Option.bind_some, Option.toList_some, Option.toList_none, List.cons_append, List.nil_append, if_true, if_false, true_or, or_true, true_and, and_true, not_true_eq_false, not_false_eq_true, Nat.reduceLT, Nat.reduceLeDiff, Nat.reduceEqDiff, Nat.reduceAdd, Nat.reduceMul, Nat.reduceSub, Nat.reducePow, Nat.reduceMod, Nat.reduceDiv, l0, l1, l2, l3, l4, l5, l6, l7, l8, l9, l10, l11, l12, l13, l14, l15, l16, l20, l31, l32, l36, l40, l48, l57, l59, l63, l64, l97, l99, l100, l101, l122, l127, l128, l250, l255, l262143, l262144, l30000, l100000, l12345, l1024, l4095, hB, E1, e2, hA, e3]
