/-! SEARCHES of the reference: room for the table, and its filling -/
theorem sum_in (p q : Nat → Bool) (h : ∀ v, p v = true → q v = true) (S : Nat) (h1 : p S = false) (h2 : q S = true) : ∀ l : List Nat, S ∈ l → (l.filter p).sum + S ≤ (l.filter q).sum := by
  have mono : ∀ l : List Nat, (l.filter p).sum ≤ (l.filter q).sum := by
    intro l
    induction l with
    | nil => exact Nat.le_refl _
    | cons a l ih =>
      rw [List.filter_cons, List.filter_cons]
      cases hp : p a
      · rw [if_neg (by decide)]
        cases hq : q a
        · rw [if_neg (by decide)]; exact ih
        · rw [if_pos rfl, List.sum_cons]; omega
      · rw [if_pos rfl, h a hp, if_pos rfl, List.sum_cons, List.sum_cons]; omega
  intro l
  induction l with
  | nil => intro m; exact absurd m (List.not_mem_nil)
  | cons a l ih =>
    intro m
    rw [List.filter_cons, List.filter_cons]
    by_cases e : a = S
    · subst e
      rw [h1, if_neg (by decide), h2, if_pos rfl, List.sum_cons]
      have := mono l
      omega
    · have m' : S ∈ l := by
        rcases List.mem_cons.mp m with w | w
        · exact absurd w.symm e
        · exact w
      have := ih m'
      cases hp : p a
      · rw [if_neg (by decide)]
        cases hq : q a
        · rw [if_neg (by decide)]; exact this
        · rw [if_pos rfl, List.sum_cons]; omega
      · rw [if_pos rfl, h a hp, if_pos rfl, List.sum_cons, List.sum_cons]; omega
theorem SZ_lt {n S : Nat} (h : n < S) (m : S ∈ szs) : SZ n + S ≤ SZ S := sum_in (fun v => decide (v ≤ n)) (fun v => decide (v ≤ S)) (fun v hv => decide_eq_true (by have := of_decide_eq_true hv; omega)) S (decide_eq_false (by omega)) (decide_eq_true (Nat.le_refl _)) szs m
/-- two tables more -/
def nfq (h : AH) (A S : Nat) : AH := stR (newC (stR (newC h (2, S) S) A 31 (some (hN h))) (0, S) S) A 32 (some (hN h + 1))
theorem nfq_f {h : AH} {A S : Nat} (hA : A + 53 ≤ hN h) : (∀ b, b < hN h → hS (nfq h A S) b = hS h b) ∧ (∀ b j, b < hN h → hI (nfq h A S) b j = hI h b j ∧ hL (nfq h A S) b j = hL h b j) ∧ (∀ b j, b < hN h → (b ≠ A ∨ (j ≠ 31 ∧ j ≠ 32)) → hR (nfq h A S) b j = hR h b j) ∧ hR (nfq h A S) A 31 = some (hN h) ∧ hR (nfq h A S) A 32 = some (hN h + 1) ∧ hS (nfq h A S) (hN h) = some (2, S) ∧ hS (nfq h A S) (hN h + 1) = some (0, S) := by
  refine ⟨fun b hb => ?_, fun b j hb => ⟨?_, ?_⟩, fun b j hb hj => ?_, ?_, ?_, ?_, ?_⟩
  · show (if b = hN h + 1 then _ else if b = hN h then _ else hS h b) = _
    rw [if_neg (by omega), if_neg (by omega)]
  · show (if b = hN h + 1 then _ else if b = hN h then _ else hI h b j) = _
    rw [if_neg (by omega), if_neg (by omega)]
  · show (if b = hN h + 1 then _ else if b = hN h then _ else hL h b j) = _
    rw [if_neg (by omega), if_neg (by omega)]
  · show (if b = A ∧ j = 32 then _ else if b = hN h + 1 then _ else if b = A ∧ j = 31 then _ else if b = hN h then _ else hR h b j) = _
    rw [if_neg (by omega), if_neg (by omega), if_neg (by omega), if_neg (by omega)]
  · show (if A = A ∧ 31 = 32 then _ else if A = hN h + 1 then _ else if A = A ∧ 31 = 31 then some (hN h) else _) = _
    rw [if_neg (by omega), if_neg (by omega), if_pos ⟨rfl, rfl⟩]
  · show (if A = A ∧ 32 = 32 then some (hN h + 1) else _) = _
    rw [if_pos ⟨rfl, rfl⟩]
  · show (if hN h = hN h + 1 then _ else if hN h = hN h then some (2, S) else _) = _
    rw [if_neg (by omega), if_pos rfl]
  · show (if hN h + 1 = hN h + 1 then some (0, S) else _) = _
    rw [if_pos rfl]
theorem MX.room2 {h : AH} {A : Nat} {s : GS} {W : Nat → Prop} (x : MX h A s W) {fa n S : Nat} (hf : hR h A 31 = some fa) (hs : hS h fa = some (2, n)) (hS' : n < S) (mS : S ∈ szs) (lS : S ≤ 262144) : MX (nfq h A S) A s W ∧ KW W h (nfq h A S) ∧ RM A h (nfq h A S) 0 0 := by
  obtain ⟨x1, x2, x3, x4, x5, x6, x7, x8, x9⟩ := id x
  obtain ⟨f5, f6, f7, r1, r2, s1, s2⟩ := nfq_f (S := S) x8
  have z := MX.congr (h' := nfq h A S) x1 x2 x3 x4 x5 (fun b h1 h2 => f5 b (by omega)) (fun b j h1 h2 _ => (f6 b j (by omega)).1) (fun b j h1 h2 => (f6 b j (by omega)).2) (fun b j h1 h2 => f7 b j (by omega) (by omega)) (fun j h1 h2 h3 h4 => f7 A j (by omega) (Or.inr ⟨h3, h4⟩))
  have r22 : hR (nfq h A S) A 22 = hR h A 22 := f7 A 22 (by omega) (Or.inr ⟨by decide, by decide⟩)
  have r23 : hR (nfq h A S) A 23 = hR h A 23 := f7 A 23 (by omega) (Or.inr ⟨by decide, by decide⟩)
  obtain ⟨g1, g2, g3, g4, p, r, m, g5, g6, g7, g8, g9, g10, g11, g12⟩ := x6
  have n2 : hN (nfq h A S) = hN h + 2 := rfl
  have nb : ∀ b, hN h ≤ b → ¬ W b := fun b hb w => by have := x9 b w; omega
  refine ⟨⟨z.1, z.2.1, z.2.2.1, z.2.2.2.1, z.2.2.2.2, ⟨fun o ho => ?_, by rw [r22]; exact g2, fun y hy => ?_, by rw [r22, r23]; exact g4, hN h, hN h + 1, S, r1, r2, s1, s2, lS, by omega, ?_, ?_⟩, x7, by omega, fun b hb => by have := x9 b hb; omega⟩, ⟨rfl, rfl, by omega, by show hU h ≤ hU h + S + S; omega, fun b hb => ?_⟩, ?_⟩
  · rw [r23] at ho
    obtain ⟨w1, w2, w3, w4⟩ := g1 o ho
    refine ⟨w1.ext (fun b h1 h2 => ⟨f5 b (by omega), fun j => f7 b j (by omega) (by omega)⟩), w2, by omega, w4⟩
  · obtain ⟨p', w1, w2, w3, w4, w5⟩ := g3 y hy
    refine ⟨p', by rw [r22]; exact w1, ⟨w2.1.ext (fun b h1 h2 => ⟨f5 b (by omega), fun j => f7 b j (by omega) (by omega)⟩), w2.2.1.fr (fun b h1 h2 j => (f6 b j (by omega)).1), w2.2.2⟩, w3, by omega, w5⟩
  · refine ⟨Or.inr (Or.inr x8), by omega, nb _ (Nat.le_refl _), fun o ho w => ?_, fun o ho w => ?_⟩
    · rw [r23] at ho
      have := (g1 o ho).2.2.1
      unfold blk at w; omega
    · rw [r22] at ho
      cases hk : gK s with
      | none => rw [g2 hk] at ho; cases ho
      | some y =>
        obtain ⟨p', w1, w2, w3, w4, w5⟩ := g3 y hk
        rw [w1] at ho
        cases ho
        unfold blk at w; omega
  · refine ⟨Or.inr (Or.inr (by omega)), by omega, nb _ (by omega), fun o ho w => ?_, fun o ho w => ?_⟩
    · rw [r23] at ho
      have := (g1 o ho).2.2.1
      unfold blk at w; omega
    · rw [r22] at ho
      cases hk : gK s with
      | none => rw [g2 hk] at ho; cases ho
      | some y =>
        obtain ⟨p', w1, w2, w3, w4, w5⟩ := g3 y hk
        rw [w1] at ho
        cases ho
        unfold blk at w; omega
  · have hb' := x9 b hb
    have nA : b ≠ A := fun w => x7 A ⟨Nat.le_refl _, by omega⟩ (by rw [← w]; exact hb)
    exact ⟨f5 b hb', fun j => ⟨(f6 b j hb').1, (f6 b j hb').2, f7 b j hb' (Or.inl nA)⟩⟩
  · have e0 : fN h A = n := by
      unfold fN; rw [hf]
      show alen h fa 2 = n
      exact alen_of hs
    have e1 : fN (nfq h A S) A = S := by
      unfold fN; rw [r1]
      show alen (nfq h A S) (hN h) 2 = S
      exact alen_of s1
    have e2 : oB (nfq h A S) A 22 = oB h A 22 := by unfold oB; rw [r22]
    have e3 : oB (nfq h A S) A 23 = oB h A 23 := by unfold oB; rw [r23]
    have e4 := SZ_lt hS' mS
    have e5 : hU (nfq h A S) = hU h + S + S := rfl
    unfold RM pU pN
    rw [e0, e1, e2, e3, e5, n2]; omega
/-- up to the first push: a table of nothing -/
theorem m201a (d : Nat) {h : AH} {A : Nat} {s : GS} {W : Nat → Prop} (x : MX h A s W) (h3 : Yg (gY s) ≤ 3) (n3 : Yn (gY s) ≤ 3) (p1 p2 p3 p4 p5 p6 p7 : Option Value) : ∃ h' fa qa n, E (d + 5) 201 0 [some (.ref A), p1, p2, p3, p4, p5, p6, p7] [] h = E (d + 5) 201 31 [some (.ref A), p1, some (.int (nI (sts (gY s)))), some (.int (nI (sts (gY s)))), p4, p5, p6, p7] [] h' ∧ FH h h' A s W fa qa n (fun _ => qI 0) 0 (fun _ => 0) := by
  have ok := x.1.2.2
  have e195 := fun d => m195 d x.1 none none
  obtain ⟨sl, sm'⟩ := sts_le ok h3 n3
  have a0 := x.1.1.1
  obtain ⟨g1, g2, g3, g4, fa, qa, n, r1, r2, s1, s2, nl, ne, q1, q2⟩ := id x.2.2.2.2.2.1
  -- the room
  have room : ∃ h1 fa qa n, E (d + 5) 201 0 [some (.ref A), p1, p2, p3, p4, p5, p6, p7] [] h = E (d + 5) 201 16 [some (.ref A), p1, some (.int (nI (sts (gY s)))), p3, p4, p5, p6, p7] [] h1 ∧ MX h1 A s W ∧ KW W h h1 ∧ RM A h h1 0 0 ∧ hR h1 A 31 = some fa ∧ hR h1 A 32 = some qa ∧ hS h1 fa = some (2, n) ∧ hS h1 qa = some (0, n) ∧ n ≤ 262144 ∧ sts (gY s) ≤ n := by
    have L := lenA_of s1 (by decide)
    by_cases c : sts (gY s) ≤ n
    · refine ⟨h, fa, qa, n, ?_, x, KW.refl _ _, RM.refl _ _, r1, r2, s1, s2, nl, c⟩
      simp (disch := omega) only [s201_0, s201_1, s201_2, s201_3, s201_4, s201_5, s201_6, s201_7, ↓reduceIte, Option.bind_some, Option.toList_some, Option.toList_none, List.cons_append, List.nil_append, if_true, if_false, true_or, or_true, true_and, and_true, not_true_eq_false, not_false_eq_true, Nat.reduceLT, Nat.reduceLeDiff, Nat.reduceEqDiff, Nat.reduceAdd, Nat.reduceMul, Nat.reduceSub, Nat.reducePow, Nat.reduceMod, Nat.reduceDiv, l0, l1, l2, l3, l4, l5, l6, l7, l8, l9, l10, l11, l12, l13, l14, l15, l16, l20, l31, l32, l36, l40, l48, l57, l59, l63, l64, l97, l99, l100, l101, l122, l127, l128, l250, l255, l262143, l262144, l30000, l100000, l12345, l1024, l4095, nI_eqs, nI_les, nI_lts, qI_eq, qI_eqn, nI_eqq, qI_lts, nI_ltp, nI_lep, qI_les, nI_add, nI_mul, qI_add, qI_s, qI_def, nI_clamps, bI_z, bI_o, bI_01, n01, n11, rf_some, rf_none, m1, m1n, bft, a0, r1, L, e195, c]
    · obtain ⟨z1, z2, z3⟩ := x.room2 r1 s1 (show n < sts (gY s) by omega) sm' sl
      obtain ⟨f5, f6, f7, w1, w2, w3, w4⟩ := nfq_f (S := sts (gY s)) x.2.2.2.2.2.2.2.1
      have AN := x.2.2.2.2.2.2.2.1
      refine ⟨nfq h A (sts (gY s)), hN h, hN h + 1, sts (gY s), ?_, z1, z2, z3, w1, w2, w3, w4, sl, Nat.le_refl _⟩
      have b0 : hS (newC h (2, sts (gY s)) (sts (gY s))) A = some (105, 0) := by
        show (if A = hN h then _ else hS h A) = _
        rw [if_neg (by omega)]; exact a0
      have b1 : hS (newC (stR (newC h (2, sts (gY s)) (sts (gY s))) A 31 (some (hN h))) (0, sts (gY s)) (sts (gY s))) A = some (105, 0) := by
        show (if A = hN h + 1 then _ else if A = hN h then _ else hS h A) = _
        rw [if_neg (by omega), if_neg (by omega)]; exact a0
      have b2 : hN (stR (newC h (2, sts (gY s)) (sts (gY s))) A 31 (some (hN h))) = hN h + 1 := rfl
      have gl : (¬ sts (gY s) < 0 ∧ sts (gY s) ≤ 67108864) = True := eq_true ⟨by omega, by omega⟩
      simp (disch := omega) only [s201_0, s201_1, s201_2, s201_3, s201_4, s201_5, s201_6, s201_7, s201_8, s201_9, s201_10, s201_11, s201_12, s201_13, s201_14, s201_15, ↓reduceIte, Option.bind_some, Option.toList_some, Option.toList_none, List.cons_append, List.nil_append, if_true, if_false, true_or, or_true, true_and, and_true, not_true_eq_false, not_false_eq_true, Nat.reduceLT, Nat.reduceLeDiff, Nat.reduceEqDiff, Nat.reduceAdd, Nat.reduceMul, Nat.reduceSub, Nat.reducePow, Nat.reduceMod, Nat.reduceDiv, l0, l1, l2, l3, l4, l5, l6, l7, l8, l9, l10, l11, l12, l13, l14, l15, l16, l20, l31, l32, l36, l40, l48, l57, l59, l63, l64, l97, l99, l100, l101, l122, l127, l128, l250, l255, l262143, l262144, l30000, l100000, l12345, l1024, l4095, nI_eqs, nI_les, nI_lts, qI_eq, qI_eqn, nI_eqq, qI_lts, nI_ltp, nI_lep, qI_les, nI_add, nI_mul, qI_add, qI_s, qI_def, nI_clamps, bI_z, bI_o, bI_01, n01, n11, rf_some, rf_none, m1, m1n, bft, a0, r1, L, e195, c, gl, b0, b1, b2]
      rfl
  obtain ⟨h1, fa, qa, n, e1, x1, kw1, rm1, r1, r2, s1, s2, nl, nS⟩ := room
  obtain ⟨ne, q1, q2⟩ := x1.2.2.2.2.2.1.q r1 r2
  have lp : ∀ m k h2, k + m = sts (gY s) → MX h2 A s W → KW W h h2 → RM A h h2 0 0 → Fr0 (fun b => b = fa ∨ b = qa) h1 h2 → (∀ j, j < k → hI h2 fa j = qI 0) → ∃ h3, E (d + 5) 201 18 [some (.ref A), p1, some (.int (nI (sts (gY s)))), some (.int (nI k)), p4, p5, p6, p7] [] h2 = E (d + 5) 201 28 [some (.ref A), p1, some (.int (nI (sts (gY s)))), some (.int (nI (sts (gY s)))), p4, p5, p6, p7] [] h3 ∧ MX h3 A s W ∧ KW W h h3 ∧ RM A h h3 0 0 ∧ Fr0 (fun b => b = fa ∨ b = qa) h1 h3 ∧ ∀ j, j < sts (gY s) → hI h3 fa j = qI 0 := by
    intro m
    induction m with
    | zero =>
      intro k h2 hk x2 kw2 rm2 f2 v2
      have hk' : k = sts (gY s) := hk
      refine ⟨h2, ?_, x2, kw2, rm2, f2, fun j hj => v2 j (by omega)⟩
      rw [s201_18, hk']
      simp (disch := omega) only [s201_19, s201_20, ↓reduceIte, Option.bind_some, Option.toList_some, Option.toList_none, List.cons_append, List.nil_append, if_true, if_false, true_or, or_true, true_and, and_true, not_true_eq_false, not_false_eq_true, Nat.reduceLT, Nat.reduceLeDiff, Nat.reduceEqDiff, Nat.reduceAdd, Nat.reduceMul, Nat.reduceSub, Nat.reducePow, Nat.reduceMod, Nat.reduceDiv, l0, l1, l2, l3, l4, l5, l6, l7, l8, l9, l10, l11, l12, l13, l14, l15, l16, l20, l31, l32, l36, l40, l48, l57, l59, l63, l64, l97, l99, l100, l101, l122, l127, l128, l250, l255, l262143, l262144, l30000, l100000, l12345, l1024, l4095, nI_eqs, nI_les, nI_lts, qI_eq, qI_eqn, nI_eqq, qI_lts, nI_ltp, nI_lep, qI_les, nI_add, nI_mul, qI_add, qI_s, qI_def, nI_clamps, bI_z, bI_o, bI_01, n01, n11, rf_some, rf_none, m1, m1n, bft, Nat.le_refl]
    | succ m ih =>
      intro k h2 hk x2 kw2 rm2 f2 v2
      have kl : ¬ sts (gY s) ≤ k := by omega
      have c1 : hR h2 A 31 = some fa := by rw [f2.2.2.2.2.2.1]; exact r1
      have c2 : hR h2 A 32 = some qa := by rw [f2.2.2.2.2.2.1]; exact r2
      have c3 : hS h2 fa = some (2, n) := by rw [f2.2.2.2.2.1]; exact s1
      have a2 := x2.1.1.1
      have g : Fr0 (fun b => b = fa ∨ b = qa) h2 (stI h2 fa k (qI 0)) := Fr0.stI (A := fun b => b = fa ∨ b = qa) h2 (Or.inl rfl) _ _
      obtain ⟨z1, z2, z3⟩ := x2.fq c1 c2 g
      obtain ⟨h3, e3, w⟩ := ih (k + 1) (stI h2 fa k (qI 0)) (by omega) z1 (kw2.trans z2) (by unfold RM at *; omega) (f2.trans g) (fun j hj => by
        rw [hI_stI]
        by_cases w : j = k
        · rw [if_pos ⟨rfl, w⟩]
        · rw [if_neg (fun q => w q.2)]; exact v2 j (by omega))
      refine ⟨h3, ?_, w⟩
      rw [← e3, s201_18]
      simp (disch := omega) only [s201_19, s201_20, s201_21, s201_22, s201_23, s201_24, s201_25, s201_26, s201_27, ↓reduceIte, Option.bind_some, Option.toList_some, Option.toList_none, List.cons_append, List.nil_append, if_true, if_false, true_or, or_true, true_and, and_true, not_true_eq_false, not_false_eq_true, Nat.reduceLT, Nat.reduceLeDiff, Nat.reduceEqDiff, Nat.reduceAdd, Nat.reduceMul, Nat.reduceSub, Nat.reducePow, Nat.reduceMod, Nat.reduceDiv, l0, l1, l2, l3, l4, l5, l6, l7, l8, l9, l10, l11, l12, l13, l14, l15, l16, l20, l31, l32, l36, l40, l48, l57, l59, l63, l64, l97, l99, l100, l101, l122, l127, l128, l250, l255, l262143, l262144, l30000, l100000, l12345, l1024, l4095, nI_eqs, nI_les, nI_lts, qI_eq, qI_eqn, nI_eqq, qI_lts, nI_ltp, nI_lep, qI_les, nI_add, nI_mul, qI_add, qI_s, qI_def, nI_clamps, bI_z, bI_o, bI_01, n01, n11, rf_some, rf_none, m1, m1n, bft, kl, a2, c1, gA c3, nar1, show vp_nar .short (qI 0) = qI 0 from nar1]
  obtain ⟨h2, e2, x2, kw2, rm2, f2, v2⟩ := lp (sts (gY s)) 0 h1 (by omega) x1 kw1 rm1 (Fr0.refl _ _) (fun j hj => absurd hj (Nat.not_lt_zero _))
  have g : Fr0 (fun b => b = A) h2 (stI h2 A 33 (nI 0)) := Fr0.stI (A := fun b => b = A) h2 rfl _ _
  obtain ⟨x3, f3⟩ := x2.w (g.mono (B := fun b => b = A ∨ b = A + 13 ∨ (A + 25 ≤ b ∧ b < A + 53)) (fun b w => Or.inl w)) (fun j hj => by rw [hI_stI, if_neg (fun w => by omega)])
  have k3 := f3.kw x2.2.2.2.2.2.2.1
  have r3 := f3.rm A
  have c1 : hR h2 A 31 = some fa := by rw [f2.2.2.2.2.2.1]; exact r1
  have c2 : hR h2 A 32 = some qa := by rw [f2.2.2.2.2.2.1]; exact r2
  have c4 : hS h2 fa = some (2, n) := by rw [f2.2.2.2.2.1]; exact s1
  have c5 : hS h2 qa = some (0, n) := by rw [f2.2.2.2.2.1]; exact s2
  have nf : A ≠ fa := fun w => by have := q1.1; omega
  refine ⟨_, fa, qa, n, ?_, x3, kw2.trans k3, by unfold RM at *; omega, c1, c2, c4, c5, nl, nS, fun t ht => ?_, fun i hi => absurd hi (Nat.not_lt_zero _), by rw [hI_stI, if_pos ⟨rfl, rfl⟩]⟩
  · have a2 := x2.1.1.1
    rw [e1]
    simp (disch := omega) only [s201_16, s201_17, ↓reduceIte, Option.bind_some, Option.toList_some, Option.toList_none, List.cons_append, List.nil_append, if_true, if_false, true_or, or_true, true_and, and_true, not_true_eq_false, not_false_eq_true, Nat.reduceLT, Nat.reduceLeDiff, Nat.reduceEqDiff, Nat.reduceAdd, Nat.reduceMul, Nat.reduceSub, Nat.reducePow, Nat.reduceMod, Nat.reduceDiv, l0, l1, l2, l3, l4, l5, l6, l7, l8, l9, l10, l11, l12, l13, l14, l15, l16, l20, l31, l32, l36, l40, l48, l57, l59, l63, l64, l97, l99, l100, l101, l122, l127, l128, l250, l255, l262143, l262144, l30000, l100000, l12345, l1024, l4095, nI_eqs, nI_les, nI_lts, qI_eq, qI_eqn, nI_eqq, qI_lts, nI_ltp, nI_lep, qI_les, nI_add, nI_mul, qI_add, qI_s, qI_def, nI_clamps, bI_z, bI_o, bI_01, n01, n11, rf_some, rf_none, m1, m1n, bft]
    rw [e2]
    simp (disch := omega) only [s201_28, s201_29, s201_30, ↓reduceIte, Option.bind_some, Option.toList_some, Option.toList_none, List.cons_append, List.nil_append, if_true, if_false, true_or, or_true, true_and, and_true, not_true_eq_false, not_false_eq_true, Nat.reduceLT, Nat.reduceLeDiff, Nat.reduceEqDiff, Nat.reduceAdd, Nat.reduceMul, Nat.reduceSub, Nat.reducePow, Nat.reduceMod, Nat.reduceDiv, l0, l1, l2, l3, l4, l5, l6, l7, l8, l9, l10, l11, l12, l13, l14, l15, l16, l20, l31, l32, l36, l40, l48, l57, l59, l63, l64, l97, l99, l100, l101, l122, l127, l128, l250, l255, l262143, l262144, l30000, l100000, l12345, l1024, l4095, nI_eqs, nI_les, nI_lts, qI_eq, qI_eqn, nI_eqq, qI_lts, nI_ltp, nI_lep, qI_les, nI_add, nI_mul, qI_add, qI_s, qI_def, nI_clamps, bI_z, bI_o, bI_01, n01, n11, rf_some, rf_none, m1, m1n, bft, a2]
  · rw [hI_stI, if_neg (fun w => nf w.1.symm)]
    exact v2 _ (rho_lt h3 n3 ht)
