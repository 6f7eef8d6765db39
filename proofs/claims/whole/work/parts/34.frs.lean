/-! NEW MODELS: fresh -/
/-- nothing of the old cells changes but A's ints and longs and R's references; new cells may come -/
def FrN (A : Nat → Prop) (R : Nat → Nat → Prop) (h h' : AH) : Prop := hN h ≤ hN h' ∧ hU h ≤ hU h' ∧ hK h' = hK h ∧ hX h' = hX h ∧ (∀ b, b < hN h → hS h' b = hS h b) ∧ (∀ b, b < hN h → ¬ A b → ∀ j, hI h' b j = hI h b j ∧ hL h' b j = hL h b j) ∧ (∀ b j, b < hN h → ¬ R b j → hR h' b j = hR h b j)
theorem Fr0.n {A : Nat → Prop} {h h' : AH} (f : Fr0 A h h') (R : Nat → Nat → Prop) : FrN A R h h' := by
  obtain ⟨a1, a2, a3, a4, a5, a6, a7⟩ := f
  exact ⟨Nat.le_of_eq a1.symm, Nat.le_of_eq a2.symm, a3, a4, fun b _ => by rw [a5], fun b _ hb j => a7 b hb j, fun b j _ _ => by rw [a6]⟩
theorem FrN.trans {A : Nat → Prop} {R : Nat → Nat → Prop} {h h1 h2 : AH} (f : FrN A R h h1) (g : FrN A R h1 h2) : FrN A R h h2 := by
  obtain ⟨a1, a2, a3, a4, a5, a6, a7⟩ := f
  obtain ⟨b1, b2, b3, b4, b5, b6, b7⟩ := g
  refine ⟨Nat.le_trans a1 b1, Nat.le_trans a2 b2, b3.trans a3, b4.trans a4, fun b hb => ?_, fun b hb hn j => ?_, fun b j hb hn => ?_⟩
  · rw [b5 b (Nat.lt_of_lt_of_le hb a1), a5 b hb]
  · exact ⟨(b6 b (Nat.lt_of_lt_of_le hb a1) hn j).1.trans (a6 b hb hn j).1, (b6 b (Nat.lt_of_lt_of_le hb a1) hn j).2.trans (a6 b hb hn j).2⟩
  · rw [b7 b j (Nat.lt_of_lt_of_le hb a1) hn, a7 b j hb hn]
theorem FrN.mono {A A' : Nat → Prop} {R R' : Nat → Nat → Prop} {h h' : AH} (f : FrN A R h h') (q : ∀ b, b < hN h → A b → A' b) (q' : ∀ b j, b < hN h → R b j → R' b j) : FrN A' R' h h' := by
  obtain ⟨a1, a2, a3, a4, a5, a6, a7⟩ := f
  exact ⟨a1, a2, a3, a4, a5, fun b hb hn j => a6 b hb (fun w => hn (q b hb w)) j, fun b j hb hn => a7 b j hb (fun w => hn (q' b j hb w))⟩
theorem MY.frN {h h' : AH} {a : Nat} {y : YS} {A : Nat → Prop} {R : Nat → Nat → Prop} (v : MY h a y) (f : FrN A R h h') (hb : a + 25 ≤ hN h) (n : ∀ b, a ≤ b → b < a + 25 → ¬ A b) (r : ∀ j, j < 20 → ¬ R a j) : MY h' a y := by
  obtain ⟨s, v, ok⟩ := v
  obtain ⟨a1, a2, a3, a4, a5, a6, a7⟩ := f
  refine ⟨?_, v.fr (fun b h1 h2 j => (a6 b (by omega) (n b h1 h2) j).1), ok⟩
  unfold MS at s ⊢
  rw [a5 a (by omega), a5 (a + 17) (by omega), a5 (a + 18) (by omega), a5 (a + 19) (by omega), a5 (a + 20) (by omega), a5 (a + 21) (by omega), a5 (a + 22) (by omega), a5 (a + 23) (by omega), a5 (a + 24) (by omega)]
  rw [a7 a 11 (by omega) (r 11 (by decide)), a7 a 12 (by omega) (r 12 (by decide)), a7 a 13 (by omega) (r 13 (by decide)), a7 a 14 (by omega) (r 14 (by decide)), a7 a 15 (by omega) (r 15 (by decide)), a7 a 16 (by omega) (r 16 (by decide)), a7 a 18 (by omega) (r 18 (by decide)), a7 a 19 (by omega) (r 19 (by decide))]
  exact s
theorem XY.frN {h h' : AH} {b : Nat} {y : YS} {A : Nat → Prop} {R : Nat → Nat → Prop} (v : XY h b y) (f : FrN A R h h') (hb : b + 8 ≤ hN h) (n : ∀ a, b ≤ a → a < b + 8 → ¬ A a) (r : ∀ j, j < 12 → ¬ R b j) : XY h' b y := by
  obtain ⟨s, v, ok⟩ := v
  obtain ⟨a1, a2, a3, a4, a5, a6, a7⟩ := f
  refine ⟨?_, v.fr (fun a h1 h2 j => (a6 a (by omega) (n a h1 h2) j).1), ok⟩
  unfold XS at s ⊢
  rw [a5 b (by omega), a5 (b + 1) (by omega), a5 (b + 2) (by omega), a5 (b + 3) (by omega), a5 (b + 4) (by omega), a5 (b + 5) (by omega), a5 (b + 6) (by omega), a5 (b + 7) (by omega)]
  rw [a7 b 5 (by omega) (r 5 (by decide)), a7 b 6 (by omega) (r 6 (by decide)), a7 b 7 (by omega) (r 7 (by decide)), a7 b 8 (by omega) (r 8 (by decide)), a7 b 9 (by omega) (r 9 (by decide)), a7 b 10 (by omega) (r 10 (by decide)), a7 b 11 (by omega) (r 11 (by decide))]
  exact s
theorem ad4 (a k : Nat) : (a + k < a) = False := by apply propext; constructor <;> intro q <;> first | omega | exact q.elim
theorem ms135 {h : AH} {a : Nat} (hn : hN h = a + 1) (hs : hS h a = some (105, 0)) : MS (H135_25 h a) a := by
  unfold MS
  have q0 : H135_0 h a = h := rfl
  refine ⟨T135_25 hn hs, ?_⟩
  refine ⟨?_, ?_, ?_, ?_, ?_, ?_, ?_, ?_, ?_, ?_, ?_, ?_, ?_, ?_, ?_, ?_⟩
  all_goals simp (disch := omega) only [S135_25 hn, S135_24 hn, S135_23 hn, S135_22 hn, S135_21 hn, S135_20 hn, S135_19 hn, S135_18 hn, S135_17 hn, S135_16 hn, S135_15 hn, S135_14 hn, S135_13 hn, S135_12 hn, S135_11 hn, S135_10 hn, S135_9 hn, S135_8 hn, S135_7 hn, S135_6 hn, S135_5 hn, S135_4 hn, S135_3 hn, S135_2 hn, S135_1 hn, R135_25 hn, R135_24 hn, R135_23 hn, R135_22 hn, R135_21 hn, R135_20 hn, R135_19 hn, R135_18 hn, R135_17 hn, R135_16 hn, R135_15 hn, R135_14 hn, R135_13 hn, R135_12 hn, R135_11 hn, R135_10 hn, R135_9 hn, R135_8 hn, R135_7 hn, R135_6 hn, R135_5 hn, R135_4 hn, R135_3 hn, R135_2 hn, R135_1 hn, ad1, ad2, ad4, false_and, and_false, and_self, true_and, and_true, eq_self, ↓reduceIte, Option.bind_some, Option.toList_some, Option.toList_none, List.cons_append, List.nil_append, if_true, if_false, true_or, or_true, true_and, and_true, not_true_eq_false, not_false_eq_true, Nat.reduceLT, Nat.reduceLeDiff, Nat.reduceEqDiff, Nat.reduceAdd, Nat.reduceMul, Nat.reduceSub, Nat.reducePow, Nat.reduceMod, Nat.reduceDiv, Nat.add_lt_add_iff_left]
theorem fr135 {h : AH} {a : Nat} (hn : hN h = a + 1) (b : Nat) (hb : b < a) : hS (H135_25 h a) b = hS h b ∧ ∀ j, hI (H135_25 h a) b j = hI h b j ∧ hL (H135_25 h a) b j = hL h b j ∧ hR (H135_25 h a) b j = hR h b j := by
  have q0 : H135_0 h a = h := rfl
  have g1 : ∀ k, b ≠ a + k := fun k => by omega
  have g2 : ∀ k, ¬ a + k < b := fun k => by omega
  have g3 : ∀ k, ¬ a + k ≤ b := fun k => by omega
  have g4 : b ≠ a := by omega
  refine ⟨?_, fun j => ⟨?_, ?_, ?_⟩⟩
  · simp only [S135_25 hn, S135_24 hn, S135_23 hn, S135_22 hn, S135_21 hn, S135_20 hn, S135_19 hn, S135_18 hn, S135_17 hn, S135_16 hn, S135_15 hn, S135_14 hn, S135_13 hn, S135_12 hn, S135_11 hn, S135_10 hn, S135_9 hn, S135_8 hn, S135_7 hn, S135_6 hn, S135_5 hn, S135_4 hn, S135_3 hn, S135_2 hn, S135_1 hn, g1, g2, false_and, if_false, q0]
  · simp only [I135_25 hn, I135_24 hn, I135_23 hn, I135_22 hn, I135_21 hn, I135_20 hn, I135_19 hn, I135_18 hn, I135_17 hn, I135_16 hn, I135_15 hn, I135_14 hn, I135_13 hn, I135_12 hn, I135_11 hn, I135_10 hn, I135_9 hn, I135_8 hn, I135_7 hn, I135_6 hn, I135_5 hn, I135_4 hn, I135_3 hn, I135_2 hn, I135_1 hn, g1, g3, g4, false_and, if_false, q0]
  · simp only [L135_25 hn, L135_24 hn, L135_23 hn, L135_22 hn, L135_21 hn, L135_20 hn, L135_19 hn, L135_18 hn, L135_17 hn, L135_16 hn, L135_15 hn, L135_14 hn, L135_13 hn, L135_12 hn, L135_11 hn, L135_10 hn, L135_9 hn, L135_8 hn, L135_7 hn, L135_6 hn, L135_5 hn, L135_4 hn, L135_3 hn, L135_2 hn, L135_1 hn, g1, g3, false_and, if_false, q0]
  · simp only [R135_25 hn, R135_24 hn, R135_23 hn, R135_22 hn, R135_21 hn, R135_20 hn, R135_19 hn, R135_18 hn, R135_17 hn, R135_16 hn, R135_15 hn, R135_14 hn, R135_13 hn, R135_12 hn, R135_11 hn, R135_10 hn, R135_9 hn, R135_8 hn, R135_7 hn, R135_6 hn, R135_5 hn, R135_4 hn, R135_3 hn, R135_2 hn, R135_1 hn, g1, g2, g4, false_and, if_false, q0]
theorem hK_stR (h : AH) (a k : Nat) (v : Option Nat) : hK (stR h a k v) = hK h := rfl
theorem hK_stI (h : AH) (a k : Nat) (v : Int32) : hK (stI h a k v) = hK h := rfl
theorem hK_newC (h : AH) (q : Nat × Nat) (u : Nat) : hK (newC h q u) = hK h := rfl
theorem hK_newM (h : AH) (t t1 n k : Nat) : hK (newM h t t1 n k) = hK h := rfl
theorem hX_stR (h : AH) (a k : Nat) (v : Option Nat) : hX (stR h a k v) = hX h := rfl
theorem hX_stI (h : AH) (a k : Nat) (v : Int32) : hX (stI h a k v) = hX h := rfl
theorem hX_newC (h : AH) (q : Nat × Nat) (u : Nat) : hX (newC h q u) = hX h := rfl
theorem hX_newM (h : AH) (t t1 n k : Nat) : hX (newM h t t1 n k) = hX h := rfl
theorem kx135 (h : AH) (a : Nat) : hK (H135_25 h a) = hK h ∧ hX (H135_25 h a) = hX h := by
  constructor
  · simp only [H135_0, H135_1, H135_2, H135_3, H135_4, H135_5, H135_6, H135_7, H135_8, H135_9, H135_10, H135_11, H135_12, H135_13, H135_14, H135_15, H135_16, H135_17, H135_18, H135_19, H135_20, H135_21, H135_22, H135_23, H135_24, H135_25, hK_stR, hK_stI, hK_newC, hK_newM]
  · simp only [H135_0, H135_1, H135_2, H135_3, H135_4, H135_5, H135_6, H135_7, H135_8, H135_9, H135_10, H135_11, H135_12, H135_13, H135_14, H135_15, H135_16, H135_17, H135_18, H135_19, H135_20, H135_21, H135_22, H135_23, H135_24, H135_25, hX_stR, hX_stI, hX_newC, hX_newM]
theorem FrN.new (h : AH) (c u : Nat) (A : Nat → Prop) (R : Nat → Nat → Prop) : FrN A R h (newC h (c, 0) u) := by
  refine ⟨by rw [hN_newC]; omega, by rw [hU_newC]; omega, rfl, rfl, fun b hb => ?_, fun b hb _ j => ⟨?_, ?_⟩, fun b j hb _ => ?_⟩
  · rw [hS_newC, if_neg (by omega)]
  · rw [hI_newC, if_neg (by omega)]
  · rw [hL_newC, if_neg (by omega)]
  · rw [hR_newC, if_neg (by omega)]
theorem FrN.stR (h : AH) (a k : Nat) (v : Option Nat) (A : Nat → Prop) {R : Nat → Nat → Prop} (hr : R a k) : FrN A R h (stR h a k v) := by
  refine ⟨by rw [hN_stR]; omega, by rw [hU_stR]; omega, rfl, rfl, fun b _ => by rw [hS_stR], fun b _ _ j => ⟨by rw [hI_stR], by rw [hL_stR]⟩, fun b j hb hn => ?_⟩
  rw [hR_stR, if_neg]
  rintro ⟨rfl, rfl⟩
  exact hn hr
/-- the model that thinks: there may be none yet -/
def OTH (h : AH) (a : Nat) : Prop := hR h a 23 = none ∨ ∃ o, hR h a 23 = some o ∧ MS h o ∧ a + 53 ≤ o ∧ o + 53 ≤ hN h
theorem m225 (d : Nat) {h : AH} {a : Nat} {y : YS} (hx : MY h a y) (ho : OTH h a) (hb : a + 53 ≤ hN h) : ∃ h' o, E (d + 2) 225 0 [some (.ref a)] [] h = some (some (.ref o), h') ∧ hR h' a 23 = some o ∧ MY h' o y ∧ a + 53 ≤ o ∧ o + 53 ≤ hN h' ∧ ((hR h a 23 = some o ∧ Fr0 (blk o 25) h h') ∨ (hR h a 23 = none ∧ o = hN h ∧ hN h' = hN h + 53 ∧ hU h' = hU h + 869)) ∧ FrN (blk o 25) (fun b j => b = a ∧ j = 23) h h' := by
  have z0 : hS h a = some (105, 0) := hx.1.1
  rcases ho with ho | ⟨o, ho, ms, h1, h2⟩
  · have n1 : hN (newC h (105, 0) 40) = hN h + 1 := rfl
    have s1 : hS (newC h (105, 0) 40) (hN h) = some (105, 0) := by rw [hS_newC, if_pos rfl]
    have e135 := fun d => E135 d n1 s1
    have m0 := ms135 n1 s1
    have f0 := fr135 n1
    have nn := N135_25 n1
    have uu : hU (H135_25 (newC h (105, 0) 40) (hN h)) = hU h + 40 + 829 := U135
    have kx := kx135 (newC h (105, 0) 40) (hN h)
    rw [hK_newC, hX_newC] at kx
    have s0 : hS (newC h (105, 0) 40) a = some (105, 0) := by rw [hS_newC, if_neg (by omega)]; exact z0
    generalize hH : H135_25 (newC h (105, 0) 40) (hN h) = H at *
    have fH : FrN (blk (hN h) 25) (fun b j => b = a ∧ j = 23) h H := by
      refine ⟨by omega, by omega, kx.1, kx.2, fun b hb => ?_, fun b hb _ j => ⟨?_, ?_⟩, fun b j hb _ => ?_⟩
      · rw [(f0 b hb).1, hS_newC, if_neg (by omega)]
      · rw [((f0 b hb).2 j).1, hI_newC, if_neg (by omega)]
      · rw [((f0 b hb).2 j).2.1, hL_newC, if_neg (by omega)]
      · rw [((f0 b hb).2 j).2.2, hR_newC, if_neg (by omega)]
    have f2 : FrN (blk (hN h) 25) (fun b j => b = a ∧ j = 23) h (stR H a 23 (some (hN h))) := fH.trans (FrN.stR H a 23 _ _ ⟨rfl, rfl⟩)
    have m2 : MS (stR H a 23 (some (hN h))) (hN h) := by
      unfold MS at m0 ⊢
      rw [hS_stR]
      simp only [hR_stR, show ¬ hN h = a by omega, false_and, if_false]
      exact m0
    have y2 : MY (stR H a 23 (some (hN h))) a y := hx.frN f2 (by omega) (fun b h1 h2 q => by unfold blk at q; omega) (fun j hj q => by omega)
    obtain ⟨h', e, q, f⟩ := m227 d m2 y2 (Or.inl (by omega))
    replace f := f.bk
    have rr : hR (stR H a 23 (some (hN h))) a 23 = some (hN h) := by rw [hR_stR, if_pos ⟨rfl, rfl⟩]
    have n2 : hR h' a 23 = some (hN h) := by rw [f.2.2.2.2.2.1, rr]
    have z2 : hS (stR H a 23 (some (hN h))) a = some (105, 0) := y2.1.1
    have z3 : hS H a = some (105, 0) := by rw [hS_stR] at z2; exact z2
    have n3 : hS h' a = some (105, 0) := by rw [f.2.2.2.2.1, z2]
    have z1 := m2.1
    have q1 : hN h' = hN h + 53 := by rw [f.1, hN_stR, nn]
    refine ⟨h', hN h, ?_, n2, q, hb, Nat.le_of_eq q1.symm, Or.inr ⟨ho, rfl, q1, ?_⟩, f2.trans (f.n _)⟩
    · simp only [s225_0, s225_1, s225_2n, s225_2, s225_3, s225_4, s225_5, s225_6, s225_7, s225_8, s225_9, s225_10, s225_11, s225_12, s225_13, s225_14, ↓reduceIte, Option.bind_some, Option.toList_some, Option.toList_none, List.cons_append, List.nil_append, if_true, if_false, true_or, or_true, true_and, and_true, not_true_eq_false, not_false_eq_true, Nat.reduceLT, Nat.reduceLeDiff, Nat.reduceEqDiff, Nat.reduceAdd, Nat.reduceMul, Nat.reduceSub, Nat.reducePow, Nat.reduceMod, Nat.reduceDiv, z0, z1, z2, z3, ho, rr, rf_some, rf_none, e135, e, n2, n3]
    · rw [f.2.1, hU_stR, uu]
  · obtain ⟨h', e, q, f⟩ := m227 d ms hx (Or.inl (by omega))
    replace f := f.bk
    have n2 : hR h' a 23 = some o := by rw [f.2.2.2.2.2.1, ho]
    have n3 : hS h' a = some (105, 0) := by rw [f.2.2.2.2.1, z0]
    have z1 := ms.1
    refine ⟨h', o, ?_, n2, q, h1, by rw [f.1]; exact h2, Or.inl ⟨ho, f⟩, f.n _⟩
    simp only [s225_0, s225_1, s225_2n, s225_2, s225_3, s225_4, s225_5, s225_6, s225_7, s225_8, s225_9, s225_10, s225_11, s225_12, s225_13, s225_14, ↓reduceIte, Option.bind_some, Option.toList_some, Option.toList_none, List.cons_append, List.nil_append, if_true, if_false, true_or, or_true, true_and, and_true, not_true_eq_false, not_false_eq_true, Nat.reduceLT, Nat.reduceLeDiff, Nat.reduceEqDiff, Nat.reduceAdd, Nat.reduceMul, Nat.reduceSub, Nat.reducePow, Nat.reduceMod, Nat.reduceDiv, z0, z1, ho, rf_some, e, n2, n3]
