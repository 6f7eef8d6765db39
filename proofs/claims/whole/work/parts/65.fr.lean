/-! WHAT THE REFERENCE MAKES NEW: fresh, image; the room -/
theorem MX.congr {h h' : AH} {A : Nat} {s : GS} (x1 : MY h A (gY s)) (x2 : MH h A (gH s)) (x3 : MT h A (gn s) (gb s)) (x4 : MR h A (gQ s)) (x5 : MZ h A) (eS : ∀ b, A ≤ b → b < A + 53 → hS h' b = hS h b) (eI : ∀ b j, A ≤ b → b < A + 25 → (b = A → j ≤ 21) → hI h' b j = hI h b j) (eL : ∀ b j, A < b → b < A + 13 → hL h' b j = hL h b j) (eR : ∀ b j, A < b → b < A + 53 → hR h' b j = hR h b j) (e0 : ∀ j, j ≠ 22 → j ≠ 23 → j ≠ 31 → j ≠ 32 → hR h' A j = hR h A j) : MY h' A (gY s) ∧ MH h' A (gH s) ∧ MT h' A (gn s) (gb s) ∧ MR h' A (gQ s) ∧ MZ h' A := by
  refine ⟨⟨?_, x1.2.1.fx (fun j hj => eI A j (Nat.le_refl _) (by omega) (fun _ => by unfold yFl at hj; simp only [Bool.or_eq_true, beq_iff_eq] at hj; omega)) (fun b h1 h2 j => eI b j (by omega) h2 (fun w => by omega)), x1.2.2⟩, ?_, ?_, ?_, ?_⟩
  · have t := x1.1
    unfold MS at t ⊢
    rw [eS A (by omega) (by omega), eS (A + 17) (by omega) (by omega), eS (A + 18) (by omega) (by omega), eS (A + 19) (by omega) (by omega), eS (A + 20) (by omega) (by omega), eS (A + 21) (by omega) (by omega), eS (A + 22) (by omega) (by omega), eS (A + 23) (by omega) (by omega), eS (A + 24) (by omega) (by omega), e0 11 (by decide) (by decide) (by decide) (by decide), e0 12 (by decide) (by decide) (by decide) (by decide), e0 13 (by decide) (by decide) (by decide) (by decide), e0 14 (by decide) (by decide) (by decide) (by decide), e0 15 (by decide) (by decide) (by decide) (by decide), e0 16 (by decide) (by decide) (by decide) (by decide), e0 18 (by decide) (by decide) (by decide) (by decide), e0 19 (by decide) (by decide) (by decide) (by decide)]
    exact t
  · obtain ⟨y1, y2⟩ := x2
    refine ⟨?_, fun s hs => ?_⟩
    · rw [eS A (by omega) (by omega), eS (A + 1) (by omega) (by omega), eS (A + 2) (by omega) (by omega), eS (A + 3) (by omega) (by omega), eS (A + 4) (by omega) (by omega), eS (A + 13) (by omega) (by omega), eS (A + 14) (by omega) (by omega), e0 0 (by decide) (by decide) (by decide) (by decide), e0 1 (by decide) (by decide) (by decide) (by decide), e0 2 (by decide) (by decide) (by decide) (by decide), e0 3 (by decide) (by decide) (by decide) (by decide), e0 4 (by decide) (by decide) (by decide) (by decide), e0 5 (by decide) (by decide) (by decide) (by decide)]
      exact y1
    · obtain ⟨a1, a2, a3, a4, a5, a6, a7⟩ := y2 s hs
      rw [eR _ _ (by omega) (by omega), eS _ (by omega) (by omega), eI _ _ (by omega) (by omega) (fun w => by omega), eI _ _ (by omega) (by omega) (fun w => by omega), eI _ _ (by omega) (by omega) (fun w => by omega), eI _ _ (by omega) (by omega) (fun w => by omega)]
      exact ⟨a1, a2, a3, a4, a5, fun i hi => by rw [eL _ _ (by omega) (by omega)]; exact a6 i hi, a7⟩
  · obtain ⟨y1, y2, y3, y4, y5⟩ := x3
    exact ⟨by rw [e0 6 (by decide) (by decide) (by decide) (by decide)]; exact y1, by rw [eS _ (by omega) (by omega)]; exact y2, by rw [eI A 7 (by omega) (by omega) (fun _ => by decide)]; exact y3, y4, fun i hi => by rw [eI _ _ (by omega) (by omega) (fun w => by omega)]; exact y5 i hi⟩
  · obtain ⟨y1, y2, y3⟩ := x4
    exact ⟨by rw [e0 8 (by decide) (by decide) (by decide) (by decide)]; exact y1, by rw [eS _ (by omega) (by omega)]; exact y2, fun i hi => by rw [eI _ _ (by omega) (by omega) (fun w => by omega)]; exact y3 i hi⟩
  · obtain ⟨y1, y2, y3, y4, y5, y6, y7, y8, y9, y10, y11⟩ := x5
    refine ⟨by rw [e0 29 (by decide) (by decide) (by decide) (by decide)]; exact y1, by rw [eS _ (by omega) (by omega)]; exact y2, by rw [e0 34 (by decide) (by decide) (by decide) (by decide)]; exact y3, by rw [eS _ (by omega) (by omega)]; exact y4, by rw [e0 35 (by decide) (by decide) (by decide) (by decide)]; exact y5, by rw [eS _ (by omega) (by omega)]; exact y6, by rw [e0 36 (by decide) (by decide) (by decide) (by decide)]; exact y7, by rw [eS _ (by omega) (by omega)]; exact y8, by rw [e0 37 (by decide) (by decide) (by decide) (by decide)]; exact y9, by rw [eS _ (by omega) (by omega)]; exact y10, fun t ht => ?_⟩
    rw [eR _ _ (by omega) (by omega), eS _ (by omega) (by omega), eR _ _ (by omega) (by omega), eS _ (by omega) (by omega), eR _ _ (by omega) (by omega), eS _ (by omega) (by omega)]
    exact y11 t ht
/-- the developers' cells stay -/
def KW (W : Nat → Prop) (h h' : AH) : Prop := hK h' = hK h ∧ hX h' = hX h ∧ hN h ≤ hN h' ∧ hU h ≤ hU h' ∧ ∀ b, W b → hS h' b = hS h b ∧ ∀ j, hI h' b j = hI h b j ∧ hL h' b j = hL h b j ∧ hR h' b j = hR h b j
theorem KW.refl (W : Nat → Prop) (h : AH) : KW W h h := ⟨rfl, rfl, Nat.le_refl _, Nat.le_refl _, fun _ _ => ⟨rfl, fun _ => ⟨rfl, rfl, rfl⟩⟩⟩
theorem KW.trans {W : Nat → Prop} {h h1 h2 : AH} (f : KW W h h1) (g : KW W h1 h2) : KW W h h2 := by
  obtain ⟨a1, a2, a3, a4, a5⟩ := f
  obtain ⟨b1, b2, b3, b4, b5⟩ := g
  exact ⟨b1.trans a1, b2.trans a2, Nat.le_trans a3 b3, Nat.le_trans a4 b4, fun b hb => ⟨(b5 b hb).1.trans (a5 b hb).1, fun j => ⟨((b5 b hb).2 j).1.trans ((a5 b hb).2 j).1, ((b5 b hb).2 j).2.1.trans ((a5 b hb).2 j).2.1, ((b5 b hb).2 j).2.2.trans ((a5 b hb).2 j).2.2⟩⟩⟩
theorem Fr0.kw {X W : Nat → Prop} {h h' : AH} (f : Fr0 X h h') (n : ∀ b, X b → ¬ W b) : KW W h h' := by
  obtain ⟨a1, a2, a3, a4, a5, a6, a7⟩ := f
  exact ⟨a3, a4, Nat.le_of_eq a1.symm, Nat.le_of_eq a2.symm, fun b hb => ⟨by rw [a5], fun j => ⟨(a7 b (fun q => n b q hb) j).1, (a7 b (fun q => n b q hb) j).2, by rw [a6]⟩⟩⟩
/-- the sizes of tables of states -/
def szs : List Nat := [1, 9, 18, 36, 72, 81, 243, 729, 2187, 2916, 11664, 46656, 16, 32, 64, 128, 256, 768, 2304, 6912, 4096, 16384, 65536, 262144]
def SZ (n : Nat) : Nat := ((szs.filter fun v => decide (v ≤ n))).sum
def fN (h : AH) (A : Nat) : Nat := match hR h A 31 with
  | some f => alen h f 2
  | none => 0
def oB (h : AH) (A k : Nat) : Nat := match hR h A k with
  | some _ => 1
  | none => 0
def pU (h : AH) (A : Nat) : Nat := 2 * SZ (fN h A) + 869 * oB h A 22 + 869 * oB h A 23
def pN (h : AH) (A : Nat) : Nat := 2 * fN h A + 53 * oB h A 22 + 53 * oB h A 23
def RM (A : Nat) (h h' : AH) (c u : Nat) : Prop := hU h' + pU h A ≤ hU h + pU h' A + u ∧ hN h' + pN h A ≤ hN h + pN h' A + c
theorem RM.refl (A : Nat) (h : AH) : RM A h h 0 0 := ⟨Nat.le_refl _, Nat.le_refl _⟩
theorem RM.trans {A : Nat} {h h1 h2 : AH} {c u c' u' : Nat} (f : RM A h h1 c u) (g : RM A h1 h2 c' u') : RM A h h2 (c + c') (u + u') := by
  unfold RM at *; omega
theorem Fr0.rm {X : Nat → Prop} {h h' : AH} (f : Fr0 X h h') (A : Nat) : RM A h h' 0 0 := by
  obtain ⟨a1, a2, a3, a4, a5, a6, a7⟩ := f
  have e1 : fN h' A = fN h A := by unfold fN alen; rw [a6, a5]
  have e2 : ∀ k, oB h' A k = oB h A k := fun k => by unfold oB; rw [a6]
  unfold RM pU pN
  rw [e1, e2, e2, a1, a2]
  exact ⟨Nat.le_refl _, Nat.le_refl _⟩
/-- the reference's call -/
def MC (d y : Nat) (as : LL) (h : AH) (A : Nat) (W : Nat → Prop) (r : Int32 × GS) : Prop := ∃ h', E d y 0 as [] h = some (some (.int r.1), h') ∧ MX h' A r.2 W ∧ KW W h h' ∧ RM A h h' 1 3
theorem MC0.mc {d y : Nat} {as : LL} {h : AH} {A : Nat} {s : GS} {W : Nat → Prop} {r : Int32 × GS} (hx : MX h A s W) (m : MC0 d y as h A W r) : MC d y as h A W r := by
  obtain ⟨h', e, q, f⟩ := m
  have rm := f.rm A
  exact ⟨h', e, q, f.kw hx.2.2.2.2.2.2.1, by unfold RM at *; omega⟩
/-- the thinking model's cells change -/
theorem MX.o {h h' : AH} {A : Nat} {s : GS} {W : Nat → Prop} {o : Nat} (x : MX h A s W) (ho : hR h A 23 = some o) (f : Fr0 (blk o 25) h h') : MX h' A s W ∧ KW W h h' ∧ RM A h h' 0 0 := by
  have g := x.2.2.2.2.2.1.1 o ho
  obtain ⟨x1, x2, x3, x4, x5, x6, x7, x8, x9⟩ := x
  refine ⟨⟨x1.fr0 f (fun b _ _ w => by unfold blk at w; omega), x2.fr0 f (fun b _ _ w => by unfold blk at w; omega), x3.fr0 f ((f.2.2.2.2.2.2 A (fun w => by unfold blk at w; omega) 7).1) (fun w => by unfold blk at w; omega), x4.fr0 f (fun w => by unfold blk at w; omega), x5.fr0 f, x6.fr0 f (fun b w => Or.inr ⟨o, ho, by unfold blk at w ⊢; omega⟩), x7, by rw [f.1]; exact x8, by rw [f.1]; exact x9⟩, f.kw (fun b w => g.2.2.2 b (by unfold blk at w ⊢; omega)), f.rm A⟩
theorem c225 (d : Nat) {h : AH} {A : Nat} {s : GS} {W : Nat → Prop} (hx : MX h A s W) : ∃ h' o, E (d + 2) 225 0 [some (.ref A)] [] h = some (some (.ref o), h') ∧ MX h' A s W ∧ hR h' A 23 = some o ∧ MY h' o (gY s) ∧ A + 53 ≤ o ∧ KW W h h' ∧ RM A h h' 0 0 := by
  obtain ⟨x1, x2, x3, x4, x5, x6, x7, x8, x9⟩ := id hx
  have oth : OTH h A := by
    unfold OTH
    cases w : hR h A 23 with
    | none => exact Or.inl rfl
    | some o => exact Or.inr ⟨o, rfl, (x6.1 o w).1, (x6.1 o w).2.1, (x6.1 o w).2.2.1⟩
  obtain ⟨h', o, e, q1, q2, q3, q4, q5, f⟩ := m225 d x1 oth x8
  rcases q5 with ⟨w, f0⟩ | ⟨w, w1, w2, w3⟩
  · have z := hx.o w f0
    exact ⟨h', o, e, z.1, q1, q2, q3, z.2⟩
  · subst w1
    obtain ⟨f1, f2, f3, f4, f5, f6, f7⟩ := f
    have nb : ∀ b, b < hN h → ¬ blk (hN h) 25 b := fun b hb w => by unfold blk at w; omega
    have z := MX.congr (h' := h') x1 x2 x3 x4 x5 (fun b h1 h2 => f5 b (by omega)) (fun b j h1 h2 _ => (f6 b (by omega) (nb b (by omega)) j).1) (fun b j h1 h2 => (f6 b (by omega) (nb b (by omega)) j).2) (fun b j h1 h2 => f7 b j (by omega) (fun w => by omega)) (fun j h1 h2 h3 h4 => f7 A j (by omega) (fun w => by omega))
    have r22 : hR h' A 22 = hR h A 22 := f7 A 22 (by omega) (fun w => by omega)
    have r31 : hR h' A 31 = hR h A 31 := f7 A 31 (by omega) (fun w => by omega)
    have r32 : hR h' A 32 = hR h A 32 := f7 A 32 (by omega) (fun w => by omega)
    obtain ⟨g1, g2, g3, g4, p, r, m, g5, g6, g7, g8, g9, g10, g11, g12⟩ := x6
    have wo : ∀ b, blk (hN h) 53 b → ¬ W b := fun b hb w => by have := x9 b w; unfold blk at hb; omega
    have mq : ∀ p, MQ1 h A W p → MQ1 h' A W p := fun p w4 => by
      obtain ⟨v1, v2, v3, v4, v5⟩ := w4
      refine ⟨v1, by omega, v3, fun o' ho' => ?_, by rw [r22]; exact v5⟩
      rw [q1] at ho'
      have e' := Option.some.inj ho'
      subst e'
      intro w5; unfold blk at w5; omega
    refine ⟨h', hN h, e, ⟨z.1, z.2.1, z.2.2.1, z.2.2.2.1, z.2.2.2.2, ⟨fun o' ho' => ?_, by rw [r22]; exact g2, fun y hy => ?_, fun o' p' h1 h2 => ?_, p, r, m, by rw [r31]; exact g5, by rw [r32]; exact g6, by rw [f5 p g11.2.1]; exact g7, by rw [f5 r g12.2.1]; exact g8, g9, g10, mq _ g11, mq _ g12⟩, x7, by omega, fun b hb => by have := x9 b hb; omega⟩, q1, q2, q3, ⟨f3, f4, f1, f2, fun b hb => ?_⟩, ?_⟩
    · rw [q1] at ho'
      have e' := Option.some.inj ho'
      subst e'
      exact ⟨q2.1, q3, q4, wo⟩
    · obtain ⟨p', v1, v2, v3, v4, v5⟩ := g3 y hy
      exact ⟨p', by rw [r22]; exact v1, v2.frN ⟨f1, f2, f3, f4, f5, f6, f7⟩ (by omega) (fun b h1 h2 => nb b (by omega)) (fun j hj w => by omega), v3, by omega, v5⟩
    · rw [q1] at h1
      rw [r22] at h2
      have e' := Option.some.inj h1
      subst e'
      have : p' + 53 ≤ hN h := by
        cases hk : gK s with
        | none => rw [g2 hk] at h2; cases h2
        | some y =>
          obtain ⟨p'', v1, v2, v3, v4, v5⟩ := g3 y hk
          rw [v1] at h2
          have := Option.some.inj h2
          omega
      omega
    · have hb' := x9 b hb
      have nA : b ≠ A := fun w => x7 A ⟨Nat.le_refl _, by omega⟩ (by rw [← w]; exact hb)
      exact ⟨f5 b hb', fun j => ⟨(f6 b hb' (nb b hb') j).1, (f6 b hb' (nb b hb') j).2, f7 b j hb' (fun w => nA w.1)⟩⟩
    · have e1 : fN h' A = fN h A := by
        unfold fN; rw [r31, g5]
        show alen h' p 2 = alen h p 2
        unfold alen; rw [f5 p g11.2.1]
      have e2 : oB h' A 22 = oB h A 22 := by unfold oB; rw [r22]
      have e3 : oB h' A 23 = 1 := by unfold oB; rw [q1]
      have e4 : oB h A 23 = 0 := by unfold oB; rw [w]
      unfold RM pU pN
      rw [e1, e2, e3, e4]; omega
