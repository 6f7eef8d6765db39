/-! SETS: the table and the marks say the same -/
def TINV (f : Nat × Nat → Nat → Nat × Nat) (w n t R : Nat) (b : Nat → Nat) : Prop := (∀ k, k < w * w → (b k ≤ t ↔ R.testBit (pk (dc w k)) = true) ∧ (b k ≤ t ∨ b k = 30000)) ∧ (∀ k, k < w * w → b k < t → ∀ c, c < n → R.testBit (pk (f (dc w k) c)) = true) ∧ ∀ j, R.testBit j = true → (uq j).1 < w ∧ (uq j).2 < w
theorem pk_inj4 {p q : Nat × Nat} (h : p.1 < 4) (h' : q.1 < 4) (e : pk p = pk q) : p = q := by
  rw [← uq_pk h, ← uq_pk h', e]
theorem TINV_step {f : Nat × Nat → Nat → Nat × Nat} {w n col t R : Nat} {b : Nat → Nat} (w4 : w ≤ 4) (t3 : t + 1 < 30000) (hf : ∀ p c, p.1 < w → p.2 < w → c < n → (f p c).1 < w ∧ (f p c).2 < w) (h : TINV f w n t R b) (nh : ∀ k, k < w * w → b k < t → ¬ k / w = col + 1) : match rgK f w n col t (w * w) 0 b with
    | none => hsF R col 16 0 = true
    | some b3 => hsF R col 16 0 = false ∧ TINV f w n (t + 1) (R ||| bhT f n R 16 0 0) b3 ∧ ∀ k, k < w * w → b3 k < t + 1 → ¬ k / w = col + 1 := by
  obtain ⟨i1, i2, i3⟩ := h
  have key := rgK_p f w n col t b (w * w) 0 b (Nat.zero_add _) ⟨fun j => ⟨fun _ => rfl, fun _ => Or.inr rfl⟩, fun j _ h => Or.inl h, fun k' h1 => absurd h1 (Nat.not_lt_zero _)⟩
  have ixk : ∀ p : Nat × Nat, p.1 < w → p.2 < w → ix w p < w * w ∧ dc w (ix w p) = p := fun p h1 h2 => ⟨ix_lt h1 h2, dc_ix h2⟩
  cases hr : rgK f w n col t (w * w) 0 b with
  | none =>
    rw [hr] at key
    obtain ⟨k', k1, k2, k3⟩ := key
    obtain ⟨d1, d2⟩ := dc_lt k1
    show hsF R col 16 0 = true
    rw [hsF_t]
    have e : (dc w k').1 = k' / w := rfl
    refine ⟨pk (dc w k'), by unfold pk; omega, ((i1 k' k1).1).mp (by omega), ?_⟩
    unfold pk; omega
  | some b3 =>
    rw [hr] at key
    obtain ⟨⟨p1, p2, p3⟩, nh2⟩ := key
    have old : ∀ k, k < w * w → b3 k < t + 1 → b k ≤ t := by
      intro k hk h
      apply Classical.byContradiction
      intro c
      have := (p1 k).2 c
      have := (i1 k hk).2
      omega
    refine ⟨?_, ⟨fun k hk => ?_, fun k hk hb c hc => ?_, fun j hj => ?_⟩, fun k hk hb => ?_⟩
    · rw [Bool.eq_false_iff]
      intro q
      obtain ⟨j, j1, j2, j3⟩ := hsF_t.mp q
      obtain ⟨a1, a2⟩ := i3 j j2
      obtain ⟨b1, b2⟩ := ixk (uq j) a1 a2
      have e : ix w (uq j) / w = (uq j).1 := by
        have : (dc w (ix w (uq j))).1 = (uq j).1 := by rw [b2]
        exact this
      have u1 : (uq j).1 = j % 4 := rfl
      have le : b (ix w (uq j)) ≤ t := (i1 _ b1).1.mpr (by rw [b2, pk_uq]; exact j2)
      by_cases c : b (ix w (uq j)) < t
      · exact nh _ b1 c (by omega)
      · exact nh2 _ (Nat.zero_le _) b1 (by omega) (by omega)
    · obtain ⟨d1, d2⟩ := dc_lt hk
      by_cases c : b k ≤ t
      · have e := (p1 k).1 c
        refine ⟨⟨fun _ => ?_, fun _ => by omega⟩, Or.inl (by omega)⟩
        rw [Nat.testBit_or, (i1 k hk).1.mp c, Bool.true_or]
      · have b30 : b k = 30000 := by have := (i1 k hk).2; omega
        have nb : ¬ R.testBit (pk (dc w k)) = true := fun q => c ((i1 k hk).1.mpr q)
        have e := (p1 k).2 c
        refine ⟨⟨fun q => ?_, fun q => ?_⟩, by omega⟩
        · rcases p2 k c (by omega) with z | ⟨k', z1, z2, c', z3, z4⟩
          · omega
          · obtain ⟨e1, e2⟩ := dc_lt z1
            obtain ⟨f1, f2⟩ := hf (dc w k') c' e1 e2 z3
            rw [Nat.testBit_or, Bool.or_eq_true, bhT_bit]
            refine Or.inr (Or.inr ⟨pk (dc w k'), by omega, by unfold pk; omega, (i1 k' z1).1.mp (by omega), c', z3, ?_⟩)
            rw [uq_pk (by omega), ← z4, dc_ix f2]
        · rw [Nat.testBit_or, Bool.or_eq_true, bhT_bit] at q
          rcases q with q | q | ⟨m, m1, m2, m3, c', z3, z4⟩
          · exact absurd q nb
          · rw [Nat.zero_testBit] at q; cases q
          · obtain ⟨a1, a2⟩ := i3 m m3
            obtain ⟨b1, b2⟩ := ixk (uq m) a1 a2
            obtain ⟨f1, f2⟩ := hf (uq m) c' a1 a2 z3
            have e5 := pk_inj4 (by omega) (by omega) z4
            have le : b (ix w (uq m)) ≤ t := (i1 _ b1).1.mpr (by rw [b2, pk_uq]; exact m3)
            by_cases c2 : b (ix w (uq m)) < t
            · have := i2 _ b1 c2 c' z3
              rw [b2, e5] at this
              exact absurd this nb
            · have := p3 _ b1 (by omega) c' z3
              rw [b2, e5, ix_dc] at this
              exact this
    · have le := old k hk hb
      obtain ⟨d1, d2⟩ := dc_lt hk
      rw [Nat.testBit_or, Bool.or_eq_true]
      by_cases c2 : b k < t
      · exact Or.inl (i2 k hk c2 c hc)
      · refine Or.inr ?_
        rw [bhT_bit]
        exact Or.inr ⟨pk (dc w k), by omega, by unfold pk; omega, (i1 k hk).1.mp le, c, hc, by rw [uq_pk (by omega)]⟩
    · rw [Nat.testBit_or, Bool.or_eq_true, bhT_bit] at hj
      rcases hj with q | q | ⟨m, m1, m2, m3, c', z3, z4⟩
      · exact i3 j q
      · rw [Nat.zero_testBit] at q; cases q
      · obtain ⟨a1, a2⟩ := i3 m m3
        have f1 := hf (uq m) c' a1 a2 z3
        rw [← z4, uq_pk (by omega)]; exact f1
    · have le := old k hk hb
      by_cases c2 : b k < t
      · exact nh k hk c2
      · exact nh2 k (Nat.zero_le _) hk (by omega)
theorem rgS_tsR {f : Nat × Nat → Nat → Nat × Nat} {w n col : Nat} (w4 : w ≤ 4) (hf : ∀ p c, p.1 < w → p.2 < w → c < n → (f p c).1 < w ∧ (f p c).2 < w) : ∀ u t R b, t + u < 30000 → TINV f w n t R b → (∀ k, k < w * w → b k < t → ¬ k / w = col + 1) → rgS f w n col u t b = tsR f n col u t R := by
  intro u
  induction u with
  | zero => intro t R b _ _ _; rfl
  | succ u ih =>
    intro t R b ht h nh
    have key := TINV_step w4 (by omega) hf h nh
    show (match rgK f w n col t (w * w) 0 b with | none => nI t | some b' => rgS f w n col u (t + 1) b') = (if hsF R col 16 0 = true then nI t else tsR f n col u (t + 1) (R ||| bhT f n R 16 0 0))
    cases hr : rgK f w n col t (w * w) 0 b with
    | none =>
      rw [hr] at key
      have key : hsF R col 16 0 = true := key
      rw [if_pos key]
    | some b3 =>
      rw [hr] at key
      obtain ⟨k1, k2, k3⟩ := key
      rw [k1, if_neg (by decide)]
      exact ih (t + 1) _ _ (by omega) k2 k3
theorem TINV_0 {f : Nat × Nat → Nat → Nat × Nat} {w n : Nat} {p : Nat × Nat} (w4 : w ≤ 4) (h1 : p.1 < w) (h2 : p.2 < w) : TINV f w n 0 (2 ^ pk p) (fup (fun _ => 30000) (ix w p) 0) := by
  refine ⟨fun k hk => ?_, fun k hk h => absurd h (Nat.not_lt_zero _), fun j hj => ?_⟩
  · obtain ⟨d1, d2⟩ := dc_lt hk
    rw [Nat.testBit_two_pow, decide_eq_true_iff]
    unfold fup
    by_cases e : k = ix w p
    · subst e
      rw [if_pos rfl, dc_ix h2]
      exact ⟨⟨fun _ => rfl, fun _ => Nat.le_refl _⟩, Or.inl (Nat.le_refl _)⟩
    · rw [if_neg e]
      refine ⟨⟨fun q => absurd (show (30000 : Nat) ≤ 0 from q) (by decide), fun q => ?_⟩, Or.inr rfl⟩
      exfalso
      apply e
      have := pk_inj4 (by omega) (by omega) q
      rw [this, ix_dc]
  · rw [Nat.testBit_two_pow, decide_eq_true_iff] at hj
    rw [← hj, uq_pk (by omega)]; exact ⟨h1, h2⟩
/-- what the reference's table comes to -/
theorem sets_eq {y : YS} (ok : YOK y) {g col : Nat} (hg : g < Yg y) : rgS (stp y g) (Yc y + 1) (Yc y) col ((Yc y + 1) * (Yc y + 1) + 1) 0 (fup (fun _ => 30000) (ix (Yc y + 1) (memP y g)) 0) = tsR (stp y g) (Yc y) col 16 0 (2 ^ pk (memP y g)) := by
  have mp := memP_ok ok hg
  have k1 := (ok.2.2.2.1 g hg).1
  obtain ⟨⟨o2, o3⟩, o6, on, og, oc⟩ := id ok
  have fe : stp y g = stK (YK y g) := by funext p c; exact stp_K k1 p c
  have cl := closed k1 ⟨o2, o3⟩ mp.1 mp.2
  have z := rgS_tsR (f := stp y g) (w := Yc y + 1) (n := Yc y) (col := col) (by omega) (fun p c p1 p2 hc => by
    have := stp_ok (y := y) (g := g) (p := p) (c := c) ⟨by omega, by omega⟩ hc
    exact ⟨by have := this.1; omega, by have := this.2; omega⟩) ((Yc y + 1) * (Yc y + 1) + 1) 0 (2 ^ pk (memP y g)) _ (by
      have : (Yc y + 1) * (Yc y + 1) ≤ 4 * 4 := Nat.mul_le_mul (by omega) (by omega)
      omega) (TINV_0 (by omega) (by have := mp.1; omega) (by have := mp.2; omega)) (fun k _ h => absurd h (Nat.not_lt_zero _))
  rw [z, fe]
  have nine : 9 ≤ (Yc y + 1) * (Yc y + 1) := by
    have : 3 * 3 ≤ (Yc y + 1) * (Yc y + 1) := Nat.mul_le_mul (by omega) (by omega)
    omega
  have e1 := tsR_cl (stK (YK y g)) (Yc y) col 8 (2 ^ pk (memP y g)) 0 ((Yc y + 1) * (Yc y + 1) + 1 - 9) cl
  have e2 := tsR_cl (stK (YK y g)) (Yc y) col 8 (2 ^ pk (memP y g)) 0 7 cl
  rw [show 8 + 1 + ((Yc y + 1) * (Yc y + 1) + 1 - 9) = (Yc y + 1) * (Yc y + 1) + 1 by omega] at e1
  rw [e1, ← e2]
