/-! SETS: the table and the marks -/
theorem anyB_t {p : Nat → Bool} : ∀ {m i : Nat}, anyB p m i = true ↔ ∃ j, i ≤ j ∧ j < i + m ∧ p j = true := by
  intro m
  induction m with
  | zero => intro i; exact ⟨fun h => Bool.noConfusion h, fun ⟨j, h1, h2, _⟩ => by omega⟩
  | succ m ih =>
    intro i
    rw [anyB_s, Bool.or_eq_true, ih]
    constructor
    · rintro (h | ⟨j, h1, h2, h3⟩)
      · exact ⟨i, by omega, by omega, h⟩
      · exact ⟨j, by omega, by omega, h3⟩
    · rintro ⟨j, h1, h2, h3⟩
      by_cases e : j = i
      · subst e; exact Or.inl h3
      · exact Or.inr ⟨j, by omega, by omega, h3⟩
theorem bit1 (s k : Nat) : (s / 2 ^ k % 2 = 1) ↔ s.testBit k = true := by
  rw [Nat.testBit_eq_decide_div_mod_eq, decide_eq_true_iff]
theorem hsF_t {R col : Nat} : hsF R col 16 0 = true ↔ ∃ j, j < 16 ∧ R.testBit j = true ∧ j % 4 = col + 1 := by
  unfold hsF
  rw [anyB_t]
  constructor
  · rintro ⟨j, h1, h2, h3⟩
    rw [Bool.and_eq_true, decide_eq_true_iff, decide_eq_true_iff, bit1] at h3
    exact ⟨j, by omega, h3⟩
  · rintro ⟨j, h1, h2, h3⟩
    refine ⟨j, by omega, by omega, ?_⟩
    rw [Bool.and_eq_true, decide_eq_true_iff, decide_eq_true_iff, bit1]
    exact ⟨h2, h3⟩
theorem bhC_bit (f : Nat × Nat → Nat → Nat × Nat) (k j : Nat) : ∀ n i a, (bhC f k n i a).testBit j = true ↔ a.testBit j = true ∨ ∃ c, i ≤ c ∧ c < i + n ∧ pk (f (uq k) c) = j := by
  intro n
  induction n with
  | zero => intro i a; exact ⟨Or.inl, fun h => by rcases h with h | ⟨c, h1, h2, _⟩; exact h; omega⟩
  | succ n ih =>
    intro i a
    show (bhC f k n (i + 1) (a ||| 2 ^ pk (f (uq k) i))).testBit j = true ↔ _
    rw [ih, Nat.testBit_or, Bool.or_eq_true, Nat.testBit_two_pow, decide_eq_true_iff]
    constructor
    · rintro ((h | h) | ⟨c, h1, h2, h3⟩)
      · exact Or.inl h
      · exact Or.inr ⟨i, by omega, by omega, h⟩
      · exact Or.inr ⟨c, by omega, by omega, h3⟩
    · rintro (h | ⟨c, h1, h2, h3⟩)
      · exact Or.inl (Or.inl h)
      · by_cases e : c = i
        · subst e; exact Or.inl (Or.inr h3)
        · exact Or.inr ⟨c, by omega, by omega, h3⟩
theorem bhT_bit (f : Nat × Nat → Nat → Nat × Nat) (n R j : Nat) : ∀ m i a, (bhT f n R m i a).testBit j = true ↔ a.testBit j = true ∨ ∃ k, i ≤ k ∧ k < i + m ∧ R.testBit k = true ∧ ∃ c, c < n ∧ pk (f (uq k) c) = j := by
  intro m
  induction m with
  | zero => intro i a; exact ⟨Or.inl, fun h => by rcases h with h | ⟨c, h1, h2, _⟩; exact h; omega⟩
  | succ m ih =>
    intro i a
    show (bhT f n R m (i + 1) (if R / 2 ^ i % 2 = 1 then bhC f i n 0 a else a)).testBit j = true ↔ _
    rw [ih]
    by_cases h : R / 2 ^ i % 2 = 1
    · rw [if_pos h, bhC_bit]
      rw [bit1] at h
      constructor
      · rintro ((q | ⟨c, h1, h2, h3⟩) | ⟨k, h1, h2, h3⟩)
        · exact Or.inl q
        · exact Or.inr ⟨i, by omega, by omega, h, c, by omega, h3⟩
        · exact Or.inr ⟨k, by omega, by omega, h3⟩
      · rintro (q | ⟨k, h1, h2, h3, c, h4, h5⟩)
        · exact Or.inl (Or.inl q)
        · by_cases e : k = i
          · subst e; exact Or.inl (Or.inr ⟨c, by omega, by omega, h5⟩)
          · exact Or.inr ⟨k, by omega, by omega, h3, c, h4, h5⟩
    · rw [if_neg h]
      rw [bit1] at h
      constructor
      · rintro (q | ⟨k, h1, h2, h3⟩)
        · exact Or.inl q
        · exact Or.inr ⟨k, by omega, by omega, h3⟩
      · rintro (q | ⟨k, h1, h2, h3, h4⟩)
        · exact Or.inl q
        · by_cases e : k = i
          · subst e; exact absurd h3 h
          · exact Or.inr ⟨k, by omega, by omega, h3, h4⟩
theorem rgV_p (f : Nat × Nat → Nat → Nat × Nat) (w t k : Nat) : ∀ m i b, (∀ j, rgV f w t k m i b j = b j ∨ (rgV f w t k m i b j = t + 1 ∧ t + 1 < b j ∧ ∃ c, i ≤ c ∧ c < i + m ∧ ix w (f (dc w k) c) = j)) ∧ ∀ c, i ≤ c → c < i + m → rgV f w t k m i b (ix w (f (dc w k) c)) ≤ t + 1 := by
  intro m
  induction m with
  | zero => intro i b; exact ⟨fun j => Or.inl rfl, fun c h1 h2 => by omega⟩
  | succ m ih =>
    intro i b
    have S : rgV f w t k (m + 1) i b = rgV f w t k m (i + 1) (fup b (ix w (f (dc w k) i)) (if t + 1 < b (ix w (f (dc w k) i)) then t + 1 else b (ix w (f (dc w k) i)))) := rfl
    rw [S]
    generalize hx : ix w (f (dc w k) i) = x
    obtain ⟨a1, a2⟩ := ih (i + 1) (fup b x (if t + 1 < b x then t + 1 else b x))
    have fx : ∀ j, fup b x (if t + 1 < b x then t + 1 else b x) j = b j ∨ (j = x ∧ t + 1 < b x ∧ fup b x (if t + 1 < b x then t + 1 else b x) j = t + 1) := by
      intro j
      by_cases e : j = x
      · subst e
        rw [fup_s]
        by_cases q : t + 1 < b j
        · rw [if_pos q]; exact Or.inr ⟨rfl, q, rfl⟩
        · rw [if_neg q]; exact Or.inl rfl
      · rw [fup_n _ _ e]; exact Or.inl rfl
    have bx : fup b x (if t + 1 < b x then t + 1 else b x) x ≤ t + 1 := by rw [fup_s]; split <;> omega
    generalize fup b x (if t + 1 < b x then t + 1 else b x) = b1 at *
    constructor
    · intro j
      rcases a1 j with q | ⟨q1, q2, c, q3, q4, q5⟩
      · rcases fx j with r | ⟨r1, r2, r3⟩
        · exact Or.inl (q.trans r)
        · exact Or.inr ⟨q.trans r3, by rw [r1]; exact r2, i, by omega, by omega, by rw [hx, r1]⟩
      · rcases fx j with r | ⟨r1, r2, r3⟩
        · exact Or.inr ⟨q1, by omega, c, by omega, by omega, q5⟩
        · omega
    · intro c h1 h2
      by_cases e : c = i
      · subst e
        rw [hx]
        rcases a1 x with q | ⟨q, -⟩
        · rw [q]; exact bx
        · omega
      · exact a2 c (by omega) (by omega)
def KP (f : Nat × Nat → Nat → Nat × Nat) (w n t : Nat) (b : Nat → Nat) (k : Nat) (b' : Nat → Nat) : Prop := (∀ j, (b j ≤ t → b' j = b j) ∧ (¬ b j ≤ t → b' j = t + 1 ∨ b' j = b j)) ∧ (∀ j, ¬ b j ≤ t → b' j = t + 1 → b j = t + 1 ∨ ∃ k', k' < k ∧ b k' = t ∧ ∃ c, c < n ∧ ix w (f (dc w k') c) = j) ∧ ∀ k', k' < k → b k' = t → ∀ c, c < n → b' (ix w (f (dc w k') c)) ≤ t + 1
theorem rgK_p (f : Nat × Nat → Nat → Nat × Nat) (w n col t : Nat) (b : Nat → Nat) : ∀ m k b', k + m = w * w → KP f w n t b k b' → match rgK f w n col t m k b' with
    | none => ∃ k', k' < w * w ∧ b k' = t ∧ k' / w = col + 1
    | some b3 => KP f w n t b (w * w) b3 ∧ ∀ k', k ≤ k' → k' < w * w → b k' = t → ¬ k' / w = col + 1 := by
  intro m
  induction m with
  | zero =>
    intro k b' hk h
    have hk' : k = w * w := hk
    subst hk'
    exact ⟨h, fun k' h1 h2 => by omega⟩
  | succ m ih =>
    intro k b' hk h
    obtain ⟨p1, p2, p3⟩ := h
    have bk : b' k = t ↔ b k = t := by
      obtain ⟨q1, q2⟩ := p1 k
      by_cases c : b k ≤ t
      · rw [q1 c]
      · rcases q2 c with q | q <;> omega
    have S : rgK f w n col t (m + 1) k b' = if b' k = t then (if k / w = col + 1 then none else rgK f w n col t m (k + 1) (rgV f w t k n 0 b')) else rgK f w n col t m (k + 1) b' := rfl
    rw [S]
    by_cases c : b' k = t
    · rw [if_pos c]
      by_cases e : k / w = col + 1
      · rw [if_pos e]
        exact ⟨k, by omega, bk.mp c, e⟩
      · rw [if_neg e]
        obtain ⟨v1, v2⟩ := rgV_p f w t k n 0 b'
        have h' : KP f w n t b (k + 1) (rgV f w t k n 0 b') := by
          refine ⟨fun j => ?_, fun j j1 j2 => ?_, fun k' h1 h2 c' h3 => ?_⟩
          · obtain ⟨q1, q2⟩ := p1 j
            refine ⟨fun h => ?_, fun h => ?_⟩
            · have := q1 h
              rcases v1 j with r | ⟨r1, r2, -⟩
              · rw [r, this]
              · omega
            · rcases v1 j with r | ⟨r1, -, -⟩
              · rw [r]; exact q2 h
              · exact Or.inl r1
          · rcases v1 j with r | ⟨r1, r2, c', r3, r4, r5⟩
            · rw [r] at j2
              rcases p2 j j1 j2 with z | ⟨k', z1, z2⟩
              · exact Or.inl z
              · exact Or.inr ⟨k', by omega, z2⟩
            · exact Or.inr ⟨k, by omega, bk.mp c, c', by omega, r5⟩
          · by_cases e' : k' = k
            · subst e'; exact v2 c' (by omega) (by omega)
            · have := p3 k' (by omega) h2 c' h3
              rcases v1 (ix w (f (dc w k') c')) with r | ⟨r, -, -⟩ <;> omega
        have := ih (k + 1) _ (by omega) h'
        cases hr : rgK f w n col t m (k + 1) (rgV f w t k n 0 b') with
        | none => rw [hr] at this; exact this
        | some b3 =>
          rw [hr] at this
          refine ⟨this.1, fun k' h1 h2 h3 => ?_⟩
          by_cases e' : k' = k
          · subst e'; exact e
          · exact this.2 k' (by omega) h2 h3
    · rw [if_neg c]
      have h' : KP f w n t b (k + 1) b' := by
        refine ⟨p1, fun j j1 j2 => ?_, fun k' h1 h2 c' h3 => ?_⟩
        · rcases p2 j j1 j2 with z | ⟨k', z1, z2⟩
          · exact Or.inl z
          · exact Or.inr ⟨k', by omega, z2⟩
        · by_cases e' : k' = k
          · subst e'; exact absurd (bk.mpr h2) c
          · exact p3 k' (by omega) h2 c' h3
      have := ih (k + 1) _ (by omega) h'
      cases hr : rgK f w n col t m (k + 1) b' with
      | none => rw [hr] at this; exact this
      | some b3 =>
        rw [hr] at this
        refine ⟨this.1, fun k' h1 h2 h3 => ?_⟩
        by_cases e' : k' = k
        · subst e'; exact absurd (bk.mpr h3) c
        · exact this.2 k' (by omega) h2 h3
