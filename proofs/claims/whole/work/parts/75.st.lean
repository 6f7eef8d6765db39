/-! STREAMS: a function on a small set, gone round -/
def rdI (y : YS) (g : Nat) (e : Nat → Int64) (m i : Nat) (st : (Nat × Nat) × Nat) : (Nat × Nat) × Nat := itr (fun i st => (stp y g st.1 (cv e i), if lt1 y g st.1 (cv e i) = true then st.2 + 1 else st.2)) m i st
theorem rdI_s (y : YS) (g : Nat) (e : Nat → Int64) (m i : Nat) (st : (Nat × Nat) × Nat) : rdI y g e (m + 1) i st = rdI y g e m (i + 1) (stp y g st.1 (cv e i), if lt1 y g st.1 (cv e i) = true then st.2 + 1 else st.2) := rfl
def wkI (y : YS) (g : Nat) (e : Nat → Int64) (m i : Nat) (p : Nat × Nat) : Nat × Nat := itr (fun i p => stp y g p (cv e i)) m i p
theorem rdI_1 (y : YS) (g : Nat) (e : Nat → Int64) : ∀ m i p l, (rdI y g e m i (p, l)).1 = wkI y g e m i p ∧ (rdI y g e m i (p, l)).2 = l + (rdI y g e m i (p, 0)).2 ∧ (rdI y g e m i (p, 0)).2 ≤ m := by
  intro m
  induction m with
  | zero => intro i p l; exact ⟨rfl, rfl, Nat.le_refl _⟩
  | succ m ih =>
    intro i p l
    rw [rdI_s, rdI_s]
    have a := ih (i + 1) (stp y g p (cv e i)) (if lt1 y g p (cv e i) = true then l + 1 else l)
    have b := ih (i + 1) (stp y g p (cv e i)) (if lt1 y g p (cv e i) = true then 0 + 1 else 0)
    refine ⟨a.1, ?_, ?_⟩
    · show (rdI y g e m (i + 1) (stp y g p (cv e i), if lt1 y g p (cv e i) = true then l + 1 else l)).2 = l + (rdI y g e m (i + 1) (stp y g p (cv e i), if lt1 y g p (cv e i) = true then 0 + 1 else 0)).2
      rw [a.2.1, b.2.1]; split <;> omega
    · show (rdI y g e m (i + 1) (stp y g p (cv e i), if lt1 y g p (cv e i) = true then 0 + 1 else 0)).2 ≤ m + 1
      rw [b.2.1]; have := b.2.2; split <;> omega
def rF (y : YS) (g : Nat) (e : Nat → Int64) (n : Nat) (p : Nat × Nat) : Nat × Nat := wkI y g e n 0 p
def rC (y : YS) (g : Nat) (e : Nat → Int64) (n : Nat) (p : Nat × Nat) : Nat := (rdI y g e n 0 (p, 0)).2
theorem wkI_ok {y : YS} {g : Nat} {e : Nat → Int64} : ∀ {m i : Nat} {p : Nat × Nat}, pOK y p → (∀ j, i ≤ j → j < i + m → inRL (e j) (Yc y) = true) → Yc y ≤ 3 → pOK y (wkI y g e m i p) := by
  intro m
  induction m with
  | zero => intro i st h _ _; exact h
  | succ m ih =>
    intro i st h hc h3
    exact ih (stp_ok h (cv_of (by omega) (hc i (by omega) (by omega))).1) (fun j h1 h2 => hc j (by omega) (by omega)) h3
/-- n times -/
def itF {α : Type} (F : α → α) (n : Nat) (p : α) : α := match n with
  | 0 => p
  | n + 1 => itF F n (F p)
theorem itF_s {α : Type} (F : α → α) (n : Nat) (p : α) : itF F (n + 1) p = itF F n (F p) := rfl
theorem itF_c {α : Type} (F : α → α) : ∀ (n : Nat) (p : α), itF F (n + 1) p = F (itF F n p) := by
  intro n
  induction n with
  | zero => intro p; rfl
  | succ n ih => intro p; rw [itF_s, ih, itF_s]
theorem itF_a {α : Type} (F : α → α) : ∀ (m n : Nat) (p : α), itF F (m + n) p = itF F n (itF F m p) := by
  intro m
  induction m with
  | zero => intro n p; rw [Nat.zero_add]; rfl
  | succ m ih => intro n p; rw [Nat.add_right_comm, itF_s, ih, itF_s]
theorem php : ∀ (n : Nat) (g : Nat → Nat), (∀ i, i ≤ n → g i < n) → ∃ i j, i < j ∧ j ≤ n ∧ g i = g j := by
  intro n
  induction n with
  | zero => intro g h; exact absurd (h 0 (Nat.le_refl _)) (Nat.not_lt_zero _)
  | succ n ih =>
    intro g h
    by_cases q : ∃ i, i ≤ n ∧ g i = g (n + 1)
    · obtain ⟨i, h1, h2⟩ := q
      exact ⟨i, n + 1, by omega, Nat.le_refl _, h2⟩
    · obtain ⟨i, j, h1, h2, h3⟩ := ih (fun i => if g i = n then g (n + 1) else g i) (fun i hi => by
        have h4 := h i (by omega)
        have h5 := h (n + 1) (Nat.le_refl _)
        have h6 : g i ≠ g (n + 1) := fun w => q ⟨i, hi, w⟩
        show (if g i = n then g (n + 1) else g i) < n
        split <;> omega)
      have h3 : (if g i = n then g (n + 1) else g i) = (if g j = n then g (n + 1) else g j) := h3
      have h6 : g i ≠ g (n + 1) := fun w => q ⟨i, by omega, w⟩
      have h7 : g j ≠ g (n + 1) := fun w => q ⟨j, by omega, w⟩
      refine ⟨i, j, h1, by omega, ?_⟩
      split at h3 <;> split at h3 <;> omega
theorem exLeast {P : Nat → Prop} : ∀ n, P n → ∃ m, P m ∧ m ≤ n ∧ ∀ k, k < m → ¬ P k := by
  intro n
  induction n using Nat.strongRecOn with
  | ind n ih =>
    intro h
    by_cases q : ∃ k, k < n ∧ P k
    · obtain ⟨k, h1, h2⟩ := q
      obtain ⟨m, a, b, c⟩ := ih k h1 h2
      exact ⟨m, a, by omega, c⟩
    · exact ⟨n, h, Nat.le_refl _, fun k h1 h2 => q ⟨k, h1, h2⟩⟩
theorem pk16 {y : YS} {p : Nat × Nat} (h3 : Yc y ≤ 3) (h : pOK y p) : pk p < 16 := by
  obtain ⟨a, b⟩ := h; unfold pk; omega
theorem pk_inj {y : YS} {p q : Nat × Nat} (h3 : Yc y ≤ 3) (h : pOK y p) (h' : pOK y q) (e : pk p = pk q) : p = q := by
  obtain ⟨a, b⟩ := h
  obtain ⟨c, d⟩ := h'
  obtain ⟨p1, p2⟩ := p
  obtain ⟨q1, q2⟩ := q
  unfold pk at e
  dsimp only at *
  rw [Prod.mk.injEq]; omega
/-- behind twenty rounds one is on the way round -/
theorem cyc {y : YS} {F : Nat × Nat → Nat × Nat} (h3 : Yc y ≤ 3) (hF : ∀ p, pOK y p → pOK y (F p)) {p : Nat × Nat} (hp : pOK y p) : ∃ r, 1 ≤ r ∧ r ≤ 16 ∧ itF F r (itF F 20 p) = itF F 20 p ∧ ∀ k, 1 ≤ k → k < r → itF F k (itF F 20 p) ≠ itF F 20 p := by
  have ok : ∀ n, pOK y (itF F n p) := by
    intro n
    induction n with
    | zero => exact hp
    | succ n ih => rw [itF_c]; exact hF _ ih
  obtain ⟨i, j, h1, h2, h4⟩ := php 16 (fun n => pk (itF F n p)) (fun n _ => pk16 h3 (ok n))
  have e := pk_inj h3 (ok i) (ok j) h4
  have q : 1 ≤ j - i ∧ itF F (j - i) (itF F 20 p) = itF F 20 p := by
    refine ⟨by omega, ?_⟩
    rw [← itF_a, show 20 + (j - i) = j + (20 - i) by omega, itF_a, ← e, ← itF_a, show i + (20 - i) = 20 by omega]
  obtain ⟨m, a, b, c⟩ := exLeast (P := fun r => 1 ≤ r ∧ itF F r (itF F 20 p) = itF F 20 p) (j - i) q
  exact ⟨m, a.1, by omega, a.2, fun k k1 k2 w => c k k2 ⟨k1, w⟩⟩
/-- the loop with marks; the loop until it is back -/
def strA (F : Nat × Nat → Nat × Nat) (C : Nat × Nat → Nat) (fuel seen : Nat) (p : Nat × Nat) (l r : Nat) : Nat × Nat := match fuel with
  | 0 => (l, r)
  | fuel + 1 => if seen / 2 ^ pk p % 2 = 0 then strA F C fuel (seen ||| 2 ^ pk p) (F p) (l + C p) (r + 1) else (l, r)
def strB (F : Nat × Nat → Nat × Nat) (C : Nat × Nat → Nat) (fuel : Nat) (q p : Nat × Nat) (l r : Nat) : Nat × Nat := match fuel with
  | 0 => (l, r)
  | fuel + 1 => if F p = q then (l + C p, r + 1) else strB F C fuel q (F p) (l + C p) (r + 1)
theorem bit0 (s k : Nat) : (s / 2 ^ k % 2 = 0) ↔ s.testBit k = false := by
  rw [Nat.testBit_eq_decide_div_mod_eq]
  have := Nat.mod_two_eq_zero_or_one (s / 2 ^ k)
  rw [decide_eq_false_iff_not]; omega
theorem strDR {y : YS} {F : Nat × Nat → Nat × Nat} {C : Nat × Nat → Nat} (h3 : Yc y ≤ 3) (hF : ∀ p, pOK y p → pOK y (F p)) {q : Nat × Nat} (hq : pOK y q) {r : Nat} (r1 : 1 ≤ r) (r2 : r ≤ 16) (hr : itF F r q = q) (hm : ∀ k, 1 ≤ k → k < r → itF F k q ≠ q) : ∀ m j seen l, j + m = r → 1 ≤ m → (∀ k, k < 16 → (seen.testBit k = true ↔ ∃ i, i < j ∧ pk (itF F i q) = k)) → strA F C (16 - j) seen (itF F j q) l j = strB F C (16 - j) q (itF F j q) l j := by
  have ok : ∀ n, pOK y (itF F n q) := by
    intro n
    induction n with
    | zero => exact hq
    | succ n ih => rw [itF_c]; exact hF _ ih
  have dist : ∀ i j, i < j → j < r → pk (itF F i q) ≠ pk (itF F j q) := by
    intro i j h1 h2 w
    have e := pk_inj h3 (ok i) (ok j) w
    apply hm (i + (r - j)) (by omega) (by omega)
    rw [itF_a, e, ← itF_a, show j + (r - j) = r by omega, hr]
  intro m
  induction m with
  | zero => intro j seen l _ h; exact absurd h (by decide)
  | succ m ih =>
    intro j seen l hj _ hs
    have fj : 16 - j = (16 - (j + 1)) + 1 := by omega
    have b0 : seen / 2 ^ pk (itF F j q) % 2 = 0 := by
      rw [bit0, Bool.eq_false_iff]
      intro w
      obtain ⟨i, h1, h2⟩ := (hs _ (pk16 h3 (ok j))).mp w
      exact dist i j h1 (by omega) h2
    rw [fj]
    show (if seen / 2 ^ pk (itF F j q) % 2 = 0 then strA F C (16 - (j + 1)) (seen ||| 2 ^ pk (itF F j q)) (F (itF F j q)) (l + C (itF F j q)) (j + 1) else (l, j)) = (if F (itF F j q) = q then (l + C (itF F j q), j + 1) else strB F C (16 - (j + 1)) q (F (itF F j q)) (l + C (itF F j q)) (j + 1))
    rw [if_pos b0, ← itF_c F j q]
    have hs' : ∀ k, k < 16 → ((seen ||| 2 ^ pk (itF F j q)).testBit k = true ↔ ∃ i, i < j + 1 ∧ pk (itF F i q) = k) := by
      intro k hk
      rw [Nat.testBit_or, Bool.or_eq_true, hs k hk, Nat.testBit_two_pow, decide_eq_true_iff]
      constructor
      · rintro (⟨i, h1, h2⟩ | h1)
        · exact ⟨i, by omega, h2⟩
        · exact ⟨j, by omega, h1⟩
      · rintro ⟨i, h1, h2⟩
        by_cases w : i = j
        · subst w; exact Or.inr h2
        · exact Or.inl ⟨i, by omega, h2⟩
    by_cases e : m = 0
    · have ej : j + 1 = r := by omega
      rw [ej, hr, if_pos rfl]
      rw [ej] at hs'
      by_cases f0 : 16 - r = 0
      · rw [f0]; rfl
      · obtain ⟨f, hf⟩ : ∃ f, 16 - r = f + 1 := ⟨16 - r - 1, by omega⟩
        rw [hf]
        show (if _ / 2 ^ pk q % 2 = 0 then _ else _) = _
        rw [if_neg]
        rw [bit0, Bool.eq_false_iff]
        intro w
        apply w
        exact (hs' _ (pk16 h3 hq)).mpr ⟨0, by omega, rfl⟩
    · rw [if_neg (hm (j + 1) (by omega) (by omega))]
      exact ih (j + 1) _ _ (by omega) (by omega) hs'
/-- back in time: what the reference's loop rests on -/
theorem strB_hit {F : Nat × Nat → Nat × Nat} {q p : Nat × Nat} : ∀ m, 1 ≤ m → itF F m p = q → ∃ k, 1 ≤ k ∧ k ≤ m ∧ itF F k p = q ∧ ∀ i, 1 ≤ i → i < k → itF F i p ≠ q := by
  intro m h1 h2
  obtain ⟨k, a, b, c⟩ := exLeast (P := fun r => 1 ≤ r ∧ itF F r p = q) m ⟨h1, h2⟩
  exact ⟨k, a.1, b, a.2, fun i i1 i2 w => c i i2 ⟨i1, w⟩⟩
