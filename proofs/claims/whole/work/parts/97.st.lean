/-! LOCK and KEY: both ways come to the same -/
theorem dgt_lo {C n k c t : Nat} (hC : 0 < C) (hk : k < n) : (c * C ^ n + t) / C ^ k % C = t / C ^ k % C := by
  have e : c * C ^ n = C ^ k * (C * (c * C ^ (n - k - 1))) := by
    have : C ^ n = C ^ k * (C * C ^ (n - k - 1)) := by
      rw [← Nat.pow_succ', ← Nat.pow_add]; congr 1; omega
    rw [this, Nat.mul_left_comm c, Nat.mul_left_comm c]
  rw [e, Nat.mul_add_div (Nat.pow_pos hC), Nat.mul_add_mod]
theorem dgt_hi {C n c t : Nat} (hc : c < C) (ht : t < C ^ n) : (c * C ^ n + t) / C ^ n % C = c := by
  rw [Nat.mul_comm c, Nat.mul_add_div (by omega), Nat.div_eq_of_lt ht, Nat.add_zero, Nat.mod_eq_of_lt hc]
theorem ky_lo {y : YS} (hC : 0 < Yc y) {n c t : Nat} : ∀ k r, k ≤ n → ky y k (c * Yc y ^ n + t) r = ky y k t r := by
  intro k
  induction k with
  | zero => intro r _; rfl
  | succ k ih =>
    intro r hk
    show thX (thR y ((c * Yc y ^ n + t) / Yc y ^ k % Yc y) (Yg y) 0 r) false (fun r' => ky y k (c * Yc y ^ n + t) r') = thX (thR y (t / Yc y ^ k % Yc y) (Yg y) 0 r) false (fun r' => ky y k t r')
    rw [dgt_lo hC (by omega)]
    cases thR y (t / Yc y ^ k % Yc y) (Yg y) 0 r with
    | none => rfl
    | some r' => exact ih r' (by omega)
theorem ky_hi {y : YS} {n c t : Nat} (hc : c < Yc y) (ht : t < Yc y ^ n) (r : Nat → Nat × Nat) : ky y (n + 1) (c * Yc y ^ n + t) r = thX (thR y c (Yg y) 0 r) false (fun r' => ky y n t r') := by
  show thX (thR y ((c * Yc y ^ n + t) / Yc y ^ n % Yc y) (Yg y) 0 r) false (fun r' => ky y n (c * Yc y ^ n + t) r') = _
  rw [dgt_hi hc ht]
  cases thR y c (Yg y) 0 r with
  | none => rfl
  | some r' => exact ky_lo (by omega) n r' (Nat.le_refl _)
def cnK (y : YS) (n : Nat) (r : Nat → Nat × Nat) (p i a : Nat) : Nat := itr (fun row a => if ky y n row r = true then a + 1 else a) p i a
theorem cnK_blk {y : YS} {n c : Nat} (hc : c < Yc y) (r : Nat → Nat × Nat) : ∀ p t a, t + p ≤ Yc y ^ n → cnK y (n + 1) r p (c * Yc y ^ n + t) a = thX (thR y c (Yg y) 0 r) a (fun r' => cnK y n r' p t a) := by
  intro p
  induction p with
  | zero =>
    intro t a _
    cases thR y c (Yg y) 0 r with
    | none => rfl
    | some r' => rfl
  | succ p ih =>
    intro t a h
    have S : cnK y (n + 1) r (p + 1) (c * Yc y ^ n + t) a = cnK y (n + 1) r p (c * Yc y ^ n + (t + 1)) (if ky y (n + 1) (c * Yc y ^ n + t) r = true then a + 1 else a) := rfl
    rw [S, ih (t + 1) _ (by omega), ky_hi hc (by omega)]
    cases thR y c (Yg y) 0 r with
    | none => rfl
    | some r' => rfl
theorem cnK_add (y : YS) (n : Nat) (r : Nat → Nat × Nat) : ∀ p i a, cnK y n r p i a = a + cnK y n r p i 0 := by
  intro p
  induction p with
  | zero => intro i a; rfl
  | succ p ih =>
    intro i a
    have S : ∀ a, cnK y n r (p + 1) i a = cnK y n r p (i + 1) (if ky y n i r = true then a + 1 else a) := fun _ => rfl
    rw [S, S, ih (i + 1) (if ky y n i r = true then a + 1 else a), ih (i + 1) (if ky y n i r = true then 0 + 1 else 0)]
    split <;> omega
theorem cnK_rw {y : YS} : ∀ n r, cnK y n r (Yc y ^ n) 0 0 = rwR y n r := by
  intro n
  induction n with
  | zero => intro r; rw [Nat.pow_zero]; rfl
  | succ n ih =>
    intro r
    have lp : ∀ m c a, c + m = Yc y → cnK y (n + 1) r (m * Yc y ^ n) (c * Yc y ^ n) a = itr (fun c a => a + thX (thR y c (Yg y) 0 r) 0 (fun r' => rwR y n r')) m c a := by
      intro m
      induction m with
      | zero => intro c a _; rw [Nat.zero_mul]; rfl
      | succ m ih2 =>
        intro c a hc
        have e : cnK y (n + 1) r (Yc y ^ n) (c * Yc y ^ n) a = thX (thR y c (Yg y) 0 r) a (fun r' => cnK y n r' (Yc y ^ n) 0 a) := cnK_blk (y := y) (n := n) (c := c) (by omega) r (Yc y ^ n) 0 a (by omega)
        rw [itr_s, ← ih2 (c + 1) _ (by omega), Nat.succ_mul, Nat.add_comm (m * _)]
        have ap : ∀ m1 m2 i a, cnK y (n + 1) r (m1 + m2) i a = cnK y (n + 1) r m2 (i + m1) (cnK y (n + 1) r m1 i a) := fun m1 m2 i a => itr_a _ m1 m2 i a
        rw [ap, e, ← Nat.succ_mul]
        congr 1
        cases th : thR y c (Yg y) 0 r with
        | none => rfl
        | some r' =>
          show cnK y n r' (Yc y ^ n) 0 a = a + rwR y n r'
          rw [cnK_add, ih r']
    have e := lp (Yc y) 0 0 (by omega)
    rw [Nat.zero_mul] at e
    rw [Nat.pow_succ, Nat.mul_comm, e]; rfl
/-- the first row that is a key -/
def fsK (y : YS) (n : Nat) (r : Nat → Nat × Nat) (p i : Nat) : Option Nat := match p with
  | 0 => none
  | p + 1 => if ky y n i r = true then some i else fsK y n r p (i + 1)
theorem fsK_no {y : YS} {n : Nat} {r : Nat → Nat × Nat} : ∀ p i, cnK y n r p i 0 = 0 → ∀ k, i ≤ k → k < i + p → ky y n k r = false := by
  intro p
  induction p with
  | zero => intro i _ k h1 h2; omega
  | succ p ih =>
    intro i h k h1 h2
    have h : cnK y n r p (i + 1) (if ky y n i r = true then 0 + 1 else 0) = 0 := h
    rw [cnK_add] at h
    by_cases e : ky y n i r = true
    · rw [if_pos e] at h; omega
    · rw [if_neg e] at h
      by_cases e2 : k = i
      · subst e2; cases q : ky y n k r
        · rfl
        · exact absurd q e
      · exact ih (i + 1) (by omega) k (by omega) (by omega)
theorem fsK_of {y : YS} {n : Nat} {r : Nat → Nat × Nat} {k : Nat} (hk : ky y n k r = true) : ∀ p i, i ≤ k → k < i + p → (∀ j, i ≤ j → j < k → ky y n j r = false) → fsK y n r p i = some k := by
  intro p
  induction p with
  | zero => intro i h1 h2; omega
  | succ p ih =>
    intro i h1 h2 h3
    show (if ky y n i r = true then some i else fsK y n r p (i + 1)) = some k
    by_cases e : i = k
    · subst e; rw [if_pos hk]
    · rw [h3 i (Nat.le_refl _) (by omega), if_neg (by decide)]
      exact ih (i + 1) (by omega) (by omega) (fun j a b => h3 j (by omega) b)
/-- the first row, place by place -/
theorem row_f {y : YS} (hC : 0 < Yc y) : ∀ n r, 0 < rwR y n r → ∃ row, row < Yc y ^ n ∧ ky y n row r = true ∧ (∀ j, j < row → ky y n j r = false) ∧ ∀ m a i z, m - a = n → a ≤ i → i < m → kaR y m (i + 1 - a) a r z = nI (row / Yc y ^ (m - 1 - i) % Yc y) := by
  intro n
  induction n with
  | zero => intro r _; exact ⟨0, by rw [Nat.pow_zero]; decide, rfl, fun j hj => absurd hj (Nat.not_lt_zero j), fun m a i z h1 h2 h3 => by omega⟩
  | succ n ih =>
    intro r hr
    -- the first colour
    have lp : ∀ m c, c + m = Yc y → 0 < itr (fun c a => a + thX (thR y c (Yg y) 0 r) 0 (fun r' => rwR y n r')) m c 0 → (∀ j, j < c → thX (thR y j (Yg y) 0 r) 0 (fun r' => rwR y n r') = 0) → ∃ k, fkR y n r m c = some k ∧ k < Yc y ∧ ∀ j, j < k → thX (thR y j (Yg y) 0 r) 0 (fun r' => rwR y n r') = 0 := by
      intro m
      induction m with
      | zero => intro c _ h; exact absurd h (Nat.lt_irrefl 0)
      | succ m ih2 =>
        intro c hc h hj
        rw [itr_s] at h
        show ∃ k, (if 0 < thX (thR y c (Yg y) 0 r) 0 (fun r' => rwR y n r') then some c else fkR y n r m (c + 1)) = some k ∧ _
        by_cases q : 0 < thX (thR y c (Yg y) 0 r) 0 (fun r' => rwR y n r')
        · rw [if_pos q]; exact ⟨c, rfl, by omega, hj⟩
        · rw [if_neg q]
          have q0 : thX (thR y c (Yg y) 0 r) 0 (fun r' => rwR y n r') = 0 := by omega
          rw [q0] at h
          exact ih2 (c + 1) (by omega) h (fun j hj' => by
            by_cases e : j = c
            · subst e; exact q0
            · exact hj j (by omega))
    obtain ⟨c, fk, cl, cf⟩ := lp (Yc y) 0 (by omega) hr (fun j hj => absurd hj (Nat.not_lt_zero j))
    obtain ⟨-, -, r', th, rp⟩ := fkR_some _ _ fk
    obtain ⟨row, w1, w2, w3, w4⟩ := ih r' rp
    have pn : 0 < Yc y ^ n := Nat.pow_pos hC
    refine ⟨c * Yc y ^ n + row, ?_, ?_, fun j hj => ?_, fun m a i z h1 h2 h3 => ?_⟩
    · have : (c + 1) * Yc y ^ n ≤ Yc y * Yc y ^ n := Nat.mul_le_mul_right _ cl
      rw [Nat.succ_mul] at this
      rw [Nat.pow_succ, Nat.mul_comm (Yc y ^ n)]; omega
    · rw [ky_hi cl w1, th]; exact w2
    · have e : j = j / Yc y ^ n * Yc y ^ n + j % Yc y ^ n := by
        have := Nat.div_add_mod j (Yc y ^ n)
        rw [Nat.mul_comm] at this; omega
      have ml := Nat.mod_lt j pn
      have jl : j / Yc y ^ n ≤ c := by
        have : j < Yc y ^ n * (c + 1) := by
          rw [Nat.mul_comm, Nat.succ_mul]; omega
        have := Nat.div_lt_of_lt_mul this
        omega
      rw [e, ky_hi (by omega) ml]
      by_cases q : j / Yc y ^ n = c
      · rw [q, th]
        rw [q] at e
        exact w3 _ (by omega)
      · have z := cf (j / Yc y ^ n) (by omega)
        cases th2 : thR y (j / Yc y ^ n) (Yg y) 0 r with
        | none => rfl
        | some r2 =>
          rw [th2] at z
          have z : rwR y n r2 = 0 := z
          rw [← cnK_rw] at z
          exact fsK_no _ _ z _ (Nat.zero_le _) (by omega)
    · have n1 : m - a - 1 = n := by omega
      have l1' : i + 1 - a = (i - a) + 1 := by omega
      rw [l1']
      show (match fkR y (m - a - 1) r (Yc y) 0 with
        | none => qI 0
        | some c => thX (thR y c (Yg y) 0 r) (qI 0) (fun r' => kaR y m (i - a) (a + 1) r' (nI c))) = _
      rw [n1, fk]
      dsimp only
      rw [th]
      show kaR y m (i - a) (a + 1) r' (nI c) = _
      by_cases e : i = a
      · subst e
        rw [Nat.sub_self]
        have : m - 1 - i = n := by omega
        rw [this, dgt_hi cl w1]; rfl
      · have := w4 m (a + 1) i (nI c) (by omega) (by omega) h3
        rw [show i + 1 - (a + 1) = i - a by omega] at this
        rw [this, dgt_lo hC (by omega)]
