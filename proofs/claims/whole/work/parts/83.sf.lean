/-! SETS: both ways come to the same -/
def stK (k : Nat) (p : Nat × Nat) (c : Nat) : Nat × Nat := if k = 0 ∨ k = 5 then p else (memF (letB 0 k 0 p.1 p.2 c) k p.1 c, memS (letB 0 k 0 p.1 p.2 c) k p.1 p.2 c)
theorem stp_K {y : YS} {g : Nat} (hk : YK y g < 6) (p : Nat × Nat) (c : Nat) : stp y g p c = stK (YK y g) p c := by
  unfold stp lt1 stK
  rcases k6 hk with e | e | e | e | e | e <;> rw [e]
  · rw [if_pos (Or.inl rfl)]; unfold memF memS; simp
  · rfl
  · rfl
  · rfl
  · rfl
  · rw [if_pos (Or.inr rfl)]; unfold memF memS; simp
def rS (f : Nat × Nat → Nat → Nat × Nat) (n : Nat) (t R : Nat) : Nat := match t with
  | 0 => R
  | t + 1 => rS f n t (R ||| bhT f n R 16 0 0)
def clB : Bool := (List.range 6).all fun k => [2, 3].all fun n => (List.range (n + 1)).all fun F => (List.range (n + 1)).all fun S => (rS (stK k) n 8 (2 ^ pk (F, S)) ||| bhT (stK k) n (rS (stK k) n 8 (2 ^ pk (F, S))) 16 0 0) == rS (stK k) n 8 (2 ^ pk (F, S))
set_option maxRecDepth 100000 in
theorem clB_t : clB = true := by decide +kernel
theorem closed {k n F S : Nat} (hk : k < 6) (hn : 2 ≤ n ∧ n ≤ 3) (hF : F ≤ n) (hS : S ≤ n) : rS (stK k) n 8 (2 ^ pk (F, S)) ||| bhT (stK k) n (rS (stK k) n 8 (2 ^ pk (F, S))) 16 0 0 = rS (stK k) n 8 (2 ^ pk (F, S)) := by
  have h := clB_t
  unfold clB at h
  rw [List.all_eq_true] at h
  have h1 := h k (List.mem_range.mpr hk)
  rw [List.all_eq_true] at h1
  have h2 := h1 n (by
    have : n = 2 ∨ n = 3 := by omega
    rcases this with rfl | rfl <;> simp)
  rw [List.all_eq_true] at h2
  have h3 := h2 F (List.mem_range.mpr (by omega))
  rw [List.all_eq_true] at h3
  have h4 := h3 S (List.mem_range.mpr (by omega))
  exact beq_iff_eq.mp h4
theorem tsR_no (f : Nat × Nat → Nat → Nat × Nat) (n col : Nat) {R : Nat} (hc : R ||| bhT f n R 16 0 0 = R) (hn : hsF R col 16 0 = false) : ∀ u t, tsR f n col u t R = qI 0 := by
  intro u
  induction u with
  | zero => intro t; rfl
  | succ u ih =>
    intro t
    show (if hsF R col 16 0 = true then nI t else tsR f n col u (t + 1) (R ||| bhT f n R 16 0 0)) = qI 0
    rw [hn, if_neg (by decide), hc]; exact ih _
theorem tsR_cl (f : Nat × Nat → Nat → Nat × Nat) (n col : Nat) : ∀ a R t u, (rS f n a R ||| bhT f n (rS f n a R) 16 0 0 = rS f n a R) → tsR f n col (a + 1 + u) t R = tsR f n col (a + 1) t R := by
  intro a
  induction a with
  | zero =>
    intro R t u hc
    rw [show 0 + 1 + u = u + 1 by omega]
    show (if hsF R col 16 0 = true then nI t else tsR f n col u (t + 1) (R ||| bhT f n R 16 0 0)) = (if hsF R col 16 0 = true then nI t else qI 0)
    cases h : hsF R col 16 0
    · rw [if_neg (by decide), if_neg (by decide)]
      have hc : R ||| bhT f n R 16 0 0 = R := hc
      rw [hc]; exact tsR_no f n col hc h u _
    · rfl
  | succ a ih =>
    intro R t u hc
    rw [show a + 1 + 1 + u = (a + 1 + u) + 1 by omega]
    show (if hsF R col 16 0 = true then nI t else tsR f n col (a + 1 + u) (t + 1) (R ||| bhT f n R 16 0 0)) = (if hsF R col 16 0 = true then nI t else tsR f n col (a + 1) (t + 1) (R ||| bhT f n R 16 0 0))
    rw [ih _ (t + 1) u hc]
/-- the reference's table -/
def dc (w k : Nat) : Nat × Nat := (k / w, k % w)
def ix (w : Nat) (p : Nat × Nat) : Nat := p.1 * w + p.2
theorem ix_lt {w : Nat} {p : Nat × Nat} (h1 : p.1 < w) (h2 : p.2 < w) : ix w p < w * w := by
  unfold ix
  have : (p.1 + 1) * w ≤ w * w := Nat.mul_le_mul_right _ h1
  rw [Nat.succ_mul] at this; omega
theorem dc_ix {w : Nat} {p : Nat × Nat} (h2 : p.2 < w) : dc w (ix w p) = p := by
  obtain ⟨a, b⟩ := p
  unfold dc ix
  dsimp only at *
  rw [Prod.mk.injEq, Nat.mul_comm, Nat.mul_add_div (by omega), Nat.div_eq_of_lt h2, Nat.mul_add_mod, Nat.mod_eq_of_lt h2]
  exact ⟨rfl, rfl⟩
theorem ix_dc (w k : Nat) : ix w (dc w k) = k := by
  unfold ix dc
  dsimp only
  rw [Nat.mul_comm]; exact Nat.div_add_mod k w
theorem dc_lt {w k : Nat} (h : k < w * w) : (dc w k).1 < w ∧ (dc w k).2 < w := by
  have w0 : 0 < w := by
    cases w with
    | zero => rw [Nat.zero_mul] at h; omega
    | succ w => omega
  exact ⟨Nat.div_lt_of_lt_mul h, Nat.mod_lt _ w0⟩
def rgV (f : Nat × Nat → Nat → Nat × Nat) (w t k : Nat) (m i : Nat) (b : Nat → Nat) : Nat → Nat := itr (fun c b => fup b (ix w (f (dc w k) c)) (if t + 1 < b (ix w (f (dc w k) c)) then t + 1 else b (ix w (f (dc w k) c)))) m i b
def rgK (f : Nat × Nat → Nat → Nat × Nat) (w n col t : Nat) (m k : Nat) (b : Nat → Nat) : Option (Nat → Nat) := match m with
  | 0 => some b
  | m + 1 => if b k = t then (if k / w = col + 1 then none else rgK f w n col t m (k + 1) (rgV f w t k n 0 b)) else rgK f w n col t m (k + 1) b
def rgS (f : Nat × Nat → Nat → Nat × Nat) (w n col : Nat) (u t : Nat) (b : Nat → Nat) : Int32 := match u with
  | 0 => qI 0
  | u + 1 => match rgK f w n col t (w * w) 0 b with
    | none => nI t
    | some b' => rgS f w n col u (t + 1) b'
