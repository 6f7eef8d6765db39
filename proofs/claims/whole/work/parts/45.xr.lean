/-! THE DEVELOPERS' row -/
def RX (h : AH) (B : Nat) (rf : Nat → Int32) : Prop := hS h B = some (104, 0) ∧ hR h B 7 = some (B + 31) ∧ hS h (B + 31) = some (0, 5) ∧ ∀ k, k < 5 → hI h (B + 31) k = rf k
theorem RX.fr0 {h h' : AH} {B : Nat} {rf : Nat → Int32} {A : Nat → Prop} (hx : RX h B rf) (f : Fr0 A h h') (n : ¬ A (B + 31)) : RX h' B rf := by
  obtain ⟨z0, r0, z1, v⟩ := hx
  have a5 := f.2.2.2.2.1
  have a6 := f.2.2.2.2.2.1
  exact ⟨by rw [a5]; exact z0, by rw [a6]; exact r0, by rw [a5]; exact z1, fun k hk => by rw [(f.2.2.2.2.2.2 _ n k).1]; exact v k hk⟩
theorem x131' (d : Nat) {h : AH} {B : Nat} {rf : Nat → Int32} (hx : RX h B rf) {k : Nat} (h2 : 2 ≤ k) (h6 : k ≤ 6) : ∃ h', E d 131 0 [some (.ref B), some (.int (rN k))] [] h = some (some (.int (rN k)), h') ∧ RX h' B (fup rf (k - 2) (rf (k - 2) + nI 1)) ∧ Fr0 (blk (B + 31) 1) h h' := by
  obtain ⟨z0, r0, z1, v⟩ := hx
  refine ⟨_, x131 d z0 r0 z1 h2 h6, ⟨z0, r0, z1, fun j hj => ?_⟩, Fr0.stI _ ⟨Nat.le_refl _, Nat.lt_succ_self _⟩ _ _⟩
  rw [hI_stI]
  unfold fup
  by_cases e : j = k - 2
  · rw [if_pos ⟨rfl, e⟩, if_pos e, v _ (by omega)]
  · rw [if_neg (fun w => e w.2), if_neg e, v j hj]
