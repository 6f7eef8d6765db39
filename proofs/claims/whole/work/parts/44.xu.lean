/-! THE DEVELOPERS' SHELVES: one changes -/
theorem SX.fr0 {h h' : AH} {o : Nat} {t : SHT} {A : Nat → Prop} (v : SX h o t) (f : Fr0 A h h') (n0 : ¬ A o) (n1 : ¬ A (o + 1)) : SX h' o t := by
  obtain ⟨s, ⟨v0, v1, v2, v3⟩, ok⟩ := v
  obtain ⟨a1, a2, a3, a4, a5, a6, a7⟩ := f
  refine ⟨?_, ⟨?_, fun q => ?_, ?_, fun i hi => ?_⟩, ok⟩
  · unfold SS; rw [a5, a6]; exact s
  · rw [(a7 o n0 0).1]; exact v0
  · rw [(a7 o n0 1).1]; exact v1 q
  · rw [(a7 o n0 2).1]; exact v2
  · rw [(a7 (o + 1) n1 i).2]; exact v3 i hi
theorem XH.up {h h' : AH} {B s : Nat} {sh : Nat → SHT} {t : SHT} (hx : XH h B sh) (q : SX h' (B + 32 + 2 * s) t) (f : Fr0 (blk (B + 32 + 2 * s) 2) h h') : XH h' B (fup sh s t) := by
  obtain ⟨z0, r4, z1, hs⟩ := hx
  have a5 := f.2.2.2.2.1
  have a6 := f.2.2.2.2.2.1
  refine ⟨by rw [a5]; exact z0, by rw [a6]; exact r4, by rw [a5]; exact z1, fun j hj => ⟨by rw [a6]; exact (hs j hj).1, ?_⟩⟩
  by_cases e : j = s
  · subst e; rw [fup_s]; exact q
  · rw [fup_n _ _ e]
    exact (hs j hj).2.fr0 f (fun w => by unfold blk at w; omega) (fun w => by unfold blk at w; omega)
theorem XH.fr0 {h h' : AH} {B : Nat} {sh : Nat → SHT} {A : Nat → Prop} (hx : XH h B sh) (f : Fr0 A h h') (n : ∀ a, B + 32 ≤ a → a < B + 48 → ¬ A a) : XH h' B sh := by
  obtain ⟨z0, r4, z1, hs⟩ := hx
  have a5 := f.2.2.2.2.1
  have a6 := f.2.2.2.2.2.1
  refine ⟨by rw [a5]; exact z0, by rw [a6]; exact r4, by rw [a5]; exact z1, fun j hj => ⟨by rw [a6]; exact (hs j hj).1, ?_⟩⟩
  exact (hs j hj).2.fr0 f (n _ (by omega) (by omega)) (n _ (by omega) (by omega))
