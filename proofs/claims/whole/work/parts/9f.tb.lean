/-! NUMBERS on the tape: both ways agree -/
theorem fgs_big (b : Nat → Nat) (fr : Nat) : ∀ m i f, fr + 2 ≤ i → (∀ j, i ≤ j → j < i + m → isD (b j) = true) → f = 100000 → fgs b fr m i f = 100000 := by
  intro m
  induction m with
  | zero => intro i f _ _ h; exact h
  | succ m ih =>
    intro i f h1 h2 h3
    show (if isD (b i) = true then fgs b fr m (i + 1) (if i - fr < 2 then f * 10 + b i - 48 else 100000) else f) = 100000
    rw [if_pos (h2 i (Nat.le_refl _) (by omega)), if_neg (show ¬ i - fr < 2 by omega)]
    exact ih (i + 1) _ (by omega) (fun j a c => h2 j (by omega) (by omega)) rfl
/-- what is behind the token's end does not count -/
theorem fgs_spn (b : Nat → Nat) (fr : Nat) : ∀ m i f, fgs b fr m i f = fgs b fr (spn isD b m i - i) i f := by
  intro m
  induction m with
  | zero => intro i f; show f = fgs b fr (i - i) i f; rw [Nat.sub_self]; rfl
  | succ m ih =>
    intro i f
    have S : spn isD b (m + 1) i = if isD (b i) = true then spn isD b m (i + 1) else i := rfl
    have T : fgs b fr (m + 1) i f = if isD (b i) = true then fgs b fr m (i + 1) (if i - fr < 2 then f * 10 + b i - 48 else 100000) else f := rfl
    rw [S, T]
    by_cases c : isD (b i) = true
    · rw [if_pos c, if_pos c, ih]
      have g := (spn_le isD b m (i + 1)).1
      rw [show spn isD b m (i + 1) - i = (spn isD b m (i + 1) - (i + 1)) + 1 by omega]
      show _ = (if isD (b i) = true then _ else f)
      rw [if_pos c]
    · rw [if_neg c, if_neg c, Nat.sub_self]; rfl
theorem fgT_eq {n : Nat} {b : Nat → Nat} {e : Nat} (h : (tkL n b e).1 = 2) : fgT n b (tkL n b e) = if (tkL n b e).2.2 - (tkL n b e).2.1 ≤ 2 then vlD b ((tkL n b e).2.2 - (tkL n b e).2.1) (tkL n b e).2.1 0 else 100000 := by
  have dg := tkL_dg n b e h
  have se : (tkL n b e).2.2 = spn isD b (n - (tkL n b e).2.1) (tkL n b e).2.1 := by
    unfold tkL at h ⊢
    generalize spn isS b (n - e) e = f at *
    split at h
    · exact absurd h (by dsimp only; omega)
    · split at h
      · exact absurd h (by dsimp only; omega)
      · split at h
        · rename_i z1 z2 z3
          rw [if_neg z1, if_neg z2, if_pos z3]
        · dsimp only at h
          split at h <;> omega
  generalize tkL n b e = t at *
  obtain ⟨s, f, e2⟩ := t
  dsimp only at *
  subst h
  rw [fgT_yes, fgs_spn, ← se]
  have dd : ∀ j, f ≤ j → j < e2 → isD (b j) = true := fun j h1 h2 => decide_eq_true (dg j h1 h2)
  generalize hl : e2 - f = l at *
  match l with
  | 0 => rw [if_pos (by omega)]; rfl
  | 1 =>
    rw [if_pos (by omega)]
    show (if isD (b f) = true then (if f - f < 2 then 0 * 10 + b f - 48 else 100000) else 0) = 10 * 0 + b f - 48
    rw [if_pos (dd f (by omega) (by omega)), if_pos (show f - f < 2 by omega)]
  | 2 =>
    rw [if_pos (by omega)]
    show (if isD (b f) = true then (if isD (b (f + 1)) = true then (if f + 1 - f < 2 then (if f - f < 2 then 0 * 10 + b f - 48 else 100000) * 10 + b (f + 1) - 48 else 100000) else _) else 0) = 10 * (10 * 0 + b f - 48) + b (f + 1) - 48
    rw [if_pos (dd f (by omega) (by omega)), if_pos (dd (f + 1) (by omega) (by omega)), if_pos (show f + 1 - f < 2 by omega), if_pos (show f - f < 2 by omega)]; omega
  | l + 3 =>
    rw [if_neg (by omega)]
    show (if isD (b f) = true then (if isD (b (f + 1)) = true then (if isD (b (f + 2)) = true then fgs b f l (f + 3) (if f + 2 - f < 2 then _ else 100000) else _) else _) else 0) = 100000
    rw [if_pos (dd f (by omega) (by omega)), if_pos (dd (f + 1) (by omega) (by omega)), if_pos (dd (f + 2) (by omega) (by omega)), if_neg (show ¬ f + 2 - f < 2 by omega)]
    exact fgs_big b f l (f + 3) _ (by omega) (fun j h1 h2 => dd j (by omega) (by omega)) rfl
