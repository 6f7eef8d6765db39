/-! what refusals make of a memory, they make in six -/
def RO (M : Nat → Prop) (n : Nat) (a b : Nat × Nat) : Prop := match n with
  | 0 => a = b
  | n + 1 => ∃ o, M o ∧ RO M n (fO o a) b
theorem RO.mono {M M' : Nat → Prop} (h : ∀ o, M o → M' o) : ∀ n a b, RO M n a b → RO M' n a b := by
  intro n
  induction n with
  | zero => intro a b q; exact q
  | succ n ih => intro a b q; obtain ⟨o, h1, h2⟩ := q; exact ⟨o, h o h1, ih _ _ h2⟩
theorem RO.snoc {M : Nat → Prop} : ∀ n a b o, RO M n a b → M o → RO M (n + 1) a (fO o b) := by
  intro n
  induction n with
  | zero => intro a b o h m; exact ⟨o, m, congrArg (fO o) h⟩
  | succ n ih => intro a b o h m; obtain ⟨o', h1, h2⟩ := h; exact ⟨o', h1, ih _ _ o h2 m⟩
def M3 (o1 o2 o3 : Nat) : Nat → Prop := fun o => o = o1 ∨ o = o2 ∨ o = o3
theorem fO_lt {o : Nat} {a : Nat × Nat} (h1 : a.1 < 4) (h2 : a.2 < 4) : (fO o a).1 < 4 ∧ (fO o a).2 < 4 := by
  unfold fO
  split
  · exact ⟨h1, h2⟩
  · split
    · exact ⟨h1, h2⟩
    · unfold stK
      split
      · exact ⟨h1, h2⟩
      · exact ⟨memF_lt h1 (by omega), memS_lt h1 h2 (by omega)⟩
theorem tb2 (a j : Nat) : (2 ^ a).testBit j = decide (a = j) := Nat.testBit_two_pow
/-- what lies in the closure can be come to -/
theorem rS_RO (o1 o2 o3 : Nat) (a : Nat × Nat) (b : Nat) : ∀ t R, (∀ j, R.testBit j = true → ∃ n, n ≤ b ∧ RO (M3 o1 o2 o3) n a (uq j)) → ∀ j, (rS (f3O o1 o2 o3) 3 t R).testBit j = true → ∃ n, n ≤ b + t ∧ RO (M3 o1 o2 o3) n a (uq j) := by
  intro t
  induction t generalizing b with
  | zero => intro R h j hj; exact h j hj
  | succ t ih =>
    intro R h j hj
    have hj : (rS (f3O o1 o2 o3) 3 t (R ||| bhT (f3O o1 o2 o3) 3 R 16 0 0)).testBit j = true := hj
    have key : ∀ j, (R ||| bhT (f3O o1 o2 o3) 3 R 16 0 0).testBit j = true → ∃ n, n ≤ b + 1 ∧ RO (M3 o1 o2 o3) n a (uq j) := by
      intro j hj
      rw [Nat.testBit_or, Bool.or_eq_true] at hj
      rcases hj with hj | hj
      · obtain ⟨n, h1, h2⟩ := h j hj
        exact ⟨n, by omega, h2⟩
      · rw [bhT_bit] at hj
        rcases hj with hj | ⟨k, -, hk, h1, c, h2, h3⟩
        · rw [Nat.zero_testBit] at hj; exact Bool.noConfusion hj
        · obtain ⟨n, h4, h5⟩ := h k h1
          refine ⟨n + 1, by omega, ?_⟩
          have : uq j = f3O o1 o2 o3 (uq k) c := by
            rw [← h3, uq_pk]
            exact (fO_lt (by unfold uq; dsimp only; omega) (by unfold uq; dsimp only; omega)).1
          rw [this]
          refine RO.snoc n a (uq k) _ h5 ?_
          unfold M3
          by_cases c0 : c = 0
          · rw [if_pos c0]; exact Or.inl rfl
          · rw [if_neg c0]
            by_cases c1 : c = 1
            · rw [if_pos c1]; exact Or.inr (Or.inl rfl)
            · rw [if_neg c1]; exact Or.inr (Or.inr rfl)
    obtain ⟨n, h1, h2⟩ := ih (b + 1) (R ||| bhT (f3O o1 o2 o3) 3 R 16 0 0) key j hj
    exact ⟨n, by omega, h2⟩
theorem rS_mono (f : Nat × Nat → Nat → Nat × Nat) (n j : Nat) : ∀ t R, R.testBit j = true → (rS f n t R).testBit j = true := by
  intro t
  induction t with
  | zero => intro R h; exact h
  | succ t ih => intro R h; exact ih _ (by rw [Nat.testBit_or, h, Bool.true_or])
theorem RO_s {o1 o2 o3 : Nat} (h1 : o1 ≤ o2) (h2 : o2 ≤ o3) (h3 : o3 < 13) {n : Nat} {a b : Nat × Nat} (ha : a.1 < 4 ∧ a.2 < 4) (q : RO (M3 o1 o2 o3) n a b) : ∃ n', n' ≤ 6 ∧ RO (M3 o1 o2 o3) n' a b := by
  have pa : pk a < 16 := by unfold pk; omega
  have cl := clO_a h1 h2 h3 pa
  generalize hC : rS (f3O o1 o2 o3) 3 6 (2 ^ pk a) = C at cl
  have c0 : C.testBit (pk a) = true := by rw [← hC]; exact rS_mono _ _ _ _ _ (by rw [tb2]; exact decide_eq_true rfl)
  have cs : ∀ n x, x.1 < 4 ∧ x.2 < 4 → C.testBit (pk x) = true → RO (M3 o1 o2 o3) n x b → C.testBit (pk b) = true := by
    intro n
    induction n with
    | zero => intro x _ h q; have q : x = b := q; rw [← q]; exact h
    | succ n ih =>
      intro x hx h q
      obtain ⟨o, m, q⟩ := q
      have l := fO_lt (o := o) hx.1 hx.2
      refine ih _ l ?_ q
      rw [← cl, Nat.testBit_or, Bool.or_eq_true, bhT_bit]
      refine Or.inr (Or.inr ⟨pk x, Nat.zero_le _, by unfold pk; omega, h, ?_⟩)
      rw [uq_pk hx.1]
      rcases m with rfl | rfl | rfl
      · exact ⟨0, by decide, rfl⟩
      · exact ⟨1, by decide, rfl⟩
      · exact ⟨2, by decide, rfl⟩
  have cb := cs n a ha c0 q
  rw [← hC] at cb
  have bl : ∀ n x, x.1 < 4 ∧ x.2 < 4 → RO (M3 o1 o2 o3) n x b → b.1 < 4 := by
    intro n
    induction n with
    | zero => intro x hx q; have q : x = b := q; rw [← q]; exact hx.1
    | succ n ih => intro x hx q; obtain ⟨o, m, q⟩ := q; exact ih _ (fO_lt hx.1 hx.2) q
  obtain ⟨n', l1, l2⟩ := rS_RO o1 o2 o3 a 0 6 (2 ^ pk a) (fun j hj => ⟨0, Nat.le_refl _, by
    rw [tb2] at hj
    show a = uq j
    rw [← of_decide_eq_true hj, uq_pk ha.1]⟩) (pk b) cb
  rw [uq_pk (bl n a ha q)] at l2
  exact ⟨n', by omega, l2⟩
theorem RO_6 {o1 o2 o3 : Nat} (h1 : o1 < 13) (h2 : o2 < 13) (h3 : o3 < 13) {n : Nat} {a b : Nat × Nat} (ha : a.1 < 4 ∧ a.2 < 4) (q : RO (M3 o1 o2 o3) n a b) : ∃ n', n' ≤ 6 ∧ RO (M3 o1 o2 o3) n' a b := by
  have go : ∀ p1 p2 p3, p1 ≤ p2 → p2 ≤ p3 → p3 < 13 → (∀ o, M3 o1 o2 o3 o ↔ M3 p1 p2 p3 o) → ∃ n', n' ≤ 6 ∧ RO (M3 o1 o2 o3) n' a b := fun p1 p2 p3 l1 l2 l3 e => by
    obtain ⟨n', l, r⟩ := RO_s l1 l2 l3 ha (RO.mono (fun o => (e o).mp) n a b q)
    exact ⟨n', l, RO.mono (fun o => (e o).mpr) n' a b r⟩
  rcases Nat.le_total o1 o2 with l1 | l1
  · rcases Nat.le_total o2 o3 with l2 | l2
    · exact go o1 o2 o3 l1 l2 h3 (fun o => Iff.rfl)
    · rcases Nat.le_total o1 o3 with l3 | l3
      · exact go o1 o3 o2 l3 l2 h2 (fun o => by unfold M3; omega)
      · exact go o3 o1 o2 l3 l1 h2 (fun o => by unfold M3; omega)
  · rcases Nat.le_total o1 o3 with l2 | l2
    · exact go o2 o1 o3 l1 l2 h3 (fun o => by unfold M3; omega)
    · rcases Nat.le_total o2 o3 with l3 | l3
      · exact go o2 o3 o1 l3 l2 h1 (fun o => by unfold M3; omega)
      · exact go o3 o2 o1 l3 l1 h1 (fun o => by unfold M3; omega)
