/-! KNOW: both ways come to the same -/
theorem anyB_cg {p r : Nat → Bool} : ∀ m i, (∀ j, i ≤ j → j < i + m → p j = r j) → anyB p m i = anyB r m i := by
  intro m
  induction m with
  | zero => intro i _; rfl
  | succ m ih =>
    intro i h
    rw [anyB_s, anyB_s, h i (Nat.le_refl _) (by omega), ih (i + 1) (fun j h1 h2 => h j (by omega) (by omega))]
theorem cnV_cg {v w : Nat → Bool} : ∀ m k a, (∀ j, k ≤ j → j < k + m → v j = w j) → cnV v m k a = cnV w m k a := by
  intro m
  induction m with
  | zero => intro k a _; rfl
  | succ m ih =>
    intro k a h
    show cnV v m (k + 1) (if v k = true then a + 1 else a) = cnV w m (k + 1) (if w k = true then a + 1 else a)
    rw [h k (Nat.le_refl _) (by omega), ih (k + 1) _ (fun j h1 h2 => h j (by omega) (by omega))]
theorem kS_cg (lt : Nat × Nat → Nat → Bool) (sf : Nat × Nat → Nat → Nat × Nat) (C : Nat) : ∀ n q q' v v', (∀ k, k ≤ C → v k = v' k ∧ (v k = true → q k = q' k)) → kS lt sf C n q v = kS lt sf C n q' v' := by
  intro n
  induction n with
  | zero =>
    intro q q' v v' h
    show decide (cnV v (C + 1) 0 0 ≤ 1) = decide (cnV v' (C + 1) 0 0 ≤ 1)
    rw [cnV_cg (C + 1) 0 0 (fun j _ h2 => (h j (by omega)).1)]
  | succ n ih =>
    intro q q' v v' h
    have br : ∀ (w : Bool) c, kS lt sf C n (fun k => sf (q k) c) (fun k => v k && (lt (q k) c == w)) = kS lt sf C n (fun k => sf (q' k) c) (fun k => v' k && (lt (q' k) c == w)) := fun w c => ih _ _ _ _ (fun k hk => by
      obtain ⟨a, b⟩ := h k hk
      try dsimp only
      rw [← a]
      cases hv : v k
      · rw [Bool.false_and, Bool.false_and]; exact ⟨rfl, fun w => Bool.noConfusion w⟩
      · rw [b hv]; exact ⟨rfl, fun _ => rfl⟩)
    show (decide (cnV v (C + 1) 0 0 ≤ 1) || anyB (fun c => kS lt sf C n (fun k => sf (q k) c) (fun k => v k && (lt (q k) c == false)) && kS lt sf C n (fun k => sf (q k) c) (fun k => v k && (lt (q k) c == true))) C 0) = (decide (cnV v' (C + 1) 0 0 ≤ 1) || anyB (fun c => kS lt sf C n (fun k => sf (q' k) c) (fun k => v' k && (lt (q' k) c == false)) && kS lt sf C n (fun k => sf (q' k) c) (fun k => v' k && (lt (q' k) c == true))) C 0)
    rw [cnV_cg (C + 1) 0 0 (fun j _ h2 => (h j (by omega)).1), anyB_cg C 0 (fun c _ _ => by rw [br false c, br true c])]
theorem cnV_ge0 (v : Nat → Bool) : ∀ m k a, a ≤ cnV v m k a := by
  intro m
  induction m with
  | zero => intro k a; exact Nat.le_refl _
  | succ m ih =>
    intro k a
    have := ih (k + 1) (if v k = true then a + 1 else a)
    show a ≤ cnV v m (k + 1) (if v k = true then a + 1 else a)
    split at this <;> split <;> first | omega | contradiction
theorem cnV_ge1 {v : Nat → Bool} {f : Nat} (hv : v f = true) : ∀ m k a, k ≤ f → f < k + m → a + 1 ≤ cnV v m k a := by
  intro m
  induction m with
  | zero => intro k a h1 h2; omega
  | succ m ih =>
    intro k a h1 h2
    show a + 1 ≤ cnV v m (k + 1) (if v k = true then a + 1 else a)
    by_cases e : k = f
    · subst e; rw [if_pos hv]; exact cnV_ge0 v m _ _
    · have := ih (k + 1) (if v k = true then a + 1 else a) (by omega) (by omega)
      split at this <;> split <;> first | omega | contradiction
theorem cnV_ge2 {v : Nat → Bool} {f f' : Nat} (hv : v f = true) (hv' : v f' = true) (lt : f < f') : ∀ m k a, k ≤ f → f' < k + m → a + 2 ≤ cnV v m k a := by
  intro m
  induction m with
  | zero => intro k a h1 h2; omega
  | succ m ih =>
    intro k a h1 h2
    show a + 2 ≤ cnV v m (k + 1) (if v k = true then a + 1 else a)
    by_cases e : k = f
    · subst e; rw [if_pos hv]; exact cnV_ge1 hv' m _ _ (by omega) (by omega)
    · have := ih (k + 1) (if v k = true then a + 1 else a) (by omega) (by omega)
      split at this <;> split <;> first | omega | contradiction
theorem kS_al (lt : Nat × Nat → Nat → Bool) (sf : Nat × Nat → Nat → Nat × Nat) (C : Nat) {f f' : Nat} (hf : f < f') (hC : f' ≤ C) : ∀ n q v, v f = true → v f' = true → q f = q f' → kS lt sf C n q v = false := by
  intro n
  induction n with
  | zero =>
    intro q v h1 h2 h3
    have := cnV_ge2 h1 h2 hf (C + 1) 0 0 (by omega) (by omega)
    exact decide_eq_false (by omega)
  | succ n ih =>
    intro q v h1 h2 h3
    have := cnV_ge2 h1 h2 hf (C + 1) 0 0 (by omega) (by omega)
    show (decide (cnV v (C + 1) 0 0 ≤ 1) || anyB (fun c => kS lt sf C n (fun k => sf (q k) c) (fun k => v k && (lt (q k) c == false)) && kS lt sf C n (fun k => sf (q k) c) (fun k => v k && (lt (q k) c == true))) C 0) = false
    rw [decide_eq_false (by omega), Bool.false_or]
    cases e : anyB (fun c => kS lt sf C n (fun k => sf (q k) c) (fun k => v k && (lt (q k) c == false)) && kS lt sf C n (fun k => sf (q k) c) (fun k => v k && (lt (q k) c == true))) C 0
    · rfl
    · obtain ⟨c, _, _, w⟩ := anyB_t.mp e
      rw [Bool.and_eq_true] at w
      cases l : lt (q f) c
      · have := ih (fun k => sf (q k) c) (fun k => v k && (lt (q k) c == false)) (by (try dsimp only); rw [h1, l]; rfl) (by (try dsimp only); rw [h2, ← h3, l]; rfl) (by (try dsimp only); rw [h3])
        rw [this] at w; exact Bool.noConfusion w.1
      · have := ih (fun k => sf (q k) c) (fun k => v k && (lt (q k) c == true)) (by (try dsimp only); rw [h1, l]; rfl) (by (try dsimp only); rw [h2, ← h3, l]; rfl) (by (try dsimp only); rw [h3])
        rw [this] at w; exact Bool.noConfusion w.2
theorem aliF_t (G L : Nat) : ∀ m f se, aliF G L m f se = true → (∃ j, f ≤ j ∧ j < f + m ∧ L / 2 ^ j % 2 = 1 ∧ se / 2 ^ dg G j % 2 = 1) ∨ ∃ j j', f ≤ j ∧ j < j' ∧ j' < f + m ∧ L / 2 ^ j % 2 = 1 ∧ L / 2 ^ j' % 2 = 1 ∧ dg G j = dg G j' := by
  intro m
  induction m with
  | zero => intro f se h; exact Bool.noConfusion h
  | succ m ih =>
    intro f se h
    have h : (if L / 2 ^ f % 2 = 1 then (if se / 2 ^ dg G f % 2 = 1 then true else aliF G L m (f + 1) (se ||| 2 ^ dg G f)) else aliF G L m (f + 1) se) = true := h
    by_cases a : L / 2 ^ f % 2 = 1
    · rw [if_pos a] at h
      by_cases b : se / 2 ^ dg G f % 2 = 1
      · exact Or.inl ⟨f, by omega, by omega, a, b⟩
      · rw [if_neg b] at h
        rcases ih _ _ h with ⟨j, h1, h2, h3, h4⟩ | ⟨j, j', h1, h2, h3, h4⟩
        · rw [bit1, Nat.testBit_or, Bool.or_eq_true, Nat.testBit_two_pow, decide_eq_true_iff] at h4
          rcases h4 with h4 | h4
          · exact Or.inl ⟨j, by omega, by omega, h3, (bit1 _ _).mpr h4⟩
          · exact Or.inr ⟨f, j, by omega, by omega, by omega, a, h3, h4⟩
        · exact Or.inr ⟨j, j', by omega, h2, by omega, h4⟩
    · rw [if_neg a] at h
      rcases ih _ _ h with ⟨j, h1, h2, h3⟩ | ⟨j, j', h1, h2, h3, h4⟩
      · exact Or.inl ⟨j, by omega, by omega, h3⟩
      · exact Or.inr ⟨j, j', by omega, h2, by omega, h4⟩
theorem knI_f {y : YS} (h3 : Yc y ≤ 3) {g c G : Nat} (hc : c < Yc y) (hG : KOK y G) : ∀ m f a, f + m = Yc y + 1 → (∀ k, k ≤ Yc y → (knI (lt1 y g) (stp y g) c G m f a).1.testBit k = (a.1.testBit k || (decide (f ≤ k) && lt1 y g (uq (dg G k)) c)) ∧ dg (knI (lt1 y g) (stp y g) c G m f a).2 k = if f ≤ k then pk (stp y g (uq (dg G k)) c) else dg a.2 k) := by
  intro m
  induction m with
  | zero =>
    intro f a hf k hk
    rw [decide_eq_false (by omega), if_neg (by omega), Bool.false_and, Bool.or_false]
    exact ⟨rfl, rfl⟩
  | succ m ih =>
    intro f a hf k hk
    have S : knI (lt1 y g) (stp y g) c G (m + 1) f a = knI (lt1 y g) (stp y g) c G m (f + 1) (if lt1 y g (uq (dg G f)) c = true then a.1 ||| 2 ^ f else a.1, wd a.2 f (pk (stp y g (uq (dg G f)) c))) := rfl
    obtain ⟨i1, i2⟩ := ih (f + 1) (if lt1 y g (uq (dg G f)) c = true then a.1 ||| 2 ^ f else a.1, wd a.2 f (pk (stp y g (uq (dg G f)) c))) (by omega) k hk
    have s16 := pk16 h3 (stp_ok (g := g) (hG.2 f (by omega)) hc)
    rw [S, i1, i2]
    dsimp only
    rw [dg_wd _ _ _ _ s16]
    by_cases e : k = f
    · subst e
      rw [decide_eq_false (show ¬ k + 1 ≤ k by omega), if_neg (show ¬ k + 1 ≤ k by omega), if_pos rfl, if_pos (Nat.le_refl _), decide_eq_true (Nat.le_refl k), Bool.false_and, Bool.or_false, Bool.true_and]
      refine ⟨?_, rfl⟩
      cases l : lt1 y g (uq (dg G k)) c
      · rw [if_neg (by decide), Bool.or_false]
      · rw [if_pos rfl, Nat.testBit_or, Nat.testBit_two_pow, decide_eq_true rfl]
    · rw [if_neg e]
      have q1 : (f + 1 ≤ k) = (f ≤ k) := by apply propext; omega
      have q2 : (if lt1 y g (uq (dg G f)) c = true then a.1 ||| 2 ^ f else a.1).testBit k = a.1.testBit k := by
        split
        · rw [Nat.testBit_or, Nat.testBit_two_pow, decide_eq_false (by omega), Bool.or_false]
        · rfl
      rw [q2]
      by_cases e2 : f ≤ k
      · rw [decide_eq_true (show f + 1 ≤ k by omega), decide_eq_true e2, if_pos (show f + 1 ≤ k by omega), if_pos e2]; exact ⟨rfl, rfl⟩
      · rw [decide_eq_false (show ¬ f + 1 ≤ k by omega), decide_eq_false e2, if_neg (show ¬ f + 1 ≤ k by omega), if_neg e2]; exact ⟨rfl, rfl⟩
theorem bc_cn : (List.range 2).all (fun i => (List.range (2 ^ (i + 3))).all fun L => bc L == cnV (fun k => L.testBit k) (i + 3) 0 0) = true := by decide +kernel
theorem bcV {C L : Nat} (hC : 2 ≤ C ∧ C ≤ 3) (hL : L < 2 ^ (C + 1)) : bc L = cnV (fun k => L.testBit k) (C + 1) 0 0 := by
  have h := bc_cn
  rw [List.all_eq_true] at h
  have h1 := h (C - 2) (List.mem_range.mpr (by omega))
  rw [show C - 2 + 3 = C + 1 by omega, List.all_eq_true] at h1
  exact beq_iff_eq.mp (h1 L (List.mem_range.mpr hL))
theorem know_eq {y : YS} (h3 : 2 ≤ Yc y ∧ Yc y ≤ 3) (g : Nat) : ∀ n G L, KOK y G → L < 2 ^ (Yc y + 1) → knT (lt1 y g) (stp y g) (Yc y) n G L = kS (lt1 y g) (stp y g) (Yc y) n (fun k => uq (dg G k)) (fun k => L.testBit k) := by
  intro n
  induction n with
  | zero =>
    intro G L hG hL
    show decide (bc L ≤ 1) = decide (cnV (fun k => L.testBit k) (Yc y + 1) 0 0 ≤ 1)
    rw [bcV h3 hL]
  | succ n ih =>
    intro G L hG hL
    have T : knT (lt1 y g) (stp y g) (Yc y) (n + 1) G L = (decide (bc L ≤ 1) || (!aliF G L 4 0 0 && anyB (fun c => knT (lt1 y g) (stp y g) (Yc y) n (knI (lt1 y g) (stp y g) c G (Yc y + 1) 0 (0, G)).2 (L &&& (knI (lt1 y g) (stp y g) c G (Yc y + 1) 0 (0, G)).1) && knT (lt1 y g) (stp y g) (Yc y) n (knI (lt1 y g) (stp y g) c G (Yc y + 1) 0 (0, G)).2 (L &&& (15 ^^^ (knI (lt1 y g) (stp y g) c G (Yc y + 1) 0 (0, G)).1))) (Yc y) 0)) := rfl
    rw [T]
    have p4 : 2 ^ (Yc y + 1) ≤ 2 ^ 4 := Nat.pow_le_pow_right (by decide) (by omega)
    cases al : aliF G L 4 0 0
    · rw [Bool.not_false, Bool.true_and, bcV h3 hL]
      show _ = (decide (cnV (fun k => L.testBit k) (Yc y + 1) 0 0 ≤ 1) || anyB (fun c => kS (lt1 y g) (stp y g) (Yc y) n (fun k => stp y g (uq (dg G k)) c) (fun k => L.testBit k && (lt1 y g (uq (dg G k)) c == false)) && kS (lt1 y g) (stp y g) (Yc y) n (fun k => stp y g (uq (dg G k)) c) (fun k => L.testBit k && (lt1 y g (uq (dg G k)) c == true))) (Yc y) 0)
      congr 1
      refine anyB_cg _ _ (fun c _ hc => ?_)
      have hc' : c < Yc y := by omega
      obtain ⟨k1, k2⟩ := knI_ok (g := g) (c := c) h3.2 hc' hG (Yc y + 1) 0 (0, G) (by omega) Nat.one_pos hG
      have kf := knI_f (g := g) (c := c) h3.2 hc' hG (Yc y + 1) 0 (0, G) (by omega)
      generalize knI (lt1 y g) (stp y g) c G (Yc y + 1) 0 (0, G) = r at *
      dsimp only at kf ⊢
      have b1 : ∀ k, k ≤ Yc y → r.1.testBit k = lt1 y g (uq (dg G k)) c := fun k hk => by
        rw [(kf k hk).1, Nat.zero_testBit, Bool.false_or, decide_eq_true (Nat.zero_le _), Bool.true_and]
      have b2 : ∀ k, k ≤ Yc y → uq (dg r.2 k) = stp y g (uq (dg G k)) c := fun k hk => by
        rw [(kf k hk).2, if_pos (Nat.zero_le _)]
        have := (stp_ok (g := g) (hG.2 k hk) hc').1
        exact uq_pk (by omega)
      rw [ih r.2 _ k2 (Nat.and_lt_two_pow _ k1), ih r.2 _ k2 (Nat.lt_of_le_of_lt Nat.and_le_left hL)]
      rw [Bool.and_comm]
      congr 1
      · refine kS_cg _ _ _ _ _ _ _ _ (fun k hk => ⟨?_, fun _ => b2 k hk⟩)
        try dsimp only
        rw [Nat.testBit_and, Nat.testBit_xor, b1 k hk]
        have : Nat.testBit 15 k = true := by
          have : k = 0 ∨ k = 1 ∨ k = 2 ∨ k = 3 := by omega
          rcases this with rfl | rfl | rfl | rfl <;> decide
        rw [this]
        cases lt1 y g (uq (dg G k)) c <;> rfl
      · refine kS_cg _ _ _ _ _ _ _ _ (fun k hk => ⟨?_, fun _ => b2 k hk⟩)
        try dsimp only
        rw [Nat.testBit_and, b1 k hk]
        cases lt1 y g (uq (dg G k)) c <;> rfl
    · rw [Bool.not_true, Bool.false_and, Bool.or_false]
      have lb : ∀ j, L / 2 ^ j % 2 = 1 → j ≤ Yc y := fun j hj => by
        rw [bit1] at hj
        have := Nat.testBit_lt_two_pow (x := L) (i := j)
        by_cases q : j ≤ Yc y
        · exact q
        · have : L < 2 ^ j := Nat.lt_of_lt_of_le hL (Nat.pow_le_pow_right (by decide) (by omega))
          rw [Nat.testBit_lt_two_pow this] at hj; exact Bool.noConfusion hj
      rcases aliF_t G L 4 0 0 al with ⟨j, _, _, _, q⟩ | ⟨j, j', _, q1, _, q2, q3, q4⟩
      · rw [Nat.zero_div] at q; exact absurd q (by decide)
      · have z2 := (bit1 _ _).mp q2
        have z3 := (bit1 _ _).mp q3
        rw [kS_al _ _ _ q1 (lb _ q3) (n + 1) _ _ z2 z3 (by (try dsimp only); rw [q4]), bcV h3 hL]
        have := cnV_ge2 (v := fun k => L.testBit k) z2 z3 q1 (Yc y + 1) 0 0 (by omega) (by have := lb _ q3; omega)
        exact decide_eq_false (by omega)
