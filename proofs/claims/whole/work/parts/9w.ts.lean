/-! SEARCHES: a way by lets, refusals only of the memory that is next -/
abbrev FS : Type := (Nat → Nat × Nat) × (Nat → Nat)
def stF (y : YS) (x : FS) (k : Nat) : FS := if x.2 k < Yg y then (fup x.1 (YU y (x.2 k)) (stp y (x.2 k) (x.1 (YU y (x.2 k))) (YC y k)), if lt1 y (x.2 k) (x.1 (YU y (x.2 k))) (YC y k) = true then fup x.2 k (x.2 k + 1) else x.2) else x
def RF (y : YS) (n : Nat) (x : FS) : Prop := match n with
  | 0 => ∀ k, k < Yn y → Yg y ≤ x.2 k
  | n + 1 => ∃ k, k < Yn y ∧ RF y n (stF y x k)
def RN (y : YS) (p : Nat → Nat) (u n : Nat) (a b : Nat × Nat) : Prop := match n with
  | 0 => a = b
  | n + 1 => ∃ k, k < Yn y ∧ p k < Yg y ∧ YU y (p k) = u ∧ lt1 y (p k) a (YC y k) = false ∧ RN y p u n (stp y (p k) a (YC y k)) b
def BG (y : YS) (l : Nat) (m : Nat → Nat × Nat) (p : Nat → Nat) : Prop := match l with
  | 0 => ∀ k, k < Yn y → Yg y ≤ p k
  | l + 1 => ∃ k, k < Yn y ∧ p k < Yg y ∧ ∃ n b, RN y p (YU y (p k)) n (m (YU y (p k))) b ∧ lt1 y (p k) b (YC y k) = true ∧ BG y l (fup m (YU y (p k)) (stp y (p k) b (YC y k))) (fup p k (p k + 1))
theorem RN.app {y : YS} {p : Nat → Nat} {u : Nat} : ∀ n a b n' c, RN y p u n a b → RN y p u n' b c → RN y p u (n + n') a c := by
  intro n
  induction n with
  | zero => intro a b n' c h1 h2; have h1 : a = b := h1; rw [h1, Nat.zero_add]; exact h2
  | succ n ih =>
    intro a b n' c h1 h2
    obtain ⟨k, k1, k2, k3, k4, k5⟩ := h1
    rw [show n + 1 + n' = n + n' + 1 by omega]
    exact ⟨k, k1, k2, k3, k4, ih _ _ _ _ k5 h2⟩
theorem RN.cg {y : YS} {p p' : Nat → Nat} {u : Nat} (e : ∀ k, k < Yn y → p k < Yg y → YU y (p k) = u → p' k = p k) : ∀ n a b, RN y p u n a b → RN y p' u n a b := by
  intro n
  induction n with
  | zero => intro a b h; exact h
  | succ n ih =>
    intro a b h
    obtain ⟨k, k1, k2, k3, k4, k5⟩ := h
    have q := e k k1 k2 k3
    exact ⟨k, k1, by rw [q]; exact k2, by rw [q]; exact k3, by rw [q]; exact k4, by rw [q]; exact ih _ _ k5⟩
theorem fup_comm {α : Type} (f : Nat → α) {i j : Nat} (h : i ≠ j) (a b : α) : fup (fup f i a) j b = fup (fup f j b) i a := by
  funext k
  unfold fup
  by_cases c : k = i
  · by_cases e : k = j
    · omega
    · simp [c]; intro q; exact absurd q h
  · by_cases e : k = j
    · simp [e]; intro q; exact absurd q.symm h
    · simp [c, e]
theorem fup_self {α : Type} (f : Nat → α) (i : Nat) : fup f i (f i) = f := by
  funext k
  unfold fup
  by_cases c : k = i
  · rw [if_pos c, c]
  · rw [if_neg c]
theorem BG.back {y : YS} : ∀ l m p u n a, BG y l m p → RN y p u n a (m u) → BG y l (fup m u a) p := by
  intro l
  induction l with
  | zero => intro m p u n a h _; exact h
  | succ l ih =>
    intro m p u n a h r
    obtain ⟨k, k1, k2, n', b, k3, k4, k5⟩ := h
    refine ⟨k, k1, k2, ?_⟩
    by_cases e : YU y (p k) = u
    · rw [e] at k3 k5 ⊢
      refine ⟨n + n', b, ?_, k4, ?_⟩
      · rw [fup_s]; exact RN.app _ _ _ _ _ r k3
      · rw [fup_fup]; exact k5
    · refine ⟨n', b, ?_, k4, ?_⟩
      · rw [fup_n _ _ e]; exact k3
      · rw [fup_comm _ (fun q => e q.symm)]
        refine ih _ _ u n a k5 ?_
        rw [fup_n _ _ (fun q => e q.symm)]
        refine RN.cg (fun j _ h1 h2 => ?_) _ _ _ r
        exact fup_n _ _ (fun q => e (by rw [← q]; exact h2))
theorem RF.big {y : YS} : ∀ n x, RF y n x → ∃ l, BG y l x.1 x.2 := by
  intro n
  induction n with
  | zero => intro x h; exact ⟨0, h⟩
  | succ n ih =>
    intro x h
    obtain ⟨k, hk, h⟩ := h
    obtain ⟨l, h⟩ := ih _ h
    unfold stF at h
    by_cases c : x.2 k < Yg y
    · rw [if_pos c] at h
      dsimp only at h
      cases e : lt1 y (x.2 k) (x.1 (YU y (x.2 k))) (YC y k)
      · rw [e, if_neg (by decide)] at h
        have r := BG.back l _ _ (YU y (x.2 k)) 1 (x.1 (YU y (x.2 k))) h ⟨k, hk, c, rfl, e, by
          show stp y (x.2 k) (x.1 (YU y (x.2 k))) (YC y k) = _
          rw [fup_s]⟩
        rw [fup_fup, fup_self] at r
        exact ⟨l, r⟩
      · rw [e, if_pos rfl] at h
        exact ⟨l + 1, k, hk, c, 0, _, rfl, e, h⟩
    · rw [if_neg c] at h
      exact ⟨l, h⟩
theorem RF.run {y : YS} {p : Nat → Nat} {u : Nat} : ∀ n m t b, RN y p u n (m u) b → RF y t (fup m u b, p) → RF y (n + t) (m, p) := by
  intro n
  induction n with
  | zero =>
    intro m t b h1 h2
    have h1 : m u = b := h1
    rw [← h1, fup_self] at h2
    rw [Nat.zero_add]; exact h2
  | succ n ih =>
    intro m t b h1 h2
    obtain ⟨k, k1, k2, k3, k4, k5⟩ := h1
    rw [show n + 1 + t = n + t + 1 by omega]
    refine ⟨k, k1, ?_⟩
    have e : stF y (m, p) k = (fup m u (stp y (p k) (m u) (YC y k)), p) := by
      unfold stF
      dsimp only
      rw [if_pos k2, k3, k4, if_neg (by decide)]
    rw [e]
    refine ih _ t b ?_ ?_
    · rw [fup_s]; exact k5
    · rw [fup_fup]; exact h2
def LSu (y : YS) (p : Nat → Nat) (K : Nat) : Nat := match K with
  | 0 => 0
  | K + 1 => LSu y p K + (Yg y - p K)
theorem LSu_ge {y : YS} {p : Nat → Nat} {k v : Nat} : ∀ K, K ≤ k → LSu y (fup p k v) K = LSu y p K := by
  intro K
  induction K with
  | zero => intro _; rfl
  | succ K ih =>
    intro h
    show LSu y (fup p k v) K + (Yg y - fup p k v K) = LSu y p K + (Yg y - p K)
    rw [ih (by omega), fup_n _ _ (by omega)]
theorem LSu_up {y : YS} {p : Nat → Nat} {k : Nat} (h : p k < Yg y) : ∀ K, k < K → LSu y (fup p k (p k + 1)) K + 1 = LSu y p K := by
  intro K
  induction K with
  | zero => intro q; omega
  | succ K ih =>
    intro q
    show LSu y (fup p k (p k + 1)) K + (Yg y - fup p k (p k + 1) K) + 1 = LSu y p K + (Yg y - p K)
    by_cases e : K = k
    · subst e
      rw [LSu_ge _ (Nat.le_refl _), fup_s]; omega
    · rw [fup_n _ _ e]
      have := ih (by omega)
      omega
theorem LSu_le (y : YS) (p : Nat → Nat) : ∀ K, LSu y p K ≤ K * Yg y := by
  intro K
  induction K with
  | zero => exact Nat.zero_le _
  | succ K ih =>
    show LSu y p K + (Yg y - p K) ≤ (K + 1) * Yg y
    rw [Nat.succ_mul]; omega
def pk4 (m : Nat → Nat × Nat) : Prop := ∀ u, (m u).1 < 4 ∧ (m u).2 < 4
theorem BG.le {y : YS} (B : ∀ p u n a b, a.1 < 4 ∧ a.2 < 4 → RN y p u n a b → ∃ n', n' ≤ 6 ∧ RN y p u n' a b) (T : ∀ g a k, a.1 < 4 ∧ a.2 < 4 → k < Yn y → (stp y g a (YC y k)).1 < 4 ∧ (stp y g a (YC y k)).2 < 4) : ∀ l m p, pk4 m → BG y l m p → l ≤ LSu y p (Yn y) ∧ ∃ n, n ≤ 7 * l ∧ RF y n (m, p) := by
  have RB : ∀ p u n a b, a.1 < 4 ∧ a.2 < 4 → RN y p u n a b → b.1 < 4 ∧ b.2 < 4 := by
    intro p u n
    induction n with
    | zero => intro a b h q; have q : a = b := q; rw [← q]; exact h
    | succ n ih => intro a b h q; obtain ⟨k, k1, k2, k3, k4, k5⟩ := q; exact ih _ _ (T _ _ _ h k1) k5
  intro l
  induction l with
  | zero => intro m p _ h; exact ⟨Nat.zero_le _, 0, Nat.le_refl _, h⟩
  | succ l ih =>
    intro m p hm h
    obtain ⟨k, k1, k2, n, b, k3, k4, k5⟩ := h
    have hb := RB _ _ _ _ _ (hm _) k3
    obtain ⟨n', n1, n2⟩ := B _ _ _ _ _ (hm _) k3
    have hm2 : pk4 (fup m (YU y (p k)) (stp y (p k) b (YC y k))) := fun u => by
      by_cases e : u = YU y (p k)
      · rw [e, fup_s]; exact T _ _ _ hb k1
      · rw [fup_n _ _ e]; exact hm u
    obtain ⟨i1, t, i2, i3⟩ := ih _ _ hm2 k5
    refine ⟨?_, n' + (t + 1), by omega, ?_⟩
    · have := LSu_up k2 (Yn y) k1; omega
    · refine RF.run n' m (t + 1) b n2 ⟨k, k1, ?_⟩
      have e : stF y (fup m (YU y (p k)) b, p) k = (fup m (YU y (p k)) (stp y (p k) b (YC y k)), fup p k (p k + 1)) := by
        unfold stF
        dsimp only
        rw [if_pos k2]
        simp only [fup_s, k4, ↓reduceIte, fup_fup]
      rw [e]; exact i3
/-- which of the thirteen a cart's refusals are -/
def opK (y : YS) (p : Nat → Nat) (u k : Nat) : Nat := if k < Yn y ∧ p k < Yg y ∧ YU y (p k) = u ∧ 1 ≤ YK y (p k) ∧ YK y (p k) ≤ 4 then (YK y (p k) - 1) * 3 + YC y k else 12
theorem lt1_K {y : YS} {g c : Nat} {a : Nat × Nat} (h : 1 ≤ YK y g ∧ YK y g ≤ 4) : lt1 y g a c = letB 0 (YK y g) 0 a.1 a.2 c := by
  unfold lt1
  have : YK y g = 1 ∨ YK y g = 2 ∨ YK y g = 3 ∨ YK y g = 4 := by omega
  rcases this with e | e | e | e <;> rw [e] <;> rfl
theorem RN_6 {y : YS} (ok : YOK y) (h3 : Yn y ≤ 3) (p : Nat → Nat) (u n : Nat) (a b : Nat × Nat) (ha : a.1 < 4 ∧ a.2 < 4) (q : RN y p u n a b) : ∃ n', n' ≤ 6 ∧ RN y p u n' a b := by
  obtain ⟨⟨o2, o3⟩, o6, on, og, oc⟩ := id ok
  have ol : ∀ k, opK y p u k < 13 := fun k => by
    unfold opK
    split
    · rename_i c
      have := (oc k c.1).1
      omega
    · omega
  have mk : ∀ k, k < 3 → M3 (opK y p u 0) (opK y p u 1) (opK y p u 2) (opK y p u k) := fun k hk => by
    have : k = 0 ∨ k = 1 ∨ k = 2 := by omega
    rcases this with rfl | rfl | rfl
    · exact Or.inl rfl
    · exact Or.inr (Or.inl rfl)
    · exact Or.inr (Or.inr rfl)
  have of : ∀ k a, k < Yn y → p k < Yg y → YU y (p k) = u → (1 ≤ YK y (p k) ∧ YK y (p k) ≤ 4) → fO (opK y p u k) a = if lt1 y (p k) a (YC y k) = true then a else stp y (p k) a (YC y k) := fun k a h1 h2 h4 h5 => by
    have c3 := (oc k h1).1
    have k6 := (og _ h2).1
    rw [lt1_K h5, stp_K k6]
    have o1 : opK y p u k = (YK y (p k) - 1) * 3 + YC y k := if_pos ⟨h1, h2, h4, h5⟩
    rw [o1]
    unfold fO
    rw [if_neg (by omega), show ((YK y (p k) - 1) * 3 + YC y k) / 3 + 1 = YK y (p k) by omega, show ((YK y (p k) - 1) * 3 + YC y k) % 3 = YC y k by omega]
  have to : ∀ n a, RN y p u n a b → ∃ n', RO (M3 (opK y p u 0) (opK y p u 1) (opK y p u 2)) n' a b := by
    intro n
    induction n with
    | zero => intro a h; exact ⟨0, h⟩
    | succ n ih =>
      intro a h
      obtain ⟨k, k1, k2, k3, k4, k5⟩ := h
      obtain ⟨n', i⟩ := ih _ k5
      by_cases c : 1 ≤ YK y (p k) ∧ YK y (p k) ≤ 4
      · refine ⟨n' + 1, opK y p u k, mk k (by omega), ?_⟩
        rw [of k a k1 k2 k3 c, k4, if_neg (by decide)]; exact i
      · have k6 := (og _ k2).1
        have : stp y (p k) a (YC y k) = a := by
          rw [stp_K k6]; unfold stK; rw [if_pos (by omega)]
        rw [this] at i
        exact ⟨n', i⟩
  have fro : ∀ n a, RO (M3 (opK y p u 0) (opK y p u 1) (opK y p u 2)) n a b → ∃ n', n' ≤ n ∧ RN y p u n' a b := by
    intro n
    induction n with
    | zero => intro a h; exact ⟨0, Nat.le_refl _, h⟩
    | succ n ih =>
      intro a h
      obtain ⟨o, m, h⟩ := h
      obtain ⟨k, rfl⟩ : ∃ k, o = opK y p u k := by
        rcases m with e | e | e
        · exact ⟨0, e⟩
        · exact ⟨1, e⟩
        · exact ⟨2, e⟩
      obtain ⟨n', i1, i2⟩ := ih _ h
      by_cases c : k < Yn y ∧ p k < Yg y ∧ YU y (p k) = u ∧ 1 ≤ YK y (p k) ∧ YK y (p k) ≤ 4
      · obtain ⟨c1, c2, c3, c4⟩ := c
        rw [of k a c1 c2 c3 c4] at i2
        cases e : lt1 y (p k) a (YC y k)
        · rw [e, if_neg (by decide)] at i2
          exact ⟨n' + 1, by omega, k, c1, c2, c3, e, i2⟩
        · rw [e, if_pos rfl] at i2
          exact ⟨n', by omega, i2⟩
      · have : fO (opK y p u k) a = a := by
          have o1 : opK y p u k = 12 := if_neg c
          rw [o1]; rfl
        rw [this] at i2
        exact ⟨n', by omega, i2⟩
  obtain ⟨n1, q1⟩ := to n a q
  obtain ⟨n2, l2, q2⟩ := RO_6 (ol 0) (ol 1) (ol 2) ha q1
  obtain ⟨n3, l3, q3⟩ := fro n2 a q2
  exact ⟨n3, by omega, q3⟩
theorem RF_63 {y : YS} (ok : YOK y) (hg : Yg y ≤ 3) (hn : Yn y ≤ 3) {n : Nat} {x : FS} (hm : pk4 x.1) (q : RF y n x) : ∃ n', n' ≤ 63 ∧ RF y n' x := by
  obtain ⟨⟨o2, o3⟩, o6, on, og, oc⟩ := id ok
  obtain ⟨l, b⟩ := RF.big n x q
  obtain ⟨h1, n', h2, h4⟩ := BG.le (RN_6 ok hn) (fun g a k ha hk => ⟨memF_lt ha.1 (by have := (oc k hk).1; omega), memS_lt ha.1 ha.2 (by have := (oc k hk).1; omega)⟩) l x.1 x.2 hm b
  have h5 := LSu_le y x.2 (Yn y)
  have h6 : Yn y * Yg y ≤ 3 * 3 := Nat.mul_le_mul hn hg
  exact ⟨n', by omega, h4⟩
