/-! SEARCHES in a graph of tries: by breadth, abstractly -/
def RE (K : Nat) (st : Nat → Nat → Nat) (gl : Nat → Bool) (n s : Nat) : Prop := match n with
  | 0 => gl s = true
  | n + 1 => ∃ k, k < K ∧ RE K st gl n (st s k)
def LR (K : Nat) (st : Nat → Nat → Nat) (gl : Nat → Bool) (n s : Nat) : Prop := RE K st gl n s ∧ ∀ m, m < n → ¬ RE K st gl m s
theorem LR.eq {K : Nat} {st : Nat → Nat → Nat} {gl : Nat → Bool} {n m s : Nat} (a : LR K st gl n s) (b : LR K st gl m s) : n = m := by
  rcases Nat.lt_trichotomy n m with h | h | h
  · exact absurd a.1 (b.2 n h)
  · exact h
  · exact absurd b.1 (a.2 m h)
theorem RE.lr {K : Nat} {st : Nat → Nat → Nat} {gl : Nat → Bool} {s : Nat} : ∀ n, RE K st gl n s → ∃ m, m ≤ n ∧ LR K st gl m s := by
  intro n
  induction n using Nat.strongRecOn with
  | ind n ih =>
    intro h
    rcases Classical.em (∃ m, m < n ∧ RE K st gl m s) with ⟨m, h1, h2⟩ | q
    · obtain ⟨m', h3, h4⟩ := ih m h1 h2
      exact ⟨m', by omega, h4⟩
    · exact ⟨n, Nat.le_refl _, h, fun m h1 h2 => q ⟨m, h1, h2⟩⟩
noncomputable def dsT (K : Nat) (st : Nat → Nat → Nat) (gl : Nat → Bool) (s : Nat) : Option Nat := @dite _ (∃ n, LR K st gl n s) (Classical.propDecidable _) (fun h => some (Classical.choose h)) (fun _ => none)
theorem dsT_some {K : Nat} {st : Nat → Nat → Nat} {gl : Nat → Bool} {n s : Nat} (a : LR K st gl n s) : dsT K st gl s = some n := by
  unfold dsT
  rw [dif_pos ⟨n, a⟩]
  exact congrArg some ((Classical.choose_spec (⟨n, a⟩ : ∃ n, LR K st gl n s)).eq a)
theorem dsT_none {K : Nat} {st : Nat → Nat → Nat} {gl : Nat → Bool} {s : Nat} (a : ∀ n, ¬ RE K st gl n s) : dsT K st gl s = none := by
  unfold dsT
  rw [dif_neg (fun w => w.elim fun n h => a n h.1)]
theorem dsT_of {K : Nat} {st : Nat → Nat → Nat} {gl : Nat → Bool} {n s : Nat} (a : dsT K st gl s = some n) : LR K st gl n s := by
  unfold dsT at a
  rcases Classical.em (∃ n, LR K st gl n s) with h | h
  · rw [dif_pos h] at a
    cases a
    exact Classical.choose_spec h
  · rw [dif_neg h] at a; cases a
theorem dsT_no {K : Nat} {st : Nat → Nat → Nat} {gl : Nat → Bool} {s : Nat} (a : dsT K st gl s = none) : ∀ n, ¬ RE K st gl n s := by
  intro n h
  obtain ⟨m, -, h2⟩ := RE.lr n h
  rw [dsT_some h2] at a; cases a
/-- the first cart by which it is a step nearer -/
noncomputable def reD (K : Nat) (st : Nat → Nat → Nat) (gl : Nat → Bool) (n s : Nat) : Bool := @decide (RE K st gl n s) (Classical.propDecidable _)
theorem reD_t {K : Nat} {st : Nat → Nat → Nat} {gl : Nat → Bool} {n s : Nat} (h : RE K st gl n s) : reD K st gl n s = true := by
  unfold reD; exact @decide_eq_true _ (Classical.propDecidable _) h
theorem reD_f {K : Nat} {st : Nat → Nat → Nat} {gl : Nat → Bool} {n s : Nat} (h : ¬ RE K st gl n s) : reD K st gl n s = false := by
  unfold reD; exact @decide_eq_false _ (Classical.propDecidable _) h
def lkB (f : Nat → Bool) (m i : Nat) : Nat := match m with
  | 0 => i
  | m + 1 => if f i = true then i else lkB f m (i + 1)
theorem lkB_eq (f : Nat → Bool) : ∀ m i k, i ≤ k → k < i + m → f k = true → (∀ j, i ≤ j → j < k → f j = false) → lkB f m i = k := by
  intro m
  induction m with
  | zero => intro i k h1 h2; omega
  | succ m ih =>
    intro i k h1 h2 h3 h4
    show (if f i = true then i else lkB f m (i + 1)) = k
    by_cases e : i = k
    · subst e; rw [if_pos h3]
    · rw [h4 i (Nat.le_refl _) (by omega), if_neg (by decide)]
      exact ih (i + 1) k (by omega) (by omega) h3 (fun j a b => h4 j (by omega) b)
noncomputable def wyT (K : Nat) (st : Nat → Nat → Nat) (gl : Nat → Bool) (t s i : Nat) : Nat := match i with
  | 0 => lkB (fun k => reD K st gl (t - 1) (st s k)) K 0
  | i + 1 => wyT K st gl (t - 1) (st s (lkB (fun k => reD K st gl (t - 1) (st s k)) K 0)) i
/-- the line: c states S, come to from P by cart C; up to i all steps are in it, of i those of carts below k -/
def BI (K : Nat) (st : Nat → Nat → Nat) (s0 c i kk : Nat) (S P C : Nat → Nat) : Prop := 0 < c ∧ S 0 = s0 ∧ P 0 = 0 ∧ (∀ a b, a < c → b < c → S a = S b → a = b) ∧ (∀ j, 0 < j → j < c → P j < j ∧ C j < K ∧ S j = st (S (P j)) (C j) ∧ (P j < i ∨ (P j = i ∧ C j < kk))) ∧ (∀ j j', 0 < j → j < j' → j' < c → P j < P j' ∨ (P j = P j' ∧ C j < C j')) ∧ (∀ p k, ((p < i ∧ k < K) ∨ (p = i ∧ k < kk)) → ∃ j, j < c ∧ S j = st (S p) k ∧ (j = 0 ∨ P j < p ∨ (P j = p ∧ C j ≤ k))) ∧ i ≤ c
theorem BI.start (K : Nat) (st : Nat → Nat → Nat) {s0 : Nat} {S P C : Nat → Nat} (h1 : S 0 = s0) (h2 : P 0 = 0) : BI K st s0 1 0 0 S P C := ⟨by decide, h1, h2, fun a b ha hb _ => by omega, fun j h1 h2 => by omega, fun j j' h1 h2 h3 => by omega, fun p k h => by omega, by omega⟩
theorem BI.next {K : Nat} {st : Nat → Nat → Nat} {s0 c i : Nat} {S P C : Nat → Nat} (x : BI K st s0 c i K S P C) (hi : i < c) : BI K st s0 c (i + 1) 0 S P C := by
  obtain ⟨x1, x2, x3, x4, x5, x6, x7, x8⟩ := x
  refine ⟨x1, x2, x3, x4, fun j h1 h2 => ?_, x6, fun p k h => x7 p k (by omega), by omega⟩
  obtain ⟨y1, y2, y3, y4⟩ := x5 j h1 h2
  exact ⟨y1, y2, y3, by omega⟩
theorem BI.old {K : Nat} {st : Nat → Nat → Nat} {s0 c i k : Nat} {S P C : Nat → Nat} (x : BI K st s0 c i k S P C) (hk : k < K) {j : Nat} (hj : j < c) (e : S j = st (S i) k) : BI K st s0 c i (k + 1) S P C := by
  obtain ⟨x1, x2, x3, x4, x5, x6, x7, x8⟩ := x
  refine ⟨x1, x2, x3, x4, fun j h1 h2 => ?_, x6, fun p k' h => ?_, x8⟩
  · obtain ⟨y1, y2, y3, y4⟩ := x5 j h1 h2
    exact ⟨y1, y2, y3, by omega⟩
  · by_cases q : p = i ∧ k' = k
    · obtain ⟨rfl, rfl⟩ := q
      refine ⟨j, hj, e, ?_⟩
      by_cases z : j = 0
      · exact Or.inl z
      · have := (x5 j (by omega) hj).2.2.2
        omega
    · exact x7 p k' (by omega)
theorem BI.new {K : Nat} {st : Nat → Nat → Nat} {s0 c i k : Nat} {S P C : Nat → Nat} (x : BI K st s0 c i k S P C) (hi : i < c) (hk : k < K) (e : ∀ j, j < c → S j ≠ st (S i) k) : BI K st s0 (c + 1) i (k + 1) (fup S c (st (S i) k)) (fup P c i) (fup C c k) := by
  obtain ⟨x1, x2, x3, x4, x5, x6, x7, x8⟩ := x
  have eS : ∀ j, j < c → fup S c (st (S i) k) j = S j := fun j hj => fup_n _ _ (by omega)
  have eP : ∀ j, j < c → fup P c i j = P j := fun j hj => fup_n _ _ (by omega)
  have eC : ∀ j, j < c → fup C c k j = C j := fun j hj => fup_n _ _ (by omega)
  refine ⟨by omega, by rw [eS 0 x1]; exact x2, by rw [eP 0 x1]; exact x3, fun a b ha hb q => ?_, fun j h1 h2 => ?_, fun j j' h1 h2 h3 => ?_, fun p k' h => ?_, by omega⟩
  · by_cases a1 : a = c
    · by_cases b1 : b = c
      · omega
      · rw [a1, fup_s, eS b (by omega)] at q
        exact absurd q.symm (e b (by omega))
    · by_cases b1 : b = c
      · rw [b1, fup_s, eS a (by omega)] at q
        exact absurd q (e a (by omega))
      · rw [eS a (by omega), eS b (by omega)] at q
        exact x4 a b (by omega) (by omega) q
  · by_cases j1 : j = c
    · rw [j1, fup_s, fup_s, fup_s, eS i hi]
      exact ⟨hi, hk, rfl, Or.inr ⟨rfl, Nat.lt_succ_self _⟩⟩
    · obtain ⟨y1, y2, y3, y4⟩ := x5 j h1 (by omega)
      rw [eP j (by omega), eC j (by omega), eS j (by omega), eS (P j) (by omega)]
      exact ⟨y1, y2, y3, by omega⟩
  · by_cases j1 : j' = c
    · obtain ⟨y1, y2, y3, y4⟩ := x5 j h1 (by omega)
      rw [j1, fup_s, fup_s, eP j (by omega), eC j (by omega)]
      omega
    · rw [eP j (by omega), eC j (by omega), eP j' (by omega), eC j' (by omega)]
      exact x6 j j' h1 h2 (by omega)
  · by_cases q : p = i ∧ k' = k
    · obtain ⟨rfl, rfl⟩ := q
      refine ⟨c, by omega, ?_, Or.inr (Or.inr ⟨fup_s _ _ _, by rw [fup_s]; exact Nat.le_refl _⟩)⟩
      rw [fup_s, eS _ hi]
    · obtain ⟨j, h1, h2, h3⟩ := x7 p k' (by omega)
      refine ⟨j, by omega, ?_, ?_⟩
      · rw [eS j h1, eS p (by omega)]; exact h2
      · rw [eP j h1, eC j h1]; exact h3
def anc (P : Nat → Nat) (n q : Nat) : Nat := match n with
  | 0 => q
  | n + 1 => P (anc P n q)
theorem anc_le {K : Nat} {st : Nat → Nat → Nat} {s0 c i kk : Nat} {S P C : Nat → Nat} (x : BI K st s0 c i kk S P C) {q : Nat} (hq : q < c) : ∀ n, anc P n q ≤ q := by
  obtain ⟨x1, x2, x3, x4, x5, x6, x7, x8⟩ := x
  intro n
  induction n with
  | zero => exact Nat.le_refl _
  | succ n ih =>
    show P (anc P n q) ≤ q
    by_cases z : anc P n q = 0
    · rw [z, x3]; omega
    · have := (x5 _ (by omega) (show anc P n q < c by omega)).1
      omega
theorem anc_lt {K : Nat} {st : Nat → Nat → Nat} {s0 c i kk : Nat} {S P C : Nat → Nat} (x : BI K st s0 c i kk S P C) {q : Nat} (hq : q < c) {n : Nat} : ∀ m, 0 < anc P n q → anc P (n + m + 1) q < anc P n q := by
  have al := anc_le x hq
  obtain ⟨x1, x2, x3, x4, x5, x6, x7, x8⟩ := x
  intro m h
  induction m with
  | zero => exact (x5 _ h (by have := al n; omega)).1
  | succ m ih =>
    show P (anc P (n + m + 1) q) < anc P n q
    by_cases z : anc P (n + m + 1) q = 0
    · rw [z, x3]; exact h
    · have := (x5 _ (by omega) (show anc P (n + m + 1) q < c by have := al (n + m + 1); omega)).1
      omega
/-- who stands ahead in the line comes first to a goal -/
theorem BI.first {K : Nat} {st : Nat → Nat → Nat} {gl : Nat → Bool} {s0 c i kk : Nat} {S P C : Nat → Nat} (x : BI K st s0 c i kk S P C) {q : Nat} (hq : q ≤ i) (hc : q < c) : ∀ n a, RE K st gl n (S a) → a < anc P n q → ∃ j, j < q ∧ gl (S j) = true := by
  have al := anc_le x hc
  obtain ⟨x1, x2, x3, x4, x5, x6, x7, x8⟩ := x
  intro n
  induction n with
  | zero => intro a h1 h2; exact ⟨a, h2, h1⟩
  | succ n ih =>
    intro a h1 h2
    obtain ⟨k, hk, h3⟩ := h1
    have h2 : a < P (anc P n q) := h2
    have z : 0 < anc P n q := by
      rcases Nat.eq_zero_or_pos (anc P n q) with z | z
      · rw [z, x3] at h2; omega
      · exact z
    have l1 := al n
    have l2 := (x5 _ z (by omega)).1
    obtain ⟨j, j1, j2, j3⟩ := x7 a k (Or.inl ⟨by omega, hk⟩)
    rw [← j2] at h3
    refine ih j h3 ?_
    rcases Nat.lt_or_ge j (anc P n q) with w | w
    · exact w
    · exfalso
      have pj : P j ≤ a := by omega
      rcases Nat.eq_or_lt_of_le w with w | w
      · rw [w] at h2; omega
      · have := x6 _ j z w j1
        omega
/-- the goal found: nearest, and the way to it is the first -/
theorem BI.found {K : Nat} {st : Nat → Nat → Nat} {gl : Nat → Bool} {s0 c i kk D : Nat} {S P C : Nat → Nat} (x : BI K st s0 c i kk S P C) (hi : i < c) (hg : gl (S i) = true) (ng : ∀ j, j < i → gl (S j) = false) (d0 : anc P D i = 0) (d1 : ∀ t, t < D → 0 < anc P t i) : LR K st gl D s0 ∧ ∀ m t, m < t → t ≤ D → wyT K st gl t (S (anc P t i)) m = C (anc P (t - 1 - m) i) := by
  have al := anc_le x hi
  have x' := x
  have fs := x.first (gl := gl) (Nat.le_refl i) hi
  have no : ∀ n a, RE K st gl n (S a) → ¬ a < anc P n i := fun n a h1 h2 => by
    obtain ⟨j, h3, h4⟩ := fs n a h1 h2
    rw [ng j h3] at h4; exact Bool.noConfusion h4
  obtain ⟨x1, x2, x3, x4, x5, x6, x7, x8⟩ := x
  have re : ∀ t, t ≤ D → RE K st gl t (S (anc P t i)) := by
    intro t
    induction t with
    | zero => intro _; exact hg
    | succ t ih =>
      intro h
      have y := x5 _ (d1 t (by omega)) (by have := al t; omega)
      refine ⟨C (anc P t i), y.2.1, ?_⟩
      show RE K st gl t (st (S (P (anc P t i))) (C (anc P t i)))
      rw [← y.2.2.1]
      exact ih (by omega)
  have wk : ∀ t, t < D → lkB (fun k => reD K st gl t (st (S (anc P (t + 1) i)) k)) K 0 = C (anc P t i) ∧ st (S (anc P (t + 1) i)) (C (anc P t i)) = S (anc P t i) := by
    intro t ht
    have z := d1 t ht
    have l1 := al t
    have y := x5 _ z (by omega)
    refine ⟨lkB_eq _ _ _ _ (Nat.zero_le _) (by have := y.2.1; omega) ?_ (fun k h1 h2 => reD_f fun h3 => ?_), y.2.2.1.symm⟩
    · refine reD_t ?_
      show RE K st gl t (st (S (P (anc P t i))) (C (anc P t i)))
      rw [← y.2.2.1]
      exact re t (by omega)
    · have h3 : RE K st gl t (st (S (P (anc P t i))) k) := h3
      obtain ⟨j, j1, j2, j3⟩ := x7 (P (anc P t i)) k (Or.inl ⟨by omega, by have := y.2.1; omega⟩)
      rw [← j2] at h3
      refine no t j h3 ?_
      rcases Nat.lt_or_ge j (anc P t i) with w | w
      · exact w
      · exfalso
        rcases Nat.eq_or_lt_of_le w with w | w
        · rw [← w] at j3; omega
        · have := x6 _ j z w j1
          omega
  refine ⟨⟨?_, fun n hn h => ?_⟩, ?_⟩
  · have := re D (Nat.le_refl _)
    rw [d0, x2] at this; exact this
  · rw [← x2] at h
    exact no n 0 h (d1 n hn)
  · intro m
    induction m with
    | zero =>
      intro t h1 h2
      obtain ⟨t, rfl⟩ : ∃ t', t = t' + 1 := ⟨t - 1, by omega⟩
      exact (wk t (by omega)).1
    | succ m ih =>
      intro t h1 h2
      obtain ⟨t, rfl⟩ : ∃ t', t = t' + 1 := ⟨t - 1, by omega⟩
      have w := wk t (by omega)
      show wyT K st gl t (st (S (anc P (t + 1) i)) (lkB (fun k => reD K st gl t (st (S (anc P (t + 1) i)) k)) K 0)) m = C (anc P (t - (m + 1)) i)
      rw [w.1, w.2, ih t (by omega) (by omega), show t - 1 - m = t - (m + 1) by omega]
/-- nothing found -/
theorem BI.none {K : Nat} {st : Nat → Nat → Nat} {gl : Nat → Bool} {s0 c kk : Nat} {S P C : Nat → Nat} (x : BI K st s0 c c kk S P C) (ng : ∀ j, j < c → gl (S j) = false) : ∀ n, ¬ RE K st gl n s0 := by
  obtain ⟨x1, x2, x3, x4, x5, x6, x7, x8⟩ := x
  have : ∀ n j, j < c → ¬ RE K st gl n (S j) := by
    intro n
    induction n with
    | zero =>
      intro j hj h
      have h : gl (S j) = true := h
      rw [ng j hj] at h; exact Bool.noConfusion h
    | succ n ih =>
      intro j hj h
      obtain ⟨k, hk, h⟩ := h
      obtain ⟨j', h1, h2, -⟩ := x7 j k (Or.inl ⟨hj, hk⟩)
      rw [← h2] at h
      exact ih j' h1 h
  intro n h
  rw [← x2] at h
  exact this n 0 x1 h
/-- no more numbers than there is room -/
theorem pig : ∀ N c (S : Nat → Nat), (∀ a b, a < c → b < c → S a = S b → a = b) → (∀ a, a < c → S a < N) → c ≤ N := by
  intro N
  induction N with
  | zero =>
    intro c S h1 h2
    rcases Nat.eq_zero_or_pos c with z | z
    · omega
    · have := h2 0 z; omega
  | succ N ih =>
    intro c S h1 h2
    rcases Nat.eq_zero_or_pos c with z | z
    · omega
    · have l0 := h2 (c - 1) (by omega)
      have := ih (c - 1) (fun a => if S a = N then S (c - 1) else S a) (fun a b ha hb e => ?_) (fun a ha => ?_)
      · omega
      · have e : (if S a = N then S (c - 1) else S a) = if S b = N then S (c - 1) else S b := e
        by_cases ea : S a = N
        · rw [if_pos ea] at e
          by_cases eb : S b = N
          · exact h1 a b (by omega) (by omega) (ea.trans eb.symm)
          · rw [if_neg eb] at e
            have := h1 (c - 1) b (by omega) (by omega) e
            omega
        · rw [if_neg ea] at e
          by_cases eb : S b = N
          · rw [if_pos eb] at e
            have := h1 a (c - 1) (by omega) (by omega) e
            omega
          · rw [if_neg eb] at e
            exact h1 a b (by omega) (by omega) e
      · show (if S a = N then S (c - 1) else S a) < N
        by_cases ea : S a = N
        · rw [if_pos ea]
          by_cases el : S (c - 1) = N
          · have := h1 a (c - 1) (by omega) (by omega) (ea.trans el.symm); omega
          · omega
        · rw [if_neg ea]
          have := h2 a (by omega)
          omega
