/-! SEARCHES: states as numbers -/
def plc (s k : Nat) : Nat := s / 2 ^ (12 + 2 * k) % 4
theorem cc3 {k : Nat} (h : k < 3) : k = 0 ∨ k = 1 ∨ k = 2 := by omega
theorem dg_add {s u k : Nat} (hu : u < 3) (hk : k < 3) : dg (s + 2 ^ (12 + 2 * k)) u = dg s u := by
  rcases cc3 hu with rfl | rfl | rfl <;> rcases cc3 hk with rfl | rfl | rfl <;> simp only [plc, dg, wd, Nat.reduceMul, Nat.reduceAdd, Nat.reducePow] <;> omega
theorem plc_wd {s u k m : Nat} (hu : u < 3) (hk : k < 3) (hm : m < 16) : plc (wd s u m) k = plc s k := by
  rcases cc3 hu with rfl | rfl | rfl <;> rcases cc3 hk with rfl | rfl | rfl <;> simp only [plc, dg, wd, Nat.reduceMul, Nat.reduceAdd, Nat.reducePow] <;> omega
theorem plc_add {s k j : Nat} (hj : j < 3) (hk : k < 3) (h : plc s k < 3) : plc (s + 2 ^ (12 + 2 * k)) j = if j = k then plc s k + 1 else plc s j := by
  by_cases e : j = k
  · subst e
    rw [if_pos rfl]
    rcases cc3 hj with rfl | rfl | rfl <;> simp only [plc, dg, wd, Nat.reduceMul, Nat.reduceAdd, Nat.reducePow] at h ⊢ <;> omega
  · rw [if_neg e]
    rcases cc3 hj with rfl | rfl | rfl <;> rcases cc3 hk with rfl | rfl | rfl <;> first | exact absurd rfl e | (simp only [plc, dg, wd, Nat.reduceMul, Nat.reduceAdd, Nat.reducePow] at h ⊢ <;> omega)
theorem add_18 {s k : Nat} (hk : k < 3) (hs : s < 2 ^ 18) (h : plc s k < 3) : s + 2 ^ (12 + 2 * k) < 2 ^ 18 := by
  rcases cc3 hk with rfl | rfl | rfl <;> simp only [plc, dg, wd, Nat.reduceMul, Nat.reduceAdd, Nat.reducePow] at h hs ⊢ <;> omega
theorem wd_18 {s u m : Nat} (hu : u < 3) (hm : m < 16) (hs : s < 2 ^ 18) : wd s u m < 2 ^ 18 := by
  rcases cc3 hu with rfl | rfl | rfl <;> simp only [plc, dg, wd, Nat.reduceMul, Nat.reduceAdd, Nat.reducePow] at hs ⊢ <;> omega
theorem s_inj {s t : Nat} (hs : s < 2 ^ 18) (ht : t < 2 ^ 18) (a : ∀ u, u < 3 → dg s u = dg t u) (b : ∀ k, k < 3 → plc s k = plc t k) : s = t := by
  have a0 := a 0 (by decide)
  have a1 := a 1 (by decide)
  have a2 := a 2 (by decide)
  have b0 := b 0 (by decide)
  have b1 := b 1 (by decide)
  have b2 := b 2 (by decide)
  simp only [plc, dg, wd, Nat.reduceMul, Nat.reduceAdd, Nat.reducePow] at a0 a1 a2 b0 b1 b2 hs ht
  omega
def VN (y : YS) (s : Nat) : Prop := s < 2 ^ 18 ∧ (∀ u, u < 3 → (u < Yg y → pOK y (uq (dg s u))) ∧ (Yg y ≤ u → dg s u = 0)) ∧ ∀ k, k < 3 → (k < Yn y → plc s k ≤ Yg y) ∧ (Yn y ≤ k → plc s k = 0)
/-- behind a try of a colour at a gate -/
def tcN (y : YS) (s g c : Nat) : Nat := wd s (YU y g) (pk (stp y g (uq (dg s (YU y g))) c))
def ltN (y : YS) (s g c : Nat) : Bool := lt1 y g (uq (dg s (YU y g))) c
def stN (y : YS) (s k : Nat) : Nat := if plc s k < Yg y then tcN y s (plc s k) (YC y k) + (if ltN y s (plc s k) (YC y k) = true then 2 ^ (12 + 2 * k) else 0) else s
def glN (y : YS) (s : Nat) : Bool := itr (fun k b => b && decide (Yg y ≤ plc s k)) (Yn y) 0 true
theorem itr_and (f : Nat → Bool) : ∀ m i b, itr (fun k b => b && f k) m i b = true ↔ b = true ∧ ∀ k, i ≤ k → k < i + m → f k = true := by
  intro m
  induction m with
  | zero => intro i b; exact ⟨fun h => ⟨h, fun k h1 h2 => by omega⟩, fun h => h.1⟩
  | succ m ih =>
    intro i b
    rw [itr_s, ih, Bool.and_eq_true]
    constructor
    · rintro ⟨⟨h1, h2⟩, h3⟩
      refine ⟨h1, fun k k1 k2 => ?_⟩
      by_cases e : k = i
      · rw [e]; exact h2
      · exact h3 k (by omega) (by omega)
    · rintro ⟨h1, h2⟩
      exact ⟨⟨h1, h2 i (Nat.le_refl _) (by omega)⟩, fun k k1 k2 => h2 k (by omega) (by omega)⟩
theorem glN_iff (y : YS) (s : Nat) : glN y s = true ↔ ∀ k, k < Yn y → Yg y ≤ plc s k := by
  unfold glN
  rw [itr_and]
  exact ⟨fun h k hk => of_decide_eq_true (h.2 k (Nat.zero_le _) (by omega)), fun h => ⟨rfl, fun k _ hk => decide_eq_true (h k (by omega))⟩⟩
theorem dg16 (s u : Nat) : dg s u < 16 := dg_lt s u
theorem uq4 {m : Nat} (h : m < 16) : (uq m).1 < 4 ∧ (uq m).2 < 4 := ⟨Nat.mod_lt _ (by decide), by show m / 4 < 4; omega⟩
theorem pk_16 {p : Nat × Nat} (h : p.1 < 4 ∧ p.2 < 4) : pk p < 16 := by unfold pk; omega
theorem VN.tc {y : YS} (ok : YOK y) (h3 : Yg y ≤ 3) {s g c : Nat} (v : VN y s) (hg : g < Yg y) (hc : c < Yc y) : VN y (tcN y s g c) ∧ (∀ u, u < 3 → uq (dg (tcN y s g c) u) = if u = YU y g then stp y g (uq (dg s (YU y g))) c else uq (dg s u)) ∧ ∀ k, k < 3 → plc (tcN y s g c) k = plc s k := by
  obtain ⟨v1, v2, v3⟩ := v
  have u1 := ok.u hg
  have c3 := ok.1.2
  have sp := stp_ok (g := g) ((v2 (YU y g) (by omega)).1 u1) hc
  have s16 : pk (stp y g (uq (dg s (YU y g))) c) < 16 := pk_16 ⟨by have := sp.1; omega, by have := sp.2; omega⟩
  have s4 : (stp y g (uq (dg s (YU y g))) c).1 < 4 := by have := sp.1; omega
  have e1 : ∀ u, u < 3 → dg (tcN y s g c) u = if u = YU y g then pk (stp y g (uq (dg s (YU y g))) c) else dg s u := fun u hu => dg_wd _ _ _ _ s16
  have e2 : ∀ k, k < 3 → plc (tcN y s g c) k = plc s k := fun k hk => plc_wd (by omega) hk s16
  refine ⟨⟨wd_18 (by omega) s16 v1, fun u hu => ⟨fun h => ?_, fun h => ?_⟩, fun k hk => ?_⟩, fun u hu => ?_, e2⟩
  · rw [e1 u hu]
    by_cases e : u = YU y g
    · rw [if_pos e, uq_pk s4]; exact sp
    · rw [if_neg e]; exact (v2 u hu).1 h
  · rw [e1 u hu, if_neg (by omega)]; exact (v2 u hu).2 h
  · rw [e2 k hk]; exact v3 k hk
  · rw [e1 u hu]
    by_cases e : u = YU y g
    · rw [if_pos e, if_pos e, uq_pk s4]
    · rw [if_neg e, if_neg e]
theorem VN.st {y : YS} (ok : YOK y) (h3 : Yg y ≤ 3) (n3 : Yn y ≤ 3) {s k : Nat} (v : VN y s) (hk : k < Yn y) (hp : plc s k < Yg y) : VN y (stN y s k) ∧ (∀ u, u < 3 → uq (dg (stN y s k) u) = if u = YU y (plc s k) then stp y (plc s k) (uq (dg s (YU y (plc s k)))) (YC y k) else uq (dg s u)) ∧ ∀ j, j < 3 → plc (stN y s k) j = if j = k ∧ ltN y s (plc s k) (YC y k) = true then plc s k + 1 else plc s j := by
  have hc := (ok.2.2.2.2 k hk).1
  obtain ⟨w, e1, e2⟩ := v.tc ok h3 hp hc
  unfold stN
  rw [if_pos hp]
  cases l : ltN y s (plc s k) (YC y k)
  · rw [if_neg (by decide), Nat.add_zero]
    exact ⟨w, e1, fun j hj => by rw [if_neg (fun q => absurd q.2 (by decide))]; exact e2 j hj⟩
  · rw [if_pos rfl]
    have p3 : plc (tcN y s (plc s k) (YC y k)) k < 3 := by rw [e2 k (by omega)]; omega
    have e4 : ∀ j, j < 3 → plc (tcN y s (plc s k) (YC y k) + 2 ^ (12 + 2 * k)) j = if j = k then plc s k + 1 else plc s j := fun j hj => by
      rw [plc_add hj (by omega) p3, e2 k (by omega), e2 j hj]
    obtain ⟨w1, w2, w3⟩ := w
    refine ⟨⟨add_18 (by omega) w1 p3, fun u hu => ?_, fun j hj => ⟨fun h => ?_, fun h => ?_⟩⟩, fun u hu => ?_, fun j hj => ?_⟩
    · rw [dg_add hu (by omega)]; exact w2 u hu
    · rw [e4 j hj]
      by_cases e : j = k
      · rw [if_pos e]; omega
      · rw [if_neg e]; exact (v.2.2 j hj).1 h
    · rw [e4 j hj, if_neg (by omega)]; exact (v.2.2 j hj).2 h
    · rw [dg_add hu (by omega)]; exact e1 u hu
    · rw [e4 j hj]
      by_cases e : j = k
      · rw [if_pos e, if_pos ⟨e, rfl⟩]
      · rw [if_neg e, if_neg (fun q => e q.1)]
theorem VN.st' {y : YS} (ok : YOK y) (h3 : Yg y ≤ 3) (n3 : Yn y ≤ 3) {s k : Nat} (v : VN y s) (hk : k < Yn y) : VN y (stN y s k) := by
  by_cases hp : plc s k < Yg y
  · exact (v.st ok h3 n3 hk hp).1
  · unfold stN; rw [if_neg hp]; exact v
def fsN (s : Nat) : FS := (fun u => if u < 3 then uq (dg s u) else (0, 0), fun k => if k < 3 then plc s k else 0)
theorem fsN_st {y : YS} (ok : YOK y) (h3 : Yg y ≤ 3) (n3 : Yn y ≤ 3) {s k : Nat} (v : VN y s) (hk : k < Yn y) : fsN (stN y s k) = stF y (fsN s) k := by
  have k3 : k < 3 := by omega
  have f2 : (fsN s).2 k = plc s k := if_pos k3
  unfold stF
  rw [f2]
  by_cases hp : plc s k < Yg y
  · rw [if_pos hp]
    have u3 := ok.u hp
    have f1 : (fsN s).1 (YU y (plc s k)) = uq (dg s (YU y (plc s k))) := if_pos (by omega)
    rw [f1]
    obtain ⟨w, e1, e2⟩ := v.st ok h3 n3 hk hp
    refine Prod.ext (funext fun u => ?_) (funext fun j => ?_)
    · show (if u < 3 then uq (dg (stN y s k) u) else (0, 0)) = fup (fsN s).1 _ _ u
      by_cases hu : u < 3
      · rw [if_pos hu, e1 u hu]
        by_cases e : u = YU y (plc s k)
        · rw [if_pos e, e, fup_s]
        · rw [if_neg e, fup_n _ _ e]; exact (if_pos hu).symm
      · rw [if_neg hu, fup_n _ _ (by omega)]; exact (if_neg hu).symm
    · show (if j < 3 then plc (stN y s k) j else 0) = (if ltN y s (plc s k) (YC y k) = true then fup (fsN s).2 k (plc s k + 1) else (fsN s).2) j
      by_cases hj : j < 3
      · rw [if_pos hj, e2 j hj]
        cases l : ltN y s (plc s k) (YC y k)
        · rw [if_neg (fun q => absurd q.2 (by decide)), if_neg (by decide)]; exact (if_pos hj).symm
        · rw [if_pos rfl]
          by_cases e : j = k
          · rw [if_pos ⟨e, rfl⟩, e, fup_s]
          · rw [if_neg (fun q => e q.1), fup_n _ _ e]; exact (if_pos hj).symm
      · rw [if_neg hj]
        split
        · rw [fup_n _ _ (by omega)]; exact (if_neg hj).symm
        · exact (if_neg hj).symm
  · rw [if_neg hp]
    unfold stN
    rw [if_neg hp]
theorem RE_RF {y : YS} (ok : YOK y) (h3 : Yg y ≤ 3) (n3 : Yn y ≤ 3) : ∀ n s, VN y s → (RE (Yn y) (stN y) (glN y) n s ↔ RF y n (fsN s)) := by
  intro n
  induction n with
  | zero =>
    intro s v
    show glN y s = true ↔ ∀ k, k < Yn y → Yg y ≤ (fsN s).2 k
    rw [glN_iff]
    exact ⟨fun h k hk => by have := h k hk; show Yg y ≤ if k < 3 then plc s k else 0; rw [if_pos (by omega)]; exact this, fun h k hk => by have := h k hk; have q : (fsN s).2 k = plc s k := if_pos (by omega); rw [q] at this; exact this⟩
  | succ n ih =>
    intro s v
    show (∃ k, k < Yn y ∧ RE (Yn y) (stN y) (glN y) n (stN y s k)) ↔ ∃ k, k < Yn y ∧ RF y n (stF y (fsN s) k)
    constructor
    · rintro ⟨k, hk, h⟩
      refine ⟨k, hk, ?_⟩
      rw [← fsN_st ok h3 n3 v hk]
      exact (ih _ (v.st' ok h3 n3 hk)).mp h
    · rintro ⟨k, hk, h⟩
      refine ⟨k, hk, ?_⟩
      rw [← fsN_st ok h3 n3 v hk] at h
      exact (ih _ (v.st' ok h3 n3 hk)).mpr h
/-- the nearest way is short -/
theorem LR_63 {y : YS} (ok : YOK y) (h3 : Yg y ≤ 3) (n3 : Yn y ≤ 3) {n s : Nat} (v : VN y s) (h : LR (Yn y) (stN y) (glN y) n s) : n ≤ 63 := by
  obtain ⟨n', h1, h2⟩ := RF_63 ok h3 n3 (x := fsN s) (fun u => by
    show (if u < 3 then uq (dg s u) else (0, 0)).1 < 4 ∧ (if u < 3 then uq (dg s u) else (0, 0)).2 < 4
    split
    · exact uq4 (dg16 s u)
    · exact ⟨by decide, by decide⟩) ((RE_RF ok h3 n3 n s v).mp h.1)
  rcases Nat.lt_or_ge n' n with w | w
  · exact absurd ((RE_RF ok h3 n3 n' s v).mpr h2) (h.2 n' w)
  · omega
/-- the state of a yard -/
def ndY (y : YS) : Nat := itr (fun k s => s ||| YP y k * 2 ^ (12 + 2 * k)) (Yn y) 0 (pkM y)
theorem pkM_lt {y : YS} (ok : YOK y) : pkM y < 2 ^ (4 * Yg y) := by
  obtain ⟨⟨o2, o3⟩, o6, on, og, oc⟩ := id ok
  have lp : ∀ m i s, i + m = Yg y → s < 2 ^ (4 * i) → itr (fun g M => wd M g (YF y g + 4 * YM y g)) m i s < 2 ^ (4 * (i + m)) := by
    intro m
    induction m with
    | zero => intro i s _ hs; exact hs
    | succ m ih =>
      intro i s hi hs
      have := og i (by omega)
      have hs' : s < 2 ^ (4 * (i + 1)) := Nat.lt_of_lt_of_le hs (Nat.pow_le_pow_right (by decide) (by omega))
      rw [itr_s, show i + (m + 1) = i + 1 + m by omega]
      exact ih (i + 1) _ (by omega) (wd_lt (by omega) (by omega) hs')
  have := lp (Yg y) 0 0 (by omega) (by decide)
  rw [Nat.zero_add] at this
  exact this
theorem orp {s v k : Nat} (hk : k < 3) (h : s < 2 ^ (12 + 2 * k)) (hv : v < 4) : s ||| v * 2 ^ (12 + 2 * k) = s + v * 2 ^ (12 + 2 * k) ∧ s + v * 2 ^ (12 + 2 * k) < 2 ^ (12 + 2 * (k + 1)) := by
  have := Nat.two_pow_add_eq_or_of_lt h v
  constructor
  · rw [Nat.or_comm, Nat.mul_comm v, ← this, Nat.add_comm]
  · rcases cc3 hk with rfl | rfl | rfl <;> simp only [plc, dg, wd, Nat.reduceMul, Nat.reduceAdd, Nat.reducePow] at h ⊢ <;> omega
theorem dg_ap {s v u k : Nat} (hu : u < 3) (hk : k < 3) : dg (s + v * 2 ^ (12 + 2 * k)) u = dg s u := by
  rcases cc3 hu with rfl | rfl | rfl <;> rcases cc3 hk with rfl | rfl | rfl <;> simp only [plc, dg, wd, Nat.reduceMul, Nat.reduceAdd, Nat.reducePow] <;> omega
theorem plc_ap {s v k j : Nat} (hk : k < 3) (h : s < 2 ^ (12 + 2 * k)) (hv : v < 4) (hj : j < 3) : plc (s + v * 2 ^ (12 + 2 * k)) j = if j = k then v else plc s j := by
  by_cases e : j = k
  · subst e
    rw [if_pos rfl]
    rcases cc3 hj with rfl | rfl | rfl <;> simp only [plc, dg, wd, Nat.reduceMul, Nat.reduceAdd, Nat.reducePow] at h ⊢ <;> omega
  · rw [if_neg e]
    rcases cc3 hj with rfl | rfl | rfl <;> rcases cc3 hk with rfl | rfl | rfl <;> first | exact absurd rfl e | (simp only [plc, dg, wd, Nat.reduceMul, Nat.reduceAdd, Nat.reducePow] at h ⊢ <;> omega)
theorem ndY_ok {y : YS} (ok : YOK y) (h3 : Yg y ≤ 3) (n3 : Yn y ≤ 3) : VN y (ndY y) ∧ (∀ u, u < Yg y → uq (dg (ndY y) u) = (YF y u, YM y u)) ∧ ∀ k, k < Yn y → plc (ndY y) k = YP y k := by
  have pm := PM_0 ok
  have pl := pkM_lt ok
  obtain ⟨⟨o2, o3⟩, o6, on, og, oc⟩ := id ok
  have p12 : pkM y < 2 ^ 12 := Nat.lt_of_lt_of_le pl (Nat.pow_le_pow_right (by decide) (by omega))
  have lp : ∀ m i s, i + m = Yn y → s < 2 ^ (12 + 2 * i) → (∀ u, u < 3 → dg s u = dg (pkM y) u) → (∀ k, k < i → plc s k = YP y k) → itr (fun k s => s ||| YP y k * 2 ^ (12 + 2 * k)) m i s < 2 ^ (12 + 2 * (i + m)) ∧ (∀ u, u < 3 → dg (itr (fun k s => s ||| YP y k * 2 ^ (12 + 2 * k)) m i s) u = dg (pkM y) u) ∧ ∀ k, k < i + m → plc (itr (fun k s => s ||| YP y k * 2 ^ (12 + 2 * k)) m i s) k = YP y k := by
    intro m
    induction m with
    | zero => intro i s _ h1 h2 h3; exact ⟨h1, h2, h3⟩
    | succ m ih =>
      intro i s hi h1 h2 h3
      have hv := (oc i (by omega)).2
      obtain ⟨q1, q2⟩ := orp (v := YP y i) (by omega) h1 (by omega)
      rw [itr_s, show i + (m + 1) = i + 1 + m by omega, q1]
      refine ih (i + 1) _ (by omega) q2 (fun u hu => by rw [dg_ap hu (by omega)]; exact h2 u hu) (fun k hk => ?_)
      rw [plc_ap (by omega) h1 (by omega) (by omega)]
      by_cases e : k = i
      · rw [if_pos e, e]
      · rw [if_neg e]; exact h3 k (by omega)
  obtain ⟨r1, r2, r3⟩ := lp (Yn y) 0 (pkM y) (by omega) p12 (fun _ _ => rfl) (fun k hk => absurd hk (Nat.not_lt_zero k))
  rw [Nat.zero_add] at r1 r3
  have r1 : ndY y < 2 ^ (12 + 2 * Yn y) := r1
  have r18 : ndY y < 2 ^ 18 := Nat.lt_of_lt_of_le r1 (Nat.pow_le_pow_right (by decide) (by omega))
  have r2 : ∀ u, u < 3 → dg (ndY y) u = dg (pkM y) u := r2
  have r3 : ∀ k, k < Yn y → plc (ndY y) k = YP y k := r3
  have f4 : ∀ u, u < Yg y → (r0 y u).1 < 4 := fun u hu => by have := (og u hu).2.2.2.2.1; show YF y u < 4; omega
  refine ⟨⟨r18, fun u hu => ⟨fun h => ?_, fun h => ?_⟩, fun k hk => ⟨fun h => ?_, fun h => ?_⟩⟩, fun u hu => ?_, r3⟩
  · rw [r2 u hu, (pm.2 u h).1, uq_pk (f4 u h)]; exact (pm.2 u h).2
  · rw [r2 u hu]
    unfold dg
    rw [Nat.div_eq_of_lt (Nat.lt_of_lt_of_le pl (Nat.pow_le_pow_right (by decide) (by omega)))]
  · rw [r3 k h]; exact (oc k h).2
  · unfold plc
    rw [Nat.div_eq_of_lt (Nat.lt_of_lt_of_le r1 (Nat.pow_le_pow_right (by decide) (by omega)))]
  · rw [r2 u (by omega), (pm.2 u hu).1, uq_pk (f4 u hu)]; rfl
