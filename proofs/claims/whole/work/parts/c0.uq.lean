/-! WHAT SHELVES SHOW is there, after every call -/
theorem GOK.rf {s : GS} (h : GOK s) (k : Nat) : GOK (rfS s k).2 := h
theorem GOK.bm {s : GS} (h : GOK s) (k : Nat) : GOK (bm s k) := h
theorem GOK.y {s : GS} (h : GOK s) {y : YS} (e : Yg (gY s) ≤ Yg y) : GOK (pY s y) := fun x hx h2 => Nat.lt_of_lt_of_le (h x hx h2) e
theorem GOK.t {s : GS} (h : GOK s) (n : Nat) (b : Nat → Nat) : GOK (pT s n b) := h
theorem GOK.k {s : GS} (h : GOK s) (k : Option YS) : GOK (pK s k) := h
theorem GOK.f {s : GS} (h : GOK s) {x : Nat} {t : SHT} (e : Hk t = 2 → Hg t < Yg (gY s)) : GOK (pH s (fup (gH s) x t)) := fun x' hx h2 => by
  show Hg (fup (gH s) x t x') < Yg (gY s)
  have h2 : Hk (fup (gH s) x t x') = 2 := h2
  by_cases w : x' = x
  · rw [w, fup_s] at h2 ⊢; exact e h2
  · rw [fup_n _ _ w] at h2 ⊢; exact h x' hx h2
theorem g_row {s : GS} (h : GOK s) (x q n : Int32) : GOK (s_row s x q n).2 := by
  unfold s_row; split
  · exact h.f (fun w => absurd (show (1 : Nat) = 2 from w) (by decide))
  · exact h.rf _
theorem g_set {s : GS} (h : GOK s) (x i : Int32) (v : Int64) : GOK (s_set s x i v).2 := by
  unfold s_set; repeat' split
  all_goals first | exact h.rf _ | exact h.f (fun w => absurd (show (1 : Nat) = 2 from w) (by decide))
theorem g_copy {s : GS} (h : GOK s) (p q i j n : Int32) : GOK (s_copy s p q i j n).2 := by
  unfold s_copy; repeat' split
  all_goals first | exact h.rf _ | exact h.f (fun w => absurd (show (1 : Nat) = 2 from w) (by decide))
theorem g_show {s : GS} (h : GOK s) (ok : YOK (gY s)) (x g : Int32) : GOK (s_show s x g).2 := by
  unfold s_show; repeat' split
  · exact h.f (fun w => absurd (show (0 : Nat) = 2 from w) (by decide))
  · rename_i c
    refine h.f (fun _ => ?_)
    have o6 := ok.2.1
    obtain ⟨k, hk, e⟩ := inR_of (by omega) c.2
    show g.toNatClampNeg < Yg (gY s)
    rw [e, nI_clamp (show k < 2 ^ 31 by omega)]; exact hk
  · exact h.rf _
theorem g_says {s : GS} (h : GOK s) (x o : Int32) : GOK (s_says s x o).2 := by
  unfold s_says; repeat' split
  all_goals first | exact h.rf _ | exact h
theorem g_colours {s : GS} (h : GOK s) (x : Int32) : GOK (s_colours s x).2 := by
  unfold s_colours; repeat' split
  all_goals first | exact h.rf _ | exact h.y (Nat.le_refl _)
theorem g_gate {s : GS} (h : GOK s) (k a : Int32) : GOK (s_gate s k a).2 := by
  unfold s_gate; repeat' split
  all_goals first | exact h.rf _ | exact h.y (Nat.le_succ _)
theorem g_cart {s : GS} (h : GOK s) (c : Int32) : GOK (s_cart s c).2 := by
  unfold s_cart; repeat' split
  all_goals first | exact h.rf _ | exact h.y (Nat.le_refl _)
theorem g_place {s : GS} (h : GOK s) (k v : Int32) : GOK (s_place s k v).2 := by
  unfold s_place; repeat' split
  all_goals first | exact h.rf _ | exact h.y (Nat.le_refl _)
theorem g_paint {s : GS} (h : GOK s) (k v : Int32) : GOK (s_paint s k v).2 := by
  unfold s_paint; repeat' split
  all_goals first | exact h.rf _ | exact h.y (Nat.le_refl _)
theorem g_tell {s : GS} (h : GOK s) (g f t : Int32) : GOK (s_tell s g f t).2 := by
  unfold s_tell; repeat' split
  all_goals first | exact h.rf _ | exact h.y (Nat.le_refl _)
theorem g_share {s : GS} (h : GOK s) (g o : Int32) : GOK (s_share s g o).2 := by
  unfold s_share; repeat' split
  all_goals first | exact h.rf _ | exact h | exact h.y (Nat.le_refl _)
theorem g_feed {s : GS} (h : GOK s) (x : Int32) : GOK (s_feed s x).2 := by
  unfold s_feed; repeat' split
  all_goals first | exact h.rf _ | exact h.t _ _
theorem g_wipe {s : GS} (h : GOK s) : GOK (s_wipe s).2 := h.t _ _
theorem g_gateOf {s : GS} (h : GOK s) (k v : Int32) : GOK (s_gateOf s k v).2 := by
  unfold s_gateOf; repeat' split
  all_goals first | exact h.rf _ | exact h
theorem g_cartOf {s : GS} (h : GOK s) (k v : Int32) : GOK (s_cartOf s k v).2 := by
  unfold s_cartOf; repeat' split
  all_goals first | exact h.rf _ | exact h
theorem g_opens {s : GS} (h : GOK s) (k : Int32) : GOK (s_opens s k).2 := by
  unfold s_opens; repeat' split
  all_goals first | exact h.rf _ | exact h
theorem g_tries {s : GS} (h : GOK s) (k : Int32) : GOK (s_tries s k).2 := by
  unfold s_tries; repeat' split
  all_goals first | exact h.rf _ | exact h.y (Nat.le_of_eq (tryY_n _ _).2.1.symm)
theorem g_judge {s : GS} (h : GOK s) (x n : Int32) : GOK (s_judge s x n).2 := by
  unfold s_judge; repeat' split
  all_goals first | exact h.rf _ | exact h
theorem g_morning {s : GS} (h : GOK s) (x n : Int32) : GOK (s_morning s x n).2 := by
  unfold s_morning; repeat' split
  all_goals first | exact h.rf _ | exact h.y (Nat.le_of_eq (gW_n _ _ _ _).2.1.symm)
theorem g_behind {s : GS} (h : GOK s) (x n c : Int32) : GOK (s_behind s x n c).2 := by
  unfold s_behind; repeat' split
  all_goals first | exact h.rf _ | exact h
theorem g_stuck {s : GS} (h : GOK s) (x n : Int32) : GOK (s_stuck s x n).2 := by
  unfold s_stuck; repeat' split
  all_goals first | exact h.rf _ | exact h
theorem sZ_g (y : YS) (z : Int32) : Yg (sZ y z) = Yg y := rfl
theorem GOK.H {s : GS} {H : Nat → SHT} (e : ∀ x, x < 8 → Hk (H x) = 2 → Hg (H x) < Yg (gY s)) : GOK (pH s H) := e
theorem drv_g : ∀ m y t, Yg (drv m y t).2 = Yg y := by
  intro m
  induction m with
  | zero => intro y t; rfl
  | succ m ih =>
    intro y t
    rw [drv_s]
    split
    · rfl
    · rw [ih, (tryY_n _ _).2.1]; exact sZ_g _ _
theorem g_drive {s : GS} (h : GOK s) (n : Int32) : GOK (s_drive s n).2 := by
  unfold s_drive; repeat' split
  all_goals first | exact h.rf _ | exact h.y (Nat.le_of_eq (drv_g _ _ _).symm)
theorem g_home {s : GS} (h : GOK s) : GOK (s_home s).2 := h.y (Nat.le_refl _)
theorem g_seed {s : GS} (h : GOK s) (v : Int32) : GOK (s_seed s v).2 := h.y (Nat.le_refl _)
theorem g_image {s : GS} (h : GOK s) : GOK (s_image s).2 := h.k _
theorem bkH_g (k : YS) : ∀ m i H x, (Hk (bkH k m i H x) = 2 → Hk (H x) = 2 ∧ (i ≤ x → x < i + m → Hg (bkH k m i H x) < Yg k)) ∧ (Hk (bkH k m i H x) = 2 → Hg (bkH k m i H x) = Hg (H x)) := by
  intro m
  induction m with
  | zero => intro i H x; exact ⟨fun h => ⟨h, fun h1 h2 => by omega⟩, fun _ => rfl⟩
  | succ m ih =>
    intro i H x
    have e : bkH k (m + 1) i H = bkH k m (i + 1) (if Hk (H i) = 2 ∧ Yg k ≤ Hg (H i) then fup H i (sMk 0 0 0 0 (He (H i))) else H) := rfl
    rw [e]
    obtain ⟨i1, i2⟩ := ih (i + 1) (if Hk (H i) = 2 ∧ Yg k ≤ Hg (H i) then fup H i (sMk 0 0 0 0 (He (H i))) else H) x
    generalize hG : bkH k m (i + 1) (if Hk (H i) = 2 ∧ Yg k ≤ Hg (H i) then fup H i (sMk 0 0 0 0 (He (H i))) else H) x = G at *
    by_cases c : Hk (H i) = 2 ∧ Yg k ≤ Hg (H i)
    · rw [if_pos c] at i1 i2
      by_cases w : x = i
      · rw [w, fup_s] at i1 i2
        exact ⟨fun h => absurd (show (0 : Nat) = 2 from (i1 h).1) (by decide), fun h => absurd (show (0 : Nat) = 2 from (i1 h).1) (by decide)⟩
      · rw [fup_n _ _ w] at i1 i2
        exact ⟨fun h => ⟨(i1 h).1, fun h1 h2 => (i1 h).2 (by omega) (by omega)⟩, i2⟩
    · rw [if_neg c] at i1 i2
      refine ⟨fun h => ⟨(i1 h).1, fun h1 h2 => ?_⟩, i2⟩
      by_cases w : x = i
      · have a := i2 h
        have b := (i1 h).1
        rw [w] at a b
        omega
      · exact (i1 h).2 (by omega) (by omega)
theorem g_back {s : GS} (h : GOK s) : GOK (s_back s).2 := by
  unfold s_back
  split
  · exact h.rf _
  · rename_i k _
    have key : ∀ H, (∀ x, x < 8 → Hk (H x) = 2 → Hg (H x) < Yg k) → GOK (pH (pY s k) H) := fun H e => GOK.H (s := pY s k) e
    exact key _ (fun x hx h2 => ((bkH_g k 8 0 (gH s) x).1 h2).2 (Nat.zero_le _) (by omega))
theorem g_status {s : GS} (h : GOK s) (w : Int32) : GOK (s_status s w).2 := by
  unfold s_status; split <;> exact h
theorem g_makes {s : GS} (h : GOK s) (x n g w : Int32) : GOK (s_makes s x n g w).2 := by
  unfold s_makes; split <;> first | exact h | exact h.rf _
theorem g_stream {s : GS} (h : GOK s) (x n g w : Int32) : GOK (s_stream s x n g w).2 := by
  unfold s_stream; split <;> first | exact h | exact h.rf _
theorem g_scratched {s : GS} (h : GOK s) (x n g w : Int32) : GOK (s_scratched s x n g w).2 := by
  unfold s_scratched; split <;> first | exact h | exact h.rf _
theorem g_sets {s : GS} (h : GOK s) (g w : Int32) : GOK (s_sets s g w).2 := by
  unfold s_sets; split <;> first | exact h | exact h.rf _
theorem g_know {s : GS} (h : GOK s) (g : Int32) : GOK (s_know s g).2 := by
  unfold s_know; split <;> first | exact h | exact h.rf _
theorem g_lock {s : GS} (h : GOK s) (g : Int32) : GOK (s_lock s g).2 := by
  unfold s_lock; split <;> first | exact h | exact h.rf _
theorem g_key {s : GS} (h : GOK s) (g i : Int32) : GOK (s_key s g i).2 := by
  unfold s_key; repeat' split
  all_goals first | exact h | exact h.rf _
theorem g_out {s : GS} (h : GOK s) (w : Int32) : GOK (s_out s w).2 := by
  unfold s_out; repeat' split
  all_goals first | exact h | exact h.rf _
theorem g_way {s : GS} (h : GOK s) (w : Int32) : GOK (s_way s w).2 := by
  unfold s_way; repeat' split
  all_goals first | exact h | exact h.rf _
theorem g_harm {s : GS} (h : GOK s) (g w : Int32) : GOK (s_harm s g w).2 := by
  unfold s_harm; repeat' split
  all_goals first | exact h | exact h.rf _
theorem g_foe {s : GS} (h : GOK s) : GOK (s_foe s).2 := by
  unfold s_foe; repeat' split
  all_goals first | exact h | exact h.rf _
theorem stK2_g {n g c : Nat} {b : Nat → Nat} {y : YS} {t : Nat × Nat × Nat} {r : YS × (Nat × Nat × Nat)} (h : stKnows2 n b y g c t = .inl r) : Yg r.1 = Yg y := by
  unfold stKnows2 at h
  split at h
  · split at h
    · cases h; rfl
    · cases h
  · cases h; rfl
theorem stK_g {n g : Nat} {b : Nat → Nat} {y : YS} {t : Nat × Nat × Nat} {r : YS × (Nat × Nat × Nat)} (h : stKnows n b y g t = .inl r) : Yg r.1 = Yg y := by
  unfold stKnows at h
  split at h
  · split at h
    · have := stK2_g h; exact this
    · cases h
  · cases h; rfl
theorem stS_g {n : Nat} {b : Nat → Nat} {y : YS} {t : Nat × Nat × Nat} {r : YS × (Nat × Nat × Nat)} (h : stS n b y t = .inl r) : Yg y ≤ Yg r.1 := by
  unfold stS at h
  split at h
  · unfold stColours at h
    split at h
    · split at h
      · cases h; exact Nat.le_refl _
      · cases h
    · cases h
  · split at h
    · unfold stGate at h
      split at h
      · split at h
        · split at h
          · have := stK_g h
            rw [this]; exact Nat.le_succ _
          · cases h
        · cases h
      · cases h
    · split at h
      · unfold stCart at h
        split at h
        · split at h
          · unfold stAt at h
            split at h
            · split at h
              · cases h; exact Nat.le_refl _
              · cases h
            · cases h; exact Nat.le_refl _
          · cases h
        · cases h
      · split at h
        · unfold stShare at h
          split at h
          · split at h
            · cases h; exact Nat.le_refl _
            · cases h
          · cases h
        · split at h
          · unfold stForget at h
            split at h
            · cases h; exact Nat.le_refl _
            · cases h
          · cases h
theorem rdS_g (n : Nat) (b : Nat → Nat) : ∀ m y t k k' y', rdS n b m y t k = .inl (k', y') → Yg y ≤ Yg y' := by
  intro m
  induction m with
  | zero => intro y t k k' y' h; cases h
  | succ m ih =>
    intro y t k k' y' h
    rw [rdS_s] at h
    cases e : stS n b y t with
    | inr p => rw [e] at h; cases h
    | inl r =>
      rw [e] at h
      have g := stS_g e
      have h : rd3 n b m r.1 r.2 k = .inl (k', y') := h
      unfold rd3 at h
      split at h
      · cases h; exact g
      · split at h
        · exact Nat.le_trans g (ih _ _ _ _ _ h)
        · cases h
theorem g_yard {s : GS} (h : GOK s) : GOK (s_yard s).2 := by
  unfold s_yard
  cases e : rdY (gn s) (gb s) (gY s) with
  | inl r =>
    obtain ⟨k, y⟩ := r
    exact (h.t 0 (gb s)).y (rdS_g _ _ _ _ _ _ _ _ e)
  | inr p => exact h
