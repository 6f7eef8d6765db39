/-! switches -/
theorem i32_eq {x : Int32} {k : Int} (h0 : 0 ≤ k) (h1 : k < 1000) : x = Int32.ofInt k ↔ x.toInt = k := by
  have e : (Int32.ofInt k).toInt = k := by
    first
      | exact Int32.toInt_ofInt_of_le (by omega) (by omega)
      | (rw [Int32.toInt_ofInt]; exact Int.bmod_eq_of_le (by omega) (by omega))
  constructor
  · intro h; rw [h, e]
  · intro h; exact Int32.toInt_inj.mp (by rw [h, e])
theorem swT_at {y pc : Nat} : ∀ {ts : List Nat} {offs : List Int} {lo : Int}, brks y pc ts offs = true → 0 ≤ lo → lo + offs.length ≤ 1000 → ∀ (x : Int32) (d : Nat), (∃ n : Nat, x.toInt = lo + n ∧ n < offs.length ∧ offs[n]? = some ((pcOf y (swT ts lo x d) : Int) - pc)) ∨ ((x.toInt < lo ∨ lo + offs.length ≤ x.toInt) ∧ swT ts lo x d = d) := by
  intro ts
  induction ts with
  | nil =>
    intro offs lo hb h0 h1 x d
    unfold brks at hb
    simp only [Bool.and_eq_true, decide_eq_true_eq] at hb
    have hl : offs.length = 0 := hb.1.symm
    refine Or.inr ⟨?_, rfl⟩
    rw [hl]
    omega
  | cons t l ih =>
    intro offs lo hb h0 h1 x d
    unfold brks at hb
    simp only [Bool.and_eq_true, decide_eq_true_eq] at hb
    cases offs with
    | nil => cases hb.1
    | cons o os =>
      simp only [List.zip_cons_cons, List.all_cons, Bool.and_eq_true, List.length_cons] at hb
      have h1 : lo + (os.length + 1 : Nat) ≤ 1000 := h1
      obtain ⟨hb1, hb2, hb3⟩ := hb
      have hb2 := of_decide_eq_true hb2
      by_cases hx : x = Int32.ofInt lo
      · have e : swT (t :: l) lo x d = t := by unfold swT; rw [if_pos hx]
        rw [e]
        refine Or.inl ⟨0, by have := (i32_eq h0 (by omega)).mp hx; omega, by simp, ?_⟩
        show some o = _
        rw [hb2]
        congr 1
        omega
      · have e : swT (t :: l) lo x d = swT l (lo + 1) x d := by rw [swT]; rw [if_neg hx]
        rw [e]
        have hne : ¬ x.toInt = lo := fun q => hx ((i32_eq h0 (by omega)).mpr q)
        rcases ih (offs := os) (lo := lo + 1) (by unfold brks; simp only [Bool.and_eq_true, decide_eq_true_eq]; exact ⟨by omega, hb3⟩) (by omega) (by omega) x d with ⟨n, n1, n2, n3⟩ | ⟨n1, n2⟩
        · exact Or.inl ⟨n + 1, by omega, by simp; omega, by rw [List.getElem?_cons_succ]; exact n3⟩
        · refine Or.inr ⟨?_, n2⟩
          rw [List.length_cons]
          omega
theorem swL_at {y pc : Nat} {dflt : Int} (x : Int32) {d : Nat} (hd : (pcOf y d : Int) = (pc : Int) + dflt) : ∀ {ps : List (Int × Int)} {ts : List Nat}, brks y pc ts (ps.map fun q => q.2) = true → ps.all (fun q => decide (0 ≤ q.1 ∧ q.1 < 1000)) = true → (pcOf y (swL ps ts x d) : Int) = (pc : Int) + Op.lookupswitch.offset ps dflt x.toInt := by
  intro ps
  induction ps with
  | nil =>
    intro ts hb hk
    unfold swL
    rw [Op.lookupswitch.offset_nil]
    exact hd
  | cons q l ih =>
    intro ts hb hk
    obtain ⟨k, o⟩ := q
    unfold brks at hb
    simp only [Bool.and_eq_true, decide_eq_true_eq] at hb
    cases ts with
    | nil => have := hb.1; simp at this
    | cons t l2 =>
      simp only [List.map_cons, List.zip_cons_cons, List.all_cons, Bool.and_eq_true, List.length_cons] at hb
      simp only [List.all_cons, Bool.and_eq_true, decide_eq_true_eq] at hk
      obtain ⟨hb1, hb2, hb3⟩ := hb
      have hb2 := of_decide_eq_true hb2
      rw [Op.lookupswitch.offset_cons]
      by_cases hx : x = Int32.ofInt k
      · have e : swL ((k, o) :: l) (t :: l2) x d = t := by unfold swL; rw [if_pos hx]
        rw [e, if_pos ((i32_eq hk.1.1 hk.1.2).mp hx).symm]
        exact hb2
      · have e : swL ((k, o) :: l) (t :: l2) x d = swL l l2 x d := by rw [swL]; rw [if_neg hx]
        rw [e, if_neg (fun g => hx ((i32_eq hk.1.1 hk.1.2).mpr g.symm))]
        exact ih (by unfold brks; simp only [Bool.and_eq_true, decide_eq_true_eq]; exact ⟨by omega, hb3⟩) (by simpa using hk.2)
