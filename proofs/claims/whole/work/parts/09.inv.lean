/-! what a step that goes on has seen; sizes grow -/
theorem pI_inv {st : List Value} {k : Int32 → List Value → Act} {a : (Nat × LL × List Value × AH) ⊕ ((Nat × List Value × LL × Nat × List Value) ⊕ RR)} (h : pI st k = some a) : ∃ v r, st = .int v :: r ∧ k v r = some a := by
  unfold pI at h
  split at h
  · exact ⟨_, _, rfl, h⟩
  · cases h
theorem pJ_inv {st : List Value} {k : Int64 → List Value → Act} {a : (Nat × LL × List Value × AH) ⊕ ((Nat × List Value × LL × Nat × List Value) ⊕ RR)} (h : pJ st k = some a) : ∃ v r, st = .long v :: r ∧ k v r = some a := by
  unfold pJ at h
  split at h
  · exact ⟨_, _, rfl, h⟩
  · cases h
theorem pR_inv {st : List Value} {k : Nat → List Value → Act} {a : (Nat × LL × List Value × AH) ⊕ ((Nat × List Value × LL × Nat × List Value) ⊕ RR)} (h : pR st k = some a) : ∃ v r, st = .ref v :: r ∧ k v r = some a := by
  unfold pR at h
  split at h
  · exact ⟨_, _, rfl, h⟩
  · cases h
theorem pV_inv {st : List Value} {k : Value → List Value → Act} {a : (Nat × LL × List Value × AH) ⊕ ((Nat × List Value × LL × Nat × List Value) ⊕ RR)} (h : pV st k = some a) : ∃ v r, st = v :: r ∧ v.category = 1 ∧ k v r = some a := by
  unfold pV at h
  split at h
  · split at h
    · rename_i hc; exact ⟨_, _, rfl, hc, h⟩
    · cases h
  · cases h
theorem gd_inv {c : Prop} [Decidable c] {k : Act} {a : (Nat × LL × List Value × AH) ⊕ ((Nat × List Value × LL × Nat × List Value) ⊕ RR)} (h : gd c k = some a) : c ∧ k = some a := by
  unfold gd at h
  split at h
  · rename_i hc; exact ⟨hc, h⟩
  · cases h
theorem g2_inv {α : Type} {o : Option α} {k : α → Act} {a : (Nat × LL × List Value × AH) ⊕ ((Nat × List Value × LL × Nat × List Value) ⊕ RR)} (h : g2 o k = some a) : ∃ v, o = some v ∧ k v = some a := by
  unfold g2 at h
  split at h
  · exact ⟨_, rfl, h⟩
  · cases h
theorem acp_inv {st : List Value} {k : Nat → Int32 → Nat → Int32 → Int32 → List Value → Act} {a : (Nat × LL × List Value × AH) ⊕ ((Nat × List Value × LL × Nat × List Value) ⊕ RR)} (h : acp st k = some a) : ∃ s0 sp d0 dp n r, st = .int n :: .int dp :: .ref d0 :: .int sp :: .ref s0 :: r ∧ k s0 sp d0 dp n r = some a := by
  unfold acp at h
  split at h
  · exact ⟨_, _, _, _, _, _, rfl, h⟩
  · cases h
theorem ldI_inv {L : LL} {j : Nat} {v : Int32} (h : (ldV L j).bind asI = some v) : ldV L j = some (.int v) := by
  cases hv : ldV L j with
  | none => rw [hv] at h; cases h
  | some w => rw [hv] at h; cases w <;> first | (cases h; rfl) | cases h
theorem ldJ_inv {L : LL} {j : Nat} {v : Int64} (h : (ldV L j).bind asJ = some v) : ldV L j = some (.long v) := by
  cases hv : ldV L j with
  | none => rw [hv] at h; cases h
  | some w => rw [hv] at h; cases w <;> first | (cases h; rfl) | cases h
theorem ldR_inv {L : LL} {j : Nat} {v : Nat} (h : (ldV L j).bind asR = some v) : ldV L j = some (.ref v) := by
  cases hv : ldV L j with
  | none => rw [hv] at h; cases h
  | some w => rw [hv] at h; cases w <;> first | (cases h; rfl) | cases h
/-- what never shrinks, and what never changes -/
def ext (h h' : AH) : Prop := hN h ≤ hN h' ∧ hU h ≤ hU h' ∧ hK h' = hK h ∧ hX h' = hX h
theorem ext.rf (h : AH) : ext h h := ⟨Nat.le_refl _, Nat.le_refl _, rfl, rfl⟩
theorem ext.tr {h h' h2 : AH} (a : ext h h') (b : ext h' h2) : ext h h2 := ⟨Nat.le_trans a.1 b.1, Nat.le_trans a.2.1 b.2.1, b.2.2.1.trans a.2.2.1, b.2.2.2.trans a.2.2.2⟩
theorem ext_stI (h : AH) (a k : Nat) (v : Int32) : ext h (stI h a k v) := ⟨Nat.le_refl _, Nat.le_refl _, rfl, rfl⟩
theorem ext_stL (h : AH) (a k : Nat) (v : Int64) : ext h (stL h a k v) := ⟨Nat.le_refl _, Nat.le_refl _, rfl, rfl⟩
theorem ext_stR (h : AH) (a k : Nat) (v : Option Nat) : ext h (stR h a k v) := ⟨Nat.le_refl _, Nat.le_refl _, rfl, rfl⟩
theorem ext_cpI (h : AH) (a sp b dp n : Nat) : ext h (cpI h a sp b dp n) := ⟨Nat.le_refl _, Nat.le_refl _, rfl, rfl⟩
theorem ext_cpL (h : AH) (a sp b dp n : Nat) : ext h (cpL h a sp b dp n) := ⟨Nat.le_refl _, Nat.le_refl _, rfl, rfl⟩
theorem ext_newC (h : AH) (sh : Nat × Nat) (u : Nat) : ext h (newC h sh u) := ⟨Nat.le_succ _, Nat.le_add_right _ _, rfl, rfl⟩
theorem ext_newM (h : AH) (t t' n k : Nat) : ext h (newM h t t' n k) := ⟨by show hN h ≤ hN h + 1 + n; omega, by show hU h ≤ hU h + n + n * k; omega, rfl, rfl⟩
/-- what an action leaves of the heap -/
def actH (a : (Nat × LL × List Value × AH) ⊕ ((Nat × List Value × LL × Nat × List Value) ⊕ RR)) (h : AH) : AH := match a with
  | .inl q => q.2.2.2
  | .inr (.inl _) => h
  | .inr (.inr r) => r.2
theorem stepA_ext {y ix : Nat} {L : LL} {st : List Value} {h : AH} {a : (Nat × LL × List Value × AH) ⊕ ((Nat × List Value × LL × Nat × List Value) ⊕ RR)} (ha : stepA y ix L st h = some a) : ext h (actH a h) := by
  unfold stepA at ha
  split at ha
  · rename_i q hq
    unfold opA at ha
    split at ha
    · unfold invA at ha
      split at ha
      · obtain ⟨-, ha⟩ := gd_inv ha
        obtain ⟨-, ha⟩ := gd_inv ha
        cases ha; exact ext.rf h
      · obtain ⟨_, _, _, _, _, _, -, ha⟩ := acp_inv ha
        obtain ⟨-, ha⟩ := gd_inv ha
        split at ha
        · obtain ⟨-, ha⟩ := gd_inv ha
          cases ha; exact ext_cpI _ _ _ _ _ _
        · obtain ⟨-, ha⟩ := gd_inv ha
          cases ha; exact ext_cpL _ _ _ _ _ _
      · obtain ⟨_, _, -, ha⟩ := pI_inv ha
        obtain ⟨_, _, -, ha⟩ := pI_inv ha
        obtain ⟨-, ha⟩ := gd_inv ha
        cases ha; exact ext.rf h
      · obtain ⟨-, ha⟩ := gd_inv ha
        obtain ⟨_, _, -, ha⟩ := pR_inv ha
        obtain ⟨-, ha⟩ := gd_inv ha
        obtain ⟨-, ha⟩ := gd_inv ha
        cases ha; exact ext.rf h
      · obtain ⟨_, _, -, ha⟩ := pR_inv ha
        obtain ⟨-, ha⟩ := gd_inv ha
        obtain ⟨_, -, ha⟩ := g2_inv ha
        cases ha; exact ext.rf h
      · obtain ⟨_, _, -, ha⟩ := pI_inv ha
        obtain ⟨_, _, -, ha⟩ := pR_inv ha
        obtain ⟨-, ha⟩ := gd_inv ha
        obtain ⟨_, -, ha⟩ := g2_inv ha
        obtain ⟨-, ha⟩ := gd_inv ha
        cases ha; exact ext.rf h
      · obtain ⟨-, ha⟩ := gd_inv ha
        obtain ⟨_, _, -, ha⟩ := pR_inv ha
        obtain ⟨-, ha⟩ := gd_inv ha
        cases ha; exact ext.rf h
      · obtain ⟨_, _, -, ha⟩ := pR_inv ha
        obtain ⟨-, ha⟩ := gd_inv ha
        cases ha; exact ext.rf h
      · cases ha
    · unfold retA at ha
      split at ha
      · cases ha; exact ext.rf h
      · obtain ⟨-, ha⟩ := gd_inv ha
        cases ha; exact ext.rf h
      · cases ha; exact ext.rf h
      · cases ha; exact ext.rf h
      · cases ha; exact ext.rf h
      · cases ha
    · unfold fldA at ha
      split at ha
      all_goals first
        | (obtain ⟨_, _, -, ha⟩ := pR_inv ha; obtain ⟨-, ha⟩ := gd_inv ha; cases ha; exact ext.rf h)
        | (obtain ⟨_, _, -, ha⟩ := pI_inv ha; obtain ⟨_, _, -, ha⟩ := pR_inv ha; obtain ⟨-, ha⟩ := gd_inv ha; cases ha; exact ext_stI _ _ _ _)
        | (obtain ⟨_, _, -, ha⟩ := pR_inv ha; obtain ⟨_, _, -, ha⟩ := pR_inv ha; obtain ⟨-, ha⟩ := gd_inv ha; cases ha; exact ext_stR _ _ _ _)
        | cases ha
    · unfold arrA at ha
      split at ha
      all_goals first
        | (obtain ⟨_, _, -, ha⟩ := pI_inv ha; obtain ⟨_, _, -, ha⟩ := pR_inv ha; obtain ⟨-, ha⟩ := gd_inv ha; cases ha; exact ext.rf h)
        | (obtain ⟨_, _, -, ha⟩ := pI_inv ha; obtain ⟨_, _, -, ha⟩ := pI_inv ha; obtain ⟨_, _, -, ha⟩ := pR_inv ha; obtain ⟨-, ha⟩ := gd_inv ha; cases ha; exact ext_stI _ _ _ _)
        | (obtain ⟨_, _, -, ha⟩ := pJ_inv ha; obtain ⟨_, _, -, ha⟩ := pI_inv ha; obtain ⟨_, _, -, ha⟩ := pR_inv ha; obtain ⟨-, ha⟩ := gd_inv ha; cases ha; exact ext_stL _ _ _ _)
        | (obtain ⟨_, _, -, ha⟩ := pR_inv ha; obtain ⟨_, _, -, ha⟩ := pI_inv ha; obtain ⟨_, _, -, ha⟩ := pR_inv ha; obtain ⟨-, ha⟩ := gd_inv ha; cases ha; exact ext_stR _ _ _ _)
        | (obtain ⟨_, _, -, ha⟩ := pR_inv ha; obtain ⟨_, -, ha⟩ := g2_inv ha; cases ha; exact ext.rf h)
        | cases ha
    · unfold newA at ha
      split at ha
      · cases ha; exact ext_newC _ _ _
      · obtain ⟨_, _, -, ha⟩ := pI_inv ha; obtain ⟨-, ha⟩ := gd_inv ha; cases ha; exact ext_newC _ _ _
      · obtain ⟨_, _, -, ha⟩ := pI_inv ha; obtain ⟨-, ha⟩ := gd_inv ha; cases ha; exact ext_newC _ _ _
      · obtain ⟨_, _, -, ha⟩ := pI_inv ha; obtain ⟨_, _, -, ha⟩ := pI_inv ha; obtain ⟨-, ha⟩ := gd_inv ha; cases ha; exact ext_newM _ _ _ _ _
      · cases ha
    · unfold locA at ha
      split at ha
      all_goals first
        | (obtain ⟨_, -, ha⟩ := g2_inv ha; cases ha; exact ext.rf h)
        | (obtain ⟨_, _, -, ha⟩ := pI_inv ha; obtain ⟨-, ha⟩ := gd_inv ha; cases ha; exact ext.rf h)
        | (obtain ⟨_, _, -, ha⟩ := pR_inv ha; obtain ⟨-, ha⟩ := gd_inv ha; cases ha; exact ext.rf h)
        | (obtain ⟨_, _, -, ha⟩ := pJ_inv ha; obtain ⟨-, ha⟩ := gd_inv ha; cases ha; exact ext.rf h)
        | (obtain ⟨_, -, ha⟩ := g2_inv ha; obtain ⟨-, ha⟩ := gd_inv ha; cases ha; exact ext.rf h)
        | cases ha
    · unfold stkA at ha
      split at ha
      all_goals first
        | (cases ha; exact ext.rf h)
        | (split at ha <;> (cases ha; exact ext.rf h))
        | (obtain ⟨_, _, -, -, ha⟩ := pV_inv ha; cases ha; exact ext.rf h)
        | (obtain ⟨_, _, -, -, ha⟩ := pV_inv ha; obtain ⟨_, _, -, -, ha⟩ := pV_inv ha; cases ha; exact ext.rf h)
        | cases ha
    · unfold jmpA at ha
      split at ha
      all_goals first
        | (cases ha; exact ext.rf h)
        | (obtain ⟨_, _, -, ha⟩ := pI_inv ha; cases ha; exact ext.rf h)
        | (obtain ⟨_, _, -, ha⟩ := pI_inv ha; obtain ⟨_, _, -, ha⟩ := pI_inv ha; cases ha; exact ext.rf h)
        | (split at ha <;> first | (cases ha; exact ext.rf h) | cases ha)
        | cases ha
    · unfold binA at ha
      split at ha
      all_goals first
        | (obtain ⟨_, _, -, ha⟩ := pI_inv ha; cases ha; exact ext.rf h)
        | (obtain ⟨_, _, -, ha⟩ := pJ_inv ha; cases ha; exact ext.rf h)
        | (obtain ⟨_, _, -, ha⟩ := pI_inv ha; obtain ⟨_, _, -, ha⟩ := pI_inv ha; cases ha; exact ext.rf h)
        | (obtain ⟨_, _, -, ha⟩ := pI_inv ha; obtain ⟨_, _, -, ha⟩ := pJ_inv ha; cases ha; exact ext.rf h)
        | (obtain ⟨_, _, -, ha⟩ := pJ_inv ha; obtain ⟨_, _, -, ha⟩ := pJ_inv ha; cases ha; exact ext.rf h)
        | (obtain ⟨_, _, -, ha⟩ := pI_inv ha; obtain ⟨_, _, -, ha⟩ := pI_inv ha; obtain ⟨-, ha⟩ := gd_inv ha; cases ha; exact ext.rf h)
        | (obtain ⟨_, _, -, ha⟩ := pJ_inv ha; obtain ⟨_, _, -, ha⟩ := pJ_inv ha; obtain ⟨-, ha⟩ := gd_inv ha; cases ha; exact ext.rf h)
        | cases ha
  · cases ha
theorem run_ext {n : Nat} : ∀ {d y ix : Nat} {L : LL} {st : List Value} {h : AH} {r : RR}, run n d y ix L st h = some r → ext h r.2 := by
  induction n with
  | zero => intro d y ix L st h r hr; cases hr
  | succ n ih =>
    intro d y ix L st h r hr
    have hr : stepE (run n) d y ix L st h = some r := hr
    unfold stepE at hr
    split at hr
    · cases hr
    · rename_i q hq
      exact (stepA_ext hq).tr (ih hr)
    · rename_i q hq
      split at hr
      · cases hr
      · obtain ⟨r1, h1, h2⟩ := Option.bind_eq_some_iff.mp hr
        exact (ih h1).tr (ih h2)
    · rename_i q hq
      cases hr
      exact stepA_ext hq
