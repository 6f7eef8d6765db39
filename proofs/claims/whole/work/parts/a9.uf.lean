/-! SEARCHES of the reference: what the table comes to -/
def inQ (q : Nat) (Q : Nat → Nat) (t : Nat) : Prop := ∃ i, i < q ∧ Q i = t
def QI (y : YS) (f : Nat → Int32) (q : Nat) (Q : Nat → Nat) : Prop := (∀ i, i < q → VN y (Q i) ∧ f (Q i) = if glN y (Q i) = true then nI 0 else nI 30000) ∧ (∀ a b, a < q → b < q → Q a = Q b → a = b) ∧ ∀ t, VN y t → f t = qI 0 ∨ inQ q Q t
theorem ne30 (b : Bool) : (if b = true then nI 0 else nI 30000) ≠ qI 0 := by cases b <;> decide
theorem QI.not {y : YS} {f : Nat → Int32} {q : Nat} {Q : Nat → Nat} (x : QI y f q Q) {t : Nat} (h : f t = qI 0) : ∀ i, i < q → Q i ≠ t := fun i hi e => by
  have := (x.1 i hi).2
  rw [e, h] at this
  exact ne30 _ this.symm
theorem QI.new {y : YS} {f : Nat → Int32} {q : Nat} {Q : Nat → Nat} (x : QI y f q Q) {t : Nat} (v : VN y t) (h : f t = qI 0) : QI y (fup f t (if glN y t = true then nI 0 else nI 30000)) (q + 1) (fup Q q t) := by
  have nt := x.not h
  refine ⟨fun i hi => ?_, fun a b ha hb e => ?_, fun t' ht' => ?_⟩
  · by_cases w : i = q
    · rw [w, fup_s, fup_s]; exact ⟨v, rfl⟩
    · rw [fup_n _ _ w, fup_n _ _ (nt i (by omega))]; exact x.1 i (by omega)
  · by_cases wa : a = q
    · by_cases wb : b = q
      · omega
      · rw [wa, fup_s, fup_n _ _ wb] at e
        exact absurd e.symm (nt b (by omega))
    · by_cases wb : b = q
      · rw [wb, fup_s, fup_n _ _ wa] at e
        exact absurd e (nt a (by omega))
      · rw [fup_n _ _ wa, fup_n _ _ wb] at e
        exact x.2.1 a b (by omega) (by omega) e
  · by_cases w : t' = t
    · exact Or.inr ⟨q, by omega, by rw [fup_s, w]⟩
    · rw [fup_n _ _ w]
      rcases x.2.2 t' ht' with z | ⟨i, i1, i2⟩
      · exact Or.inl z
      · exact Or.inr ⟨i, by omega, by rw [fup_n _ _ (by omega)]; exact i2⟩
theorem QI.le {y : YS} (h3 : Yg y ≤ 3) (n3 : Yn y ≤ 3) {f : Nat → Int32} {q : Nat} {Q : Nat → Nat} (x : QI y f q Q) : q ≤ sts y := pig (sts y) q (fun i => rho y (Q i)) (fun a b ha hb e => x.2.1 a b ha hb (rho_inj h3 n3 (x.1 a ha).1 (x.1 b hb).1 e)) (fun a ha => rho_lt h3 n3 (x.1 a ha).1)
theorem inQ.mono {q q' : Nat} {Q Q' : Nat → Nat} {t : Nat} (x : inQ q Q t) (h : q ≤ q') (e : ∀ i, i < q → Q' i = Q i) : inQ q' Q' t := by
  obtain ⟨i, i1, i2⟩ := x
  exact ⟨i, by omega, by rw [e i i1]; exact i2⟩
/-- all steps of the first i states are there -/
def CL (y : YS) (q : Nat) (Q : Nat → Nat) (i : Nat) : Prop := ∀ j, j < i → ∀ k, k < Yn y → plc (Q j) k < Yg y → inQ q Q (stN y (Q j) k)
def costN (y : YS) (F : Nat → Nat) (t k : Nat) : Nat := if plc t k < Yg y then (if F (stN y t k) = 30000 then 30000 else F (stN y t k) + (if ltN y t (plc t k) (YC y k) = true then 1 else 101)) else 30000
def FV (y : YS) (q : Nat) (Q : Nat → Nat) (F : Nat → Nat) : Prop := ∀ i, i < q → F (Q i) ≤ 30000 ∧ (F (Q i) = 30000 ∨ ∃ n, RE (Yn y) (stN y) (glN y) n (Q i) ∧ F (Q i) + 100 * lsY y (Q i) = 101 * n) ∧ (glN y (Q i) = true → F (Q i) = 0)
theorem FV.start {y : YS} (ok : YOK y) (h3 : Yg y ≤ 3) (n3 : Yn y ≤ 3) {q : Nat} {Q : Nat → Nat} (v : ∀ i, i < q → VN y (Q i)) : FV y q Q (fun t => if glN y t = true then 0 else 30000) := by
  intro i hi
  dsimp only
  by_cases g : glN y (Q i) = true
  · rw [if_pos g]
    have r : RE (Yn y) (stN y) (glN y) 0 (Q i) := g
    have := lsY_RE ok h3 n3 0 (Q i) (v i hi) r
    exact ⟨by omega, Or.inr ⟨0, r, by omega⟩, fun _ => rfl⟩
  · rw [if_neg g]
    exact ⟨Nat.le_refl _, Or.inl rfl, fun w => absurd w g⟩
theorem FV.upd {y : YS} (ok : YOK y) (h3 : Yg y ≤ 3) (n3 : Yn y ≤ 3) {q : Nat} {Q F : Nat → Nat} (x : FV y q Q F) (v : ∀ i, i < q → VN y (Q i)) (cl : CL y q Q q) {i k : Nat} (hi : i < q) (hk : k < Yn y) (h : costN y F (Q i) k < F (Q i)) : FV y q Q (fup F (Q i) (costN y F (Q i) k)) := by
  obtain ⟨x1, x2, x3⟩ := x i hi
  have hp : plc (Q i) k < Yg y := Classical.byContradiction fun w => by
    unfold costN at h; rw [if_neg w] at h; omega
  obtain ⟨j, j1, j2⟩ := cl i hi k hk hp
  obtain ⟨z1, z2, z3⟩ := x j j1
  rw [j2] at z1 z2 z3
  have e : costN y F (Q i) k = if F (stN y (Q i) k) = 30000 then 30000 else F (stN y (Q i) k) + (if ltN y (Q i) (plc (Q i) k) (YC y k) = true then 1 else 101) := if_pos hp
  have ne : F (stN y (Q i) k) ≠ 30000 := fun w => by rw [e, if_pos w] at h; omega
  rw [if_neg ne] at e
  rcases z2 with z2 | ⟨n, n1, n2⟩
  · exact absurd z2 ne
  · have ls := lsY_st ok h3 n3 (v i hi) hk hp
    intro j' hj'
    by_cases w : Q j' = Q i
    · rw [w, fup_s]
      refine ⟨by omega, Or.inr ⟨n + 1, ⟨k, hk, n1⟩, ?_⟩, fun g => ?_⟩
      · rw [e]
        cases b : ltN y (Q i) (plc (Q i) k) (YC y k) <;> rw [b] at ls
        · rw [if_neg (by decide)] at ls ⊢
          omega
        · rw [if_pos rfl] at ls ⊢
          omega
      · have := x3 g; omega
    · rw [fup_n _ _ w]; exact x j' hj'
def sm (F Q : Nat → Nat) (q : Nat) : Nat := match q with
  | 0 => 0
  | q + 1 => sm F Q q + F (Q q)
theorem sm_no (F Q : Nat → Nat) (t v : Nat) : ∀ q, (∀ i, i < q → Q i ≠ t) → sm (fup F t v) Q q = sm F Q q := by
  intro q
  induction q with
  | zero => intro _; rfl
  | succ q ih =>
    intro h
    show sm (fup F t v) Q q + fup F t v (Q q) = sm F Q q + F (Q q)
    rw [ih (fun i hi => h i (by omega)), fup_n _ _ (h q (by omega))]
theorem sm_lt {F Q : Nat → Nat} {i v : Nat} (hv : v < F (Q i)) : ∀ q, (∀ a b, a < q → b < q → Q a = Q b → a = b) → i < q → sm (fup F (Q i) v) Q q < sm F Q q := by
  intro q
  induction q with
  | zero => intro _ h; omega
  | succ q ih =>
    intro inj h
    show sm (fup F (Q i) v) Q q + fup F (Q i) v (Q q) < sm F Q q + F (Q q)
    by_cases w : i = q
    · subst w
      rw [fup_s, sm_no F Q (Q i) v i (fun a ha e => by have := inj a i (by omega) (by omega) e; omega)]
      omega
    · have := ih (fun a b ha hb e => inj a b (by omega) (by omega) e) (by omega)
      have n : Q q ≠ Q i := fun e => by have := inj q i (by omega) h e; omega
      rw [fup_n _ _ n]; omega
/-- nothing left to better: the table is right -/
theorem FV.fin {y : YS} (ok : YOK y) (h3 : Yg y ≤ 3) (n3 : Yn y ≤ 3) {q : Nat} {Q F : Nat → Nat} (x : FV y q Q F) (v : ∀ i, i < q → VN y (Q i)) (cl : CL y q Q q) (ni : ∀ i, i < q → ∀ k, k < Yn y → ¬ costN y F (Q i) k < F (Q i)) : ∀ i, i < q → (∀ D, dsY y (Q i) = some D → F (Q i) + 100 * lsY y (Q i) = 101 * D) ∧ (dsY y (Q i) = none → F (Q i) = 30000) := by
  have up : ∀ n, n ≤ 63 → ∀ i, i < q → RE (Yn y) (stN y) (glN y) n (Q i) → F (Q i) + 100 * lsY y (Q i) ≤ 101 * n := by
    intro n
    induction n with
    | zero =>
      intro _ i hi h
      have g : glN y (Q i) = true := h
      have := (x i hi).2.2 g
      have := lsY_RE ok h3 n3 0 (Q i) (v i hi) h
      omega
    | succ n ih =>
      intro hn i hi h
      obtain ⟨k, hk, h⟩ := h
      by_cases hp : plc (Q i) k < Yg y
      · obtain ⟨j, j1, j2⟩ := cl i hi k hk hp
        rw [← j2] at h
        have u := ih (by omega) j j1 h
        rw [j2] at u
        have ne : F (stN y (Q i) k) ≠ 30000 := by omega
        have c := ni i hi k hk
        have e : costN y F (Q i) k = F (stN y (Q i) k) + (if ltN y (Q i) (plc (Q i) k) (YC y k) = true then 1 else 101) := by
          unfold costN; rw [if_pos hp, if_neg ne]
        rw [e] at c
        have ls := lsY_st ok h3 n3 (v i hi) hk hp
        cases b : ltN y (Q i) (plc (Q i) k) (YC y k) <;> rw [b] at ls c
        · rw [if_neg (by decide)] at ls c
          omega
        · rw [if_pos rfl] at ls c
          omega
      · have e : stN y (Q i) k = Q i := by unfold stN; rw [if_neg hp]
        rw [e] at h
        have := ih (by omega) i hi h
        omega
  intro i hi
  refine ⟨fun D hD => ?_, fun hD => ?_⟩
  · have lr := dsT_of hD
    have d63 := LR_63 ok h3 n3 (v i hi) lr
    have u := up D d63 i hi lr.1
    rcases (x i hi).2.1 with w | ⟨n, n1, n2⟩
    · omega
    · rcases Nat.lt_or_ge n D with w | w
      · exact absurd n1 (lr.2 n w)
      · omega
  · rcases (x i hi).2.1 with w | ⟨n, n1, n2⟩
    · exact w
    · exact absurd n1 (dsT_no hD n)
theorem cst_N {y : YS} {f : Nat → Int32} {q : Nat} {Q F : Nat → Nat} (x : FV y q Q F) (cl : CL y q Q q) (tf : ∀ i, i < q → f (Q i) = nI (F (Q i))) {i k : Nat} (hi : i < q) (hk : k < Yn y) : cst y f (Q i) k = nI (costN y F (Q i) k) := by
  unfold cst costN
  by_cases hp : plc (Q i) k < Yg y
  · rw [if_pos hp, if_pos hp]
    obtain ⟨j, j1, j2⟩ := cl i hi k hk hp
    have e := tf j j1
    have l := (x j j1).1
    rw [j2] at e l
    rw [e]
    by_cases w : F (stN y (Q i) k) = 30000
    · rw [if_pos w, w, if_pos rfl]
    · rw [if_neg w, if_neg (fun q => w (by rw [nI_eqs (by omega) (by omega)] at q; exact q))]
      split <;> rw [nI_add]
  · rw [if_neg hp, if_neg hp]
/-- the push, either way -/
theorem c200 (d : Nat) {h0 h : AH} {A : Nat} {s : GS} {W : Nat → Prop} {fa qa n : Nat} {f : Nat → Int32} {q : Nat} {Q : Nat → Nat} (x : FH h0 h A s W fa qa n f q Q) {o t : Nat} {Y : YS} (y : FO h A s o Y) (r : RY (gY s) t Y) (h3 : Yg (gY s) ≤ 3) (n3 : Yn (gY s) ≤ 3) (qi : QI (gY s) f q Q) (p2 : Option Value) : ∃ h' f' q' Q', E (d + 2) 200 0 [some (.ref A), some (.ref o), p2] [] h = some (none, h') ∧ FH h0 h' A s W fa qa n f' q' Q' ∧ FO h' A s o Y ∧ QI (gY s) f' q' Q' ∧ q ≤ q' ∧ (∀ i, i < q → Q' i = Q i) ∧ inQ q' Q' t := by
  rcases qi.2.2 t r.2.1 with w | w
  · have qn := qi.new r.2.1 w
    have ql := qn.le h3 n3
    obtain ⟨h', e, x', y'⟩ := m200n d x y r h3 n3 w (by have := x.2.2.2.2.2.2.2.2.1; omega) p2
    exact ⟨h', _, _, _, e, x', y', qn, by omega, fun i hi => fup_n _ _ (by omega), q, by omega, fup_s _ _ _⟩
  · obtain ⟨i, i1, i2⟩ := id w
    have ne : f t ≠ qI 0 := by
      rw [← i2, (qi.1 i i1).2]; exact ne30 _
    exact ⟨h, f, q, Q, m200o d x y r h3 n3 ne p2, x, y, qi, Nat.le_refl _, fun _ _ => rfl, w⟩
