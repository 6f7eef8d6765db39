/-! BOTH SIDES TOGETHER: one call of each -/
def WD (B l : Nat) : Nat → Prop := fun b => b < B + 48 ∨ b = l
theorem pot_eq {h h' : AH} {A : Nat} (e1 : hR h' A 31 = hR h A 31) (e2 : hR h' A 22 = hR h A 22) (e3 : hR h' A 23 = hR h A 23) (e4 : ∀ f, hR h A 31 = some f → hS h' f = hS h f) : pN h' A = pN h A ∧ pU h' A = pU h A := by
  have f : fN h' A = fN h A := by
    unfold fN
    rw [e1]
    cases w : hR h A 31 with
    | none => rfl
    | some f =>
      show alen h' f 2 = alen h f 2
      unfold alen; rw [e4 f w]
  have g2 : oB h' A 22 = oB h A 22 := by unfold oB; rw [e2]
  have g3 : oB h' A 23 = oB h A 23 := by unfold oB; rw [e3]
  unfold pN pU
  rw [f, g2, g3]; exact ⟨rfl, rfl⟩
theorem MX.db {h h' : AH} {A B : Nat} {s : GS} {l0 e0 l e : Nat} (x : MX h A s (WD B l0)) (hAB : B + 48 ≤ A) (db : DB B h h' l0 e0 l e) : MX h' A s (WD B l) ∧ pN h' A = pN h A ∧ pU h' A = pU h A := by
  obtain ⟨x1, x2, x3, x4, x5, x6, x7, x8, x9⟩ := id x
  obtain ⟨le, dl, ⟨k1, k2, k3, k4, k5⟩, ds, -, -⟩ := db
  have ln := le.2.2.2.2
  have nW : ∀ b, b < hN h → ¬ WD B l0 b → ¬ WD B l b := fun b hb w q => by
    unfold WD at w q
    omega
  have kk : ∀ b, b < hN h → ¬ WD B l0 b → hS h' b = hS h b ∧ ∀ j, hI h' b j = hI h b j ∧ hL h' b j = hL h b j ∧ hR h' b j = hR h b j := fun b hb w => k5 b ⟨hb, fun q => w (Or.inl q.2), fun q => w (Or.inr q)⟩
  have cA : ∀ b, A ≤ b → b < A + 53 → hS h' b = hS h b ∧ ∀ j, hI h' b j = hI h b j ∧ hL h' b j = hL h b j ∧ hR h' b j = hR h b j := fun b h1 h2 => kk b (by omega) (x7 b ⟨h1, h2⟩)
  have z := MX.congr (h' := h') x1 x2 x3 x4 x5 (fun b h1 h2 => (cA b h1 h2).1) (fun b j h1 h2 _ => ((cA b h1 (by omega)).2 j).1) (fun b j h1 h2 => ((cA b (by omega) (by omega)).2 j).2.1) (fun b j h1 h2 => ((cA b (by omega) h2).2 j).2.2) (fun j _ _ _ _ => ((cA A (by omega) (by omega)).2 j).2.2)
  have rA : ∀ j, hR h' A j = hR h A j := fun j => ((cA A (by omega) (by omega)).2 j).2.2
  obtain ⟨g1, g2, g3, g4, p, r, m, g5, g6, g7, g8, g9, g10, g11, g12⟩ := x6
  have mq : ∀ f, MQ1 h A (WD B l0) f → MQ1 h' A (WD B l) f := fun f w => by
    obtain ⟨v1, v2, v3, v4, v5⟩ := w
    exact ⟨v1, by omega, nW f v2 v3, by rw [rA]; exact v4, by rw [rA]; exact v5⟩
  have sf : ∀ f, MQ1 h A (WD B l0) f → hS h' f = hS h f := fun f w => (kk f w.2.1 w.2.2.1).1
  refine ⟨⟨z.1, z.2.1, z.2.2.1, z.2.2.2.1, z.2.2.2.2, ⟨fun o ho => ?_, by rw [rA]; exact g2, fun y hy => ?_, by rw [rA, rA]; exact g4, p, r, m, by rw [rA]; exact g5, by rw [rA]; exact g6, by rw [sf p g11]; exact g7, by rw [sf r g12]; exact g8, g9, g10, mq p g11, mq r g12⟩, fun b hb => nW b (by have := hb.2; omega) (x7 b hb), by omega, fun b hb => ?_⟩, pot_eq (rA 31) (rA 22) (rA 23) (fun f hf => by rw [g5] at hf; cases hf; exact sf _ g11)⟩
  · rw [rA] at ho
    obtain ⟨w1, w2, w3, w4⟩ := g1 o ho
    refine ⟨w1.ext (fun b h1 h2 => ?_), w2, by omega, fun b hb => nW b (by have := hb.2; omega) (w4 b hb)⟩
    have := kk b (by omega) (w4 b ⟨h1, h2⟩)
    exact ⟨this.1, fun j => (this.2 j).2.2⟩
  · obtain ⟨p', w1, w2, w3, w4, w5⟩ := g3 y hy
    refine ⟨p', by rw [rA]; exact w1, ⟨w2.1.ext (fun b h1 h2 => ?_), w2.2.1.fr (fun b h1 h2 j => ((kk b (by omega) (w5 b ⟨h1, by omega⟩)).2 j).1), w2.2.2⟩, w3, by omega, fun b hb => nW b (by have := hb.2; omega) (w5 b hb)⟩
    have := kk b (by omega) (w5 b ⟨h1, h2⟩)
    exact ⟨this.1, fun j => (this.2 j).2.2⟩
  · unfold WD at hb
    rcases hb with w | w
    · omega
    · rw [w]; exact ln
theorem DX.kw {h h' : AH} {B l e : Nat} {s : GS} (x : DX h B s) (le : LE h B l e) (f : KW (WD B l) h h') : DX h' B s ∧ LE h' B l e := by
  have g : ∀ b, b < B + 48 → hS h' b = hS h b ∧ ∀ j, hI h' b j = hI h b j ∧ hL h' b j = hL h b j ∧ hR h' b j = hR h b j := fun b hb => f.2.2.2.2 b (Or.inl hb)
  have gl := f.2.2.2.2 l (Or.inr rfl)
  have le' : LE h' B l e := by
    obtain ⟨a1, a2, a3, a4, a5⟩ := le
    exact ⟨by rw [((g (B + 28) (by omega)).2 1).2.2]; exact a1, by rw [gl.1]; exact a2, a3, a4, by have := f.2.2.1; omega⟩
  obtain ⟨sa, c0, kc, k2, nz⟩ := le.sa x.2.2.2.2.2.2
  obtain ⟨a1, a2, a3, a4, a5, a6, a7, a8⟩ := sa
  obtain ⟨x1, x2, x3, x4, x5, x6, x7⟩ := x
  have gS : ∀ b, b < B + 48 → hS h' b = hS h b := fun b h1 => (g b h1).1
  have gI : ∀ b j, b < B + 48 → hI h' b j = hI h b j := fun b j h1 => ((g b h1).2 j).1
  have gL : ∀ b j, b < B + 48 → hL h' b j = hL h b j := fun b j h1 => ((g b h1).2 j).2.1
  have gR : ∀ b j, b < B + 48 → hR h' b j = hR h b j := fun b j h1 => ((g b h1).2 j).2.2
  have XSk : ∀ b, b + 8 ≤ B + 48 → XS h b → XS h' b := fun b h2 s => by
    unfold XS at s ⊢
    simp (disch := omega) only [gS, gR]; exact s
  refine ⟨⟨?_, x2.kw f (fun a h1 h2 => Or.inl (by omega)), ⟨?_, fun y hy => (x3.2 y hy).kw f (fun a h1 h2 => Or.inl (by omega))⟩, ?_, ?_, ?_, ?_⟩, le'⟩
  · obtain ⟨u1, u2, u3, u4, u5, u6, u7, u8⟩ := x1
    exact ⟨by rw [gS _ (by omega)]; exact u1, by rw [gR _ _ (by omega)]; exact u2, by rw [gR _ _ (by omega)]; exact u3, by rw [gR _ _ (by omega)]; exact u4, by rw [gR _ _ (by omega)]; exact u5, by rw [gR _ _ (by omega)]; exact u6, XSk _ (by omega) u7, XSk _ (by omega) u8⟩
  · rw [gI _ _ (by omega)]; exact x3.1
  · obtain ⟨u1, u2, u3, u4⟩ := x4
    refine ⟨by rw [gS _ (by omega)]; exact u1, by rw [gR _ _ (by omega)]; exact u2, by rw [gS _ (by omega)]; exact u3, fun j hj => ⟨by rw [gR _ _ (by omega)]; exact (u4 j hj).1, (u4 j hj).2.kw f (Or.inl (by omega)) (Or.inl (by omega))⟩⟩
  · obtain ⟨u0, u1, u2, u3, u4, u5⟩ := x5
    exact ⟨by rw [gS _ (by omega)]; exact u0, by rw [gR _ _ (by omega)]; exact u1, by rw [gS _ (by omega)]; exact u2, by rw [gI _ _ (by omega)]; exact u3, u4, fun i hi => by rw [gI _ _ (by omega)]; exact u5 i hi⟩
  · obtain ⟨u1, u2, u3, u4⟩ := x6
    exact ⟨by rw [gS _ (by omega)]; exact u1, by rw [gR _ _ (by omega)]; exact u2, by rw [gS _ (by omega)]; exact u3, fun k hk => by rw [gI _ _ (by omega)]; exact u4 k hk⟩
  · refine ⟨by rw [gS _ (by omega)]; exact a1, by rw [gR _ _ (by omega)]; exact a2, by rw [gS _ (by omega)]; exact a3, l, e, c0, by rw [gR _ _ (by omega)]; exact a4, a5, by have := f.2.2.1; omega, by rw [gl.1]; exact a7, a8, kc, by rw [gI _ _ (by omega)]; exact k2, fun w hw => ?_⟩
    rw [gL _ _ (by omega)] at hw
    obtain ⟨i, i1, i2⟩ := nz w hw
    exact ⟨i, i1, by rw [(gl.2 i).2.1]; exact i2⟩
/-- what holds between calls; j calls so far -/
def IV (B A N0 U0 : Nat) (hs : AH) (h : AH) (s : GS) (l e j : Nat) : Prop := DX h B s ∧ MX h A s (WD B l) ∧ LE h B l e ∧ GOK s ∧ WK h ∧ WM h ∧ B + 48 ≤ A ∧ KW (fun b => b < B) hs h ∧ hN h ≤ N0 + e + pN h A + j ∧ hU h + 2048 ≤ U0 + 2048 * 2 ^ e + pU h A + 3 * j
theorem IV.step {B A N0 U0 : Nat} {hs h : AH} {s : GS} {l e j d1 d2 y1 y2 : Nat} {as1 as2 : LL} {r : Int32 × GS} (iv : IV B A N0 U0 hs h s l e j) (dq : DQ d1 y1 as1 h B r) (mc : ∀ h1 l1, MX h1 A s (WD B l1) → WM h1 → MC d2 y2 as2 h1 A (WD B l1) r) (gk : GOK r.2) : ∃ h1 h2 l' e', E d1 y1 0 as1 [] h = some (some (.int r.1), h1) ∧ E d2 y2 0 as2 [] h1 = some (some (.int r.1), h2) ∧ IV B A N0 U0 hs h2 r.2 l' e' (j + 1) ∧ hS h1 A = some (105, 0) ∧ (∀ b, b < B → hS h1 b = hS h b ∧ ∀ k, hI h1 b k = hI h b k) := by
  obtain ⟨x1, x2, x3, x4, x5, x6, x7, x8, x9, x10⟩ := iv
  obtain ⟨h1, l', e', e1, dx, db⟩ := dq l e x3
  obtain ⟨m1, p1, p2⟩ := x2.db x7 db
  obtain ⟨le, dl, kw, ds, dn, du⟩ := db
  have w1 := x6.kx kw.1 kw.2.1
  obtain ⟨h2, e2, m2, kw2, rm⟩ := mc h1 l' m1 w1
  obtain ⟨dx2, le2⟩ := dx.kw le kw2
  have AN := x2.2.2.2.2.2.2.2.1
  have lB := x3.2.2.2.1
  have k1 : KW (fun b => b < B) h h1 := kw.mono (fun b hb => ⟨by omega, fun q => by have := q.1; omega, by omega⟩)
  refine ⟨h1, h2, l', e', e1, e2, ⟨dx2, m2, le2, gk, (x5.kx kw.1 kw.2.1).kx kw2.1 kw2.2.1, w1.kx kw2.1 kw2.2.1, x7, (x8.trans k1).trans (kw2.mono (fun b hb => Or.inl (by omega))), ?_, ?_⟩, m1.1.1.1, fun b hb => ?_⟩
  · unfold RM at rm; omega
  · unfold RM at rm; omega
  · have := k1.2.2.2.2 b hb
    exact ⟨this.1, fun k => (this.2 k).1⟩
