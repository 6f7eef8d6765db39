/-! SCRATCHED, the reference -/
theorem MS.ext {h h' : AH} {o : Nat} (x : MS h o) (e : ∀ b, o ≤ b → b < o + 53 → hS h' b = hS h b ∧ ∀ j, hR h' b j = hR h b j) : MS h' o := by
  unfold MS at x ⊢
  have e0 := e o (by omega) (by omega)
  rw [e0.1, (e (o + 17) (by omega) (by omega)).1, (e (o + 18) (by omega) (by omega)).1, (e (o + 19) (by omega) (by omega)).1, (e (o + 20) (by omega) (by omega)).1, (e (o + 21) (by omega) (by omega)).1, (e (o + 22) (by omega) (by omega)).1, (e (o + 23) (by omega) (by omega)).1, (e (o + 24) (by omega) (by omega)).1, e0.2, e0.2, e0.2, e0.2, e0.2, e0.2, e0.2, e0.2]
  exact x
/-- new cells behind -/
theorem MX.ext {h h' : AH} {A : Nat} {s : GS} {W : Nat → Prop} (x : MX h A s W) (n : hN h ≤ hN h') (e : ∀ b, b < hN h → hS h' b = hS h b ∧ ∀ j, hI h' b j = hI h b j ∧ hL h' b j = hL h b j ∧ hR h' b j = hR h b j) : MX h' A s W := by
  obtain ⟨x1, x2, x3, x4, x5, x6, x7, x8, x9⟩ := x
  have z := MX.congr (h' := h') x1 x2 x3 x4 x5 (fun b h1 h2 => (e b (by omega)).1) (fun b j h1 h2 _ => ((e b (by omega)).2 j).1) (fun b j h1 h2 => ((e b (by omega)).2 j).2.1) (fun b j h1 h2 => ((e b (by omega)).2 j).2.2) (fun j _ _ _ _ => ((e A (by omega)).2 j).2.2)
  have eA := fun j => ((e A (by omega)).2 j).2.2
  obtain ⟨g1, g2, g3, g4, p, r, m, g5, g6, g7, g8, g9, g10, g11, g12⟩ := x6
  have mq : ∀ p, MQ1 h A W p → MQ1 h' A W p := fun p w4 => by
    obtain ⟨v1, v2, v3, v4, v5⟩ := w4
    exact ⟨v1, by omega, v3, by rw [eA]; exact v4, by rw [eA]; exact v5⟩
  refine ⟨z.1, z.2.1, z.2.2.1, z.2.2.2.1, z.2.2.2.2, ⟨fun o ho => ?_, by rw [eA]; exact g2, fun y hy => ?_, by rw [eA, eA]; exact g4, p, r, m, by rw [eA]; exact g5, by rw [eA]; exact g6, by rw [(e p g11.2.1).1]; exact g7, by rw [(e r g12.2.1).1]; exact g8, g9, g10, mq _ g11, mq _ g12⟩, x7, by omega, fun b hb => by have := x9 b hb; omega⟩
  · rw [eA] at ho
    obtain ⟨v1, v2, v3, v4⟩ := g1 o ho
    exact ⟨v1.ext (fun b h1 h2 => ⟨(e b (by omega)).1, fun j => ((e b (by omega)).2 j).2.2⟩), v2, by omega, v4⟩
  · obtain ⟨p', v1, v2, v3, v4, v5⟩ := g3 y hy
    refine ⟨p', by rw [eA]; exact v1, ⟨v2.1.ext (fun b h1 h2 => ⟨(e b (by omega)).1, fun j => ((e b (by omega)).2 j).2.2⟩), v2.2.1.fr (fun b h1 h2 j => ((e b (by omega)).2 j).1), v2.2.2⟩, v3, by omega, v5⟩
theorem MX.weak {h : AH} {A : Nat} {s : GS} {W V : Nat → Prop} (x : MX h A s V) (q : ∀ b, W b → V b) : MX h A s W := by
  obtain ⟨x1, x2, x3, x4, x5, x6, x7, x8, x9⟩ := x
  obtain ⟨g1, g2, g3, g4, p, r, m, g5, g6, g7, g8, g9, g10, g11, g12⟩ := x6
  have mq : ∀ p, MQ1 h A V p → MQ1 h A W p := fun p ⟨v1, v2, v3, v4, v5⟩ => ⟨v1, v2, fun w => v3 (q _ w), v4, v5⟩
  exact ⟨x1, x2, x3, x4, x5, ⟨fun o ho => ⟨(g1 o ho).1, (g1 o ho).2.1, (g1 o ho).2.2.1, fun b hb w => (g1 o ho).2.2.2 b hb (q b w)⟩, g2, fun y hy => by
    obtain ⟨p', v1, v2, v3, v4, v5⟩ := g3 y hy
    exact ⟨p', v1, v2, v3, v4, fun b hb w => v5 b hb (q b w)⟩, g4, p, r, m, g5, g6, g7, g8, g9, g10, mq _ g11, mq _ g12⟩, fun b hb w => x7 b hb (q b w), x8, fun b hb => x9 b (q b hb)⟩
/-- a cell that is none of the state's -/
theorem MX.free {h h' : AH} {A : Nat} {s : GS} {V : Nat → Prop} {l : Nat} (x : MX h A s V) (hl : V l) (f : Fr0 (blk l 1) h h') : MX h' A s V := by
  obtain ⟨x1, x2, x3, x4, x5, x6, x7, x8, x9⟩ := x
  have nl : ¬ blk A 53 l := fun w => x7 l w hl
  have nb : ∀ b, A ≤ b → b < A + 53 → ¬ blk l 1 b := fun b h1 h2 w => by
    have : b = l := by unfold blk at w; omega
    subst this
    exact nl ⟨h1, h2⟩
  obtain ⟨g1, g2, g3, g4, p, r, m, g5, g6, g7, g8, g9, g10, g11, g12⟩ := x6
  refine ⟨x1.fr0 f (fun b h1 h2 => nb b h1 (by omega)), x2.fr0 f (fun b h1 h2 => nb b (by omega) (by omega)), x3.fr0 f ((f.2.2.2.2.2.2 A (nb A (by omega) (by omega)) 7).1) (nb _ (by omega) (by omega)), x4.fr0 f (nb _ (by omega) (by omega)), x5.fr0 f, ⟨fun o ho => ?_, by rw [f.2.2.2.2.2.1]; exact g2, fun y hy => ?_, by rw [f.2.2.2.2.2.1]; exact g4, p, r, m, by rw [f.2.2.2.2.2.1]; exact g5, by rw [f.2.2.2.2.2.1]; exact g6, by rw [f.2.2.2.2.1]; exact g7, by rw [f.2.2.2.2.1]; exact g8, g9, g10, g11.fr0 f, g12.fr0 f⟩, x7, by rw [f.1]; exact x8, by rw [f.1]; exact x9⟩
  · rw [f.2.2.2.2.2.1] at ho
    obtain ⟨v1, v2, v3, v4⟩ := g1 o ho
    exact ⟨v1.fr0 f, v2, by rw [f.1]; exact v3, v4⟩
  · obtain ⟨p', v1, v2, v3, v4, v5⟩ := g3 y hy
    refine ⟨p', by rw [f.2.2.2.2.2.1]; exact v1, v2.fr0 f (fun b h1 h2 w => ?_), v3, by rw [f.1]; exact v4, v5⟩
    have : b = l := by unfold blk at w; omega
    subst this
    exact v5 b ⟨h1, by omega⟩ hl
def WL (W : Nat → Prop) (l : Nat) : Nat → Prop := fun b => W b ∨ b = l
/-- the search through orders: model o, counts t in the array at l -/
def SQ (h0 h : AH) (A : Nat) (s : GS) (W : Nat → Prop) (o g : Nat) (p : Nat × Nat) (l : Nat) (t : Nat → Nat) : Prop := TH h h A s (WL W l) o g p ∧ KW W h0 h ∧ RM A h0 h 0 0 ∧ hS h l = some (0, 3) ∧ ∀ c, c < 3 → hI h l c = nI (t c)
theorem KW.weak {W V : Nat → Prop} {h h' : AH} (k : KW V h h') (q : ∀ b, W b → V b) : KW W h h' := ⟨k.1, k.2.1, k.2.2.1, k.2.2.2.1, fun b hb => k.2.2.2.2 b (q b hb)⟩
theorem SQ.try {h0 h : AH} {A : Nat} {s : GS} {W : Nat → Prop} {o g : Nat} {p : Nat × Nat} {l : Nat} {t : Nat → Nat} (q : SQ h0 h A s W o g p l t) (d : Nat) (hg : g < Yg (gY s)) {c : Nat} (hc : c < Yc (gY s)) (p3 : Option Value) : ∃ h', E (d + 2) 183 0 [some (.ref o), some (.int (nI g)), some (.int (nI c)), p3] [] h = some (some (.int (bI (lt1 (gY s) g p c))), h') ∧ SQ h0 h' A s W o g (stp (gY s) g p c) l t ∧ ∀ j, hI h' A j = hI h A j := by
  obtain ⟨th, kw, rm, sl, il⟩ := q
  obtain ⟨x1, q1, y1, -, -⟩ := th
  obtain ⟨h2, e183, y2, f2⟩ := m183p d y1 hg hc p3
  have zo := x1.o q1 f2.bk
  have kl := zo.2.1.2.2.2.2 l (Or.inr rfl)
  have ao := (x1.2.2.2.2.2.1.1 o q1).2.1
  refine ⟨h2, e183, ⟨⟨zo.1, by rw [f2.1.2.2.2.2.2.1]; exact q1, y2, KW.refl _ _, RM.refl _ _⟩, kw.trans (zo.2.1.weak fun b w => Or.inl w), rm.trans zo.2.2, by rw [kl.1]; exact sl, fun c hc => by rw [(kl.2 c).1]; exact il c hc⟩, fun j => (f2.1.2.2.2.2.2.2 A (fun w => by unfold yA at w; omega) j).1⟩
theorem SQ.o {h0 h h' : AH} {A : Nat} {s : GS} {W : Nat → Prop} {o g : Nat} {p p' : Nat × Nat} {l : Nat} {t : Nat → Nat} (q : SQ h0 h A s W o g p l t) (f2 : FY o h h') (y2 : MY h' o (wM (gY s) g p')) : SQ h0 h' A s W o g p' l t ∧ ∀ j, hI h' A j = hI h A j := by
  obtain ⟨th, kw, rm, sl, il⟩ := q
  obtain ⟨x1, q1, y1, -, -⟩ := th
  have zo := x1.o q1 f2.bk
  have kl := zo.2.1.2.2.2.2 l (Or.inr rfl)
  have ao := (x1.2.2.2.2.2.1.1 o q1).2.1
  exact ⟨⟨⟨zo.1, by rw [f2.1.2.2.2.2.2.1]; exact q1, y2, KW.refl _ _, RM.refl _ _⟩, kw.trans (zo.2.1.weak fun b w => Or.inl w), rm.trans zo.2.2, by rw [kl.1]; exact sl, fun c hc => by rw [(kl.2 c).1]; exact il c hc⟩, fun j => (f2.1.2.2.2.2.2.2 A (fun w => by unfold yA at w; omega) j).1⟩
theorem SQ.l {h0 h : AH} {A : Nat} {s : GS} {W : Nat → Prop} {o g : Nat} {p : Nat × Nat} {l : Nat} {t : Nat → Nat} (nw : ¬ W l) (q : SQ h0 h A s W o g p l t) (c v : Nat) : SQ h0 (stI h l c (nI v)) A s W o g p l (fup t c v) ∧ ∀ j, hI (stI h l c (nI v)) A j = hI h A j := by
  obtain ⟨th, kw, rm, sl, il⟩ := q
  obtain ⟨x1, q1, y1, -, -⟩ := th
  have f : Fr0 (blk l 1) h (stI h l c (nI v)) := blkI _ (Nat.le_refl _) (by omega) _ _
  have nA : A ≠ l := fun w => x1.2.2.2.2.2.2.1 l ⟨by omega, by omega⟩ (Or.inr rfl)
  have no := (x1.2.2.2.2.2.1.1 o q1).2.2.2
  refine ⟨⟨⟨x1.free (Or.inr rfl) f, q1, y1.fr0 f (fun b h1 h2 w => ?_), KW.refl _ _, RM.refl _ _⟩, kw.trans (f.kw fun b w => ?_), rm.trans (f.rm A), sl, fun c' hc => ?_⟩, fun j => by rw [hI_stI, if_neg (fun w => nA w.1)]⟩
  · have e : b = l := by unfold blk at w; omega
    subst e
    exact no b ⟨h1, by omega⟩ (Or.inr rfl)
  · have e : b = l := by unfold blk at w; omega
    subst e
    exact nw
  · rw [hI_stI]
    unfold fup
    by_cases e : c' = c
    · rw [if_pos ⟨rfl, e⟩, if_pos e]
    · rw [if_neg (fun w => e w.2), if_neg e]; exact il c' hc
theorem SQ.w {h0 h : AH} {A : Nat} {s : GS} {W : Nat → Prop} {o g : Nat} {p : Nat × Nat} {l : Nat} {t : Nat → Nat} (q : SQ h0 h A s W o g p l t) {k : Nat} (hk : 21 < k) (v : Int32) : SQ h0 (stI h A k v) A s W o g p l t := by
  obtain ⟨th, kw, rm, sl, il⟩ := q
  obtain ⟨x1, q1, y1, -, -⟩ := th
  have f : Fr0 (fun b => b = A ∨ b = A + 13 ∨ (A + 25 ≤ b ∧ b < A + 53)) h (stI h A k v) := Fr0.stI _ (Or.inl rfl) _ _
  have nA : l ≠ A := fun w => x1.2.2.2.2.2.2.1 l ⟨by omega, by omega⟩ (Or.inr rfl)
  have ao := (x1.2.2.2.2.2.1.1 o q1).2.1
  have z := x1.w f (fun j hj => by rw [hI_stI, if_neg (fun w => by omega)])
  refine ⟨⟨z.1, q1, y1.fr0 f (fun b h1 h2 w => by omega), KW.refl _ _, RM.refl _ _⟩, kw.trans ((z.2.kw x1.2.2.2.2.2.2.1).weak fun b w => Or.inl w), rm.trans (z.2.rm A), sl, fun c hc => by rw [hI_stI, if_neg (fun w => nA w.1)]; exact il c hc⟩
theorem wM_set (y : YS) (g : Nat) (p q : Nat × Nat) : sM (wM y g p) (YU y g) q.1 q.2 = wM y g q := by
  show yMk (Yc y) (Yg y) (Yn y) (Yt y) (Yz y) (YK y) (YA y) (YU y) (fup (fup (YF y) (YU y g) p.1) (YU y g) q.1) (fup (fup (YM y) (YU y g) p.2) (YU y g) q.2) (YW y) (YC y) (YP y) = _
  rw [fup_fup, fup_fup]; rfl
theorem YOK.wM {y : YS} (ok : YOK y) {g : Nat} {p : Nat × Nat} (hp : pOK y p) : YOK (wM y g p) := ok.sM hp.1 hp.2
/-- first and second put into the thinking model -/
theorem SQ.set {h0 h : AH} {A : Nat} {s : GS} {W : Nat → Prop} {o g : Nat} {p : Nat × Nat} {l : Nat} {t : Nat → Nat} (q : SQ h0 h A s W o g p l t) {p' : Nat × Nat} (hp : pOK (gY s) p') : SQ h0 (stI (stI h (o + 19) (YU (gY s) g) (qI p'.1)) (o + 20) (YU (gY s) g) (qI p'.2)) A s W o g p' l t ∧ ∀ j, hI (stI (stI h (o + 19) (YU (gY s) g) (qI p'.1)) (o + 20) (YU (gY s) g) (qI p'.2)) A j = hI h A j := by
  have y1 := q.1.2.2.1
  have ok := q.1.1.1.2.2
  refine q.o ((FY.arr _ (by decide) _ _).trans (FY.arr _ (by decide) _ _)) ⟨y1.1, ?_, ok.wM hp⟩
  have := y1.2.1.M' (YU (gY s) g) p'.1 p'.2
  rw [wM_set] at this
  exact this
