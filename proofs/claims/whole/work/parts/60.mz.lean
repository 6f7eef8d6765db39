/-! THE REFERENCE'S PICTURE of the whole state at A; W: the developers' cells -/
def MT (h : AH) (A n : Nat) (b : Nat → Nat) : Prop := hR h A 6 = some (A + 15) ∧ hS h (A + 15) = some (0, 250) ∧ hI h A 7 = nI n ∧ n ≤ 250 ∧ ∀ i, i < n → hI h (A + 15) i = nI (b i) ∧ b i < 256
def MR (h : AH) (A : Nat) (rf : Nat → Int32) : Prop := hR h A 8 = some (A + 16) ∧ hS h (A + 16) = some (0, 8) ∧ ∀ k, k < 5 → hI h (A + 16) (k + 2) = rf k
def MZ (h : AH) (A : Nat) : Prop := hR h A 29 = some (A + 25) ∧ hS h (A + 25) = some (0, 2) ∧ hR h A 34 = some (A + 28) ∧ hS h (A + 28) = some (0, 16) ∧ hR h A 35 = some (A + 29) ∧ hS h (A + 29) = some (6, 7) ∧ hR h A 36 = some (A + 37) ∧ hS h (A + 37) = some (6, 7) ∧ hR h A 37 = some (A + 45) ∧ hS h (A + 45) = some (7, 7) ∧ ∀ t, t < 7 → hR h (A + 29) t = some (A + 30 + t) ∧ hS h (A + 30 + t) = some (0, 4) ∧ hR h (A + 37) t = some (A + 38 + t) ∧ hS h (A + 38 + t) = some (0, 4) ∧ hR h (A + 45) t = some (A + 46 + t) ∧ hS h (A + 46 + t) = some (3, 4)
def MQ1 (h : AH) (A : Nat) (W : Nat → Prop) (f : Nat) : Prop := (f = A + 26 ∨ f = A + 27 ∨ A + 53 ≤ f) ∧ f < hN h ∧ ¬ W f ∧ (∀ o, hR h A 23 = some o → ¬ blk o 53 f) ∧ (∀ o, hR h A 22 = some o → ¬ blk o 53 f)
def MG (h : AH) (A : Nat) (k : Option YS) (W : Nat → Prop) : Prop := (∀ o, hR h A 23 = some o → MS h o ∧ A + 53 ≤ o ∧ o + 53 ≤ hN h ∧ ∀ b, blk o 53 b → ¬ W b) ∧ (k = none → hR h A 22 = none) ∧ (∀ y, k = some y → ∃ p, hR h A 22 = some p ∧ MY h p y ∧ A + 53 ≤ p ∧ p + 53 ≤ hN h ∧ ∀ b, blk p 53 b → ¬ W b) ∧ (∀ o p, hR h A 23 = some o → hR h A 22 = some p → o + 53 ≤ p ∨ p + 53 ≤ o) ∧ ∃ f q n, hR h A 31 = some f ∧ hR h A 32 = some q ∧ hS h f = some (2, n) ∧ hS h q = some (0, n) ∧ n ≤ 262144 ∧ f ≠ q ∧ MQ1 h A W f ∧ MQ1 h A W q
def MX (h : AH) (A : Nat) (s : GS) (W : Nat → Prop) : Prop := MY h A (gY s) ∧ MH h A (gH s) ∧ MT h A (gn s) (gb s) ∧ MR h A (gQ s) ∧ MZ h A ∧ MG h A (gK s) W ∧ (∀ b, blk A 53 b → ¬ W b) ∧ A + 53 ≤ hN h ∧ ∀ b, W b → b < hN h
theorem MH.fr0 {h h' : AH} {a : Nat} {sh : Nat → SHT} {A : Nat → Prop} (x : MH h a sh) (f : Fr0 A h h') (n : ∀ b, a + 1 ≤ b → b < a + 15 → ¬ A b) : MH h' a sh := by
  obtain ⟨x1, x2⟩ := x
  obtain ⟨f1, f2, f3, f4, f5, f6, f7⟩ := f
  refine ⟨by rw [f5, f6]; exact x1, fun s hs => ?_⟩
  obtain ⟨a1, a2, a3, a4, a5, a6, a7⟩ := x2 s hs
  rw [f5, f6, (f7 (a + 1) (n _ (by omega) (by omega)) s).1, (f7 (a + 2) (n _ (by omega) (by omega)) s).1, (f7 (a + 3) (n _ (by omega) (by omega)) s).1, (f7 (a + 14) (n _ (by omega) (by omega)) s).1]
  exact ⟨a1, a2, a3, a4, a5, fun i hi => by rw [(f7 (a + 5 + s) (n _ (by omega) (by omega)) i).2]; exact a6 i hi, a7⟩
theorem MT.fr0 {h h' : AH} {a n : Nat} {b : Nat → Nat} {A : Nat → Prop} (x : MT h a n b) (f : Fr0 A h h') (h1 : hI h' a 7 = hI h a 7) (h2 : ¬ A (a + 15)) : MT h' a n b := by
  obtain ⟨x1, x2, x3, x4, x5⟩ := x
  obtain ⟨f1, f2, f3, f4, f5, f6, f7⟩ := f
  exact ⟨by rw [f6]; exact x1, by rw [f5]; exact x2, by rw [h1]; exact x3, x4, fun i hi => by rw [(f7 _ h2 i).1]; exact x5 i hi⟩
theorem MR.fr0 {h h' : AH} {a : Nat} {r : Nat → Int32} {A : Nat → Prop} (x : MR h a r) (f : Fr0 A h h') (h2 : ¬ A (a + 16)) : MR h' a r := by
  obtain ⟨x1, x2, x3⟩ := x
  obtain ⟨f1, f2, f3, f4, f5, f6, f7⟩ := f
  exact ⟨by rw [f6]; exact x1, by rw [f5]; exact x2, fun i hi => by rw [(f7 _ h2 _).1]; exact x3 i hi⟩
theorem MZ.fr0 {h h' : AH} {a : Nat} {A : Nat → Prop} (x : MZ h a) (f : Fr0 A h h') : MZ h' a := by
  unfold MZ at x ⊢
  rw [f.2.2.2.2.1, f.2.2.2.2.2.1]; exact x
theorem MS.fr0 {h h' : AH} {a : Nat} {A : Nat → Prop} (x : MS h a) (f : Fr0 A h h') : MS h' a := by
  unfold MS at x ⊢
  rw [f.2.2.2.2.1, f.2.2.2.2.2.1]; exact x
theorem MQ1.fr0 {h h' : AH} {a : Nat} {W : Nat → Prop} {q : Nat} {A : Nat → Prop} (x : MQ1 h a W q) (f : Fr0 A h h') : MQ1 h' a W q := by
  unfold MQ1 at x ⊢
  rw [f.1, f.2.2.2.2.2.1]; exact x
/-- what is kept stays so, whatever changes below -/
theorem MG.fr0 {h h' : AH} {a : Nat} {k : Option YS} {W : Nat → Prop} {A : Nat → Prop} (x : MG h a k W) (f : Fr0 A h h') (n : ∀ b, A b → b < a + 53 ∨ ∃ o, hR h a 23 = some o ∧ blk o 53 b) : MG h' a k W := by
  obtain ⟨x1, x2, x3, x4, p, q, m, x5, x6, x7, x8, x9, x10, x11, x12⟩ := x
  have f' := f
  obtain ⟨f1, f2, f3, f4, f5, f6, f7⟩ := f
  refine ⟨fun o ho => ?_, by rw [f6]; exact x2, fun y hy => ?_, by rw [f6]; exact x4, p, q, m, by rw [f6]; exact x5, by rw [f6]; exact x6, by rw [f5]; exact x7, by rw [f5]; exact x8, x9, x10, x11.fr0 f', x12.fr0 f'⟩
  · rw [f6] at ho
    obtain ⟨y1, y2, y3, y4⟩ := x1 o ho
    exact ⟨y1.fr0 f', y2, by rw [f1]; exact y3, y4⟩
  · obtain ⟨p, y1, y2, y3, y4, y5⟩ := x3 y hy
    refine ⟨p, by rw [f6]; exact y1, y2.fr0 f' (fun b h1 h2 w => ?_), y3, by rw [f1]; exact y4, y5⟩
    rcases n b w with w | ⟨o, w1, w2⟩
    · omega
    · have := x4 o p w1 y1
      unfold blk at w2; omega
theorem MX.y {h h' : AH} {A : Nat} {s : GS} {W : Nat → Prop} {y : YS} (x : MX h A s W) (q : MY h' A y) (f : FY A h h') : MX h' A (pY s y) W ∧ Fr0 (blk A 53) h h' := by
  obtain ⟨x1, x2, x3, x4, x5, x6, x7, x8, x9⟩ := x
  refine ⟨⟨q, x2.fr0 f.1 (fun b _ _ w => by unfold yA at w; omega), x3.fr0 f.1 (f.2 7 (by decide)) (fun w => by unfold yA at w; omega), x4.fr0 f.1 (fun w => by unfold yA at w; omega), x5.fr0 f.1, x6.fr0 f.1 (fun b w => Or.inl (by unfold yA at w; omega)), x7, by rw [f.1.1]; exact x8, by rw [f.1.1]; exact x9⟩, f.1.mono fun b w => by unfold yA at w; unfold blk; omega⟩
theorem MX.h {h h' : AH} {A : Nat} {s : GS} {W : Nat → Prop} {H : Nat → SHT} (x : MX h A s W) (q : MH h' A H) (f : Fr0 (blk (A + 1) 14) h h') : MX h' A (pH s H) W ∧ Fr0 (blk A 53) h h' := by
  obtain ⟨x1, x2, x3, x4, x5, x6, x7, x8, x9⟩ := x
  have e : hI h' A 7 = hI h A 7 := (f.2.2.2.2.2.2 A (fun w => by unfold blk at w; omega) 7).1
  refine ⟨⟨?_, q, x3.fr0 f e (fun w => by unfold blk at w; omega), x4.fr0 f (fun w => by unfold blk at w; omega), x5.fr0 f, x6.fr0 f (fun b w => Or.inl (by unfold blk at w; omega)), x7, by rw [f.1]; exact x8, by rw [f.1]; exact x9⟩, f.mono fun b w => by unfold blk at w ⊢; omega⟩
  obtain ⟨y1, y2, y3⟩ := x1
  refine ⟨y1.fr0 f, ?_, y3⟩
  have g := fun b (hb : b = A ∨ A + 17 ≤ b) j => (f.2.2.2.2.2.2 b (fun w => by unfold blk at w; omega) j).1
  unfold MV at y2 ⊢
  rw [g A (Or.inl rfl), g A (Or.inl rfl), g A (Or.inl rfl), g A (Or.inl rfl), g A (Or.inl rfl)]
  obtain ⟨v1, v2, v3, v4, v5, v6, v7, v8, v9, v10, v11, v12, v13⟩ := y2
  refine ⟨v1, v2, v3, v4, v5, ?_, ?_, ?_, ?_, ?_, ?_, ?_, ?_⟩ <;> intro j hj <;> rw [g _ (Or.inr (by omega))]
  · exact v6 j hj
  · exact v7 j hj
  · exact v8 j hj
  · exact v9 j hj
  · exact v10 j hj
  · exact v11 j hj
  · exact v12 j hj
  · exact v13 j hj
/-- cells that the yard at A does not read -/
theorem MV.fx {h h' : AH} {a : Nat} {y : YS} (v : MV h a y) (f1 : ∀ j, yFl j = true → hI h' a j = hI h a j) (f2 : ∀ b, a + 17 ≤ b → b < a + 25 → ∀ j, hI h' b j = hI h b j) : MV h' a y := by
  unfold MV at v ⊢
  rw [f1 9 (by decide), f1 10 (by decide), f1 17 (by decide), f1 20 (by decide), f1 21 (by decide)]
  obtain ⟨v1, v2, v3, v4, v5, v6, v7, v8, v9, v10, v11, v12, v13⟩ := v
  refine ⟨v1, v2, v3, v4, v5, ?_, ?_, ?_, ?_, ?_, ?_, ?_, ?_⟩ <;> intro j hj <;> rw [f2 _ (by omega) (by omega)]
  · exact v6 j hj
  · exact v7 j hj
  · exact v8 j hj
  · exact v9 j hj
  · exact v10 j hj
  · exact v11 j hj
  · exact v12 j hj
  · exact v13 j hj
theorem MX.t {h h' : AH} {A n : Nat} {s : GS} {W : Nat → Prop} {b : Nat → Nat} (x : MX h A s W) (q : MT h' A n b) (f : Fr0 (fun b => b = A ∨ b = A + 15) h h') (f1 : ∀ j, yFl j = true → hI h' A j = hI h A j) : MX h' A (pT s n b) W ∧ Fr0 (blk A 53) h h' := by
  obtain ⟨x1, x2, x3, x4, x5, x6, x7, x8, x9⟩ := x
  exact ⟨⟨⟨x1.1.fr0 f, x1.2.1.fx f1 (fun b h1 h2 j => (f.2.2.2.2.2.2 b (fun w => by omega) j).1), x1.2.2⟩, x2.fr0 f (fun b _ _ w => by omega), q, x4.fr0 f (fun w => by omega), x5.fr0 f, x6.fr0 f (fun b w => Or.inl (by omega)), x7, by rw [f.1]; exact x8, by rw [f.1]; exact x9⟩, f.mono fun b w => by unfold blk; omega⟩
/-- work cells of the main object change: nothing of the state -/
theorem MX.w {h h' : AH} {A : Nat} {s : GS} {W : Nat → Prop} (x : MX h A s W) (f : Fr0 (fun b => b = A ∨ b = A + 13 ∨ (A + 25 ≤ b ∧ b < A + 53)) h h') (f1 : ∀ j, j ≤ 21 → hI h' A j = hI h A j) : MX h' A s W ∧ Fr0 (blk A 53) h h' := by
  obtain ⟨x1, x2, x3, x4, x5, x6, x7, x8, x9⟩ := x
  refine ⟨⟨⟨x1.1.fr0 f, x1.2.1.fx (fun j hj => f1 j (by unfold yFl at hj; simp only [Bool.or_eq_true, beq_iff_eq] at hj; omega)) (fun b h1 h2 j => (f.2.2.2.2.2.2 b (fun w => by omega) j).1), x1.2.2⟩, ?_, x3.fr0 f (f1 7 (by decide)) (fun w => by omega), x4.fr0 f (fun w => by omega), x5.fr0 f, x6.fr0 f (fun b w => Or.inl (by omega)), x7, by rw [f.1]; exact x8, by rw [f.1]; exact x9⟩, f.mono fun b w => by unfold blk; omega⟩
  obtain ⟨f1, f2, f3, f4, f5, f6, f7⟩ := f
  obtain ⟨x1, x2⟩ := x2
  refine ⟨by rw [f5, f6]; exact x1, fun s hs => ?_⟩
  obtain ⟨a1, a2, a3, a4, a5, a6, a7⟩ := x2 s hs
  rw [f5, f6, (f7 (A + 1) (fun w => by omega) s).1, (f7 (A + 2) (fun w => by omega) s).1, (f7 (A + 3) (fun w => by omega) s).1, (f7 (A + 14) (fun w => by omega) s).1]
  exact ⟨a1, a2, a3, a4, a5, fun i hi => by rw [(f7 (A + 5 + s) (fun w => by omega) i).2]; exact a6 i hi, a7⟩
def RFM (h : AH) (A k : Nat) : AH := stI h (A + 16) k (hI h (A + 16) k + nI 1)
theorem MX.rf {h : AH} {A : Nat} {s : GS} {W : Nat → Prop} (x : MX h A s W) {k : Nat} (h2 : 2 ≤ k) (h6 : k ≤ 6) : MX (RFM h A k) A (bm s k) W ∧ Fr0 (blk A 53) h (RFM h A k) := by
  obtain ⟨x1, x2, x3, x4, x5, x6, x7, x8, x9⟩ := x
  have f : Fr0 (blk (A + 16) 1) h (RFM h A k) := blkI _ (Nat.le_refl _) (by omega) _ _
  have e : ∀ j, hI (RFM h A k) A j = hI h A j := fun j => by unfold RFM; rw [hI_stI, if_neg (fun w => by omega)]
  refine ⟨⟨⟨x1.1.fr0 f, x1.2.1.fx (fun j hj => e j) (fun b h1 h2 j => (f.2.2.2.2.2.2 b (fun w => by unfold blk at w; omega) j).1), x1.2.2⟩, x2.fr0 f (fun b _ _ w => by unfold blk at w; omega), x3.fr0 f (e 7) (fun w => by unfold blk at w; omega), ?_, x5.fr0 f, x6.fr0 f (fun b w => Or.inl (by unfold blk at w; omega)), x7, x8, x9⟩, f.mono fun b w => by unfold blk at w ⊢; omega⟩
  obtain ⟨y1, y2, y3⟩ := x4
  refine ⟨y1, y2, fun j hj => ?_⟩
  show hI (stI h (A + 16) k (hI h (A + 16) k + nI 1)) (A + 16) (j + 2) = fup (gQ s) (k - 2) (gQ s (k - 2) + nI 1) j
  rw [hI_stI]
  unfold fup
  by_cases w : j = k - 2
  · rw [if_pos ⟨rfl, by omega⟩, if_pos w]
    have := y3 (k - 2) (by omega)
    rw [show k - 2 + 2 = k by omega] at this
    rw [this]
  · rw [if_neg (fun q => by omega), if_neg w]; exact y3 j hj
theorem c136e {h : AH} {A : Nat} {s : GS} {W : Nat → Prop} (x : MX h A s W) (d : Nat) {k : Nat} (h2 : 2 ≤ k) (h6 : k ≤ 6) : E d 136 0 [some (.ref A), some (.int (rN k))] [] h = some (some (.int (rN k)), RFM h A k) := m136 d x.1.1.1 x.2.2.2.1.1 x.2.2.2.1.2.1 h2 h6
/-- the reference's call answers and leaves what it should, making nothing new -/
def MC0 (d y : Nat) (as : LL) (h : AH) (A : Nat) (W : Nat → Prop) (r : Int32 × GS) : Prop := ∃ h', E d y 0 as [] h = some (some (.int r.1), h') ∧ MX h' A r.2 W ∧ Fr0 (blk A 53) h h'
theorem MC0.rf {d y : Nat} {as : LL} {h : AH} {A k : Nat} {s : GS} {W : Nat → Prop} (x : MX h A s W) (h2 : 2 ≤ k) (h6 : k ≤ 6) (e : E d y 0 as [] h = some (some (.int (rN k)), RFM h A k)) : MC0 d y as h A W (rfS s k) := ⟨_, e, x.rf h2 h6⟩
theorem MC0.same {d y : Nat} {as : LL} {h : AH} {A : Nat} {s : GS} {W : Nat → Prop} {v : Int32} (x : MX h A s W) (e : E d y 0 as [] h = some (some (.int v), h)) : MC0 d y as h A W (v, s) := ⟨_, e, x, Fr0.refl _ _⟩
theorem MC0.y {d y : Nat} {as : LL} {h h' : AH} {A : Nat} {s : GS} {W : Nat → Prop} {v : Int32} {yy : YS} (x : MX h A s W) (q : MY h' A yy) (f : FY A h h') (e : E d y 0 as [] h = some (some (.int v), h')) : MC0 d y as h A W (v, pY s yy) := ⟨_, e, x.y q f⟩
theorem MC0.h {d y : Nat} {as : LL} {h h' : AH} {A : Nat} {s : GS} {W : Nat → Prop} {v : Int32} {H : Nat → SHT} (x : MX h A s W) (q : MH h' A H) (f : Fr0 (blk (A + 1) 14) h h') (e : E d y 0 as [] h = some (some (.int v), h')) : MC0 d y as h A W (v, pH s H) := ⟨_, e, x.h q f⟩
theorem in_n (x : Int32) {n : Nat} (hn : n + 1 < 2 ^ 31) : (decide (lN 0 ≤ x.toInt64) && decide (x.toInt64 ≤ lN n)) = inR x (n + 1) := by
  rw [in_l x.toInt64 hn, inRL_i x hn]
theorem in_k (x : Int32) {n : Nat} (hn : n + 1 < 2 ^ 31) : (decide (lN 0 ≤ x.toInt64) && decide (x.toInt64 ≤ (nI n).toInt64)) = inR x (n + 1) := by
  rw [nI_l (by omega), in_n x hn]
