/-! THE WHOLE STATE: yard, kept yard, shelves, tape, refusals; the developers' picture of it at B -/
abbrev GS : Type := YS × Option YS × (Nat → SHT) × (Nat × (Nat → Nat)) × (Nat → Int32)
def gY (s : GS) : YS := s.1
def gK (s : GS) : Option YS := s.2.1
def gH (s : GS) : Nat → SHT := s.2.2.1
def gn (s : GS) : Nat := s.2.2.2.1.1
def gb (s : GS) : Nat → Nat := s.2.2.2.1.2
def gQ (s : GS) : Nat → Int32 := s.2.2.2.2
def gMk (y : YS) (k : Option YS) (H : Nat → SHT) (n : Nat) (b : Nat → Nat) (r : Nat → Int32) : GS := (y, k, H, (n, b), r)
def pY (s : GS) (y : YS) : GS := gMk y (gK s) (gH s) (gn s) (gb s) (gQ s)
def pK (s : GS) (k : Option YS) : GS := gMk (gY s) k (gH s) (gn s) (gb s) (gQ s)
def pH (s : GS) (H : Nat → SHT) : GS := gMk (gY s) (gK s) H (gn s) (gb s) (gQ s)
def pT (s : GS) (n : Nat) (b : Nat → Nat) : GS := gMk (gY s) (gK s) (gH s) n b (gQ s)
def bm (s : GS) (k : Nat) : GS := gMk (gY s) (gK s) (gH s) (gn s) (gb s) (fup (gQ s) (k - 2) (gQ s (k - 2) + nI 1))
/-- a refused call -/
def rfS (s : GS) (k : Nat) : Int32 × GS := (rN k, bm s k)
def DO (h : AH) (B : Nat) : Prop := hS h B = some (104, 0) ∧ hR h B 0 = some (B + 1) ∧ hR h B 1 = some (B + 9) ∧ hR h B 2 = some (B + 17) ∧ hR h B 5 = some (B + 26) ∧ hR h B 6 = some (B + 28) ∧ XS h (B + 9) ∧ XS h (B + 17)
def TX (h : AH) (B n : Nat) (b : Nat → Nat) : Prop := hS h (B + 26) = some (102, 0) ∧ hR h (B + 26) 0 = some (B + 27) ∧ hS h (B + 27) = some (0, 250) ∧ hI h (B + 26) 1 = nI n ∧ n ≤ 250 ∧ ∀ i, i < n → hI h (B + 27) i = nI (b i) ∧ b i < 256
def KX (h : AH) (B : Nat) (k : Option YS) : Prop := hI h B 3 = bI k.isSome ∧ ∀ y, k = some y → XY h (B + 17) y
/-- the state in a place of the line -/
def stA (v : Int64) : Nat := v.toBitVec.toNat % 262144
def QX (h : AH) (B : Nat) : Prop := hS h (B + 28) = some (100, 0) ∧ hR h (B + 28) 0 = some (B + 29) ∧ hS h (B + 29) = some (1, 4096) ∧ ∃ l e c, hR h (B + 28) 1 = some l ∧ (l = B + 30 ∨ B + 48 ≤ l) ∧ l < hN h ∧ hS h l = some (1, 1024 * 2 ^ e) ∧ e ≤ 8 ∧ c ≤ 1024 * 2 ^ e ∧ hI h (B + 28) 2 = nI c ∧ ∀ w, hL h (B + 29) w ≠ 0 → ∃ i, i < c ∧ stA (hL h l i) / 64 = w
def DX (h : AH) (B : Nat) (s : GS) : Prop := DO h B ∧ XY h (B + 1) (gY s) ∧ KX h B (gK s) ∧ XH h B (gH s) ∧ TX h B (gn s) (gb s) ∧ RX h B (gQ s) ∧ QX h B
/-- all of it but the search -/
def dA (B : Nat) : Nat → Prop := fun a => (B ≤ a ∧ a < B + 28) ∨ (B + 31 ≤ a ∧ a < B + 48)
theorem DO.fr0 {h h' : AH} {B : Nat} {A : Nat → Prop} (x : DO h B) (f : Fr0 A h h') : DO h' B := by
  unfold DO XS at x ⊢
  rw [f.2.2.2.2.1, f.2.2.2.2.2.1]; exact x
theorem XS.fr0 {h h' : AH} {b : Nat} {A : Nat → Prop} (x : XS h b) (f : Fr0 A h h') : XS h' b := by
  unfold XS at x ⊢
  rw [f.2.2.2.2.1, f.2.2.2.2.2.1]; exact x
theorem TX.fr0 {h h' : AH} {B n : Nat} {b : Nat → Nat} {A : Nat → Prop} (x : TX h B n b) (f : Fr0 A h h') (n1 : ¬ A (B + 26)) (n2 : ¬ A (B + 27)) : TX h' B n b := by
  obtain ⟨a0, a1, a2, a3, a4, a5⟩ := x
  refine ⟨by rw [f.2.2.2.2.1]; exact a0, by rw [f.2.2.2.2.2.1]; exact a1, by rw [f.2.2.2.2.1]; exact a2, by rw [(f.2.2.2.2.2.2 _ n1 1).1]; exact a3, a4, fun i hi => ?_⟩
  rw [(f.2.2.2.2.2.2 _ n2 i).1]; exact a5 i hi
theorem KX.fr0 {h h' : AH} {B : Nat} {k : Option YS} {A : Nat → Prop} (x : KX h B k) (f : Fr0 A h h') (n1 : ¬ A B) (n2 : ∀ a, B + 17 ≤ a → a < B + 25 → ¬ A a) : KX h' B k := by
  obtain ⟨a0, a1⟩ := x
  exact ⟨by rw [(f.2.2.2.2.2.2 _ n1 3).1]; exact a0, fun y hy => (a1 y hy).fr0 f (fun a q w => n2 a q (by omega))⟩
theorem QX.fr0 {h h' : AH} {B : Nat} {A : Nat → Prop} (x : QX h B) (f : Fr0 A h h') (n : ∀ a, A a → dA B a) : QX h' B := by
  obtain ⟨a0, a1, a2, l, e, c, a3, a4, a5, a6, a7, a8, a9, a10⟩ := x
  have k1 : ¬ A (B + 28) := fun q => by have := n _ q; unfold dA at this; omega
  have k2 : ¬ A (B + 29) := fun q => by have := n _ q; unfold dA at this; omega
  have k3 : ¬ A l := fun q => by have := n _ q; unfold dA at this; omega
  refine ⟨by rw [f.2.2.2.2.1]; exact a0, by rw [f.2.2.2.2.2.1]; exact a1, by rw [f.2.2.2.2.1]; exact a2, l, e, c, by rw [f.2.2.2.2.2.1]; exact a3, a4, by rw [f.1]; exact a5, by rw [f.2.2.2.2.1]; exact a6, a7, a8, by rw [(f.2.2.2.2.2.2 _ k1 2).1]; exact a9, fun w hw => ?_⟩
  rw [(f.2.2.2.2.2.2 _ k2 w).2] at hw
  obtain ⟨i, hi, e⟩ := a10 w hw
  exact ⟨i, hi, by rw [(f.2.2.2.2.2.2 _ k3 i).2]; exact e⟩
theorem DX.y {h h' : AH} {B : Nat} {s : GS} {y : YS} (x : DX h B s) (q : XY h' (B + 1) y) (f : Fr0 (blk (B + 1) 8) h h') : DX h' B (pY s y) ∧ Fr0 (dA B) h h' := by
  obtain ⟨x1, x2, x3, x4, x5, x6, x7⟩ := x
  have m : ∀ a, blk (B + 1) 8 a → dA B a := fun a w => by unfold blk at w; unfold dA; omega
  exact ⟨⟨x1.fr0 f, q, x3.fr0 f (fun w => by unfold blk at w; omega) (fun a _ _ w => by unfold blk at w; omega), x4.fr0 f (fun a _ _ w => by unfold blk at w; omega), x5.fr0 f (fun w => by unfold blk at w; omega) (fun w => by unfold blk at w; omega), x6.fr0 f (fun w => by unfold blk at w; omega), x7.fr0 f m⟩, f.mono m⟩
theorem DX.th {h h' : AH} {B : Nat} {s : GS} (x : DX h B s) (f : Fr0 (blk (B + 9) 8) h h') : DX h' B s ∧ Fr0 (dA B) h h' := by
  obtain ⟨x1, x2, x3, x4, x5, x6, x7⟩ := x
  have m : ∀ a, blk (B + 9) 8 a → dA B a := fun a w => by unfold blk at w; unfold dA; omega
  exact ⟨⟨x1.fr0 f, x2.fr0 f (fun a _ _ w => by unfold blk at w; omega), x3.fr0 f (fun w => by unfold blk at w; omega) (fun a _ _ w => by unfold blk at w; omega), x4.fr0 f (fun a _ _ w => by unfold blk at w; omega), x5.fr0 f (fun w => by unfold blk at w; omega) (fun w => by unfold blk at w; omega), x6.fr0 f (fun w => by unfold blk at w; omega), x7.fr0 f m⟩, f.mono m⟩
theorem DX.h {h h' : AH} {B : Nat} {s : GS} {H : Nat → SHT} (x : DX h B s) (q : XH h' B H) (f : Fr0 (blk (B + 32) 16) h h') : DX h' B (pH s H) ∧ Fr0 (dA B) h h' := by
  obtain ⟨x1, x2, x3, x4, x5, x6, x7⟩ := x
  have m : ∀ a, blk (B + 32) 16 a → dA B a := fun a w => by unfold blk at w; unfold dA; omega
  exact ⟨⟨x1.fr0 f, x2.fr0 f (fun a _ _ w => by unfold blk at w; omega), x3.fr0 f (fun w => by unfold blk at w; omega) (fun a _ _ w => by unfold blk at w; omega), q, x5.fr0 f (fun w => by unfold blk at w; omega) (fun w => by unfold blk at w; omega), x6.fr0 f (fun w => by unfold blk at w; omega), x7.fr0 f m⟩, f.mono m⟩
theorem DX.t {h h' : AH} {B n : Nat} {b : Nat → Nat} {s : GS} (x : DX h B s) (q : TX h' B n b) (f : Fr0 (blk (B + 26) 2) h h') : DX h' B (pT s n b) ∧ Fr0 (dA B) h h' := by
  obtain ⟨x1, x2, x3, x4, x5, x6, x7⟩ := x
  have m : ∀ a, blk (B + 26) 2 a → dA B a := fun a w => by unfold blk at w; unfold dA; omega
  exact ⟨⟨x1.fr0 f, x2.fr0 f (fun a _ _ w => by unfold blk at w; omega), x3.fr0 f (fun w => by unfold blk at w; omega) (fun a _ _ w => by unfold blk at w; omega), x4.fr0 f (fun a _ _ w => by unfold blk at w; omega), q, x6.fr0 f (fun w => by unfold blk at w; omega), x7.fr0 f m⟩, f.mono m⟩
theorem DX.r {h h' : AH} {B k : Nat} {s : GS} (x : DX h B s) (q : RX h' B (fup (gQ s) (k - 2) (gQ s (k - 2) + nI 1))) (f : Fr0 (blk (B + 31) 1) h h') : DX h' B (bm s k) ∧ Fr0 (dA B) h h' := by
  obtain ⟨x1, x2, x3, x4, x5, x6, x7⟩ := x
  have m : ∀ a, blk (B + 31) 1 a → dA B a := fun a w => by unfold blk at w; unfold dA; omega
  exact ⟨⟨x1.fr0 f, x2.fr0 f (fun a _ _ w => by unfold blk at w; omega), x3.fr0 f (fun w => by unfold blk at w; omega) (fun a _ _ w => by unfold blk at w; omega), x4.fr0 f (fun a _ _ w => by unfold blk at w; omega), x5.fr0 f (fun w => by unfold blk at w; omega) (fun w => by unfold blk at w; omega), q, x7.fr0 f m⟩, f.mono m⟩
theorem DX.k {h h' : AH} {B : Nat} {k : Option YS} {s : GS} (x : DX h B s) (q : KX h' B k) (f : Fr0 (fun a => a = B ∨ blk (B + 17) 8 a) h h') : DX h' B (pK s k) ∧ Fr0 (dA B) h h' := by
  obtain ⟨x1, x2, x3, x4, x5, x6, x7⟩ := x
  have m : ∀ a, (a = B ∨ blk (B + 17) 8 a) → dA B a := fun a w => by unfold blk at w; unfold dA; omega
  exact ⟨⟨x1.fr0 f, x2.fr0 f (fun a _ _ w => by unfold blk at w; omega), q, x4.fr0 f (fun a _ _ w => by unfold blk at w; omega), x5.fr0 f (fun w => by unfold blk at w; omega) (fun w => by unfold blk at w; omega), x6.fr0 f (fun w => by unfold blk at w; omega), x7.fr0 f m⟩, f.mono m⟩
/-- the developers' call answers and leaves what it should -/
def DC (d y : Nat) (as : LL) (h : AH) (B : Nat) (r : Int32 × GS) : Prop := ∃ h', E d y 0 as [] h = some (some (.int r.1), h') ∧ DX h' B r.2 ∧ Fr0 (dA B) h h'
theorem c131 (d : Nat) {h : AH} {B : Nat} {s : GS} (hx : DX h B s) {k : Nat} (h2 : 2 ≤ k) (h6 : k ≤ 6) : DC d 131 [some (.ref B), some (.int (rN k))] h B (rfS s k) := by
  obtain ⟨h', e, q, f⟩ := x131' d hx.2.2.2.2.2.1 h2 h6
  exact ⟨h', e, hx.r q f⟩
theorem rN_d {k : Nat} (h : 2 ≤ k) : -nI k = rN k := rfl
def RFH (h : AH) (B k : Nat) : AH := stI h (B + 31) (k - 2) (hI h (B + 31) (k - 2) + nI 1)
theorem c131e {h : AH} {B : Nat} {s : GS} (hx : DX h B s) (d : Nat) {k : Nat} (h2 : 2 ≤ k) (h6 : k ≤ 6) : E d 131 0 [some (.ref B), some (.int (rN k))] [] h = some (some (.int (rN k)), RFH h B k) := by
  obtain ⟨z0, r0, z1, v⟩ := hx.2.2.2.2.2.1
  exact x131 d z0 r0 z1 h2 h6
theorem DX.rf {h : AH} {B : Nat} {s : GS} (hx : DX h B s) {k : Nat} (h2 : 2 ≤ k) (h6 : k ≤ 6) : DX (RFH h B k) B (bm s k) ∧ Fr0 (dA B) h (RFH h B k) := by
  refine hx.r ?_ (Fr0.stI _ ⟨Nat.le_refl _, Nat.lt_succ_self _⟩ _ _)
  obtain ⟨z0, r0, z1, v⟩ := hx.2.2.2.2.2.1
  refine ⟨z0, r0, z1, fun j hj => ?_⟩
  unfold RFH
  rw [hI_stI]
  unfold fup
  by_cases e : j = k - 2
  · rw [if_pos ⟨rfl, e⟩, if_pos e, v _ (by omega)]
  · rw [if_neg (fun w => e w.2), if_neg e, v j hj]
theorem DC.rf {d y : Nat} {as : LL} {h : AH} {B k : Nat} {s : GS} (hx : DX h B s) (h2 : 2 ≤ k) (h6 : k ≤ 6) (e : E d y 0 as [] h = some (some (.int (rN k)), RFH h B k)) : DC d y as h B (rfS s k) := ⟨_, e, hx.rf h2 h6⟩
theorem DC.same {d y : Nat} {as : LL} {h : AH} {B : Nat} {s : GS} {v : Int32} (hx : DX h B s) (e : E d y 0 as [] h = some (some (.int v), h)) : DC d y as h B (v, s) := ⟨_, e, hx, Fr0.refl _ _⟩
theorem DC.y {d y : Nat} {as : LL} {h h' : AH} {B : Nat} {s : GS} {v : Int32} {yy : YS} (hx : DX h B s) (q : XY h' (B + 1) yy) (f : Fr0 (blk (B + 1) 8) h h') (e : E d y 0 as [] h = some (some (.int v), h')) : DC d y as h B (v, pY s yy) := ⟨_, e, hx.y q f⟩
theorem DC.h {d y : Nat} {as : LL} {h h' : AH} {B : Nat} {s : GS} {v : Int32} {H : Nat → SHT} (hx : DX h B s) (q : XH h' B H) (f : Fr0 (blk (B + 32) 16) h h') (e : E d y 0 as [] h = some (some (.int v), h')) : DC d y as h B (v, pH s H) := ⟨_, e, hx.h q f⟩
theorem DC.t {d y : Nat} {as : LL} {h h' : AH} {B n : Nat} {s : GS} {v : Int32} {b : Nat → Nat} (hx : DX h B s) (q : TX h' B n b) (f : Fr0 (blk (B + 26) 2) h h') (e : E d y 0 as [] h = some (some (.int v), h')) : DC d y as h B (v, pT s n b) := ⟨_, e, hx.t q f⟩
