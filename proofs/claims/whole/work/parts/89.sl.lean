/-! KNOW, the reference: one guess and one try -/
def cnV (v : Nat → Bool) (m k a : Nat) : Nat := itr (fun k a => if v k = true then a + 1 else a) m k a
def kS (lt : Nat × Nat → Nat → Bool) (sf : Nat × Nat → Nat → Nat × Nat) (C : Nat) (n : Nat) (q : Nat → Nat × Nat) (v : Nat → Bool) : Bool := match n with
  | 0 => decide (cnV v (C + 1) 0 0 ≤ 1)
  | n + 1 => decide (cnV v (C + 1) 0 0 ≤ 1) || anyB (fun c => kS lt sf C n (fun k => sf (q k) c) (fun k => v k && (lt (q k) c == false)) && kS lt sf C n (fun k => sf (q k) c) (fun k => v k && (lt (q k) c == true))) C 0
def KT (h : AH) (A t : Nat) (F S V : Nat → Nat → Int32) : Prop := ∀ l, t ≤ l → l < 7 → ∀ k, hI h (A + 30 + l) k = F l k ∧ hI h (A + 38 + l) k = S l k ∧ hI h (A + 46 + l) k = V l k
def KH (h0 h : AH) (A : Nat) (s : GS) (W : Nat → Prop) (o g : Nat) (p : Nat × Nat) (t : Nat) (F S V : Nat → Nat → Int32) : Prop := TH h0 h A s W o g p ∧ KT h A t F S V
theorem KH.z {h0 h : AH} {A : Nat} {s : GS} {W : Nat → Prop} {o g : Nat} {p : Nat × Nat} {t : Nat} {F S V : Nat → Nat → Int32} (q : KH h0 h A s W o g p t F S V) : hI h A 9 = nI (Yc (gY s)) ∧ A + 53 ≤ o ∧ MZ h A := ⟨q.1.1.1.2.1.1, (q.1.1.2.2.2.2.2.1.1 o q.1.2.1).2.1, q.1.1.2.2.2.2.1⟩
theorem KH.o {h0 h h' : AH} {A : Nat} {s : GS} {W : Nat → Prop} {o g : Nat} {p p' : Nat × Nat} {t : Nat} {F S V : Nat → Nat → Int32} (q : KH h0 h A s W o g p t F S V) (f2 : FY o h h') (y2 : MY h' o (wM (gY s) g p')) : KH h0 h' A s W o g p' t F S V := by
  have ao := q.z.2.1
  obtain ⟨⟨x1, q1, y1, kw, rm⟩, il⟩ := q
  have zo := x1.o q1 f2.bk
  have f7 := f2.1.2.2.2.2.2.2
  exact ⟨⟨zo.1, by rw [f2.1.2.2.2.2.2.1]; exact q1, y2, kw.trans zo.2.1, rm.trans zo.2.2⟩, fun l h1 h2 k => by
    rw [(f7 (A + 30 + l) (fun w => by unfold yA at w; omega) k).1, (f7 (A + 38 + l) (fun w => by unfold yA at w; omega) k).1, (f7 (A + 46 + l) (fun w => by unfold yA at w; omega) k).1]; exact il l h1 h2 k⟩
theorem KH.try {h0 h : AH} {A : Nat} {s : GS} {W : Nat → Prop} {o g : Nat} {p : Nat × Nat} {t : Nat} {F S V : Nat → Nat → Int32} (q : KH h0 h A s W o g p t F S V) (d : Nat) (hg : g < Yg (gY s)) {c : Nat} (hc : c < Yc (gY s)) (p3 : Option Value) : ∃ h', E (d + 2) 183 0 [some (.ref o), some (.int (nI g)), some (.int (nI c)), p3] [] h = some (some (.int (bI (lt1 (gY s) g p c))), h') ∧ KH h0 h' A s W o g (stp (gY s) g p c) t F S V ∧ FY o h h' := by
  obtain ⟨h2, e183, y2, f2⟩ := m183p d q.1.2.2.1 hg hc p3
  exact ⟨h2, e183, q.o f2 y2, f2⟩
theorem KH.set {h0 h : AH} {A : Nat} {s : GS} {W : Nat → Prop} {o g : Nat} {p : Nat × Nat} {t : Nat} {F S V : Nat → Nat → Int32} (q : KH h0 h A s W o g p t F S V) {p' : Nat × Nat} (hp : pOK (gY s) p') : KH h0 (stI (stI h (o + 19) (YU (gY s) g) (qI p'.1)) (o + 20) (YU (gY s) g) (qI p'.2)) A s W o g p' t F S V := by
  have y1 := q.1.2.2.1
  have ok := q.1.1.1.2.2
  refine q.o ((FY.arr _ (by decide) _ _).trans (FY.arr _ (by decide) _ _)) ⟨y1.1, ?_, ok.wM hp⟩
  have := y1.2.1.M' (YU (gY s) g) p'.1 p'.2
  rw [wM_set] at this
  exact this
theorem TH.c {h0 h : AH} {A : Nat} {s : GS} {W : Nat → Prop} {o g : Nat} {p : Nat × Nat} (q : TH h0 h A s W o g p) {a : Nat} (a1 : A + 25 ≤ a) (a2 : a < A + 53) (k : Nat) (v : Int32) : TH h0 (stI h a k v) A s W o g p := by
  have ao := (q.1.2.2.2.2.2.1.1 o q.2.1).2.1
  obtain ⟨x1, q1, y1, kw, rm⟩ := q
  have f : Fr0 (fun b => b = A ∨ b = A + 13 ∨ (A + 25 ≤ b ∧ b < A + 53)) h (stI h a k v) := Fr0.stI _ (Or.inr (Or.inr ⟨a1, a2⟩)) _ _
  have z := x1.w f (fun j hj => by rw [hI_stI, if_neg (fun w => by omega)])
  exact ⟨z.1, q1, y1.fr0 f (fun b h1 h2 w => by omega), kw.trans (z.2.kw x1.2.2.2.2.2.2.1), rm.trans (z.2.rm A)⟩
theorem KH.c {h0 h : AH} {A : Nat} {s : GS} {W : Nat → Prop} {o g : Nat} {p : Nat × Nat} {n : Nat} {F S V : Nat → Nat → Int32} (q : KH h0 h A s W o g p (n + 1) F S V) (hn : n < 7) {b : Nat} (hb : b = 30 ∨ b = 38 ∨ b = 46) (k : Nat) (v : Int32) : KH h0 (stI h (A + b + n) k v) A s W o g p (n + 1) F S V := by
  refine ⟨q.1.c (by omega) (by omega) k v, fun l h1 h2 j => ?_⟩
  have := q.2 l h1 h2 j
  rw [hI_stI, hI_stI, hI_stI, if_neg (fun w => by omega), if_neg (fun w => by omega), if_neg (fun w => by omega)]
  exact this
theorem KH.lv {h0 h : AH} {A : Nat} {s : GS} {W : Nat → Prop} {o g : Nat} {p : Nat × Nat} {t : Nat} {F S V : Nat → Nat → Int32} (q : KH h0 h A s W o g p t F S V) {l : Nat} (h2 : l < 7) : hR h A 35 = some (A + 29) ∧ hS h (A + 29) = some (6, 7) ∧ hR h A 36 = some (A + 37) ∧ hS h (A + 37) = some (6, 7) ∧ hR h A 37 = some (A + 45) ∧ hS h (A + 45) = some (7, 7) ∧ hR h (A + 29) l = some (A + 30 + l) ∧ hS h (A + 30 + l) = some (0, 4) ∧ hR h (A + 37) l = some (A + 38 + l) ∧ hS h (A + 38 + l) = some (0, 4) ∧ hR h (A + 45) l = some (A + 46 + l) ∧ hS h (A + 46 + l) = some (3, 4) := by
  obtain ⟨-, -, -, -, m1, m2, m3, m4, m5, m6, m7⟩ := q.z.2.2
  exact ⟨m1, m2, m3, m4, m5, m6, m7 l h2⟩
/-- level t holds the guesses that are left -/
def LV (y : YS) (F S V : Nat → Nat → Int32) (t : Nat) (q : Nat → Nat × Nat) (v : Nat → Bool) : Prop := ∀ k, k ≤ Yc y → V t k = bI (v k) ∧ (v k = true → F t k = qI (q k).1 ∧ S t k = qI (q k).2 ∧ pOK y (q k))
theorem nar_0 : vp_nar .boolean (nI 0) = nI 0 := by decide
theorem nar_1 : vp_nar .boolean (nI 1) = nI 1 := by decide
theorem cnV_le (v : Nat → Bool) : ∀ m k a, cnV v m k a ≤ a + m := by
  intro m
  induction m with
  | zero => intro k a; exact Nat.le_refl _
  | succ m ih =>
    intro k a
    have := ih (k + 1) (if v k = true then a + 1 else a)
    show cnV v m (k + 1) (if v k = true then a + 1 else a) ≤ _
    split at this <;> split <;> first | omega | contradiction
