/-! THE DEVELOPERS' YARD: its methods -/
def itr {α : Type} (f : Nat → α → α) (m i : Nat) (s : α) : α := match m with
  | 0 => s
  | m + 1 => itr f m (i + 1) (f i s)
theorem itr_0 {α : Type} (f : Nat → α → α) (i : Nat) (s : α) : itr f 0 i s = s := rfl
theorem itr_s {α : Type} (f : Nat → α → α) (m i : Nat) (s : α) : itr f (m + 1) i s = itr f m (i + 1) (f i s) := rfl
def anyB (p : Nat → Bool) (m i : Nat) : Bool := match m with
  | 0 => false
  | m + 1 => p i || anyB p m (i + 1)
theorem anyB_0 (p : Nat → Bool) (i : Nat) : anyB p 0 i = false := rfl
theorem anyB_s (p : Nat → Bool) (m i : Nat) : anyB p (m + 1) i = (p i || anyB p m (i + 1)) := rfl
/-- nothing else than A's contents changes -/
def Fr0 (A : Nat → Prop) (h h' : AH) : Prop := hN h' = hN h ∧ hU h' = hU h ∧ hK h' = hK h ∧ hX h' = hX h ∧ hS h' = hS h ∧ hR h' = hR h ∧ ∀ a, ¬ A a → ∀ j, hI h' a j = hI h a j ∧ hL h' a j = hL h a j
def blk (b n : Nat) : Nat → Prop := fun a => b ≤ a ∧ a < b + n
theorem Fr0.refl (A : Nat → Prop) (h : AH) : Fr0 A h h := ⟨rfl, rfl, rfl, rfl, rfl, rfl, fun _ _ _ => ⟨rfl, rfl⟩⟩
theorem Fr0.trans {A : Nat → Prop} {h h1 h2 : AH} (f : Fr0 A h h1) (g : Fr0 A h1 h2) : Fr0 A h h2 := by
  obtain ⟨a1, a2, a3, a4, a5, a6, a7⟩ := f
  obtain ⟨b1, b2, b3, b4, b5, b6, b7⟩ := g
  exact ⟨b1.trans a1, b2.trans a2, b3.trans a3, b4.trans a4, b5.trans a5, b6.trans a6, fun a ha j => ⟨(b7 a ha j).1.trans (a7 a ha j).1, (b7 a ha j).2.trans (a7 a ha j).2⟩⟩
theorem Fr0.mono {A B : Nat → Prop} {h h' : AH} (f : Fr0 A h h') (q : ∀ a, A a → B a) : Fr0 B h h' := by
  obtain ⟨a1, a2, a3, a4, a5, a6, a7⟩ := f
  exact ⟨a1, a2, a3, a4, a5, a6, fun a ha j => a7 a (fun z => ha (q a z)) j⟩
theorem hI_stI (h : AH) (a k : Nat) (v : Int32) (c j : Nat) : hI (stI h a k v) c j = if c = a ∧ j = k then v else hI h c j := rfl
theorem hL_stI (h : AH) (a k : Nat) (v : Int32) : hL (stI h a k v) = hL h := rfl
theorem hS_stI (h : AH) (a k : Nat) (v : Int32) : hS (stI h a k v) = hS h := rfl
theorem hR_stI (h : AH) (a k : Nat) (v : Int32) : hR (stI h a k v) = hR h := rfl
theorem hI_stL (h : AH) (a k : Nat) (v : Int64) : hI (stL h a k v) = hI h := rfl
theorem hL_stL (h : AH) (a k : Nat) (v : Int64) (c j : Nat) : hL (stL h a k v) c j = if c = a ∧ j = k then v else hL h c j := rfl
theorem hS_stL (h : AH) (a k : Nat) (v : Int64) : hS (stL h a k v) = hS h := rfl
theorem hR_stL (h : AH) (a k : Nat) (v : Int64) : hR (stL h a k v) = hR h := rfl
theorem Fr0.stI {A : Nat → Prop} (h : AH) {a : Nat} (ha : A a) (k : Nat) (v : Int32) : Fr0 A h (stI h a k v) := by
  refine ⟨rfl, rfl, rfl, rfl, rfl, rfl, fun c hc j => ⟨?_, rfl⟩⟩
  rw [hI_stI, if_neg]
  rintro ⟨rfl, -⟩
  exact hc ha
theorem Fr0.stL {A : Nat → Prop} (h : AH) {a : Nat} (ha : A a) (k : Nat) (v : Int64) : Fr0 A h (stL h a k v) := by
  refine ⟨rfl, rfl, rfl, rfl, rfl, rfl, fun c hc j => ⟨rfl, ?_⟩⟩
  rw [hL_stL, if_neg]
  rintro ⟨rfl, -⟩
  exact hc ha
theorem XS.stI {h : AH} {b : Nat} (s : XS h b) (a k : Nat) (v : Int32) : XS (stI h a k v) b := s
theorem XV.fr {h h' : AH} {b : Nat} {y : YS} (v : XV h b y) (f : ∀ a, b ≤ a → a < b + 8 → ∀ j, hI h' a j = hI h a j) : XV h' b y := by
  obtain ⟨vc, vg, vn, vt, vz, vK, vA, vU, vM, vW, vC, vP⟩ := v
  have e0 := f b (by omega) (by omega)
  have e1 := f (b + 1) (by omega) (by omega)
  have e2 := f (b + 2) (by omega) (by omega)
  have e3 := f (b + 3) (by omega) (by omega)
  have e4 := f (b + 4) (by omega) (by omega)
  have e5 := f (b + 5) (by omega) (by omega)
  have e6 := f (b + 6) (by omega) (by omega)
  have e7 := f (b + 7) (by omega) (by omega)
  refine ⟨?_, ?_, ?_, ?_, ?_, ?_, ?_, ?_, ?_, ?_, ?_, ?_⟩ <;> simp only [e0, e1, e2, e3, e4, e5, e6, e7] <;> assumption
theorem XY.fr0 {h h' : AH} {b : Nat} {y : YS} {A : Nat → Prop} (v : XY h b y) (f : Fr0 A h h') (n : ∀ a, b ≤ a → a < b + 8 → ¬ A a) : XY h' b y := by
  obtain ⟨s, v, ok⟩ := v
  obtain ⟨a1, a2, a3, a4, a5, a6, a7⟩ := f
  refine ⟨?_, v.fr (fun a h1 h2 j => (a7 a (n a h1 h2) j).1), ok⟩
  unfold XS
  rw [a5, a6]
  exact s
theorem XV.c {h : AH} {b : Nat} {y : YS} (v : XV h b y) (n : Nat) : XV (stI h b 0 (nI n)) b (sc y n) := by
  obtain ⟨vc, vg, vn, vt, vz, vK, vA, vU, vM, vW, vC, vP⟩ := v; refine ⟨?_, ?_, ?_, ?_, ?_, ?_, ?_, ?_, ?_, ?_, ?_, ?_⟩ <;> simp_all [hI_stI, fup, Yc, Yg, Yn, Yt, Yz, YK, YA, YU, YF, YM, YW, YC, YP, yMk, sc, sg, sn, sT, sZ, sK, sA, sU, sM, sW, sC, sP]
theorem XV.g {h : AH} {b : Nat} {y : YS} (v : XV h b y) {n : Nat} (hn : n ≤ Yg y) : XV (stI h b 1 (nI n)) b (sg y n) := by
  obtain ⟨vc, vg, vn, vt, vz, vK, vA, vU, vM, vW, vC, vP⟩ := v; refine ⟨?_, ?_, ?_, ?_, ?_, ?_, ?_, ?_, ?_, ?_, ?_, ?_⟩ <;> simp_all [hI_stI, fup, Yc, Yg, Yn, Yt, Yz, YK, YA, YU, YF, YM, YW, YC, YP, yMk, sc, sg, sn, sT, sZ, sK, sA, sU, sM, sW, sC, sP] <;> intro g hg <;> first | exact vK g (by omega) | exact vA g (by omega) | exact vU g (by omega) | exact vM g (by omega) | exact vW g (by omega)
theorem XV.t {h : AH} {b : Nat} {y : YS} (v : XV h b y) (n : Int32) : XV (stI h b 3 n) b (sT y n) := by
  obtain ⟨vc, vg, vn, vt, vz, vK, vA, vU, vM, vW, vC, vP⟩ := v; refine ⟨?_, ?_, ?_, ?_, ?_, ?_, ?_, ?_, ?_, ?_, ?_, ?_⟩ <;> simp_all [hI_stI, fup, Yc, Yg, Yn, Yt, Yz, YK, YA, YU, YF, YM, YW, YC, YP, yMk, sc, sg, sn, sT, sZ, sK, sA, sU, sM, sW, sC, sP]
theorem XV.z {h : AH} {b : Nat} {y : YS} (v : XV h b y) (n : Int32) : XV (stI h b 4 n) b (sZ y n) := by
  obtain ⟨vc, vg, vn, vt, vz, vK, vA, vU, vM, vW, vC, vP⟩ := v; refine ⟨?_, ?_, ?_, ?_, ?_, ?_, ?_, ?_, ?_, ?_, ?_, ?_⟩ <;> simp_all [hI_stI, fup, Yc, Yg, Yn, Yt, Yz, YK, YA, YU, YF, YM, YW, YC, YP, yMk, sc, sg, sn, sT, sZ, sK, sA, sU, sM, sW, sC, sP]
theorem XV.K {h : AH} {b : Nat} {y : YS} (v : XV h b y) (g n : Nat) : XV (stI h (b + 1) g (nI n)) b (sK y g n) := by
  obtain ⟨vc, vg, vn, vt, vz, vK, vA, vU, vM, vW, vC, vP⟩ := v; refine ⟨?_, ?_, ?_, ?_, ?_, ?_, ?_, ?_, ?_, ?_, ?_, ?_⟩ <;> simp_all [hI_stI, fup, Yc, Yg, Yn, Yt, Yz, YK, YA, YU, YF, YM, YW, YC, YP, yMk, sc, sg, sn, sT, sZ, sK, sA, sU, sM, sW, sC, sP] <;> intro g hg <;> split <;> simp_all
theorem XV.A {h : AH} {b : Nat} {y : YS} (v : XV h b y) (g n : Nat) : XV (stI h (b + 2) g (nI n)) b (sA y g n) := by
  obtain ⟨vc, vg, vn, vt, vz, vK, vA, vU, vM, vW, vC, vP⟩ := v; refine ⟨?_, ?_, ?_, ?_, ?_, ?_, ?_, ?_, ?_, ?_, ?_, ?_⟩ <;> simp_all [hI_stI, fup, Yc, Yg, Yn, Yt, Yz, YK, YA, YU, YF, YM, YW, YC, YP, yMk, sc, sg, sn, sT, sZ, sK, sA, sU, sM, sW, sC, sP] <;> intro g hg <;> split <;> simp_all
theorem XV.U {h : AH} {b : Nat} {y : YS} (v : XV h b y) (g n : Nat) : XV (stI h (b + 3) g (nI n)) b (sU y g n) := by
  obtain ⟨vc, vg, vn, vt, vz, vK, vA, vU, vM, vW, vC, vP⟩ := v; refine ⟨?_, ?_, ?_, ?_, ?_, ?_, ?_, ?_, ?_, ?_, ?_, ?_⟩ <;> simp_all [hI_stI, fup, Yc, Yg, Yn, Yt, Yz, YK, YA, YU, YF, YM, YW, YC, YP, yMk, sc, sg, sn, sT, sZ, sK, sA, sU, sM, sW, sC, sP] <;> intro g hg <;> split <;> simp_all
theorem XV.M {h : AH} {b : Nat} {y : YS} (v : XV h b y) (g f s : Nat) : XV (stI h (b + 4) g (nI (f + 4 * s))) b (sM y g f s) := by
  obtain ⟨vc, vg, vn, vt, vz, vK, vA, vU, vM, vW, vC, vP⟩ := v; refine ⟨?_, ?_, ?_, ?_, ?_, ?_, ?_, ?_, ?_, ?_, ?_, ?_⟩ <;> simp_all [hI_stI, fup, Yc, Yg, Yn, Yt, Yz, YK, YA, YU, YF, YM, YW, YC, YP, yMk, sc, sg, sn, sT, sZ, sK, sA, sU, sM, sW, sC, sP] <;> intro g hg <;> split <;> simp_all
theorem XV.W {h : AH} {b : Nat} {y : YS} (v : XV h b y) (g : Nat) (n : Int32) : XV (stI h (b + 5) g n) b (sW y g n) := by
  obtain ⟨vc, vg, vn, vt, vz, vK, vA, vU, vM, vW, vC, vP⟩ := v; refine ⟨?_, ?_, ?_, ?_, ?_, ?_, ?_, ?_, ?_, ?_, ?_, ?_⟩ <;> simp_all [hI_stI, fup, Yc, Yg, Yn, Yt, Yz, YK, YA, YU, YF, YM, YW, YC, YP, yMk, sc, sg, sn, sT, sZ, sK, sA, sU, sM, sW, sC, sP] <;> intro g hg <;> split <;> simp_all
theorem XV.C {h : AH} {b : Nat} {y : YS} (v : XV h b y) (g n : Nat) : XV (stI h (b + 6) g (nI n)) b (sC y g n) := by
  obtain ⟨vc, vg, vn, vt, vz, vK, vA, vU, vM, vW, vC, vP⟩ := v; refine ⟨?_, ?_, ?_, ?_, ?_, ?_, ?_, ?_, ?_, ?_, ?_, ?_⟩ <;> simp_all [hI_stI, fup, Yc, Yg, Yn, Yt, Yz, YK, YA, YU, YF, YM, YW, YC, YP, yMk, sc, sg, sn, sT, sZ, sK, sA, sU, sM, sW, sC, sP] <;> intro g hg <;> split <;> simp_all
theorem XV.P {h : AH} {b : Nat} {y : YS} (v : XV h b y) (g n : Nat) : XV (stI h (b + 7) g (nI n)) b (sP y g n) := by
  obtain ⟨vc, vg, vn, vt, vz, vK, vA, vU, vM, vW, vC, vP⟩ := v; refine ⟨?_, ?_, ?_, ?_, ?_, ?_, ?_, ?_, ?_, ?_, ?_, ?_⟩ <;> simp_all [hI_stI, fup, Yc, Yg, Yn, Yt, Yz, YK, YA, YU, YF, YM, YW, YC, YP, yMk, sc, sg, sn, sT, sZ, sK, sA, sU, sM, sW, sC, sP] <;> intro g hg <;> split <;> simp_all
