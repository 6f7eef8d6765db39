/-! OUT, WAY, FOE, HARM of the developers -/
theorem DX.kq {h h' : AH} {B l : Nat} {s : GS} (x : DX h B s) (f : KW (fun b => b < hN h ∧ b ≠ B + 28 ∧ b ≠ B + 29 ∧ b ≠ l) h h') (hl : l = B + 30 ∨ B + 48 ≤ l) (hB : B + 48 ≤ hN h) (qx : QX h' B) : DX h' B s := by
  obtain ⟨x1, x2, x3, x4, x5, x6, x7⟩ := x
  have g : ∀ b, B ≤ b → b < B + 48 → b ≠ B + 28 → b ≠ B + 29 → b ≠ B + 30 → hS h' b = hS h b ∧ ∀ j, hI h' b j = hI h b j ∧ hL h' b j = hL h b j ∧ hR h' b j = hR h b j := fun b h1 h2 h3 h4 h5 => f.2.2.2.2 b ⟨by omega, h3, h4, by omega⟩
  have gS : ∀ b, B ≤ b → b < B + 48 → b ≠ B + 28 → b ≠ B + 29 → b ≠ B + 30 → hS h' b = hS h b := fun b h1 h2 h3 h4 h5 => (g b h1 h2 h3 h4 h5).1
  have gI : ∀ b j, B ≤ b → b < B + 48 → b ≠ B + 28 → b ≠ B + 29 → b ≠ B + 30 → hI h' b j = hI h b j := fun b j h1 h2 h3 h4 h5 => ((g b h1 h2 h3 h4 h5).2 j).1
  have gL : ∀ b j, B ≤ b → b < B + 48 → b ≠ B + 28 → b ≠ B + 29 → b ≠ B + 30 → hL h' b j = hL h b j := fun b j h1 h2 h3 h4 h5 => ((g b h1 h2 h3 h4 h5).2 j).2.1
  have gR : ∀ b j, B ≤ b → b < B + 48 → b ≠ B + 28 → b ≠ B + 29 → b ≠ B + 30 → hR h' b j = hR h b j := fun b j h1 h2 h3 h4 h5 => ((g b h1 h2 h3 h4 h5).2 j).2.2
  have XSk : ∀ b, B ≤ b → b + 8 ≤ B + 28 → XS h b → XS h' b := fun b h1 h2 s => by
    unfold XS at s ⊢
    simp (disch := omega) only [gS, gR]; exact s
  refine ⟨?_, x2.kw f (fun a h1 h2 => by omega), ⟨?_, fun y hy => (x3.2 y hy).kw f (fun a h1 h2 => by omega)⟩, ?_, ?_, ?_, qx⟩
  · obtain ⟨a1, a2, a3, a4, a5, a6, a7, a8⟩ := x1
    exact ⟨by rw [gS _ (by omega) (by omega) (by omega) (by omega) (by omega)]; exact a1, by rw [gR _ _ (by omega) (by omega) (by omega) (by omega) (by omega)]; exact a2, by rw [gR _ _ (by omega) (by omega) (by omega) (by omega) (by omega)]; exact a3, by rw [gR _ _ (by omega) (by omega) (by omega) (by omega) (by omega)]; exact a4, by rw [gR _ _ (by omega) (by omega) (by omega) (by omega) (by omega)]; exact a5, by rw [gR _ _ (by omega) (by omega) (by omega) (by omega) (by omega)]; exact a6, XSk _ (by omega) (by omega) a7, XSk _ (by omega) (by omega) a8⟩
  · rw [gI _ _ (by omega) (by omega) (by omega) (by omega) (by omega)]; exact x3.1
  · obtain ⟨a1, a2, a3, a4⟩ := x4
    refine ⟨by rw [gS _ (by omega) (by omega) (by omega) (by omega) (by omega)]; exact a1, by rw [gR _ _ (by omega) (by omega) (by omega) (by omega) (by omega)]; exact a2, by rw [gS _ (by omega) (by omega) (by omega) (by omega) (by omega)]; exact a3, fun j hj => ?_⟩
    obtain ⟨b1, b2, ⟨v0, v1, v2, v3⟩, b4⟩ := a4 j hj
    refine ⟨by rw [gR _ _ (by omega) (by omega) (by omega) (by omega) (by omega)]; exact b1, ?_, ⟨?_, fun q => ?_, ?_, fun i hi => ?_⟩, b4⟩
    · unfold SS at b2 ⊢
      simp (disch := omega) only [gS, gR]; exact b2
    · rw [gI _ _ (by omega) (by omega) (by omega) (by omega) (by omega)]; exact v0
    · rw [gI _ _ (by omega) (by omega) (by omega) (by omega) (by omega)]; exact v1 q
    · rw [gI _ _ (by omega) (by omega) (by omega) (by omega) (by omega)]; exact v2
    · rw [gL _ _ (by omega) (by omega) (by omega) (by omega) (by omega)]; exact v3 i hi
  · obtain ⟨a0, a1, a2, a3, a4, a5⟩ := x5
    exact ⟨by rw [gS _ (by omega) (by omega) (by omega) (by omega) (by omega)]; exact a0, by rw [gR _ _ (by omega) (by omega) (by omega) (by omega) (by omega)]; exact a1, by rw [gS _ (by omega) (by omega) (by omega) (by omega) (by omega)]; exact a2, by rw [gI _ _ (by omega) (by omega) (by omega) (by omega) (by omega)]; exact a3, a4, fun i hi => by rw [gI _ _ (by omega) (by omega) (by omega) (by omega) (by omega)]; exact a5 i hi⟩
  · obtain ⟨a1, a2, a3, a4⟩ := x6
    exact ⟨by rw [gS _ (by omega) (by omega) (by omega) (by omega) (by omega)]; exact a1, by rw [gR _ _ (by omega) (by omega) (by omega) (by omega) (by omega)]; exact a2, by rw [gS _ (by omega) (by omega) (by omega) (by omega) (by omega)]; exact a3, fun k hk => by rw [gI _ _ (by omega) (by omega) (by omega) (by omega) (by omega)]; exact a4 k hk⟩
theorem QL.qx {h0 h : AH} {B lh0 e0 c : Nat} {S P C : Nat → Nat} (q : QL h0 h B lh0 e0 c S P C) : QX h B := by
  obtain ⟨l, e, sa, ln, sn, k2, kc, fq, hl, hn, hu⟩ := q
  obtain ⟨a1, a2, a3, a4, a5, a6, a7, a8⟩ := sa
  refine ⟨a1, a2, a3, l, e, c, a4, a5, a6, a7, a8, kc, k2, fun w hw => ?_⟩
  obtain ⟨V, v1, v2, v3⟩ := sn w
  have nz : V ≠ 0 := fun z => hw (by rw [v2, z]; rfl)
  obtain ⟨b, hb, tb⟩ : ∃ b, b < 64 ∧ V.testBit b = true := Classical.byContradiction fun n => nz (Nat.eq_of_testBit_eq fun i => by
    rw [Nat.zero_testBit]
    by_cases hi : i < 64
    · cases t : V.testBit i
      · rfl
      · exact absurd ⟨i, hi, t⟩ n
    · exact Nat.testBit_lt_two_pow (Nat.lt_of_lt_of_le v1 (Nat.pow_le_pow_right (by decide) (by omega))))
  obtain ⟨j, j1, j2⟩ := (v3 b hb).mp tb
  exact ⟨j, j1, by rw [stA_16 ln j1]; omega⟩
def LE (h : AH) (B l e : Nat) : Prop := hR h (B + 28) 1 = some l ∧ hS h l = some (1, 1024 * 2 ^ e) ∧ e ≤ 8 ∧ (l = B + 30 ∨ B + 48 ≤ l) ∧ l < hN h
theorem pw_inj : ∀ a, a < 9 → ∀ b, b < 9 → 2 ^ a = 2 ^ b → a = b := by decide
theorem LE.sa {h : AH} {B l e : Nat} (x : LE h B l e) (q : QX h B) : SA h B l e ∧ ∃ c, c ≤ 1024 * 2 ^ e ∧ hI h (B + 28) 2 = nI c ∧ ∀ w, hL h (B + 29) w ≠ 0 → ∃ i, i < c ∧ stA (hL h l i) / 64 = w := by
  obtain ⟨x1, x2, x3, x4, x5⟩ := x
  obtain ⟨a1, a2, a3, l', e', c, b1, b2, b3, b4, b5, b6, b7, b8⟩ := q
  rw [x1] at b1
  cases b1
  rw [x2] at b4
  have e1 : 2 ^ e = 2 ^ e' := by
    have := congrArg (fun o => (o.getD (0, 0)).2) b4
    simp only [Option.getD_some] at this
    omega
  have e2 := pw_inj e (by omega) e' (by omega) e1
  subst e2
  exact ⟨⟨a1, a2, a3, x1, x4, x5, x2, x3⟩, c, b6, b7, b8⟩
/-- what a search leaves -/
def DB (B : Nat) (h h' : AH) (lh0 e0 l e : Nat) : Prop := LE h' B l e ∧ (l = lh0 ∨ hN h ≤ l) ∧ KW (fun b => b < hN h ∧ ¬ blk B 48 b ∧ b ≠ lh0) h h' ∧ (∀ b, b < hN h → hS h' b = hS h b) ∧ hN h' + e0 = hN h + e ∧ hU h' + 2048 * 2 ^ e0 = hU h + 2048 * 2 ^ e
theorem DB.trans {B : Nat} {h h1 h2 : AH} {lh0 e0 lh1 e1 lh2 e2 : Nat} (f : DB B h h1 lh0 e0 lh1 e1) (g : DB B h1 h2 lh1 e1 lh2 e2) : DB B h h2 lh0 e0 lh2 e2 := by
  obtain ⟨f1, f2, f3, f4, f5, f6⟩ := f
  obtain ⟨g1, g2, g3, g4, g5, g6⟩ := g
  have hn := f3.2.2.1
  refine ⟨g1, by omega, ?_, fun b hb => (g4 b (by omega)).trans (f4 b hb), by omega, by omega⟩
  obtain ⟨a1, a2, a3, a4, a5⟩ := f3
  obtain ⟨b1, b2, b3, b4, b5⟩ := g3
  refine ⟨b1.trans a1, b2.trans a2, by omega, by omega, fun b hb => ?_⟩
  have x := a5 b hb
  have y := b5 b ⟨by omega, hb.2.1, by omega⟩
  exact ⟨y.1.trans x.1, fun j => ⟨(y.2 j).1.trans (x.2 j).1, (y.2 j).2.1.trans (x.2 j).2.1, (y.2 j).2.2.trans (x.2 j).2.2⟩⟩
theorem Fr0.db {B l e : Nat} {h h' : AH} (f : Fr0 (dA B) h h') (x : LE h B l e) : DB B h h' l e l e := by
  refine ⟨by unfold LE at *; rw [f.1, f.2.2.2.2.1, f.2.2.2.2.2.1]; exact x, Or.inl rfl, f.kw (fun b w q => q.2.1 (by unfold dA at w; unfold blk; omega)), fun b _ => by rw [f.2.2.2.2.1], by rw [f.1], by rw [f.2.1]⟩
theorem QL.db {h0 h : AH} {B lh0 e0 c : Nat} {S P C : Nat → Nat} (q : QL h0 h B lh0 e0 c S P C) : ∃ l e, DB B h0 h lh0 e0 l e := by
  obtain ⟨l, e, ⟨a1, a2, a3, a4, a5, a6, a7, a8⟩, ln, sn, k2, kc, fq, hl, hn, hu⟩ := q
  refine ⟨l, e, ⟨a4, a7, a8, a5, a6⟩, hl, ⟨fq.1.1, fq.1.2.1, fq.1.2.2.1, fq.1.2.2.2.1, fun b hb => fq.1.2.2.2.2 b ⟨hb.1, fun w => hb.2.1 (by unfold blk; omega), fun w => hb.2.1 (by unfold blk; omega), hb.2.2⟩⟩, fq.2, hn, hu⟩
def DQ (d y : Nat) (as : LL) (h : AH) (B : Nat) (r : Int32 × GS) : Prop := ∀ lh0 e0, LE h B lh0 e0 → ∃ h' l e, E d y 0 as [] h = some (some (.int r.1), h') ∧ DX h' B r.2 ∧ DB B h h' lh0 e0 l e
theorem DC.dq {d y : Nat} {as : LL} {h : AH} {B : Nat} {r : Int32 × GS} (x : DC d y as h B r) : DQ d y as h B r := fun lh0 e0 le => by
  obtain ⟨h', e1, q, f⟩ := x
  exact ⟨h', lh0, e0, e1, q, f.db le⟩
noncomputable def dsY (y : YS) (s : Nat) : Option Nat := dsT (Yn y) (stN y) (glN y) s
def lsY (y : YS) (s : Nat) : Nat := LSu y (plc s) (Yn y)
theorem LSu_cg {y : YS} {p p' : Nat → Nat} : ∀ K, (∀ k, k < K → p k = p' k) → LSu y p K = LSu y p' K := by
  intro K
  induction K with
  | zero => intro _; rfl
  | succ K ih =>
    intro h
    show LSu y p K + (Yg y - p K) = LSu y p' K + (Yg y - p' K)
    rw [ih (fun k hk => h k (by omega)), h K (by omega)]
theorem LSu_0 {y : YS} {p : Nat → Nat} : ∀ K, (∀ k, k < K → Yg y ≤ p k) → LSu y p K = 0 := by
  intro K
  induction K with
  | zero => intro _; rfl
  | succ K ih =>
    intro h
    show LSu y p K + (Yg y - p K) = 0
    rw [ih (fun k hk => h k (by omega))]
    have := h K (by omega)
    omega
/-- by a try one let less is wanting, at most -/
theorem lsY_st {y : YS} (ok : YOK y) (h3 : Yg y ≤ 3) (n3 : Yn y ≤ 3) {s k : Nat} (v : VN y s) (hk : k < Yn y) (hp : plc s k < Yg y) : if ltN y s (plc s k) (YC y k) = true then lsY y (stN y s k) + 1 = lsY y s else lsY y (stN y s k) = lsY y s := by
  obtain ⟨-, -, e⟩ := v.st ok h3 n3 hk hp
  cases l : ltN y s (plc s k) (YC y k)
  · rw [if_neg (by decide)]
    exact LSu_cg _ fun j hj => by rw [e j (by omega), l, if_neg (fun w => absurd w.2 (by decide))]
  · rw [if_pos rfl]
    have := LSu_up (p := plc s) hp (Yn y) hk
    show LSu y (plc (stN y s k)) (Yn y) + 1 = LSu y (plc s) (Yn y)
    rw [← this]
    congr 1
    refine LSu_cg _ fun j hj => ?_
    rw [e j (by omega), l]
    by_cases w : j = k
    · rw [if_pos ⟨w, rfl⟩, w, fup_s]
    · rw [if_neg (fun q => w q.1), fup_n _ _ w]
theorem lsY_RE {y : YS} (ok : YOK y) (h3 : Yg y ≤ 3) (n3 : Yn y ≤ 3) : ∀ n s, VN y s → RE (Yn y) (stN y) (glN y) n s → lsY y s ≤ n := by
  intro n
  induction n with
  | zero =>
    intro s v h
    have h : glN y s = true := h
    rw [glN_iff] at h
    exact Nat.le_of_eq (LSu_0 _ h)
  | succ n ih =>
    intro s v h
    obtain ⟨k, hk, h⟩ := h
    have := ih _ (v.st' ok h3 n3 hk) h
    by_cases hp : plc s k < Yg y
    · have q := lsY_st ok h3 n3 v hk hp
      split at q <;> omega
    · have e : stN y s k = s := by unfold stN; rw [if_neg hp]
      rw [e] at this
      omega
theorem dsY_ls {y : YS} (ok : YOK y) (h3 : Yg y ≤ 3) (n3 : Yn y ≤ 3) {s D : Nat} (v : VN y s) (h : dsY y s = some D) : lsY y s ≤ D ∧ D ≤ 63 := ⟨lsY_RE ok h3 n3 D s v (dsT_of h).1, LR_63 ok h3 n3 v (dsT_of h)⟩
/-- a run, the whole picture kept -/
theorem c11 (d : Nat) {h : AH} {B l e s0 : Nat} {s : GS} (hx : DX h B s) (le : LE h B l e) (h3 : Yg (gY s) ≤ 3) (n3 : Yn (gY s) ≤ 3) (hB : B + 48 ≤ hN h) (v : VN (gY s) s0) (p3 p4 p5 p6 : Option Value) : ∃ h' l' e', E (d + 4) 11 0 [some (.ref (B + 28)), some (.ref (B + 1)), some (.int (nI s0)), p3, p4, p5, p6] [] h = some (some (.int (bI (dsY (gY s) s0).isSome)), h') ∧ RZ (gY s) h h' B l e s0 ∧ DX h' B s ∧ DB B h h' l e l' e' := by
  obtain ⟨sa, c0, kc, k2, nz⟩ := le.sa hx.2.2.2.2.2.2
  obtain ⟨h', e1, z⟩ := x11 d hx.2.1 h3 n3 hB sa kc k2 nz v p3 p4 p5 p6
  obtain ⟨c, S, P, C, q, z2⟩ := id z
  obtain ⟨l', e', db⟩ := q.db
  obtain ⟨lh1, e1', -, -, -, -, -, fq, -⟩ := id q
  exact ⟨h', l', e', e1, z, hx.kq fq.1 sa.2.2.2.2.1 hB q.qx, db⟩
theorem RZ.ref {y : YS} {h0 h : AH} {B lh0 e0 s0 D : Nat} (z : RZ y h0 h B lh0 e0 s0) (xy : XY h (B + 1) y) (h3 : Yg y ≤ 3) (n3 : Yn y ≤ 3) (v : VN y s0) (hD : dsY y s0 = some D) (d : Nat) : E (d + 1) 20 0 [some (.ref (B + 28)), some (.ref (B + 1)), none, none] [] h = some (some (.int (nI (D - lsY y s0))), h) := by
  obtain ⟨c, S, P, C, q, hc, hs, k⟩ := z
  have w := dsY_ls xy.2.2 h3 n3 v hD
  have e := x20 d q xy h3 n3 hc (by rw [hs]; exact v) (k D hD).1 none none
  rw [hs] at e
  rw [e]
  have : nI D - nI (LSu y (plc s0) (Yn y)) = nI (D - lsY y s0) := nI_sub w.1
  rw [this]
theorem RZ.len {y : YS} {h0 h : AH} {B lh0 e0 s0 D : Nat} (z : RZ y h0 h B lh0 e0 s0) (hD : dsY y s0 = some D) (d : Nat) : E d 19 0 [some (.ref (B + 28))] [] h = some (some (.int (nI D)), h) := by
  obtain ⟨c, S, P, C, q, hc, hs, k⟩ := z
  have c1 := q.c.1
  have k4 := (k D hD).1
  simp (disch := omega) only [s19_0, s19_1, s19_2, ↓reduceIte, Option.bind_some, Option.toList_some, Option.toList_none, List.cons_append, List.nil_append, if_true, if_false, true_or, or_true, true_and, and_true, not_true_eq_false, not_false_eq_true, Nat.reduceLT, Nat.reduceLeDiff, Nat.reduceEqDiff, Nat.reduceAdd, Nat.reduceMul, Nat.reduceSub, Nat.reducePow, Nat.reduceMod, Nat.reduceDiv, l0, l1, l2, l3, l4, l5, l6, l7, l8, l9, l10, l11, l12, l13, l14, l15, l16, l20, l31, l32, l36, l40, l48, l57, l59, l63, l64, l97, l99, l100, l101, l122, l127, l128, l250, l255, l262143, l262144, l30000, l100000, l12345, l1024, l4095, nI_eqs, nI_les, nI_lts, qI_eq, qI_eqn, nI_eqq, qI_lts, nI_ltp, nI_lep, qI_les, nI_add, nI_mul, qI_add, qI_s, qI_def, nI_clamps, bI_z, bI_o, bI_01, n01, n11, rf_some, rf_none, m1, m1n, bft, c1, k4]
theorem RZ.way {y : YS} {h0 h : AH} {B lh0 e0 s0 D m : Nat} (z : RZ y h0 h B lh0 e0 s0) (hD : dsY y s0 = some D) (hm : m < D) (d : Nat) : E (d + 1) 21 0 [some (.ref (B + 28)), some (.int (nI m)), none, none] [] h = some (some (.int (nI (wyT (Yn y) (stN y) (glN y) D s0 m))), h) := by
  obtain ⟨c, S, P, C, q, hc, hs, k⟩ := z
  obtain ⟨k4, G, k3, hG, hDG, d1, al, w⟩ := k D hD
  rw [← w m hm]
  exact x21 d q hG hDG hm k3 k4 d1 al none none
