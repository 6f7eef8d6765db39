/-! THE START: the developers' object -/
theorem OLD.st0 {a B k : Nat} {h h2 : AH} {v : Option Nat} (o : OLD a h h2) (hn : a ≤ hN h2) (hN' : hN h = a) (hu : hU h ≤ hU h2) (hB : B < a) : KW (fun b => b < a ∧ b ≠ B) h (stR h2 B k v) ∧ hS (stR h2 B k v) B = hS h B ∧ (∀ j, hI (stR h2 B k v) B j = hI h B j) ∧ (∀ j, hR (stR h2 B k v) B j = if j = k then v else hR h B j) ∧ (∀ b, b ≠ B → ∀ j, hR (stR h2 B k v) b j = hR h2 b j) := by
  obtain ⟨o1, o2, o3⟩ := o
  refine ⟨⟨o1, o2, by rw [hN']; exact hn, hu, fun b hb => ⟨(o3 b hb.1).1, fun j => ⟨((o3 b hb.1).2 j).1, ((o3 b hb.1).2 j).2.1, ?_⟩⟩⟩, (o3 B hB).1, fun j => ((o3 B hB).2 j).1, fun j => ?_, fun b hb j => ?_⟩
  · rw [hR_stR, if_neg (fun w => hb.2 w.1)]; exact ((o3 b hb.1).2 j).2.2
  · rw [hR_stR]
    by_cases w : j = k
    · rw [if_pos ⟨rfl, w⟩, if_pos w]
    · rw [if_neg (fun q => w q.2), if_neg w]; exact ((o3 B hB).2 j).2.2
  · rw [hR_stR, if_neg (fun w => hb w.1)]
theorem SX.kw {h h' : AH} {o : Nat} {t : SHT} {W : Nat → Prop} (x : SX h o t) (f : KW W h h') (w0 : W o) (w1 : W (o + 1)) : SX h' o t := by
  obtain ⟨s, ⟨v0, v1, v2, v3⟩, ok⟩ := x
  obtain ⟨f1, f2, f3, f4, f5⟩ := f
  refine ⟨?_, ⟨?_, fun q => ?_, ?_, fun i hi => ?_⟩, ok⟩
  · unfold SS at s ⊢
    rw [(f5 o w0).1, (f5 (o + 1) w1).1, ((f5 o w0).2 3).2.2]; exact s
  · rw [((f5 o w0).2 0).1]; exact v0
  · rw [((f5 o w0).2 1).1]; exact v1 q
  · rw [((f5 o w0).2 2).1]; exact v2
  · rw [((f5 (o + 1) w1).2 i).2.1]; exact v3 i hi
theorem KW.mono {W W' : Nat → Prop} {h h' : AH} (f : KW W h h') (q : ∀ b, W' b → W b) : KW W' h h' := ⟨f.1, f.2.1, f.2.2.1, f.2.2.2.1, fun b hb => f.2.2.2.2 b (q b hb)⟩
theorem OLD.new (h : AH) (sh : Nat × Nat) (u : Nat) : OLD (hN h) h (newC h sh u) := by
  refine ⟨rfl, rfl, fun b hb => ⟨?_, fun j => ⟨?_, ?_, ?_⟩⟩⟩
  · rw [hS_newC, if_neg (by omega)]
  · rw [hI_newC, if_neg (by omega)]
  · rw [hL_newC, if_neg (by omega)]
  · rw [hR_newC, if_neg (by omega)]
theorem mk22 {h : AH} {a : Nat} (hn : hN h = a) : ∃ h2, SX h2 a t00 ∧ OLD a h h2 ∧ hN h2 = a + 2 ∧ hU h2 = hU h + 44 ∧ ∀ d, E d 22 0 [some (.ref a)] [] (newC h (101, 0) 4) = some (none, h2) := ⟨_, new22 hn⟩
theorem mk58 {h : AH} {a : Nat} (hn : hN h = a) : ∃ h2, XY h2 a y00 ∧ OLD a h h2 ∧ hN h2 = a + 8 ∧ hU h2 = hU h + 54 ∧ ∀ d, E d 58 0 [some (.ref a)] [] (newC h (103, 0) 12) = some (none, h2) := ⟨_, new58 hn⟩
theorem mk32 {h : AH} {a : Nat} (hn : hN h = a) : ∃ h2, (hS h2 a = some (102, 0) ∧ hR h2 a 0 = some (a + 1) ∧ hS h2 (a + 1) = some (0, 250) ∧ hI h2 a 1 = nI 0) ∧ OLD a h h2 ∧ hN h2 = a + 2 ∧ hU h2 = hU h + 255 ∧ ∀ d, E d 32 0 [some (.ref a)] [] (newC h (102, 0) 5) = some (none, h2) := ⟨_, new32 hn⟩
theorem mk7 {h : AH} {a : Nat} (hn : hN h = a) : ∃ h2, (hS h2 a = some (100, 0) ∧ hR h2 a 0 = some (a + 1) ∧ hS h2 (a + 1) = some (1, 4096) ∧ hR h2 a 1 = some (a + 2) ∧ hS h2 (a + 2) = some (1, 1024) ∧ hI h2 a 2 = nI 0 ∧ ∀ w, hL h2 (a + 1) w = 0) ∧ OLD a h h2 ∧ hN h2 = a + 3 ∧ hU h2 = hU h + 5125 ∧ ∀ d, E d 7 0 [some (.ref a)] [] (newC h (100, 0) 5) = some (none, h2) := ⟨_, new7 hn⟩
theorem mkC {h : AH} {a : Nat} (hn : hN h = a) (sh : Nat × Nat) (u : Nat) : ∃ h2, newC h sh u = h2 ∧ OLD a h h2 ∧ hN h2 = a + 1 ∧ hU h2 = hU h + u ∧ hS h2 a = some sh ∧ ∀ j, hI h2 a j = 0 := by
  subst hn
  exact ⟨_, rfl, OLD.new h sh u, rfl, rfl, by rw [hS_newC, if_pos rfl], fun j => by rw [hI_newC, if_pos rfl]⟩
theorem OLD.st {a B k : Nat} {h h2 : AH} {v : Option Nat} (o : OLD a h h2) (hn : a ≤ hN h2) (hN' : hN h = a) (hu : hU h ≤ hU h2) (hB : B < a) : ∃ h3, stR h2 B k v = h3 ∧ KW (fun b => b < a ∧ b ≠ B) h h3 ∧ KW (fun b => b ≠ B) h2 h3 ∧ hN h3 = hN h2 ∧ hU h3 = hU h2 ∧ hS h3 B = hS h B ∧ (∀ j, hI h3 B j = hI h B j) ∧ ∀ j, hR h3 B j = if j = k then v else hR h B j := by
  obtain ⟨q1, q2, q3, q4, q5⟩ := o.st0 (B := B) (k := k) (v := v) hn hN' hu hB
  exact ⟨_, rfl, q1, ⟨rfl, rfl, Nat.le_refl _, Nat.le_refl _, fun b hb => ⟨rfl, fun j => ⟨rfl, rfl, q5 b hb j⟩⟩⟩, rfl, rfl, q2, q3, q4⟩
/-- the eight shelves -/
theorem x80l (d : Nat) {B : Nat} : ∀ m k h, k + m = 8 → hN h = B + 32 + 2 * k → hS h B = some (104, 0) → hR h B 4 = some (B + 25) → hS h (B + 25) = some (5, 8) → (∀ j, j < k → hR h (B + 25) j = some (B + 32 + 2 * j) ∧ SX h (B + 32 + 2 * j) t00) → ∃ h', E (d + 1) 80 40 [some (.ref B), some (.int (nI k))] [] h = some (none, h') ∧ hN h' = B + 48 ∧ hU h' = hU h + 44 * m ∧ KW (fun b => b < B + 32 + 2 * k ∧ b ≠ B + 25) h h' ∧ hS h' (B + 25) = some (5, 8) ∧ ∀ j, j < 8 → hR h' (B + 25) j = some (B + 32 + 2 * j) ∧ SX h' (B + 32 + 2 * j) t00 := by
  intro m
  induction m with
  | zero =>
    intro k h hk hn sB r4 s25 sx
    have hk' : k = 8 := hk
    subst hk'
    refine ⟨h, ?_, by omega, by omega, KW.refl _ _, s25, sx⟩
    rw [s80_40]
    simp (disch := omega) only [s80_41, s80_42, s80_52, ↓reduceIte, Option.bind_some, Option.toList_some, Option.toList_none, List.cons_append, List.nil_append, if_true, if_false, true_or, or_true, true_and, and_true, not_true_eq_false, not_false_eq_true, Nat.reduceLT, Nat.reduceLeDiff, Nat.reduceEqDiff, Nat.reduceAdd, Nat.reduceMul, Nat.reduceSub, Nat.reducePow, Nat.reduceMod, Nat.reduceDiv, l0, l1, l2, l3, l4, l5, l6, l7, l8, l9, l10, l11, l12, l13, l14, l15, l16, l20, l31, l32, l36, l40, l48, l57, l59, l63, l64, l97, l99, l100, l101, l122, l127, l128, l250, l255, l262143, l262144, l30000, l100000, l12345, l1024, l4095, nI_eqs, nI_les, nI_lts, qI_eq, qI_eqn, nI_eqq, qI_lts, nI_ltp, nI_lep, qI_les, nI_add, nI_mul, qI_add, qI_s, qI_def, nI_clamps, bI_z, bI_o, bI_01, n01, n11, rf_some, rf_none, m1, m1n, bft, Nat.le_refl]
  | succ m ih =>
    intro k h hk hn sB r4 s25 sx
    obtain ⟨h1, x1, o1, n1, u1, e1⟩ := mk22 hn
    obtain ⟨h2, E2, kw, kw2', n2, u2, q1, q2, q3⟩ := o1.st (B := B + 25) (k := k) (v := some (B + 32 + 2 * k)) (by omega) hn (by omega) (by omega)
    have kl : ¬ 8 ≤ k := by omega
    have kB := kw.2.2.2.2 B ⟨by omega, by omega⟩
    have x1' : SX h2 (B + 32 + 2 * k) t00 := x1.kw kw2' (by omega) (by omega)
    obtain ⟨h', e2, n3, u3, kw3, s2, sx2⟩ := ih (k + 1) h2 (by omega) (by rw [n2, n1]; omega) (by rw [kB.1]; exact sB) (by rw [(kB.2 4).2.2]; exact r4) (by rw [q1]; exact s25) (fun j hj => by
      rw [q3 j]
      by_cases w : j = k
      · rw [if_pos w, w]; exact ⟨rfl, x1'⟩
      · rw [if_neg w]
        exact ⟨(sx j (by omega)).1, (sx j (by omega)).2.kw kw ⟨by omega, by omega⟩ ⟨by omega, by omega⟩⟩)
    refine ⟨h', ?_, n3, by rw [u3, u2, u1]; omega, kw.trans (kw3.mono (fun b hb => ⟨by omega, hb.2⟩)), s2, sx2⟩
    have g5 : hS h1 (B + 25) = some (5, 8) := by rw [(o1.2.2 (B + 25) (by omega)).1]; exact s25
    have gq : (inb (nI k) (alen h1 (B + 25) 5) = true ∧ hS h1 (B + 32 + 2 * k) = some (101, 0)) = True := by
      rw [alen_of g5, inb_nI (by omega) (by omega)]
      exact eq_true ⟨rfl, x1.1.1⟩
    rw [← e2, s80_40]
    simp (disch := omega) only [s80_41, s80_42, s80_43, s80_44, s80_45, s80_46, s80_47, s80_48, s80_49, s80_50, s80_51, ↓reduceIte, Option.bind_some, Option.toList_some, Option.toList_none, List.cons_append, List.nil_append, if_true, if_false, true_or, or_true, true_and, and_true, not_true_eq_false, not_false_eq_true, Nat.reduceLT, Nat.reduceLeDiff, Nat.reduceEqDiff, Nat.reduceAdd, Nat.reduceMul, Nat.reduceSub, Nat.reducePow, Nat.reduceMod, Nat.reduceDiv, l0, l1, l2, l3, l4, l5, l6, l7, l8, l9, l10, l11, l12, l13, l14, l15, l16, l20, l31, l32, l36, l40, l48, l57, l59, l63, l64, l97, l99, l100, l101, l122, l127, l128, l250, l255, l262143, l262144, l30000, l100000, l12345, l1024, l4095, nI_eqs, nI_les, nI_lts, qI_eq, qI_eqn, nI_eqq, qI_lts, nI_ltp, nI_lep, qI_les, nI_add, nI_mul, qI_add, qI_s, qI_def, nI_clamps, bI_z, bI_o, bI_01, n01, n11, rf_some, rf_none, m1, m1n, bft, sB, r4, hn, kl, e1, gq, E2]
