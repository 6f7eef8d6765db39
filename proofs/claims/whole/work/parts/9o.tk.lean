/-! A YARD READ, the developers -/
def rdS (n : Nat) (b : Nat → Nat) (m : Nat) (y : YS) (t : Nat × Nat × Nat) (k : Nat) : (Nat × YS) ⊕ Nat := match m with
  | 0 => .inr t.2.1
  | m + 1 => match stS n b y t with
    | .inr p => .inr p
    | .inl r => if r.2.1 = 0 then .inl (k, r.1) else if r.2.1 = 3 then rdS n b m r.1 (tkL n b r.2.2.2) (k + 1) else .inr r.2.2.1
def QR (T Y n : Nat) (b : Nat → Nat) (h : AH) (e : Option (Option Value × AH)) (r : (Nat × YS) ⊕ Nat) : Prop := match r with
  | .inl (k, y) => ∃ h' t, e = some (some (.int (nI k)), h') ∧ PY h' T Y n b y t ∧ FP T Y h h' ∧ 1 ≤ k ∧ k ≤ 250
  | .inr p => ∃ h' y t, e = some (some (.int (qI 0)), h') ∧ PY h' T Y n b y t ∧ FP T Y h h' ∧ t.2.1 = p
theorem QR.pre {T Y n : Nat} {b : Nat → Nat} {h h1 : AH} {e : Option (Option Value × AH)} {r : (Nat × YS) ⊕ Nat} (f : FP T Y h h1) (q : QR T Y n b h1 e r) : QR T Y n b h e r := by
  cases r with
  | inl z =>
    obtain ⟨h', t, a1, a2, a3, a4⟩ := q
    exact ⟨h', t, a1, a2, f.trans a3, a4⟩
  | inr p =>
    obtain ⟨h', y, t, a1, a2, a3, a4⟩ := q
    exact ⟨h', y, t, a1, a2, f.trans a3, a4⟩
theorem n35 (d : Nat) {T Y n : Nat} {b : Nat → Nat} : ∀ m k h y t, k + m = 251 → 1 ≤ k → PY h T Y n b y t → WK h → QR T Y n b h (E (d + 6) 35 7 [some (.ref T), some (.ref Y), some (.int (nI k))] [] h) (rdS n b m y t k) := by
  intro m
  induction m with
  | zero =>
    intro k h y t e k1 q w
    have k2 : k = 251 := by omega
    subst k2
    refine ⟨h, y, t, ?_, q, Fr0.refl _ _, rfl⟩
    rw [s35_7]
    simp (disch := omega) only [s35_8, s35_9, s35_31, s35_32, ↓reduceIte, Option.bind_some, Option.toList_some, Option.toList_none, List.cons_append, List.nil_append, if_true, if_false, true_or, or_true, true_and, and_true, not_true_eq_false, not_false_eq_true, Nat.reduceLT, Nat.reduceLeDiff, Nat.reduceEqDiff, Nat.reduceAdd, Nat.reduceMul, Nat.reduceSub, Nat.reducePow, Nat.reduceMod, Nat.reduceDiv, l0, l1, l2, l3, l4, l5, l6, l7, l8, l9, l10, l11, l12, l13, l14, l15, l16, l20, l31, l32, l36, l40, l48, l57, l59, l63, l64, l97, l99, l100, l101, l122, l127, l128, l250, l255, l262143, l262144, l30000, l100000, l12345, l1024, l4095, nI_eqs, nI_les, nI_lts, qI_eq, qI_eqn, nI_eqq, qI_lts, nI_ltp, nI_lep, qI_les, nI_add, nI_mul, qI_add, qI_s, qI_def, nI_clamps, bI_z, bI_o, bI_01, n01, n11, rf_some, rf_none, m1, m1n, bft]
  | succ m ih =>
    intro k h y t e k1 q w
    have c0 := q.1.1
    have kl : ¬ 250 < k := by omega
    have st : E (d + 6) 35 7 [some (.ref T), some (.ref Y), some (.int (nI k))] [] h = (E (d + 5) 36 0 [some (.ref T), some (.ref Y)] [] h).bind fun r => E (d + 6) 35 13 [some (.ref T), some (.ref Y), some (.int (nI k))] (r.1.toList ++ []) r.2 := by
      rw [s35_7]
      simp (disch := omega) only [s35_8, s35_9, s35_10, s35_11, s35_12, ↓reduceIte, Option.bind_some, Option.toList_some, Option.toList_none, List.cons_append, List.nil_append, if_true, if_false, true_or, or_true, true_and, and_true, not_true_eq_false, not_false_eq_true, Nat.reduceLT, Nat.reduceLeDiff, Nat.reduceEqDiff, Nat.reduceAdd, Nat.reduceMul, Nat.reduceSub, Nat.reducePow, Nat.reduceMod, Nat.reduceDiv, l0, l1, l2, l3, l4, l5, l6, l7, l8, l9, l10, l11, l12, l13, l14, l15, l16, l20, l31, l32, l36, l40, l48, l57, l59, l63, l64, l97, l99, l100, l101, l122, l127, l128, l250, l255, l262143, l262144, l30000, l100000, l12345, l1024, l4095, nI_eqs, nI_les, nI_lts, qI_eq, qI_eqn, nI_eqq, qI_lts, nI_ltp, nI_lep, qI_les, nI_add, nI_mul, qI_add, qI_s, qI_def, nI_clamps, bI_z, bI_o, bI_01, n01, n11, rf_some, rf_none, m1, m1n, bft, kl, c0]
    rw [st]
    have p := x36 d q w
    show QR T Y n b h _ (match stS n b y t with
      | .inr p => .inr p
      | .inl r => if r.2.1 = 0 then .inl (k, r.1) else if r.2.1 = 3 then rdS n b m r.1 (tkL n b r.2.2.2) (k + 1) else .inr r.2.2.1)
    generalize stS n b y t = r at *
    cases r with
    | inr p' =>
      obtain ⟨h', y', t', a1, a2, a3, a4⟩ := p
      refine ⟨h', y', t', ?_, a2, a3, a4⟩
      rw [a1]
      simp (disch := omega) only [s35_13, s35_14, s35_15, ↓reduceIte, Option.bind_some, Option.toList_some, Option.toList_none, List.cons_append, List.nil_append, if_true, if_false, true_or, or_true, true_and, and_true, not_true_eq_false, not_false_eq_true, Nat.reduceLT, Nat.reduceLeDiff, Nat.reduceEqDiff, Nat.reduceAdd, Nat.reduceMul, Nat.reduceSub, Nat.reducePow, Nat.reduceMod, Nat.reduceDiv, l0, l1, l2, l3, l4, l5, l6, l7, l8, l9, l10, l11, l12, l13, l14, l15, l16, l20, l31, l32, l36, l40, l48, l57, l59, l63, l64, l97, l99, l100, l101, l122, l127, l128, l250, l255, l262143, l262144, l30000, l100000, l12345, l1024, l4095, nI_eqs, nI_les, nI_lts, qI_eq, qI_eqn, nI_eqq, qI_lts, nI_ltp, nI_lep, qI_les, nI_add, nI_mul, qI_add, qI_s, qI_def, nI_clamps, bI_z, bI_o, bI_01, n01, n11, rf_some, rf_none, m1, m1n, bft]
    | inl z =>
      obtain ⟨y', t'⟩ := z
      obtain ⟨h', a1, a2, a3⟩ := p
      have c1 := a2.1.1
      have t1 := a2.2.1.1
      have tl := a2.2.2.1.1
      rw [a1]
      show QR T Y n b h _ (if t'.1 = 0 then .inl (k, y') else if t'.1 = 3 then rdS n b m y' (tkL n b t'.2.2) (k + 1) else .inr t'.2.1)
      by_cases z0 : t'.1 = 0
      · rw [if_pos z0]
        rw [z0] at t1
        refine ⟨h', t', ?_, a2, a3, k1, by omega⟩
        simp (disch := omega) only [s35_13, s35_14, s35_15, s35_16, s35_17, s35_18, s35_19, s35_20, ↓reduceIte, Option.bind_some, Option.toList_some, Option.toList_none, List.cons_append, List.nil_append, if_true, if_false, true_or, or_true, true_and, and_true, not_true_eq_false, not_false_eq_true, Nat.reduceLT, Nat.reduceLeDiff, Nat.reduceEqDiff, Nat.reduceAdd, Nat.reduceMul, Nat.reduceSub, Nat.reducePow, Nat.reduceMod, Nat.reduceDiv, l0, l1, l2, l3, l4, l5, l6, l7, l8, l9, l10, l11, l12, l13, l14, l15, l16, l20, l31, l32, l36, l40, l48, l57, l59, l63, l64, l97, l99, l100, l101, l122, l127, l128, l250, l255, l262143, l262144, l30000, l100000, l12345, l1024, l4095, nI_eqs, nI_les, nI_lts, qI_eq, qI_eqn, nI_eqq, qI_lts, nI_ltp, nI_lep, qI_les, nI_add, nI_mul, qI_add, qI_s, qI_def, nI_clamps, bI_z, bI_o, bI_01, n01, n11, rf_some, rf_none, m1, m1n, bft, c1, t1, Nat.one_ne_zero]
      · rw [if_neg z0]
        by_cases z3 : t'.1 = 3
        · rw [if_pos z3]
          rw [z3] at t1
          obtain ⟨h2, e2, q2, f2⟩ := a2.look (d + 4)
          have := ih (k + 1) h2 y' (tkL n b t'.2.2) (by omega) (by omega) q2 ((w.fp a3).fp f2)
          refine QR.pre (a3.trans f2) ?_
          have st2 : ((some (some (Value.int (nI 1)), h')).bind fun r => E (d + 6) 35 13 [some (.ref T), some (.ref Y), some (.int (nI k))] (r.1.toList ++ []) r.2) = E (d + 6) 35 7 [some (.ref T), some (.ref Y), some (.int (nI (k + 1)))] [] h2 := by
            simp (disch := omega) only [s35_13, s35_16, s35_17, s35_18, s35_21, s35_22, s35_23, s35_24, s35_25, s35_26, s35_27, s35_28, s35_29, s35_30, ↓reduceIte, Option.bind_some, Option.toList_some, Option.toList_none, List.cons_append, List.nil_append, if_true, if_false, true_or, or_true, true_and, and_true, not_true_eq_false, not_false_eq_true, Nat.reduceLT, Nat.reduceLeDiff, Nat.reduceEqDiff, Nat.reduceAdd, Nat.reduceMul, Nat.reduceSub, Nat.reducePow, Nat.reduceMod, Nat.reduceDiv, l0, l1, l2, l3, l4, l5, l6, l7, l8, l9, l10, l11, l12, l13, l14, l15, l16, l20, l31, l32, l36, l40, l48, l57, l59, l63, l64, l97, l99, l100, l101, l122, l127, l128, l250, l255, l262143, l262144, l30000, l100000, l12345, l1024, l4095, nI_eqs, nI_les, nI_lts, qI_eq, qI_eqn, nI_eqq, qI_lts, nI_ltp, nI_lep, qI_les, nI_add, nI_mul, qI_add, qI_s, qI_def, nI_clamps, bI_z, bI_o, bI_01, n01, n11, rf_some, rf_none, m1, m1n, bft, c1, t1, e2, Nat.one_ne_zero]
          rw [st2]; exact this
        · rw [if_neg z3]
          refine ⟨h', y', t', ?_, a2, a3, rfl⟩
          have z3' : ¬ 3 = t'.1 := fun w => z3 w.symm
          simp (disch := omega) only [s35_13, s35_14, s35_15, s35_16, s35_17, s35_18, s35_21, s35_22, s35_23, s35_24, s35_25, s35_26, ↓reduceIte, Option.bind_some, Option.toList_some, Option.toList_none, List.cons_append, List.nil_append, if_true, if_false, true_or, or_true, true_and, and_true, not_true_eq_false, not_false_eq_true, Nat.reduceLT, Nat.reduceLeDiff, Nat.reduceEqDiff, Nat.reduceAdd, Nat.reduceMul, Nat.reduceSub, Nat.reducePow, Nat.reduceMod, Nat.reduceDiv, l0, l1, l2, l3, l4, l5, l6, l7, l8, l9, l10, l11, l12, l13, l14, l15, l16, l20, l31, l32, l36, l40, l48, l57, l59, l63, l64, l97, l99, l100, l101, l122, l127, l128, l250, l255, l262143, l262144, l30000, l100000, l12345, l1024, l4095, nI_eqs, nI_les, nI_lts, qI_eq, qI_eqn, nI_eqq, qI_lts, nI_ltp, nI_lep, qI_les, nI_add, nI_mul, qI_add, qI_s, qI_def, nI_clamps, bI_z, bI_o, bI_01, n01, n11, rf_some, rf_none, m1, m1n, bft, c1, t1, z0, z3, z3', Nat.one_ne_zero]
def rdY (n : Nat) (b : Nat → Nat) (y : YS) : (Nat × YS) ⊕ Nat := rdS n b 250 y (tkL n b 0) 1
theorem x35 (d : Nat) {h : AH} {T Y n : Nat} {b : Nat → Nat} {y : YS} (q : TP h T n b) (qy : XY h Y y) (hd : Y + 8 ≤ T) (hw : WK h) (p2 : Option Value) : QR T Y n b h (E (d + 6) 35 0 [some (.ref T), some (.ref Y), p2] [] h) (rdY n b y) := by
  have c0 := q.1
  have n5 := q.2.2.2.2.1
  have q2 : TP (stI h T 4 (nI 0)) T n b := q.st (by decide) _
  have f0 : FP T Y h (stI h T 4 (nI 0)) := Fr0.stI (A := fun a => a = T ∨ blk Y 8 a) _ (Or.inl rfl) _ _
  obtain ⟨h1, e1, p1, t1, f1⟩ := x43 (d + 4) (e := 0) q2 (Nat.zero_le _) (by rw [hI_stI, if_pos ⟨rfl, rfl⟩])
  have f1' : FP T Y (stI h T 4 (nI 0)) h1 := f1.mono (fun a w => Or.inl w)
  have f01 := f0.trans f1'
  have q1 : PY h1 T Y n b y (tkL n b 0) := ⟨p1, t1, tkL_ok n5 b (Nat.zero_le _), tkL_dg n b _, (qy.fr0 (Fr0.stI (A := fun a => a = T) _ rfl _ _) (fun a h1 h2 w => by omega)).fr0 f1 (fun a h1 h2 w => by omega), hd⟩
  refine QR.pre f01 ?_
  have st : E (d + 6) 35 0 [some (.ref T), some (.ref Y), p2] [] h = E (d + 6) 35 7 [some (.ref T), some (.ref Y), some (.int (nI 1))] [] h1 := by
    simp (disch := omega) only [s35_0, s35_1, s35_2, s35_3, s35_4, s35_5, s35_6, ↓reduceIte, Option.bind_some, Option.toList_some, Option.toList_none, List.cons_append, List.nil_append, if_true, if_false, true_or, or_true, true_and, and_true, not_true_eq_false, not_false_eq_true, Nat.reduceLT, Nat.reduceLeDiff, Nat.reduceEqDiff, Nat.reduceAdd, Nat.reduceMul, Nat.reduceSub, Nat.reducePow, Nat.reduceMod, Nat.reduceDiv, l0, l1, l2, l3, l4, l5, l6, l7, l8, l9, l10, l11, l12, l13, l14, l15, l16, l20, l31, l32, l36, l40, l48, l57, l59, l63, l64, l97, l99, l100, l101, l122, l127, l128, l250, l255, l262143, l262144, l30000, l100000, l12345, l1024, l4095, nI_eqs, nI_les, nI_lts, qI_eq, qI_eqn, nI_eqq, qI_lts, nI_ltp, nI_lep, qI_les, nI_add, nI_mul, qI_add, qI_s, qI_def, nI_clamps, bI_z, bI_o, bI_01, n01, n11, rf_some, rf_none, m1, m1n, bft, hS_stI, c0, e1]
  rw [st]
  exact n35 d 250 1 h1 y (tkL n b 0) (by decide) (by decide) q1 (hw.fp f01)
theorem DX.tt {h h' : AH} {B n : Nat} {b : Nat → Nat} {s : GS} (x : DX h B s) (q : TX h' B n b) (f : Fr0 (fun a => a = B + 26 ∨ blk (B + 9) 8 a) h h') : DX h' B (pT s n b) ∧ Fr0 (dA B) h h' := by
  obtain ⟨x1, x2, x3, x4, x5, x6, x7⟩ := x
  have m : ∀ a, (a = B + 26 ∨ blk (B + 9) 8 a) → dA B a := fun a w => by unfold blk at w; unfold dA; omega
  exact ⟨⟨x1.fr0 f, x2.fr0 f (fun a _ _ w => by unfold blk at w; omega), x3.fr0 f (fun w => by unfold blk at w; omega) (fun a _ _ w => by unfold blk at w; omega), x4.fr0 f (fun a _ _ w => by unfold blk at w; omega), q, x6.fr0 f (fun w => by unfold blk at w; omega), x7.fr0 f m⟩, f.mono m⟩
def s_yard (s : GS) : Int32 × GS := match rdY (gn s) (gb s) (gY s) with
  | .inl r => (nI r.1, pY (pT s 0 (gb s)) r.2)
  | .inr p => (rN 20 - nI p, bm (pT s 0 (gb s)) 2)
theorem c98 (d : Nat) {h : AH} {B : Nat} {s : GS} (hx : DX h B s) (hw : WK h) (p1 : Option Value) : DC (d + 7) 98 [some (.ref B), p1] h B (s_yard s) := by
  obtain ⟨⟨b0, b1, b2, b3, b4, b5, b6, b7⟩, xy, ⟨k0, k1⟩, xh, ⟨t0, t1, t2, t3, t4, t5⟩, rx, qx⟩ := id hx; have e131 := c131e hx
  obtain ⟨h1, e1, y1, f1⟩ := x59 (d + 6) b6 xy (by omega)
  have f1' : FP (B + 26) (B + 9) h h1 := f1.mono (fun a w => Or.inr w)
  have tp : TP h1 (B + 26) (gn s) (gb s) := by
    have n1 : ¬ blk (B + 9) 8 (B + 26) := fun w => by unfold blk at w; omega
    have n2 : ¬ blk (B + 9) 8 (B + 26 + 1) := fun w => by unfold blk at w; omega
    refine ⟨by rw [f1.2.2.2.2.1]; exact t0, by rw [f1.2.2.2.2.2.1]; exact t1, by rw [f1.2.2.2.2.1]; exact t2, by rw [(f1.2.2.2.2.2.2 _ n1 1).1]; exact t3, t4, fun i hi => ?_⟩
    rw [(f1.2.2.2.2.2.2 _ n2 i).1]; exact t5 i hi
  have r := x35 d tp y1 (show B + 9 + 8 ≤ B + 26 by omega) (hw.fp f1') none
  have c1 : hS h1 B = some (104, 0) := by rw [f1.2.2.2.2.1]; exact b0
  have c5 : hR h1 B 5 = some (B + 26) := by rw [f1.2.2.2.2.2.1]; exact b4
  have c6 : hR h1 B 1 = some (B + 9) := by rw [f1.2.2.2.2.2.1]; exact b2
  have st : E (d + 7) 98 0 [some (.ref B), p1] [] h = (E (d + 6) 35 0 [some (.ref (B + 26)), some (.ref (B + 9)), none] [] h1).bind fun r => E (d + 7) 98 10 [some (.ref B), p1] (r.1.toList ++ []) r.2 := by
    have s9 : hS h (B + 9) = some (103, 0) := b6.1
    have s26 : hS h1 (B + 26) = some (102, 0) := tp.1
    simp (disch := omega) only [s98_0, s98_1, s98_2, s98_3, s98_4, s98_5, s98_6, s98_7, s98_8, s98_9, ↓reduceIte, Option.bind_some, Option.toList_some, Option.toList_none, List.cons_append, List.nil_append, if_true, if_false, true_or, or_true, true_and, and_true, not_true_eq_false, not_false_eq_true, Nat.reduceLT, Nat.reduceLeDiff, Nat.reduceEqDiff, Nat.reduceAdd, Nat.reduceMul, Nat.reduceSub, Nat.reducePow, Nat.reduceMod, Nat.reduceDiv, l0, l1, l2, l3, l4, l5, l6, l7, l8, l9, l10, l11, l12, l13, l14, l15, l16, l20, l31, l32, l36, l40, l48, l57, l59, l63, l64, l97, l99, l100, l101, l122, l127, l128, l250, l255, l262143, l262144, l30000, l100000, l12345, l1024, l4095, nI_eqs, nI_les, nI_lts, qI_eq, qI_eqn, nI_eqq, qI_lts, nI_ltp, nI_lep, qI_les, nI_add, nI_mul, qI_add, qI_s, qI_def, nI_clamps, bI_z, bI_o, bI_01, n01, n11, rf_some, rf_none, m1, m1n, bft, b0, b1, b2, b3, b4, e1, c1, c5, c6, s9, s26]
  have tz : ∀ h', FP (B + 26) (B + 9) h1 h' → TX (stI h' (B + 26) 1 (nI 0)) B 0 (gb s) ∧ Fr0 (fun a => a = B + 26 ∨ blk (B + 9) 8 a) h (stI h' (B + 26) 1 (nI 0)) := fun h' f2 => by
    have g := (f1'.trans f2).trans (Fr0.stI (A := fun a => a = B + 26 ∨ blk (B + 9) 8 a) _ (Or.inl rfl) 1 (nI 0))
    refine ⟨⟨by rw [g.2.2.2.2.1]; exact t0, by rw [g.2.2.2.2.2.1]; exact t1, by rw [g.2.2.2.2.1]; exact t2, by rw [hI_stI, if_pos ⟨rfl, rfl⟩], Nat.zero_le _, fun i hi => absurd hi (Nat.not_lt_zero _)⟩, g⟩
  unfold s_yard
  generalize rdY (gn s) (gb s) (gY s) = z at *
  cases z with
  | inl z =>
    obtain ⟨k, y⟩ := z
    obtain ⟨h2, t, a1, a2, a3, a4, a5⟩ := r
    obtain ⟨q3, f3⟩ := tz h2 a3
    obtain ⟨x3, g3⟩ := hx.tt q3 f3
    have y3 : XY (stI h2 (B + 26) 1 (nI 0)) (B + 9) y := a2.2.2.2.2.1.fr0 (Fr0.stI (A := fun a => a = B + 26) _ rfl 1 (nI 0)) (fun a _ _ w => by omega)
    obtain ⟨h4, e4, y4, f4⟩ := x59 (d + 6) x3.2.1.1 y3 (by omega)
    obtain ⟨x4, g4⟩ := x3.y y4 f4
    refine ⟨h4, ?_, x4, g3.trans g4⟩
    have o1 : hS h2 B = some (104, 0) := by rw [a3.2.2.2.2.1]; exact c1
    have o2 : hR h2 B 5 = some (B + 26) := by rw [a3.2.2.2.2.2.1]; exact c5
    have o3 : hR h2 B 1 = some (B + 9) := by rw [a3.2.2.2.2.2.1]; exact c6
    have o4 : hR h2 B 0 = some (B + 1) := by rw [a3.2.2.2.2.2.1, f1.2.2.2.2.2.1]; exact b1
    have o5 : hS h2 (B + 26) = some (102, 0) := a2.1.1
    have o6 : hS h2 (B + 1) = some (103, 0) := by rw [a3.2.2.2.2.1, f1.2.2.2.2.1]; exact xy.1.1
    have kz : (nI k = qI 0) = False := by
      rw [nI_eqq (by omega) (by decide)]; exact eq_false (by omega)
    rw [st, a1]
    simp (disch := omega) only [s98_10, s98_11, s98_12, s98_13, s98_14, s98_15, s98_16, s98_17, s98_28, s98_29, s98_30, s98_31, s98_32, s98_33, s98_34, ↓reduceIte, Option.bind_some, Option.toList_some, Option.toList_none, List.cons_append, List.nil_append, if_true, if_false, true_or, or_true, true_and, and_true, not_true_eq_false, not_false_eq_true, Nat.reduceLT, Nat.reduceLeDiff, Nat.reduceEqDiff, Nat.reduceAdd, Nat.reduceMul, Nat.reduceSub, Nat.reducePow, Nat.reduceMod, Nat.reduceDiv, l0, l1, l2, l3, l4, l5, l6, l7, l8, l9, l10, l11, l12, l13, l14, l15, l16, l20, l31, l32, l36, l40, l48, l57, l59, l63, l64, l97, l99, l100, l101, l122, l127, l128, l250, l255, l262143, l262144, l30000, l100000, l12345, l1024, l4095, nI_eqs, nI_les, nI_lts, qI_eq, qI_eqn, nI_eqq, qI_lts, nI_ltp, nI_lep, qI_les, nI_add, nI_mul, qI_add, qI_s, qI_def, nI_clamps, bI_z, bI_o, bI_01, n01, n11, rf_some, rf_none, m1, m1n, bft, hS_stI, hR_stI, o1, o2, o3, o4, o5, o6, kz, Nat.succ_ne_zero, e4]
  | inr p =>
    obtain ⟨h2, y, t, a1, a2, a3, a4⟩ := r
    obtain ⟨q3, f3⟩ := tz h2 a3
    obtain ⟨x3, g3⟩ := hx.tt q3 f3
    have e4 := c131e x3 (d + 6) (k := 2) (by decide) (by decide)
    obtain ⟨x4, g4⟩ := x3.rf (k := 2) (by decide) (by decide)
    refine ⟨_, ?_, x4, g3.trans g4⟩
    have o1 : hS h2 B = some (104, 0) := by rw [a3.2.2.2.2.1]; exact c1
    have o2 : hR h2 B 5 = some (B + 26) := by rw [a3.2.2.2.2.2.1]; exact c5
    have o5 : hS h2 (B + 26) = some (102, 0) := a2.1.1
    have o7 := a2.2.1.2.1
    have o8 : hI (RFH (stI h2 (B + 26) 1 (nI 0)) B 2) (B + 26) 3 = nI p := by
      unfold RFH
      rw [hI_stI, if_neg (fun w => by omega), hI_stI, if_neg (fun w => by omega), o7, a4]
    have o9 : hS (RFH (stI h2 (B + 26) 1 (nI 0)) B 2) (B + 26) = some (102, 0) := o5
    have o10 : hS (RFH (stI h2 (B + 26) 1 (nI 0)) B 2) B = some (104, 0) := o1
    have o11 : hR (RFH (stI h2 (B + 26) 1 (nI 0)) B 2) B 5 = some (B + 26) := o2
    have e34 : E (d + 6) 34 0 [some (.ref (B + 26))] [] (RFH (stI h2 (B + 26) 1 (nI 0)) B 2) = some (some (.int (nI p)), RFH (stI h2 (B + 26) 1 (nI 0)) B 2) := by
      simp (disch := omega) only [s34_0, s34_1, s34_2, ↓reduceIte, Option.bind_some, Option.toList_some, Option.toList_none, List.cons_append, List.nil_append, if_true, if_false, true_or, or_true, true_and, and_true, not_true_eq_false, not_false_eq_true, Nat.reduceLT, Nat.reduceLeDiff, Nat.reduceEqDiff, Nat.reduceAdd, Nat.reduceMul, Nat.reduceSub, Nat.reducePow, Nat.reduceMod, Nat.reduceDiv, l0, l1, l2, l3, l4, l5, l6, l7, l8, l9, l10, l11, l12, l13, l14, l15, l16, l20, l31, l32, l36, l40, l48, l57, l59, l63, l64, l97, l99, l100, l101, l122, l127, l128, l250, l255, l262143, l262144, l30000, l100000, l12345, l1024, l4095, nI_eqs, nI_les, nI_lts, qI_eq, qI_eqn, nI_eqq, qI_lts, nI_ltp, nI_lep, qI_les, nI_add, nI_mul, qI_add, qI_s, qI_def, nI_clamps, bI_z, bI_o, bI_01, n01, n11, rf_some, rf_none, m1, m1n, bft, o9, o8]
    rw [st, a1]
    simp (disch := omega) only [s98_10, s98_11, s98_12, s98_13, s98_14, s98_15, s98_16, s98_17, s98_18, s98_19, s98_20, s98_21, s98_22, s98_23, s98_24, s98_25, s98_26, s98_27, ↓reduceIte, Option.bind_some, Option.toList_some, Option.toList_none, List.cons_append, List.nil_append, if_true, if_false, true_or, or_true, true_and, and_true, not_true_eq_false, not_false_eq_true, Nat.reduceLT, Nat.reduceLeDiff, Nat.reduceEqDiff, Nat.reduceAdd, Nat.reduceMul, Nat.reduceSub, Nat.reducePow, Nat.reduceMod, Nat.reduceDiv, l0, l1, l2, l3, l4, l5, l6, l7, l8, l9, l10, l11, l12, l13, l14, l15, l16, l20, l31, l32, l36, l40, l48, l57, l59, l63, l64, l97, l99, l100, l101, l122, l127, l128, l250, l255, l262143, l262144, l30000, l100000, l12345, l1024, l4095, nI_eqs, nI_les, nI_lts, qI_eq, qI_eqn, nI_eqq, qI_lts, nI_ltp, nI_lep, qI_les, nI_add, nI_mul, qI_add, qI_s, qI_def, nI_clamps, bI_z, bI_o, bI_01, n01, n11, rf_some, rf_none, m1, m1n, bft, hS_stI, hR_stI, o1, o2, o5, o9, o10, o11, rN_d, e4, e34]
