/-! STATEMENTS, the developers: the state while reading; forget -/
def PY (h : AH) (T Y n : Nat) (b : Nat → Nat) (y : YS) (t : Nat × Nat × Nat) : Prop := TP h T n b ∧ TT h T t ∧ tOK n t ∧ tDG b t ∧ XY h Y y ∧ Y + 8 ≤ T
def FP (T Y : Nat) (h h' : AH) : Prop := Fr0 (fun a => a = T ∨ blk Y 8 a) h h'
theorem PY.look {h : AH} {T Y n : Nat} {b : Nat → Nat} {y : YS} {t : Nat × Nat × Nat} (q : PY h T Y n b y t) (d : Nat) : ∃ h', E (d + 1) 43 0 [some (.ref T)] [] h = some (none, h') ∧ PY h' T Y n b y (tkL n b t.2.2) ∧ FP T Y h h' := by
  obtain ⟨q1, q2, q3, q4, q5, q6⟩ := q
  obtain ⟨h1, e1, p1, t1, f1⟩ := x43 d q1 q3.2.2.1 q2.2.2
  exact ⟨h1, e1, ⟨p1, t1, tkL_ok q3.2.2.2 b q3.2.2.1, tkL_dg n b _, q5.fr0 f1 (fun a h1 h2 w => by omega), q6⟩, f1.mono (fun a w => Or.inl w)⟩
theorem PY.num {h : AH} {T Y n : Nat} {b : Nat → Nat} {y : YS} {t : Nat × Nat × Nat} (q : PY h T Y n b y t) (d : Nat) : E d 47 0 [some (.ref T), none, none] [] h = some (some (.int (nmD b t)), h) := x47 d q.1 q.2.1 q.2.2.1 q.2.2.2.1 none none
theorem PY.mem {h : AH} {T Y n : Nat} {b : Nat → Nat} {y : YS} {t : Nat × Nat × Nat} (q : PY h T Y n b y t) {g f s : Nat} (hf : f ≤ Yc y) (hs : s ≤ Yc y) : PY (stI h (Y + 4) g (nI (f + 4 * s))) T Y n b (sM y g f s) t ∧ FP T Y h (stI h (Y + 4) g (nI (f + 4 * s))) := by
  obtain ⟨q1, q2, q3, q4, q5, q6⟩ := q
  obtain ⟨a1, a2, a3, a4, a5, a6⟩ := q1
  obtain ⟨t1, t2, t3⟩ := q2
  refine ⟨⟨⟨a1, a2, a3, ?_, a5, fun i hi => ?_⟩, ⟨?_, ?_, ?_⟩, q3, q4, ⟨q5.1, q5.2.1.M g f s, q5.2.2.sM hf hs⟩, q6⟩, Fr0.stI _ (Or.inr ⟨by omega, by omega⟩) _ _⟩
  · rw [hI_stI, if_neg (fun w => by omega)]; exact a4
  · rw [hI_stI, if_neg (fun w => by omega)]; exact a6 i hi
  · rw [hI_stI, if_neg (fun w => by omega)]; exact t1
  · rw [hI_stI, if_neg (fun w => by omega)]; exact t2
  · rw [hI_stI, if_neg (fun w => by omega)]; exact t3
/-- what a statement comes to: the yard and the next token, or the place of the fault -/
def PR (T Y n : Nat) (b : Nat → Nat) (h : AH) (e : Option (Option Value × AH)) (r : (YS × (Nat × Nat × Nat)) ⊕ Nat) : Prop := match r with
  | .inl (y, t) => ∃ h', e = some (some (.int (nI 1)), h') ∧ PY h' T Y n b y t ∧ FP T Y h h'
  | .inr p => ∃ h' y t, e = some (some (.int (nI 0)), h') ∧ PY h' T Y n b y t ∧ FP T Y h h' ∧ t.2.1 = p
def stForget (n : Nat) (b : Nat → Nat) (y : YS) (t : Nat × Nat × Nat) : (YS × (Nat × Nat × Nat)) ⊕ Nat := if inR (nmD b (tkL n b t.2.2)) (Yg y) = true then .inl (sM y (YU y (nmD b (tkL n b t.2.2)).toNatClampNeg) 0 0, tkL n b (tkL n b t.2.2).2.2) else .inr (tkL n b t.2.2).2.1
theorem x42 (d : Nat) {h : AH} {T Y n : Nat} {b : Nat → Nat} {y : YS} {t : Nat × Nat × Nat} (q : PY h T Y n b y t) (p2 : Option Value) : PR T Y n b h (E (d + 3) 42 0 [some (.ref T), some (.ref Y), p2] [] h) (stForget n b y t) := by
  obtain ⟨h1, e1, q1, f1⟩ := q.look (d + 1)
  have c0 := q.1.1
  have c1 := q1.1.1
  have y1 := q1.2.2.2.2.1.1.1
  have e47 := fun d => q1.num d
  have e62 := fun d => x62 d q1.2.2.2.2.1 (nmD b (tkL n b t.2.2))
  unfold stForget
  generalize nmD b (tkL n b t.2.2) = x at *
  have o6 := q1.2.2.2.2.1.2.2.2.1
  cases a : inR x (Yg y) <;> rw [a] at e62
  · rw [if_neg (by decide)]
    refine ⟨h1, y, _, ?_, q1, f1, rfl⟩
    simp (disch := omega) only [s42_0, s42_1, s42_2, s42_3, s42_4, s42_5, s42_6, s42_7, s42_8, s42_9, s42_10, ↓reduceIte, Option.bind_some, Option.toList_some, Option.toList_none, List.cons_append, List.nil_append, if_true, if_false, true_or, or_true, true_and, and_true, not_true_eq_false, not_false_eq_true, Nat.reduceLT, Nat.reduceLeDiff, Nat.reduceEqDiff, Nat.reduceAdd, Nat.reduceMul, Nat.reduceSub, Nat.reducePow, Nat.reduceMod, Nat.reduceDiv, l0, l1, l2, l3, l4, l5, l6, l7, l8, l9, l10, l11, l12, l13, l14, l15, l16, l20, l31, l32, l36, l40, l48, l57, l59, l63, l64, l97, l99, l100, l101, l122, l127, l128, l250, l255, l262143, l262144, l30000, l100000, l12345, l1024, l4095, nI_eqs, nI_les, nI_lts, qI_eq, qI_eqn, nI_eqq, qI_lts, nI_ltp, nI_lep, qI_les, nI_add, nI_mul, qI_add, qI_s, qI_def, nI_clamps, bI_z, bI_o, bI_01, n01, n11, rf_some, rf_none, m1, m1n, bft, c0, c1, y1, e1, e47, e62, bI_f]
  · rw [if_pos rfl]
    obtain ⟨g, hg, rfl⟩ := inR_of (by omega) a
    rw [nI_clamp (show g < 2 ^ 31 by omega)]
    have e2 := fun d h => x2 d h (f := 0) (s := 0) (by decide) (by decide)
    have e69 := fun d => x69 d q1.2.2.2.2.1 (g := g) (f := 0) (s := 0) hg
    obtain ⟨q2, f2⟩ := q1.mem (g := YU y g) (f := 0) (s := 0) (Nat.zero_le _) (Nat.zero_le _)
    obtain ⟨h3, e3, q3, f3⟩ := q2.look (d + 1)
    refine ⟨h3, ?_, q3, (f1.trans f2).trans f3⟩
    simp only [Nat.mul_zero, Nat.add_zero] at e2 e69 e3
    simp (disch := omega) only [s42_0, s42_1, s42_2, s42_3, s42_4, s42_5, s42_6, s42_7, s42_8, s42_9, s42_10, s42_11, s42_12, s42_13, s42_14, s42_15, s42_16, s42_17, s42_18, s42_19, s42_20, ↓reduceIte, Option.bind_some, Option.toList_some, Option.toList_none, List.cons_append, List.nil_append, if_true, if_false, true_or, or_true, true_and, and_true, not_true_eq_false, not_false_eq_true, Nat.reduceLT, Nat.reduceLeDiff, Nat.reduceEqDiff, Nat.reduceAdd, Nat.reduceMul, Nat.reduceSub, Nat.reducePow, Nat.reduceMod, Nat.reduceDiv, l0, l1, l2, l3, l4, l5, l6, l7, l8, l9, l10, l11, l12, l13, l14, l15, l16, l20, l31, l32, l36, l40, l48, l57, l59, l63, l64, l97, l99, l100, l101, l122, l127, l128, l250, l255, l262143, l262144, l30000, l100000, l12345, l1024, l4095, nI_eqs, nI_les, nI_lts, qI_eq, qI_eqn, nI_eqq, qI_lts, nI_ltp, nI_lep, qI_les, nI_add, nI_mul, qI_add, qI_s, qI_def, nI_clamps, bI_z, bI_o, bI_01, n01, n11, rf_some, rf_none, m1, m1n, bft, hS_stI, c0, c1, y1, e1, e47, e62, e2, e69, e3, bI_t, Bool.true_eq_false]
