/-! STREAM, the reference -/
theorem itr_a {α : Type} (f : Nat → α → α) : ∀ (m1 m2 i : Nat) (s : α), itr f (m1 + m2) i s = itr f m2 (i + m1) (itr f m1 i s) := by
  intro m1
  induction m1 with
  | zero => intro m2 i s; rw [Nat.zero_add]; rfl
  | succ m1 ih => intro m2 i s; rw [Nat.add_right_comm, itr_s, ih, itr_s, show i + 1 + m1 = i + (m1 + 1) by omega]
theorem wk_mod (y : YS) (g : Nat) (e : Nat → Int64) {n : Nat} (b : Nat) : ∀ m i p, i + m ≤ n → itr (fun k p => stp y g p (cv e (k % n))) m (b * n + i) p = wkI y g e m i p := by
  intro m
  induction m with
  | zero => intro i p _; rfl
  | succ m ih =>
    intro i p h
    rw [itr_s]
    have : (b * n + i) % n = i := by rw [Nat.mul_comm, Nat.mul_add_mod, Nat.mod_eq_of_lt (by omega)]
    rw [this, show b * n + i + 1 = b * n + (i + 1) by omega, ih (i + 1) _ (by omega)]
    rfl
theorem wk_all (y : YS) (g : Nat) (e : Nat → Int64) {n : Nat} : ∀ a b p, itr (fun k p => stp y g p (cv e (k % n))) (a * n) (b * n) p = itF (rF y g e n) a p := by
  intro a
  induction a with
  | zero => intro b p; rw [Nat.zero_mul]; rfl
  | succ a ih =>
    intro b p
    rw [show (a + 1) * n = n + a * n by rw [Nat.succ_mul]; omega, itr_a, show b * n + n = (b + 1) * n by rw [Nat.succ_mul], ih (b + 1), itF_s]
    have := wk_mod y g e (n := n) b n 0 p (by omega)
    rw [Nat.add_zero] at this
    rw [this]; rfl
/-- the thinking model at o, its gate's memory p: the reference's room -/
def TH (h0 h : AH) (A : Nat) (s : GS) (W : Nat → Prop) (o g : Nat) (p : Nat × Nat) : Prop := MX h A s W ∧ hR h A 23 = some o ∧ MY h o (wM (gY s) g p) ∧ KW W h0 h ∧ RM A h0 h 0 0
theorem TH.try {h0 h : AH} {A : Nat} {s : GS} {W : Nat → Prop} {o g : Nat} {p : Nat × Nat} (t : TH h0 h A s W o g p) (d : Nat) (hg : g < Yg (gY s)) {c : Nat} (hc : c < Yc (gY s)) (p3 : Option Value) : ∃ h', E (d + 2) 183 0 [some (.ref o), some (.int (nI g)), some (.int (nI c)), p3] [] h = some (some (.int (bI (lt1 (gY s) g p c))), h') ∧ TH h0 h' A s W o g (stp (gY s) g p c) := by
  obtain ⟨x1, q1, y1, kw, rm⟩ := t
  obtain ⟨h2, e183, y2, f2⟩ := m183p d y1 hg hc p3
  have zo := x1.o q1 f2.bk
  exact ⟨h2, e183, zo.1, by rw [f2.1.2.2.2.2.2.1]; exact q1, y2, kw.trans zo.2.1, rm.trans zo.2.2⟩
theorem TH.mem {h0 h : AH} {A : Nat} {s : GS} {W : Nat → Prop} {o g : Nat} {p : Nat × Nat} (t : TH h0 h A s W o g p) (hg : g < Yg (gY s)) : hS h A = some (105, 0) ∧ hS h o = some (105, 0) ∧ hR h A 15 = some (A + 21) ∧ hS h (A + 21) = some (0, 6) ∧ hI h (A + 21) g = nI (YU (gY s) g) ∧ hR h o 13 = some (o + 19) ∧ hR h o 14 = some (o + 20) ∧ hS h (o + 19) = some (0, 6) ∧ hS h (o + 20) = some (0, 6) ∧ hI h (o + 19) (YU (gY s) g) = qI p.1 ∧ hI h (o + 20) (YU (gY s) g) = qI p.2 := by
  obtain ⟨x1, q1, y1, kw, rm⟩ := t
  have u := x1.1.2.2.u hg
  refine ⟨x1.1.1.1, y1.1.1, x1.1.1.2.2.2.2.2.2.2.2.2.2.2.2.2.1, x1.1.1.2.2.2.2.2.1, x1.1.2.1.2.2.2.2.2.2.2.1 g hg, y1.1.2.2.2.2.2.2.2.2.2.2.2.1, y1.1.2.2.2.2.2.2.2.2.2.2.2.2.1, y1.1.2.2.2.1, y1.1.2.2.2.2.1, ?_, ?_⟩
  · have := y1.2.1.2.2.2.2.2.2.2.2.1 (YU (gY s) g) u
    rw [this]; show qI (fup (YF (gY s)) (YU (gY s) g) p.1 (YU (gY s) g)) = _; rw [fup_s]
  · have := y1.2.1.2.2.2.2.2.2.2.2.2.1 (YU (gY s) g) u
    rw [this]; show qI (fup (YM (gY s)) (YU (gY s) g) p.2 (YU (gY s) g)) = _; rw [fup_s]
theorem TH.row {h0 h : AH} {A : Nat} {s : GS} {W : Nat → Prop} {o g : Nat} {p : Nat × Nat} (t : TH h0 h A s W o g p) {k i c : Nat} (hk : k < 8) (hi : i < Hn (gH s k)) (hc : He (gH s k) i = lN c) : hR h A 3 = some (A + 4) ∧ hS h (A + 4) = some (4, 8) ∧ hR h (A + 4) k = some (A + 5 + k) ∧ hS h (A + 5 + k) = some (1, 40) ∧ hL h (A + 5 + k) i = lN c := by
  obtain ⟨x1, q1, y1, kw, rm⟩ := t
  obtain ⟨⟨z0, z1, z2, z3, z4, z5, z6, r0, r1, r2, r3, r4, r5⟩, hs⟩ := id x1.2.1
  obtain ⟨rs1, ze1, -, -, -, ve1, -⟩ := hs k hk
  exact ⟨r3, z4, rs1, ze1, by rw [ve1 i hi]; exact hc⟩
theorem c218 (d : Nat) {h : AH} {A : Nat} {s : GS} {W : Nat → Prop} (hx : MX h A s W) (x n g w : Int32) (p5 p6 p7 p8 p9 p10 p11 p12 : Option Value) : MC (d + 4) 218 [some (.ref A), some (.int x), some (.int n), some (.int g), some (.int w), p5, p6, p7, p8, p9, p10, p11, p12] h A W (s_stream s x n g w) := by
  obtain ⟨my, mh, ⟨t1, t2, t3, t4, t5⟩, mr, mz, mg, mw, mn, mwn⟩ := id hx; have e136 := c136e hx; have b0 := my.1.1; obtain ⟨⟨z0, z1, z2, z3, z4, z5, z6, z7, z8, r1, r2, r3, r4, r5, r6, r7, r8⟩, ⟨vc, vg, vn, vt, vz, vK, vA, vU, vF, vM, vW, vC, vP⟩, ok⟩ := id my; obtain ⟨⟨o2, o3⟩, o6, on, og, oc⟩ := id ok
  have sok : ∀ k, k < 8 → SOK (gH s k) := fun k hk => (mh.2 k hk).2.2.2.2.2.2
  have e216 := fun d => m216 d hx x n g w (most := 20) (mo := 1) (by decide) (by decide) none none
  unfold s_stream
  have kl := crK_lt (gH s) (gY s) (qgw s g w 2) x n 20
  by_cases a : crK (gH s) (gY s) (qgw s g w 2) x n 20 = 0
  · rw [if_pos a]
    simp only [Nat.reduceAdd, a, if_true] at e216
    obtain ⟨qq, k, m, hk, rfl, wk, rfl, u1, u2, u3, hc⟩ := crK_0 (by decide) sok a
    unfold qgw at qq
    rw [Bool.and_eq_true] at qq
    obtain ⟨j, hj, rfl⟩ := inR_of (by omega) qq.1
    obtain ⟨v, hv, rfl⟩ := inR_of (by omega) qq.2
    rw [nI_clamp (show k < 2 ^ 31 by omega), nI_clamp (show m < 2 ^ 31 by omega), nI_clamp (show j < 2 ^ 31 by omega), nI_clamp (show v < 2 ^ 31 by omega)]
    have mp := memP_ok ok hj
    have u6 := ok.u6 hj
    have hcc : ∀ i, i < m → cv (He (gH s k)) i < Yc (gY s) ∧ He (gH s k) i = lN (cv (He (gH s k)) i) := fun i hi => cv_of (by omega) (hc i hi)
    have hF : ∀ p, pOK (gY s) p → pOK (gY s) (rF (gY s) j (He (gH s k)) m p) := fun p hp => wkI_ok hp (fun i _ hi => hc i (by omega)) o3
    -- twenty rounds
    have lq1 : ∀ l i p o h1 p9 p10 p11 p12, i + l = 20 * m → pOK (gY s) p → TH h h1 A s W o j p → ∃ h2, E (d + 4) 218 23 [some (.ref A), some (.int (nI k)), some (.int (nI m)), some (.int (nI j)), some (.int (nI v)), some (.int (nI 0)), some (.ref o), some (.int (nI (YU (gY s) j))), some (.int (nI i)), p9, p10, p11, p12] [] h1 = E (d + 4) 218 43 [some (.ref A), some (.int (nI k)), some (.int (nI m)), some (.int (nI j)), some (.int (nI v)), some (.int (nI 0)), some (.ref o), some (.int (nI (YU (gY s) j))), some (.int (nI (20 * m))), p9, p10, p11, p12] [] h2 ∧ TH h h2 A s W o j (itr (fun k' p => stp (gY s) j p (cv (He (gH s k)) (k' % m))) l i p) := by
      intro l
      induction l with
      | zero =>
        intro i p o h1 p9 p10 p11 p12 hi hp t
        have hi' : i = 20 * m := hi
        subst hi'
        refine ⟨h1, ?_, t⟩
        rw [s218_23]
        simp (disch := omega) only [s218_24, s218_25, s218_26, s218_27, s218_28, s218_29, s218_30, s218_31, s218_32, s218_33, s218_34, s218_35, s218_36, s218_37, s218_38, s218_39, s218_40, s218_41, s218_42, ↓reduceIte, Option.bind_some, Option.toList_some, Option.toList_none, List.cons_append, List.nil_append, if_true, if_false, true_or, or_true, true_and, and_true, not_true_eq_false, not_false_eq_true, Nat.reduceLT, Nat.reduceLeDiff, Nat.reduceEqDiff, Nat.reduceAdd, Nat.reduceMul, Nat.reduceSub, Nat.reducePow, Nat.reduceMod, Nat.reduceDiv, l0, l1, l2, l3, l4, l5, l6, l7, l8, l9, l10, l11, l12, l13, l14, l15, l16, l20, l31, l32, l36, l40, l48, l57, l59, l63, l64, l97, l99, l100, l101, l122, l127, l128, l250, l255, l262143, l262144, l30000, l100000, l12345, l1024, l4095, nI_eqs, nI_les, nI_lts, qI_eq, qI_eqn, nI_eqq, qI_lts, nI_ltp, nI_lep, qI_les, nI_add, nI_mul, qI_add, qI_s, qI_def, nI_clamps, bI_z, bI_o, bI_01, n01, n11, rf_some, rf_none, m1, m1n, bft, Nat.le_refl]
      | succ l ih =>
        intro i p o h1 p9 p10 p11 p12 hi hp t
        have h1' : ¬ 20 * m ≤ i := by omega
        have im : i % m < m := Nat.mod_lt _ (by omega)
        obtain ⟨c1, c2⟩ := hcc (i % m) im
        obtain ⟨c0, o0, -, -, -, -, -, -, -, -, -⟩ := t.mem hj
        obtain ⟨r3, z4, rs1, ze1, el⟩ := t.row hk (show i % m < Hn (gH s k) by omega) c2
        have g4 := gR (h := h1) z4 (Or.inl rfl) (i := k)
        have m0 : ¬ m = 0 := by omega
        have rm := nI_rem (a := i) (b := m) (by omega) (by omega)
        obtain ⟨h2, e183, t2⟩ := t.try (d + 1) hj c1 none
        obtain ⟨h3, e3, t3⟩ := ih (i + 1) (stp (gY s) j p (cv (He (gH s k)) (i % m))) o h2 p9 p10 p11 p12 (by omega) (stp_ok hp c1) t2
        refine ⟨h3, ?_, t3⟩
        rw [← e3, s218_23]
        simp (disch := omega) only [s218_24, s218_25, s218_26, s218_27, s218_28, s218_29, s218_30, s218_31, s218_32, s218_33, s218_34, s218_35, s218_36, s218_37, s218_38, s218_39, s218_40, s218_41, s218_42, ↓reduceIte, Option.bind_some, Option.toList_some, Option.toList_none, List.cons_append, List.nil_append, if_true, if_false, true_or, or_true, true_and, and_true, not_true_eq_false, not_false_eq_true, Nat.reduceLT, Nat.reduceLeDiff, Nat.reduceEqDiff, Nat.reduceAdd, Nat.reduceMul, Nat.reduceSub, Nat.reducePow, Nat.reduceMod, Nat.reduceDiv, l0, l1, l2, l3, l4, l5, l6, l7, l8, l9, l10, l11, l12, l13, l14, l15, l16, l20, l31, l32, l36, l40, l48, l57, l59, l63, l64, l97, l99, l100, l101, l122, l127, l128, l250, l255, l262143, l262144, l30000, l100000, l12345, l1024, l4095, nI_eqs, nI_les, nI_lts, qI_eq, qI_eqn, nI_eqq, qI_lts, nI_ltp, nI_lep, qI_les, nI_add, nI_mul, qI_add, qI_s, qI_def, nI_clamps, bI_z, bI_o, bI_01, n01, n11, rf_some, rf_none, m1, m1n, bft, h1', m0, rm, c0, o0, r3, g4, rs1, gA ze1, el, lN_i, e183]
    -- one round
    have lq2 : ∀ l i p t' r o h1 x8 x9, i + l = m → pOK (gY s) p → TH h h1 A s W o j p → ∃ h2, E (d + 4) 218 59 [some (.ref A), some (.int (nI k)), some (.int (nI m)), some (.int (nI j)), some (.int (nI v)), some (.int (nI 0)), some (.ref o), some (.int (nI (YU (gY s) j))), x8, x9, some (.int (nI t')), some (.int (nI r)), some (.int (nI i))] [] h1 = E (d + 4) 218 81 [some (.ref A), some (.int (nI k)), some (.int (nI m)), some (.int (nI j)), some (.int (nI v)), some (.int (nI 0)), some (.ref o), some (.int (nI (YU (gY s) j))), x8, x9, some (.int (nI (rdI (gY s) j (He (gH s k)) l i (p, t')).2)), some (.int (nI r)), some (.int (nI m))] [] h2 ∧ TH h h2 A s W o j (rdI (gY s) j (He (gH s k)) l i (p, t')).1 := by
      intro l
      induction l with
      | zero =>
        intro i p t' r o h1 x8 x9 hi hp t
        have hi' : i = m := hi
        subst hi'
        refine ⟨h1, ?_, t⟩
        rw [s218_59]
        simp (disch := omega) only [s218_60, s218_61, s218_62, s218_63, s218_64, s218_65, s218_66, s218_67, s218_68, s218_69, s218_70, s218_71, s218_72, s218_73, s218_74, s218_75, s218_76, s218_77, s218_78, s218_79, s218_80, ↓reduceIte, Option.bind_some, Option.toList_some, Option.toList_none, List.cons_append, List.nil_append, if_true, if_false, true_or, or_true, true_and, and_true, not_true_eq_false, not_false_eq_true, Nat.reduceLT, Nat.reduceLeDiff, Nat.reduceEqDiff, Nat.reduceAdd, Nat.reduceMul, Nat.reduceSub, Nat.reducePow, Nat.reduceMod, Nat.reduceDiv, l0, l1, l2, l3, l4, l5, l6, l7, l8, l9, l10, l11, l12, l13, l14, l15, l16, l20, l31, l32, l36, l40, l48, l57, l59, l63, l64, l97, l99, l100, l101, l122, l127, l128, l250, l255, l262143, l262144, l30000, l100000, l12345, l1024, l4095, nI_eqs, nI_les, nI_lts, qI_eq, qI_eqn, nI_eqq, qI_lts, nI_ltp, nI_lep, qI_les, nI_add, nI_mul, qI_add, qI_s, qI_def, nI_clamps, bI_z, bI_o, bI_01, n01, n11, rf_some, rf_none, m1, m1n, bft, Nat.le_refl]
        rfl
      | succ l ih =>
        intro i p t' r o h1 x8 x9 hi hp t
        have h1' : ¬ m ≤ i := by omega
        obtain ⟨c1, c2⟩ := hcc i (by omega)
        obtain ⟨c0, o0, -, -, -, -, -, -, -, -, -⟩ := t.mem hj
        obtain ⟨r3, z4, rs1, ze1, el⟩ := t.row hk (show i < Hn (gH s k) by omega) c2
        have g4 := gR (h := h1) z4 (Or.inl rfl) (i := k)
        obtain ⟨h2, e183, t2⟩ := t.try (d + 1) hj c1 none
        obtain ⟨h3, e3, t3⟩ := ih (i + 1) (stp (gY s) j p (cv (He (gH s k)) i)) (if lt1 (gY s) j p (cv (He (gH s k)) i) = true then t' + 1 else t') r o h2 x8 x9 (by omega) (stp_ok hp c1) t2
        refine ⟨h3, ?_, t3⟩
        rw [rdI_s, ← e3, s218_59]
        cases q : lt1 (gY s) j p (cv (He (gH s k)) i) <;> rw [q] at e183 <;> simp only [Bool.false_eq_true, if_true, if_false]
        · simp (disch := omega) only [s218_60, s218_61, s218_62, s218_63, s218_64, s218_65, s218_66, s218_67, s218_68, s218_69, s218_70, s218_71, s218_72, s218_73, s218_74, s218_75, s218_76, s218_77, s218_78, s218_79, s218_80, ↓reduceIte, Option.bind_some, Option.toList_some, Option.toList_none, List.cons_append, List.nil_append, if_true, if_false, true_or, or_true, true_and, and_true, not_true_eq_false, not_false_eq_true, Nat.reduceLT, Nat.reduceLeDiff, Nat.reduceEqDiff, Nat.reduceAdd, Nat.reduceMul, Nat.reduceSub, Nat.reducePow, Nat.reduceMod, Nat.reduceDiv, l0, l1, l2, l3, l4, l5, l6, l7, l8, l9, l10, l11, l12, l13, l14, l15, l16, l20, l31, l32, l36, l40, l48, l57, l59, l63, l64, l97, l99, l100, l101, l122, l127, l128, l250, l255, l262143, l262144, l30000, l100000, l12345, l1024, l4095, nI_eqs, nI_les, nI_lts, qI_eq, qI_eqn, nI_eqq, qI_lts, nI_ltp, nI_lep, qI_les, nI_add, nI_mul, qI_add, qI_s, qI_def, nI_clamps, bI_z, bI_o, bI_01, n01, n11, rf_some, rf_none, m1, m1n, bft, h1', c0, o0, r3, g4, rs1, gA ze1, el, lN_i, e183, Nat.add_zero]
        · simp (disch := omega) only [s218_60, s218_61, s218_62, s218_63, s218_64, s218_65, s218_66, s218_67, s218_68, s218_69, s218_70, s218_71, s218_72, s218_73, s218_74, s218_75, s218_76, s218_77, s218_78, s218_79, s218_80, ↓reduceIte, Option.bind_some, Option.toList_some, Option.toList_none, List.cons_append, List.nil_append, if_true, if_false, true_or, or_true, true_and, and_true, not_true_eq_false, not_false_eq_true, Nat.reduceLT, Nat.reduceLeDiff, Nat.reduceEqDiff, Nat.reduceAdd, Nat.reduceMul, Nat.reduceSub, Nat.reducePow, Nat.reduceMod, Nat.reduceDiv, l0, l1, l2, l3, l4, l5, l6, l7, l8, l9, l10, l11, l12, l13, l14, l15, l16, l20, l31, l32, l36, l40, l48, l57, l59, l63, l64, l97, l99, l100, l101, l122, l127, l128, l250, l255, l262143, l262144, l30000, l100000, l12345, l1024, l4095, nI_eqs, nI_les, nI_lts, qI_eq, qI_eqn, nI_eqq, qI_lts, nI_ltp, nI_lep, qI_les, nI_add, nI_mul, qI_add, qI_s, qI_def, nI_clamps, bI_z, bI_o, bI_01, n01, n11, rf_some, rf_none, m1, m1n, bft, h1', c0, o0, r3, g4, rs1, gA ze1, el, lN_i, e183, Bool.true_eq_false]
    -- until it is back
    have lq3 : ∀ f q p t' r o h1 x12, pOK (gY s) q → pOK (gY s) p → (∃ n, 1 ≤ n ∧ n ≤ f ∧ itF (rF (gY s) j (He (gH s k)) m) n p = q) → TH h h1 A s W o j p → ∃ h2, E (d + 4) 218 57 [some (.ref A), some (.int (nI k)), some (.int (nI m)), some (.int (nI j)), some (.int (nI v)), some (.int (nI 0)), some (.ref o), some (.int (nI (YU (gY s) j))), some (.int (qI q.1)), some (.int (qI q.2)), some (.int (nI t')), some (.int (nI r)), x12] [] h1 = some (some (.int (stmA (strB (rF (gY s) j (He (gH s k)) m) (rC (gY s) j (He (gH s k)) m) f q p t' r) v)), h2) ∧ MX h2 A s W ∧ KW W h h2 ∧ RM A h h2 0 0 := by
      intro f
      induction f with
      | zero => intro q p t' r o h1 x12 hq hp ⟨n, n1, n2, _⟩ t; omega
      | succ f ih =>
        intro q p t' r o h1 x12 hq hp ⟨n, n1, n2, hn⟩ t
        obtain ⟨h2, e2, t2⟩ := lq2 m 0 p t' r o h1 (some (.int (qI q.1))) (some (.int (qI q.2))) (by omega) hp t
        have R := rdI_1 (gY s) j (He (gH s k)) m 0 p t'
        rw [R.2.1] at e2
        rw [R.1] at t2
        change E (d + 4) 218 59 _ _ _ = E (d + 4) 218 81 [_, _, _, _, _, _, _, _, _, _, some (.int (nI (t' + rC (gY s) j (He (gH s k)) m p))), _, _] _ _ at e2
        change TH h h2 A s W o j (rF (gY s) j (He (gH s k)) m p) at t2
        have hp' := hF p hp
        obtain ⟨c0, o0, v1, v2, v3, v4, v5, v6, v7, v8, v9⟩ := t2.mem hj
        have pl := hp'.1
        have pl2 := hp'.2
        have ql := hq.1
        have ql2 := hq.2
        show ∃ h2, _ = some (some (Value.int (stmA (if rF (gY s) j (He (gH s k)) m p = q then (t' + rC (gY s) j (He (gH s k)) m p, r + 1) else strB (rF (gY s) j (He (gH s k)) m) (rC (gY s) j (He (gH s k)) m) f q (rF (gY s) j (He (gH s k)) m p) (t' + rC (gY s) j (He (gH s k)) m p) (r + 1)) v)), h2) ∧ _
        by_cases c : rF (gY s) j (He (gH s k)) m p = q
        · rw [if_pos c]
          refine ⟨h2, ?_, t2.1, t2.2.2.2.1, t2.2.2.2.2⟩
          rw [c] at v8 v9
          unfold stmA
          by_cases v0 : v = 0
          · subst v0
            simp (disch := omega) only [s218_57, s218_58, s218_81, s218_82, s218_83, s218_84, s218_85, s218_86, s218_87, s218_88, s218_89, s218_90, s218_91, s218_92, s218_93, s218_94, s218_95, s218_96, s218_97, s218_98, s218_99, ↓reduceIte, Option.bind_some, Option.toList_some, Option.toList_none, List.cons_append, List.nil_append, if_true, if_false, true_or, or_true, true_and, and_true, not_true_eq_false, not_false_eq_true, Nat.reduceLT, Nat.reduceLeDiff, Nat.reduceEqDiff, Nat.reduceAdd, Nat.reduceMul, Nat.reduceSub, Nat.reducePow, Nat.reduceMod, Nat.reduceDiv, l0, l1, l2, l3, l4, l5, l6, l7, l8, l9, l10, l11, l12, l13, l14, l15, l16, l20, l31, l32, l36, l40, l48, l57, l59, l63, l64, l97, l99, l100, l101, l122, l127, l128, l250, l255, l262143, l262144, l30000, l100000, l12345, l1024, l4095, nI_eqs, nI_les, nI_lts, qI_eq, qI_eqn, nI_eqq, qI_lts, nI_ltp, nI_lep, qI_les, nI_add, nI_mul, qI_add, qI_s, qI_def, nI_clamps, bI_z, bI_o, bI_01, n01, n11, rf_some, rf_none, m1, m1n, bft, e2, c0, o0, v4, v5, gI v6, gI v7, v8, v9]
          · simp (disch := omega) only [s218_57, s218_58, s218_81, s218_82, s218_83, s218_84, s218_85, s218_86, s218_87, s218_88, s218_89, s218_90, s218_91, s218_92, s218_93, s218_94, s218_95, s218_96, s218_97, s218_98, s218_99, ↓reduceIte, Option.bind_some, Option.toList_some, Option.toList_none, List.cons_append, List.nil_append, if_true, if_false, true_or, or_true, true_and, and_true, not_true_eq_false, not_false_eq_true, Nat.reduceLT, Nat.reduceLeDiff, Nat.reduceEqDiff, Nat.reduceAdd, Nat.reduceMul, Nat.reduceSub, Nat.reducePow, Nat.reduceMod, Nat.reduceDiv, l0, l1, l2, l3, l4, l5, l6, l7, l8, l9, l10, l11, l12, l13, l14, l15, l16, l20, l31, l32, l36, l40, l48, l57, l59, l63, l64, l97, l99, l100, l101, l122, l127, l128, l250, l255, l262143, l262144, l30000, l100000, l12345, l1024, l4095, nI_eqs, nI_les, nI_lts, qI_eq, qI_eqn, nI_eqq, qI_lts, nI_ltp, nI_lep, qI_les, nI_add, nI_mul, qI_add, qI_s, qI_def, nI_clamps, bI_z, bI_o, bI_01, n01, n11, rf_some, rf_none, m1, m1n, bft, e2, c0, o0, v4, v5, gI v6, gI v7, v8, v9, v0]
        · rw [if_neg c]
          have hn' : ∃ n', 1 ≤ n' ∧ n' ≤ f ∧ itF (rF (gY s) j (He (gH s k)) m) n' (rF (gY s) j (He (gH s k)) m p) = q := by
            cases n with
            | zero => omega
            | succ n =>
              cases n with
              | zero => exact absurd hn c
              | succ n => exact ⟨n + 1, by omega, by omega, hn⟩
          obtain ⟨h3, e3, z⟩ := ih q _ (t' + rC (gY s) j (He (gH s k)) m p) (r + 1) o h2 (some (.int (nI m))) hq hp' hn' t2
          refine ⟨h3, ?_, z⟩
          rw [← e3]
          by_cases f1 : (rF (gY s) j (He (gH s k)) m p).1 = q.1
          · have f2 : ¬ (rF (gY s) j (He (gH s k)) m p).2 = q.2 := fun w => c (Prod.ext f1 w)
            simp (disch := omega) only [s218_57, s218_58, e2, s218_81, s218_82, s218_83, s218_84, s218_85, s218_86, s218_87, s218_88, s218_89, s218_90, s218_91, s218_92, s218_93, ↓reduceIte, Option.bind_some, Option.toList_some, Option.toList_none, List.cons_append, List.nil_append, if_true, if_false, true_or, or_true, true_and, and_true, not_true_eq_false, not_false_eq_true, Nat.reduceLT, Nat.reduceLeDiff, Nat.reduceEqDiff, Nat.reduceAdd, Nat.reduceMul, Nat.reduceSub, Nat.reducePow, Nat.reduceMod, Nat.reduceDiv, l0, l1, l2, l3, l4, l5, l6, l7, l8, l9, l10, l11, l12, l13, l14, l15, l16, l20, l31, l32, l36, l40, l48, l57, l59, l63, l64, l97, l99, l100, l101, l122, l127, l128, l250, l255, l262143, l262144, l30000, l100000, l12345, l1024, l4095, nI_eqs, nI_les, nI_lts, qI_eq, qI_eqn, nI_eqq, qI_lts, nI_ltp, nI_lep, qI_les, nI_add, nI_mul, qI_add, qI_s, qI_def, nI_clamps, bI_z, bI_o, bI_01, n01, n11, rf_some, rf_none, m1, m1n, bft, c0, o0, v4, v5, gI v6, gI v7, v8, v9, f1, f2]
          · simp (disch := omega) only [s218_57, s218_58, e2, s218_81, s218_82, s218_83, s218_84, s218_85, s218_86, s218_87, s218_88, s218_89, s218_90, s218_91, s218_92, s218_93, ↓reduceIte, Option.bind_some, Option.toList_some, Option.toList_none, List.cons_append, List.nil_append, if_true, if_false, true_or, or_true, true_and, and_true, not_true_eq_false, not_false_eq_true, Nat.reduceLT, Nat.reduceLeDiff, Nat.reduceEqDiff, Nat.reduceAdd, Nat.reduceMul, Nat.reduceSub, Nat.reducePow, Nat.reduceMod, Nat.reduceDiv, l0, l1, l2, l3, l4, l5, l6, l7, l8, l9, l10, l11, l12, l13, l14, l15, l16, l20, l31, l32, l36, l40, l48, l57, l59, l63, l64, l97, l99, l100, l101, l122, l127, l128, l250, l255, l262143, l262144, l30000, l100000, l12345, l1024, l4095, nI_eqs, nI_les, nI_lts, qI_eq, qI_eqn, nI_eqq, qI_lts, nI_ltp, nI_lep, qI_les, nI_add, nI_mul, qI_add, qI_s, qI_def, nI_clamps, bI_z, bI_o, bI_01, n01, n11, rf_some, rf_none, m1, m1n, bft, c0, o0, v4, v5, gI v6, gI v7, v8, v9, f1]
    obtain ⟨h1, o, e225, x1, q1, y1, a1, kw1, rm1⟩ := c225 (d + 1) hx
    have t1 : TH h h1 A s W o j (memP (gY s) j) := ⟨x1, q1, by rw [wM_0]; exact y1, kw1, rm1⟩
    obtain ⟨h2, e2, t2⟩ := lq1 (20 * m) 0 (memP (gY s) j) o h1 p9 p10 p11 p12 (by omega) mp t1
    have wa := wk_all (gY s) j (He (gH s k)) (n := m) 20 0 (memP (gY s) j)
    rw [Nat.zero_mul] at wa
    rw [wa] at t2
    obtain ⟨r, r1, r2, hr, hm⟩ := cyc o3 hF mp
    have okq : pOK (gY s) (itF (rF (gY s) j (He (gH s k)) m) 20 (memP (gY s) j)) := by
      have : ∀ n, pOK (gY s) (itF (rF (gY s) j (He (gH s k)) m) n (memP (gY s) j)) := by
        intro n
        induction n with
        | zero => exact mp
        | succ n ih => rw [itF_c]; exact hF _ ih
      exact this 20
    have dr := strDR (C := rC (gY s) j (He (gH s k)) m) o3 hF okq r1 r2 hr hm r 0 0 0 (by omega) r1 (fun k _ => by
      rw [Nat.zero_testBit]
      exact ⟨fun w => absurd w (by decide), fun ⟨i, h1, _⟩ => absurd h1 (Nat.not_lt_zero i)⟩)
    obtain ⟨h3, e3, x3, kw3, rm3⟩ := lq3 16 _ _ 0 0 o h2 p12 okq okq ⟨r, r1, r2, hr⟩ t2
    obtain ⟨c0, o0, v1, v2, v3, v4, v5, v6, v7, v8, v9⟩ := t2.mem hj
    obtain ⟨d0, -, w1, w2, w3, -, -, -, -, -, -⟩ := t1.mem hj
    refine ⟨h3, ?_, x3, kw3, by unfold RM at *; omega⟩
    unfold stmR
    change strA _ _ 16 0 (itF (rF (gY s) j (He (gH s k)) m) 20 (memP (gY s) j)) 0 0 = strB _ _ 16 _ _ 0 0 at dr
    rw [dr]
    simp (disch := omega) only [s218_0, s218_1, s218_2, s218_3, s218_4, s218_5, s218_6, s218_7, s218_8, s218_9, s218_10, s218_11, s218_12, s218_13, s218_14, s218_15, s218_16, s218_17, s218_18, s218_19, s218_20, s218_21, s218_22, ↓reduceIte, Option.bind_some, Option.toList_some, Option.toList_none, List.cons_append, List.nil_append, if_true, if_false, true_or, or_true, true_and, and_true, not_true_eq_false, not_false_eq_true, Nat.reduceLT, Nat.reduceLeDiff, Nat.reduceEqDiff, Nat.reduceAdd, Nat.reduceMul, Nat.reduceSub, Nat.reducePow, Nat.reduceMod, Nat.reduceDiv, l0, l1, l2, l3, l4, l5, l6, l7, l8, l9, l10, l11, l12, l13, l14, l15, l16, l20, l31, l32, l36, l40, l48, l57, l59, l63, l64, l97, l99, l100, l101, l122, l127, l128, l250, l255, l262143, l262144, l30000, l100000, l12345, l1024, l4095, nI_eqs, nI_les, nI_lts, qI_eq, qI_eqn, nI_eqq, qI_lts, nI_ltp, nI_lep, qI_les, nI_add, nI_mul, qI_add, qI_s, qI_def, nI_clamps, bI_z, bI_o, bI_01, n01, n11, rf_some, rf_none, m1, m1n, bft, b0, e216, e225, d0, w1, gI w2, w3]
    rw [e2]
    simp (disch := omega) only [s218_43, s218_44, s218_45, s218_46, s218_47, s218_48, s218_49, s218_50, s218_51, s218_52, s218_53, s218_54, s218_55, s218_56, ↓reduceIte, Option.bind_some, Option.toList_some, Option.toList_none, List.cons_append, List.nil_append, if_true, if_false, true_or, or_true, true_and, and_true, not_true_eq_false, not_false_eq_true, Nat.reduceLT, Nat.reduceLeDiff, Nat.reduceEqDiff, Nat.reduceAdd, Nat.reduceMul, Nat.reduceSub, Nat.reducePow, Nat.reduceMod, Nat.reduceDiv, l0, l1, l2, l3, l4, l5, l6, l7, l8, l9, l10, l11, l12, l13, l14, l15, l16, l20, l31, l32, l36, l40, l48, l57, l59, l63, l64, l97, l99, l100, l101, l122, l127, l128, l250, l255, l262143, l262144, l30000, l100000, l12345, l1024, l4095, nI_eqs, nI_les, nI_lts, qI_eq, qI_eqn, nI_eqq, qI_lts, nI_ltp, nI_lep, qI_les, nI_add, nI_mul, qI_add, qI_s, qI_def, nI_clamps, bI_z, bI_o, bI_01, n01, n11, rf_some, rf_none, m1, m1n, bft, c0, o0, v4, v5, gI v6, gI v7, v8, v9]
    exact e3
  · rw [if_neg a]
    simp only [Nat.reduceAdd, a, if_false] at e216
    have k2 : 2 ≤ crK (gH s) (gY s) (qgw s g w 2) x n 20 := kl.2 a
    have k6 : crK (gH s) (gY s) (qgw s g w 2) x n 20 ≤ 6 := kl.1
    refine MC.rf hx k2 k6 ?_
    have ne := rN_ne k2 k6
    simp (disch := omega) only [s218_0, s218_1, s218_2, s218_3, s218_4, s218_5, s218_6, s218_7, s218_8, s218_9, s218_10, s218_11, s218_12, ↓reduceIte, Option.bind_some, Option.toList_some, Option.toList_none, List.cons_append, List.nil_append, if_true, if_false, true_or, or_true, true_and, and_true, not_true_eq_false, not_false_eq_true, Nat.reduceLT, Nat.reduceLeDiff, Nat.reduceEqDiff, Nat.reduceAdd, Nat.reduceMul, Nat.reduceSub, Nat.reducePow, Nat.reduceMod, Nat.reduceDiv, l0, l1, l2, l3, l4, l5, l6, l7, l8, l9, l10, l11, l12, l13, l14, l15, l16, l20, l31, l32, l36, l40, l48, l57, l59, l63, l64, l97, l99, l100, l101, l122, l127, l128, l250, l255, l262143, l262144, l30000, l100000, l12345, l1024, l4095, nI_eqs, nI_les, nI_lts, qI_eq, qI_eqn, nI_eqq, qI_lts, nI_ltp, nI_lep, qI_les, nI_add, nI_mul, qI_add, qI_s, qI_def, nI_clamps, bI_z, bI_o, bI_01, n01, n11, rf_some, rf_none, m1, m1n, bft, b0, e216, ne]
