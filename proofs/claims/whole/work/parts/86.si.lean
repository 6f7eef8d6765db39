/-! SETS, the reference -/
def SB (h0 h : AH) (A : Nat) (s : GS) (W : Nat → Prop) (o g : Nat) (p : Nat × Nat) (w : Nat) (b : Nat → Nat) : Prop := TH h0 h A s W o g p ∧ ∀ j, j < w * w → hI h (A + 28) j = nI (b j)
theorem SB.z {h0 h : AH} {A : Nat} {s : GS} {W : Nat → Prop} {o g : Nat} {p : Nat × Nat} {w : Nat} {b : Nat → Nat} (q : SB h0 h A s W o g p w b) : hR h A 34 = some (A + 28) ∧ hS h (A + 28) = some (0, 16) ∧ hI h A 9 = nI (Yc (gY s)) ∧ A + 53 ≤ o := ⟨q.1.1.2.2.2.2.1.2.2.1, q.1.1.2.2.2.2.1.2.2.2.1, q.1.1.1.2.1.1, (q.1.1.2.2.2.2.2.1.1 o q.1.2.1).2.1⟩
theorem SB.o {h0 h h' : AH} {A : Nat} {s : GS} {W : Nat → Prop} {o g : Nat} {p p' : Nat × Nat} {w : Nat} {b : Nat → Nat} (q : SB h0 h A s W o g p w b) (f2 : FY o h h') (y2 : MY h' o (wM (gY s) g p')) : SB h0 h' A s W o g p' w b := by
  have ao := q.z.2.2.2
  obtain ⟨⟨x1, q1, y1, kw, rm⟩, il⟩ := q
  have zo := x1.o q1 f2.bk
  exact ⟨⟨zo.1, by rw [f2.1.2.2.2.2.2.1]; exact q1, y2, kw.trans zo.2.1, rm.trans zo.2.2⟩, fun j hj => by rw [(f2.1.2.2.2.2.2.2 (A + 28) (fun w => by unfold yA at w; omega) j).1]; exact il j hj⟩
theorem SB.try {h0 h : AH} {A : Nat} {s : GS} {W : Nat → Prop} {o g : Nat} {p : Nat × Nat} {w : Nat} {b : Nat → Nat} (q : SB h0 h A s W o g p w b) (d : Nat) (hg : g < Yg (gY s)) {c : Nat} (hc : c < Yc (gY s)) (p3 : Option Value) : ∃ h', E (d + 2) 183 0 [some (.ref o), some (.int (nI g)), some (.int (nI c)), p3] [] h = some (some (.int (bI (lt1 (gY s) g p c))), h') ∧ SB h0 h' A s W o g (stp (gY s) g p c) w b := by
  obtain ⟨h2, e183, y2, f2⟩ := m183p d q.1.2.2.1 hg hc p3
  exact ⟨h2, e183, q.o f2 y2⟩
theorem SB.set {h0 h : AH} {A : Nat} {s : GS} {W : Nat → Prop} {o g : Nat} {p : Nat × Nat} {w : Nat} {b : Nat → Nat} (q : SB h0 h A s W o g p w b) {p' : Nat × Nat} (hp : pOK (gY s) p') : SB h0 (stI (stI h (o + 19) (YU (gY s) g) (qI p'.1)) (o + 20) (YU (gY s) g) (qI p'.2)) A s W o g p' w b := by
  have y1 := q.1.2.2.1
  have ok := q.1.1.1.2.2
  refine q.o ((FY.arr _ (by decide) _ _).trans (FY.arr _ (by decide) _ _)) ⟨y1.1, ?_, ok.wM hp⟩
  have := y1.2.1.M' (YU (gY s) g) p'.1 p'.2
  rw [wM_set] at this
  exact this
theorem TH.b {h0 h : AH} {A : Nat} {s : GS} {W : Nat → Prop} {o g : Nat} {p : Nat × Nat} (q : TH h0 h A s W o g p) (k : Nat) (v : Int32) : TH h0 (stI h (A + 28) k v) A s W o g p := by
  have ao := (q.1.2.2.2.2.2.1.1 o q.2.1).2.1
  obtain ⟨x1, q1, y1, kw, rm⟩ := q
  have f : Fr0 (fun b => b = A ∨ b = A + 13 ∨ (A + 25 ≤ b ∧ b < A + 53)) h (stI h (A + 28) k v) := Fr0.stI _ (Or.inr (Or.inr ⟨by omega, by omega⟩)) _ _
  have z := x1.w f (fun j hj => by rw [hI_stI, if_neg (fun w => by omega)])
  exact ⟨z.1, q1, y1.fr0 f (fun b h1 h2 w => by omega), kw.trans (z.2.kw x1.2.2.2.2.2.2.1), rm.trans (z.2.rm A)⟩
theorem SB.b {h0 h : AH} {A : Nat} {s : GS} {W : Nat → Prop} {o g : Nat} {p : Nat × Nat} {w : Nat} {b : Nat → Nat} (q : SB h0 h A s W o g p w b) (k v : Nat) : SB h0 (stI h (A + 28) k (nI v)) A s W o g p w (fup b k v) := by
  refine ⟨q.1.b k _, fun j hj => ?_⟩
  rw [hI_stI]
  unfold fup
  by_cases e : j = k
  · rw [if_pos ⟨rfl, e⟩, if_pos e]
  · rw [if_neg (fun w => e w.2), if_neg e]; exact q.2 j hj
theorem addq (a b : Nat) : nI a + qI b + nI 1 = nI (a + b) := by rw [Int32.add_assoc, qI_add, nI_add]
theorem rgV_le (f : Nat × Nat → Nat → Nat × Nat) (w t k m i : Nat) {b : Nat → Nat} (ht : t + 1 ≤ 30000) (h : ∀ j, b j ≤ 30000) : ∀ j, rgV f w t k m i b j ≤ 30000 := by
  intro j
  have := h j
  rcases (rgV_p f w t k m i b).1 j with q | ⟨q, -⟩ <;> omega
theorem c208 (d : Nat) {h : AH} {A : Nat} {s : GS} {W : Nat → Prop} (hx : MX h A s W) (g c : Int32) (p3 p4 p5 p6 p7 p8 p9 : Option Value) : MC (d + 4) 208 [some (.ref A), some (.int g), some (.int c), p3, p4, p5, p6, p7, p8, p9] h A W (s_sets s g c) := by
  obtain ⟨my, mh, ⟨t1, t2, t3, t4, t5⟩, mr, mz, mg, mw, mn, mwn⟩ := id hx; have e136 := c136e hx; have b0 := my.1.1; obtain ⟨⟨z0, z1, z2, z3, z4, z5, z6, z7, z8, r1, r2, r3, r4, r5, r6, r7, r8⟩, ⟨vc, vg, vn, vt, vz, vK, vA, vU, vF, vM, vW, vC, vP⟩, ok⟩ := id my; obtain ⟨⟨o2, o3⟩, o6, on, og, oc⟩ := id ok
  have e138 := fun d => m138 d my g
  have e140 := fun d p => m140 d my c.toInt64 p
  rw [inRL_i c (by omega)] at e140
  unfold s_sets
  cases a : inR g (Yg (gY s))
  · rw [if_neg (fun w => absurd w.1 (by decide))]
    rw [a] at e138
    refine MC.rf hx (by decide) (by decide) ?_
    simp (disch := omega) only [s208_0, s208_1, s208_2, s208_3, s208_4, s208_5, s208_6, s208_7, s208_8, s208_9, s208_10, s208_11, s208_12, ↓reduceIte, Option.bind_some, Option.toList_some, Option.toList_none, List.cons_append, List.nil_append, if_true, if_false, true_or, or_true, true_and, and_true, not_true_eq_false, not_false_eq_true, Nat.reduceLT, Nat.reduceLeDiff, Nat.reduceEqDiff, Nat.reduceAdd, Nat.reduceMul, Nat.reduceSub, Nat.reducePow, Nat.reduceMod, Nat.reduceDiv, l0, l1, l2, l3, l4, l5, l6, l7, l8, l9, l10, l11, l12, l13, l14, l15, l16, l20, l31, l32, l36, l40, l48, l57, l59, l63, l64, l97, l99, l100, l101, l122, l127, l128, l250, l255, l262143, l262144, l30000, l100000, l12345, l1024, l4095, nI_eqs, nI_les, nI_lts, qI_eq, qI_eqn, nI_eqq, qI_lts, nI_ltp, nI_lep, qI_les, nI_add, nI_mul, qI_add, qI_s, qI_def, nI_clamps, bI_z, bI_o, bI_01, n01, n11, rf_some, rf_none, m1, m1n, bft, b0, e138, rN_d, e136]
  · rw [a] at e138
    cases a2 : inR c (Yc (gY s))
    · rw [if_neg (fun w => absurd w.2 (by decide))]
      rw [a2] at e140
      refine MC.rf hx (by decide) (by decide) ?_
      simp (disch := omega) only [s208_0, s208_1, s208_2, s208_3, s208_4, s208_5, s208_6, s208_7, s208_8, s208_9, s208_10, s208_11, s208_12, ↓reduceIte, Option.bind_some, Option.toList_some, Option.toList_none, List.cons_append, List.nil_append, if_true, if_false, true_or, or_true, true_and, and_true, not_true_eq_false, not_false_eq_true, Nat.reduceLT, Nat.reduceLeDiff, Nat.reduceEqDiff, Nat.reduceAdd, Nat.reduceMul, Nat.reduceSub, Nat.reducePow, Nat.reduceMod, Nat.reduceDiv, l0, l1, l2, l3, l4, l5, l6, l7, l8, l9, l10, l11, l12, l13, l14, l15, l16, l20, l31, l32, l36, l40, l48, l57, l59, l63, l64, l97, l99, l100, l101, l122, l127, l128, l250, l255, l262143, l262144, l30000, l100000, l12345, l1024, l4095, nI_eqs, nI_les, nI_lts, qI_eq, qI_eqn, nI_eqq, qI_lts, nI_ltp, nI_lep, qI_les, nI_add, nI_mul, qI_add, qI_s, qI_def, nI_clamps, bI_z, bI_o, bI_01, n01, n11, rf_some, rf_none, m1, m1n, bft, b0, e138, e140, rN_d, e136, Bool.true_eq_false]
    · rw [if_pos ⟨rfl, rfl⟩]
      rw [a2] at e140
      obtain ⟨j, hj, rfl⟩ := inR_of (by omega) a
      obtain ⟨col, hv, rfl⟩ := inR_of (by omega) a2
      rw [nI_clamp (show j < 2 ^ 31 by omega), nI_clamp (show col < 2 ^ 31 by omega)]
      have mp := memP_ok ok hj
      have u6 := ok.u6 hj
      rw [← sets_eq ok (col := col) hj]
      generalize hw : Yc (gY s) + 1 = w at *
      have w4 : 3 ≤ w ∧ w ≤ 4 := by omega
      have ww : w * w ≤ 16 := by
        have : w * w ≤ 4 * 4 := Nat.mul_le_mul w4.2 w4.2
        omega
      have dcl : ∀ k, k < w * w → pOK (gY s) (dc w k) := fun k hk => by
        obtain ⟨d1, d2⟩ := dc_lt hk
        exact ⟨by omega, by omega⟩
      have ixl : ∀ p, pOK (gY s) p → ix w p < w * w := fun p hp => ix_lt (by have := hp.1; omega) (by have := hp.2; omega)
      -- the row of numbers made far
      have lq0 : ∀ l i o p h1 p6 p7 p8 p9, i + l = w * w → TH h h1 A s W o j p → (∀ k, k < i → hI h1 (A + 28) k = nI 30000) → ∃ h2, E (d + 4) 208 23 [some (.ref A), some (.int (nI j)), some (.int (nI col)), some (.ref o), some (.int (nI w)), some (.int (nI i)), p6, p7, p8, p9] [] h1 = E (d + 4) 208 35 [some (.ref A), some (.int (nI j)), some (.int (nI col)), some (.ref o), some (.int (nI w)), some (.int (nI (w * w))), p6, p7, p8, p9] [] h2 ∧ SB h h2 A s W o j p w (fun _ => 30000) := by
        intro l
        induction l with
        | zero =>
          intro i o p h1 p6 p7 p8 p9 hi t ht
          have hi' : i = w * w := hi
          subst hi'
          refine ⟨h1, ?_, t, ht⟩
          rw [s208_23]
          simp (disch := omega) only [s208_24, s208_25, s208_26, s208_27, s208_28, s208_29, s208_30, s208_31, s208_32, s208_33, s208_34, ↓reduceIte, Option.bind_some, Option.toList_some, Option.toList_none, List.cons_append, List.nil_append, if_true, if_false, true_or, or_true, true_and, and_true, not_true_eq_false, not_false_eq_true, Nat.reduceLT, Nat.reduceLeDiff, Nat.reduceEqDiff, Nat.reduceAdd, Nat.reduceMul, Nat.reduceSub, Nat.reducePow, Nat.reduceMod, Nat.reduceDiv, l0, l1, l2, l3, l4, l5, l6, l7, l8, l9, l10, l11, l12, l13, l14, l15, l16, l20, l31, l32, l36, l40, l48, l57, l59, l63, l64, l97, l99, l100, l101, l122, l127, l128, l250, l255, l262143, l262144, l30000, l100000, l12345, l1024, l4095, nI_eqs, nI_les, nI_lts, qI_eq, qI_eqn, nI_eqq, qI_lts, nI_ltp, nI_lep, qI_les, nI_add, nI_mul, qI_add, qI_s, qI_def, nI_clamps, bI_z, bI_o, bI_01, n01, n11, rf_some, rf_none, m1, m1n, bft, Nat.le_refl]
        | succ l ih =>
          intro i o p h1 p6 p7 p8 p9 hi t ht
          have h1' : ¬ w * w ≤ i := by omega
          have c0 := t.1.1.1.1
          have z1 := t.1.2.2.2.2.1.2.2.1
          have z2 := t.1.2.2.2.2.1.2.2.2.1
          obtain ⟨h2, e2, q⟩ := ih (i + 1) o p _ p6 p7 p8 p9 (by omega) (t.b i (nI 30000)) (fun k hk => by
            rw [hI_stI]
            by_cases e : k = i
            · rw [if_pos ⟨rfl, e⟩]
            · rw [if_neg (fun w => e w.2)]; exact ht k (by omega))
          refine ⟨h2, ?_, q⟩
          rw [← e2, s208_23]
          simp (disch := omega) only [s208_24, s208_25, s208_26, s208_27, s208_28, s208_29, s208_30, s208_31, s208_32, s208_33, s208_34, ↓reduceIte, Option.bind_some, Option.toList_some, Option.toList_none, List.cons_append, List.nil_append, if_true, if_false, true_or, or_true, true_and, and_true, not_true_eq_false, not_false_eq_true, Nat.reduceLT, Nat.reduceLeDiff, Nat.reduceEqDiff, Nat.reduceAdd, Nat.reduceMul, Nat.reduceSub, Nat.reducePow, Nat.reduceMod, Nat.reduceDiv, l0, l1, l2, l3, l4, l5, l6, l7, l8, l9, l10, l11, l12, l13, l14, l15, l16, l20, l31, l32, l36, l40, l48, l57, l59, l63, l64, l97, l99, l100, l101, l122, l127, l128, l250, l255, l262143, l262144, l30000, l100000, l12345, l1024, l4095, nI_eqs, nI_les, nI_lts, qI_eq, qI_eqn, nI_eqq, qI_lts, nI_ltp, nI_lep, qI_les, nI_add, nI_mul, qI_add, qI_s, qI_def, nI_clamps, bI_z, bI_o, bI_01, n01, n11, rf_some, rf_none, m1, m1n, bft, h1', c0, z1, gA z2]
      -- one memory's tries
      have lq1 : ∀ l i o p t k b h1 x9, i + l = Yc (gY s) → k < w * w → t ≤ 100 → (∀ j, b j ≤ 30000) → SB h h1 A s W o j p w b → ∃ h2 p2 x9', E (d + 4) 208 90 [some (.ref A), some (.int (nI j)), some (.int (nI col)), some (.ref o), some (.int (nI w)), some (.int (nI (YU (gY s) j))), some (.int (nI t)), some (.int (nI k)), some (.int (nI i)), x9] [] h1 = E (d + 4) 208 155 [some (.ref A), some (.int (nI j)), some (.int (nI col)), some (.ref o), some (.int (nI w)), some (.int (nI (YU (gY s) j))), some (.int (nI t)), some (.int (nI k)), some (.int (nI (Yc (gY s)))), x9'] [] h2 ∧ SB h h2 A s W o j p2 w (rgV (stp (gY s) j) w t k l i b) := by
        intro l
        induction l with
        | zero =>
          intro i o p t k b h1 x9 hi hk ht hb q
          have hi' : i = Yc (gY s) := hi
          have c0 := q.1.1.1.1.1
          have yc := q.z.2.2.1
          refine ⟨h1, p, x9, ?_, q⟩
          rw [s208_90, hi']
          simp (disch := omega) only [s208_91, s208_92, s208_93, ↓reduceIte, Option.bind_some, Option.toList_some, Option.toList_none, List.cons_append, List.nil_append, if_true, if_false, true_or, or_true, true_and, and_true, not_true_eq_false, not_false_eq_true, Nat.reduceLT, Nat.reduceLeDiff, Nat.reduceEqDiff, Nat.reduceAdd, Nat.reduceMul, Nat.reduceSub, Nat.reducePow, Nat.reduceMod, Nat.reduceDiv, l0, l1, l2, l3, l4, l5, l6, l7, l8, l9, l10, l11, l12, l13, l14, l15, l16, l20, l31, l32, l36, l40, l48, l57, l59, l63, l64, l97, l99, l100, l101, l122, l127, l128, l250, l255, l262143, l262144, l30000, l100000, l12345, l1024, l4095, nI_eqs, nI_les, nI_lts, qI_eq, qI_eqn, nI_eqq, qI_lts, nI_ltp, nI_lep, qI_les, nI_add, nI_mul, qI_add, qI_s, qI_def, nI_clamps, bI_z, bI_o, bI_01, n01, n11, rf_some, rf_none, m1, m1n, bft, c0, yc, Nat.le_refl]
        | succ l ih =>
          intro i o p t k b h1 x9 hi hk ht hb q
          have h1' : ¬ Yc (gY s) ≤ i := by omega
          obtain ⟨c0, o0, v1, v2, v3, v4, v5, v6, v7, -, -⟩ := q.1.mem hj
          obtain ⟨z1, z2, yc, ao⟩ := q.z
          have dk := dcl k hk
          have qA := q.set dk
          obtain ⟨hB, e183, qB⟩ := qA.try (d + 1) hj (show i < Yc (gY s) by omega) none
          obtain ⟨b0', bo, u1, u2, u3, u4, u5, u6', u7, u8, u9⟩ := qB.1.mem hj
          obtain ⟨y1, y2, -, -⟩ := qB.z
          have sok := stp_ok (g := j) dk (show i < Yc (gY s) by omega)
          have il := qB.2 _ (ixl _ sok)
          have il' := ixl _ sok
          have bj := hb (ix w (stp (gY s) j (dc w k) i))
          have w0 : ¬ w = 0 := by omega
          have dv := nI_div (a := k) (b := w) (by omega) (by omega)
          have rm := nI_rem (a := k) (b := w) (by omega) (by omega)
          have rm2 : nI k - nI (k / w * w) = nI (k % w) := by
            rw [nI_sub (Nat.div_mul_le_self k w)]
            congr 1
            have := Nat.div_add_mod k w
            rw [Nat.mul_comm] at this
            omega
          have ixe : nI ((stp (gY s) j (dc w k) i).1 * w + (stp (gY s) j (dc w k) i).2) = nI (ix w (stp (gY s) j (dc w k) i)) := rfl
          have V : rgV (stp (gY s) j) w t k (l + 1) i b = rgV (stp (gY s) j) w t k l (i + 1) (fup b (ix w (stp (gY s) j (dc w k) i)) (if t + 1 < b (ix w (stp (gY s) j (dc w k) i)) then t + 1 else b (ix w (stp (gY s) j (dc w k) i)))) := rfl
          rw [V]
          have qC := qB.b (ix w (stp (gY s) j (dc w k) i)) (if t + 1 < b (ix w (stp (gY s) j (dc w k) i)) then t + 1 else b (ix w (stp (gY s) j (dc w k) i)))
          obtain ⟨h3, p2, x9', e3, q3⟩ := ih (i + 1) o _ t k _ _ (some (.int (nI (ix w (stp (gY s) j (dc w k) i))))) (by omega) hk ht (fun j' => by
            unfold fup
            split
            · split <;> omega
            · exact hb j') qC
          refine ⟨h3, p2, x9', ?_, q3⟩
          rw [← e3, s208_90]
          have d1 : qI (k / w) = qI (dc w k).1 := rfl
          have d2 : qI (k % w) = qI (dc w k).2 := rfl
          by_cases cc : t + 1 < b (ix w (stp (gY s) j (dc w k) i))
          · rw [if_pos cc]
            have cc' : ¬ b (ix w (stp (gY s) j (dc w k) i)) ≤ t + 1 := by omega
            simp (disch := omega) only [s208_91, s208_92, s208_93, s208_94, s208_95, s208_96, s208_97, s208_98, s208_99, s208_100, s208_101, s208_102, s208_103, s208_104, s208_105, s208_106, s208_107, s208_108, s208_109, s208_110, s208_111, s208_112, s208_113, s208_114, s208_115, s208_116, s208_117, s208_118, s208_119, s208_120, s208_121, s208_122, s208_123, s208_124, s208_125, s208_126, s208_127, s208_128, s208_129, s208_130, s208_131, s208_132, s208_133, s208_134, s208_135, s208_136, s208_137, s208_138, s208_139, s208_140, s208_141, s208_142, s208_143, s208_144, s208_145, s208_146, s208_147, s208_148, s208_149, s208_150, s208_151, s208_152, s208_153, s208_154, ↓reduceIte, Option.bind_some, Option.toList_some, Option.toList_none, List.cons_append, List.nil_append, if_true, if_false, true_or, or_true, true_and, and_true, not_true_eq_false, not_false_eq_true, Nat.reduceLT, Nat.reduceLeDiff, Nat.reduceEqDiff, Nat.reduceAdd, Nat.reduceMul, Nat.reduceSub, Nat.reducePow, Nat.reduceMod, Nat.reduceDiv, l0, l1, l2, l3, l4, l5, l6, l7, l8, l9, l10, l11, l12, l13, l14, l15, l16, l20, l31, l32, l36, l40, l48, l57, l59, l63, l64, l97, l99, l100, l101, l122, l127, l128, l250, l255, l262143, l262144, l30000, l100000, l12345, l1024, l4095, nI_eqs, nI_les, nI_lts, qI_eq, qI_eqn, nI_eqq, qI_lts, nI_ltp, nI_lep, qI_les, nI_add, nI_mul, qI_add, qI_s, qI_def, nI_clamps, bI_z, bI_o, bI_01, n01, n11, rf_some, rf_none, m1, m1n, bft, ad1, ad2, hI_stI, hS_stI, hR_stI, hL_stI, alen_stI, hI_stL, hL_stL, hS_stL, hR_stL, alen_stL, false_and, and_false, and_self, eq_self, ad3, c0, o0, yc, h1', w0, dv, rm2, v4, v5, gA v6, gA v7, d1, d2, e183, b0', bo, u4, u5, gI u6', gI u7, u8, u9, addq, ixe, y1, gI y2, gA y2, il, cc, cc']
          · rw [if_neg cc]
            have cc' : b (ix w (stp (gY s) j (dc w k) i)) ≤ t + 1 := by omega
            simp (disch := omega) only [s208_91, s208_92, s208_93, s208_94, s208_95, s208_96, s208_97, s208_98, s208_99, s208_100, s208_101, s208_102, s208_103, s208_104, s208_105, s208_106, s208_107, s208_108, s208_109, s208_110, s208_111, s208_112, s208_113, s208_114, s208_115, s208_116, s208_117, s208_118, s208_119, s208_120, s208_121, s208_122, s208_123, s208_124, s208_125, s208_126, s208_127, s208_128, s208_129, s208_130, s208_131, s208_132, s208_133, s208_134, s208_135, s208_136, s208_137, s208_138, s208_139, s208_140, s208_141, s208_142, s208_143, s208_144, s208_145, s208_146, s208_147, s208_148, s208_149, s208_150, s208_151, s208_152, s208_153, s208_154, ↓reduceIte, Option.bind_some, Option.toList_some, Option.toList_none, List.cons_append, List.nil_append, if_true, if_false, true_or, or_true, true_and, and_true, not_true_eq_false, not_false_eq_true, Nat.reduceLT, Nat.reduceLeDiff, Nat.reduceEqDiff, Nat.reduceAdd, Nat.reduceMul, Nat.reduceSub, Nat.reducePow, Nat.reduceMod, Nat.reduceDiv, l0, l1, l2, l3, l4, l5, l6, l7, l8, l9, l10, l11, l12, l13, l14, l15, l16, l20, l31, l32, l36, l40, l48, l57, l59, l63, l64, l97, l99, l100, l101, l122, l127, l128, l250, l255, l262143, l262144, l30000, l100000, l12345, l1024, l4095, nI_eqs, nI_les, nI_lts, qI_eq, qI_eqn, nI_eqq, qI_lts, nI_ltp, nI_lep, qI_les, nI_add, nI_mul, qI_add, qI_s, qI_def, nI_clamps, bI_z, bI_o, bI_01, n01, n11, rf_some, rf_none, m1, m1n, bft, ad1, ad2, hI_stI, hS_stI, hR_stI, hL_stI, alen_stI, hI_stL, hL_stL, hS_stL, hR_stL, alen_stL, false_and, and_false, and_self, eq_self, ad3, c0, o0, yc, h1', w0, dv, rm2, v4, v5, gA v6, gA v7, d1, d2, e183, b0', bo, u4, u5, gI u6', gI u7, u8, u9, addq, ixe, y1, gI y2, gA y2, il, cc, cc']
      -- all memories
      have lq2 : ∀ l k o p t b h1 x8 x9, k + l = w * w → t ≤ 100 → (∀ j, b j ≤ 30000) → SB h h1 A s W o j p w b → ∃ h2, match rgK (stp (gY s) j) w (Yc (gY s)) col t l k b with
          | none => E (d + 4) 208 68 [some (.ref A), some (.int (nI j)), some (.int (nI col)), some (.ref o), some (.int (nI w)), some (.int (nI (YU (gY s) j))), some (.int (nI t)), some (.int (nI k)), x8, x9] [] h1 = some (some (.int (nI t)), h2) ∧ MX h2 A s W ∧ KW W h h2 ∧ RM A h h2 0 0
          | some b' => (∀ j, b' j ≤ 30000) ∧ ∃ p2 x8' x9', E (d + 4) 208 68 [some (.ref A), some (.int (nI j)), some (.int (nI col)), some (.ref o), some (.int (nI w)), some (.int (nI (YU (gY s) j))), some (.int (nI t)), some (.int (nI k)), x8, x9] [] h1 = E (d + 4) 208 157 [some (.ref A), some (.int (nI j)), some (.int (nI col)), some (.ref o), some (.int (nI w)), some (.int (nI (YU (gY s) j))), some (.int (nI t)), some (.int (nI (w * w))), x8', x9'] [] h2 ∧ SB h h2 A s W o j p2 w b' := by
        intro l
        induction l with
        | zero =>
          intro k o p t b h1 x8 x9 hk ht hb q
          have hk' : k = w * w := hk
          subst hk'
          refine ⟨h1, hb, p, x8, x9, ?_, q⟩
          rw [s208_68]
          simp (disch := omega) only [s208_69, s208_70, s208_71, s208_72, ↓reduceIte, Option.bind_some, Option.toList_some, Option.toList_none, List.cons_append, List.nil_append, if_true, if_false, true_or, or_true, true_and, and_true, not_true_eq_false, not_false_eq_true, Nat.reduceLT, Nat.reduceLeDiff, Nat.reduceEqDiff, Nat.reduceAdd, Nat.reduceMul, Nat.reduceSub, Nat.reducePow, Nat.reduceMod, Nat.reduceDiv, l0, l1, l2, l3, l4, l5, l6, l7, l8, l9, l10, l11, l12, l13, l14, l15, l16, l20, l31, l32, l36, l40, l48, l57, l59, l63, l64, l97, l99, l100, l101, l122, l127, l128, l250, l255, l262143, l262144, l30000, l100000, l12345, l1024, l4095, nI_eqs, nI_les, nI_lts, qI_eq, qI_eqn, nI_eqq, qI_lts, nI_ltp, nI_lep, qI_les, nI_add, nI_mul, qI_add, qI_s, qI_def, nI_clamps, bI_z, bI_o, bI_01, n01, n11, rf_some, rf_none, m1, m1n, bft, Nat.le_refl]
        | succ l ih =>
          intro k o p t b h1 x8 x9 hk ht hb q
          have h1' : ¬ w * w ≤ k := by omega
          have c0 := q.1.1.1.1.1
          obtain ⟨z1, z2, yc, ao⟩ := q.z
          have il := q.2 k (by omega)
          have bk := hb k
          have w0 : ¬ w = 0 := by omega
          have dv := nI_div (a := k) (b := w) (by omega) (by omega)
          have kd : k / w ≤ k := Nat.div_le_self k w
          have S : rgK (stp (gY s) j) w (Yc (gY s)) col t (l + 1) k b = if b k = t then (if k / w = col + 1 then none else rgK (stp (gY s) j) w (Yc (gY s)) col t l (k + 1) (rgV (stp (gY s) j) w t k (Yc (gY s)) 0 b)) else rgK (stp (gY s) j) w (Yc (gY s)) col t l (k + 1) b := rfl
          rw [S]
          by_cases cc : b k = t
          · rw [if_pos cc]
            rw [cc] at il
            by_cases ce : k / w = col + 1
            · rw [if_pos ce]
              refine ⟨h1, ?_, q.1.1, q.1.2.2.2.1, q.1.2.2.2.2⟩
              have ce' : (qI (k / w) = nI col) = True := by rw [qI_eqn (by omega) (by omega)]; exact eq_true ce
              rw [s208_68]
              simp (disch := omega) only [s208_69, s208_70, s208_71, s208_72, s208_73, s208_74, s208_75, s208_76, s208_77, s208_78, s208_79, s208_80, s208_81, s208_82, s208_83, s208_84, s208_85, s208_86, s208_87, ↓reduceIte, Option.bind_some, Option.toList_some, Option.toList_none, List.cons_append, List.nil_append, if_true, if_false, true_or, or_true, true_and, and_true, not_true_eq_false, not_false_eq_true, Nat.reduceLT, Nat.reduceLeDiff, Nat.reduceEqDiff, Nat.reduceAdd, Nat.reduceMul, Nat.reduceSub, Nat.reducePow, Nat.reduceMod, Nat.reduceDiv, l0, l1, l2, l3, l4, l5, l6, l7, l8, l9, l10, l11, l12, l13, l14, l15, l16, l20, l31, l32, l36, l40, l48, l57, l59, l63, l64, l97, l99, l100, l101, l122, l127, l128, l250, l255, l262143, l262144, l30000, l100000, l12345, l1024, l4095, nI_eqs, nI_les, nI_lts, qI_eq, qI_eqn, nI_eqq, qI_lts, nI_ltp, nI_lep, qI_les, nI_add, nI_mul, qI_add, qI_s, qI_def, nI_clamps, bI_z, bI_o, bI_01, n01, n11, rf_some, rf_none, m1, m1n, bft, h1', c0, z1, gI z2, il, w0, dv, ce']
            · rw [if_neg ce]
              have ce' : (qI (k / w) = nI col) = False := by rw [qI_eqn (by omega) (by omega)]; exact eq_false ce
              obtain ⟨h2, p2, x9', e2, q2⟩ := lq1 (Yc (gY s)) 0 o p t k b h1 x9 (by omega) (by omega) ht hb q
              have hb' := rgV_le (stp (gY s) j) w t k (Yc (gY s)) 0 (by omega) hb
              obtain ⟨h3, z⟩ := ih (k + 1) o p2 t _ h2 (some (.int (nI (Yc (gY s))))) x9' (by omega) ht hb' q2
              refine ⟨h3, ?_⟩
              have st : E (d + 4) 208 68 [some (.ref A), some (.int (nI j)), some (.int (nI col)), some (.ref o), some (.int (nI w)), some (.int (nI (YU (gY s) j))), some (.int (nI t)), some (.int (nI k)), x8, x9] [] h1 = E (d + 4) 208 68 [some (.ref A), some (.int (nI j)), some (.int (nI col)), some (.ref o), some (.int (nI w)), some (.int (nI (YU (gY s) j))), some (.int (nI t)), some (.int (nI (k + 1))), some (.int (nI (Yc (gY s)))), x9'] [] h2 := by
                rw [s208_68]
                simp (disch := omega) only [s208_69, s208_70, s208_71, s208_72, s208_73, s208_74, s208_75, s208_76, s208_77, s208_78, s208_79, s208_80, s208_81, s208_82, s208_83, s208_84, s208_85, s208_86, s208_87, s208_88, s208_89, ↓reduceIte, Option.bind_some, Option.toList_some, Option.toList_none, List.cons_append, List.nil_append, if_true, if_false, true_or, or_true, true_and, and_true, not_true_eq_false, not_false_eq_true, Nat.reduceLT, Nat.reduceLeDiff, Nat.reduceEqDiff, Nat.reduceAdd, Nat.reduceMul, Nat.reduceSub, Nat.reducePow, Nat.reduceMod, Nat.reduceDiv, l0, l1, l2, l3, l4, l5, l6, l7, l8, l9, l10, l11, l12, l13, l14, l15, l16, l20, l31, l32, l36, l40, l48, l57, l59, l63, l64, l97, l99, l100, l101, l122, l127, l128, l250, l255, l262143, l262144, l30000, l100000, l12345, l1024, l4095, nI_eqs, nI_les, nI_lts, qI_eq, qI_eqn, nI_eqq, qI_lts, nI_ltp, nI_lep, qI_les, nI_add, nI_mul, qI_add, qI_s, qI_def, nI_clamps, bI_z, bI_o, bI_01, n01, n11, rf_some, rf_none, m1, m1n, bft, h1', c0, z1, gI z2, il, w0, dv, ce']
                rw [e2]
                simp (disch := omega) only [s208_155, s208_156, ↓reduceIte, Option.bind_some, Option.toList_some, Option.toList_none, List.cons_append, List.nil_append, if_true, if_false, true_or, or_true, true_and, and_true, not_true_eq_false, not_false_eq_true, Nat.reduceLT, Nat.reduceLeDiff, Nat.reduceEqDiff, Nat.reduceAdd, Nat.reduceMul, Nat.reduceSub, Nat.reducePow, Nat.reduceMod, Nat.reduceDiv, l0, l1, l2, l3, l4, l5, l6, l7, l8, l9, l10, l11, l12, l13, l14, l15, l16, l20, l31, l32, l36, l40, l48, l57, l59, l63, l64, l97, l99, l100, l101, l122, l127, l128, l250, l255, l262143, l262144, l30000, l100000, l12345, l1024, l4095, nI_eqs, nI_les, nI_lts, qI_eq, qI_eqn, nI_eqq, qI_lts, nI_ltp, nI_lep, qI_les, nI_add, nI_mul, qI_add, qI_s, qI_def, nI_clamps, bI_z, bI_o, bI_01, n01, n11, rf_some, rf_none, m1, m1n, bft]
              rw [st]; exact z
          · rw [if_neg cc]
            obtain ⟨h3, z⟩ := ih (k + 1) o p t _ h1 x8 x9 (by omega) ht hb q
            refine ⟨h3, ?_⟩
            have st : E (d + 4) 208 68 [some (.ref A), some (.int (nI j)), some (.int (nI col)), some (.ref o), some (.int (nI w)), some (.int (nI (YU (gY s) j))), some (.int (nI t)), some (.int (nI k)), x8, x9] [] h1 = E (d + 4) 208 68 [some (.ref A), some (.int (nI j)), some (.int (nI col)), some (.ref o), some (.int (nI w)), some (.int (nI (YU (gY s) j))), some (.int (nI t)), some (.int (nI (k + 1))), x8, x9] [] h1 := by
              rw [s208_68]
              simp (disch := omega) only [s208_69, s208_70, s208_71, s208_72, s208_73, s208_74, s208_75, s208_76, s208_77, s208_78, s208_155, s208_156, ↓reduceIte, Option.bind_some, Option.toList_some, Option.toList_none, List.cons_append, List.nil_append, if_true, if_false, true_or, or_true, true_and, and_true, not_true_eq_false, not_false_eq_true, Nat.reduceLT, Nat.reduceLeDiff, Nat.reduceEqDiff, Nat.reduceAdd, Nat.reduceMul, Nat.reduceSub, Nat.reducePow, Nat.reduceMod, Nat.reduceDiv, l0, l1, l2, l3, l4, l5, l6, l7, l8, l9, l10, l11, l12, l13, l14, l15, l16, l20, l31, l32, l36, l40, l48, l57, l59, l63, l64, l97, l99, l100, l101, l122, l127, l128, l250, l255, l262143, l262144, l30000, l100000, l12345, l1024, l4095, nI_eqs, nI_les, nI_lts, qI_eq, qI_eqn, nI_eqq, qI_lts, nI_ltp, nI_lep, qI_les, nI_add, nI_mul, qI_add, qI_s, qI_def, nI_clamps, bI_z, bI_o, bI_01, n01, n11, rf_some, rf_none, m1, m1n, bft, h1', c0, z1, gI z2, il, cc]
            rw [st]; exact z
      -- a try more each time
      have lq3 : ∀ u t o p b h1 x7 x8 x9, t + u = w * w + 1 → (∀ j, b j ≤ 30000) → SB h h1 A s W o j p w b → ∃ h2, E (d + 4) 208 61 [some (.ref A), some (.int (nI j)), some (.int (nI col)), some (.ref o), some (.int (nI w)), some (.int (nI (YU (gY s) j))), some (.int (nI t)), x7, x8, x9] [] h1 = some (some (.int (rgS (stp (gY s) j) w (Yc (gY s)) col u t b)), h2) ∧ MX h2 A s W ∧ KW W h h2 ∧ RM A h h2 0 0 := by
        intro u
        induction u with
        | zero =>
          intro t o p b h1 x7 x8 x9 ht hb q
          have ht' : t = w * w + 1 := ht
          subst ht'
          refine ⟨h1, ?_, q.1.1, q.1.2.2.2.1, q.1.2.2.2.2⟩
          rw [s208_61]
          simp (disch := omega) only [s208_62, s208_63, s208_64, s208_65, s208_159, s208_160, ↓reduceIte, Option.bind_some, Option.toList_some, Option.toList_none, List.cons_append, List.nil_append, if_true, if_false, true_or, or_true, true_and, and_true, not_true_eq_false, not_false_eq_true, Nat.reduceLT, Nat.reduceLeDiff, Nat.reduceEqDiff, Nat.reduceAdd, Nat.reduceMul, Nat.reduceSub, Nat.reducePow, Nat.reduceMod, Nat.reduceDiv, l0, l1, l2, l3, l4, l5, l6, l7, l8, l9, l10, l11, l12, l13, l14, l15, l16, l20, l31, l32, l36, l40, l48, l57, l59, l63, l64, l97, l99, l100, l101, l122, l127, l128, l250, l255, l262143, l262144, l30000, l100000, l12345, l1024, l4095, nI_eqs, nI_les, nI_lts, qI_eq, qI_eqn, nI_eqq, qI_lts, nI_ltp, nI_lep, qI_les, nI_add, nI_mul, qI_add, qI_s, qI_def, nI_clamps, bI_z, bI_o, bI_01, n01, n11, rf_some, rf_none, m1, m1n, bft, Nat.lt_succ_self]
          rfl
        | succ u ih =>
          intro t o p b h1 x7 x8 x9 ht hb q
          have h1' : ¬ w * w < t := by omega
          obtain ⟨h2, z⟩ := lq2 (w * w) 0 o p t b h1 x8 x9 (by omega) (by omega) hb q
          show ∃ h2, _ = some (some (Value.int (match rgK (stp (gY s) j) w (Yc (gY s)) col t (w * w) 0 b with | none => nI t | some b' => rgS (stp (gY s) j) w (Yc (gY s)) col u (t + 1) b')), h2) ∧ _
          cases hr : rgK (stp (gY s) j) w (Yc (gY s)) col t (w * w) 0 b with
          | none =>
            rw [hr] at z
            obtain ⟨e, z⟩ := z
            refine ⟨h2, ?_, z⟩
            rw [s208_61]
            simp (disch := omega) only [s208_62, s208_63, s208_64, s208_65, s208_66, s208_67, ↓reduceIte, Option.bind_some, Option.toList_some, Option.toList_none, List.cons_append, List.nil_append, if_true, if_false, true_or, or_true, true_and, and_true, not_true_eq_false, not_false_eq_true, Nat.reduceLT, Nat.reduceLeDiff, Nat.reduceEqDiff, Nat.reduceAdd, Nat.reduceMul, Nat.reduceSub, Nat.reducePow, Nat.reduceMod, Nat.reduceDiv, l0, l1, l2, l3, l4, l5, l6, l7, l8, l9, l10, l11, l12, l13, l14, l15, l16, l20, l31, l32, l36, l40, l48, l57, l59, l63, l64, l97, l99, l100, l101, l122, l127, l128, l250, l255, l262143, l262144, l30000, l100000, l12345, l1024, l4095, nI_eqs, nI_les, nI_lts, qI_eq, qI_eqn, nI_eqq, qI_lts, nI_ltp, nI_lep, qI_les, nI_add, nI_mul, qI_add, qI_s, qI_def, nI_clamps, bI_z, bI_o, bI_01, n01, n11, rf_some, rf_none, m1, m1n, bft, h1']
            exact e
          | some b' =>
            rw [hr] at z
            obtain ⟨hb', p2, x8', x9', e, q2⟩ := z
            obtain ⟨h3, e3, z3⟩ := ih (t + 1) o p2 b' h2 (some (.int (nI (w * w)))) x8' x9' (by omega) hb' q2
            refine ⟨h3, ?_, z3⟩
            rw [s208_61]
            simp (disch := omega) only [s208_62, s208_63, s208_64, s208_65, s208_66, s208_67, ↓reduceIte, Option.bind_some, Option.toList_some, Option.toList_none, List.cons_append, List.nil_append, if_true, if_false, true_or, or_true, true_and, and_true, not_true_eq_false, not_false_eq_true, Nat.reduceLT, Nat.reduceLeDiff, Nat.reduceEqDiff, Nat.reduceAdd, Nat.reduceMul, Nat.reduceSub, Nat.reducePow, Nat.reduceMod, Nat.reduceDiv, l0, l1, l2, l3, l4, l5, l6, l7, l8, l9, l10, l11, l12, l13, l14, l15, l16, l20, l31, l32, l36, l40, l48, l57, l59, l63, l64, l97, l99, l100, l101, l122, l127, l128, l250, l255, l262143, l262144, l30000, l100000, l12345, l1024, l4095, nI_eqs, nI_les, nI_lts, qI_eq, qI_eqn, nI_eqq, qI_lts, nI_ltp, nI_lep, qI_les, nI_add, nI_mul, qI_add, qI_s, qI_def, nI_clamps, bI_z, bI_o, bI_01, n01, n11, rf_some, rf_none, m1, m1n, bft, h1']
            rw [e]
            simp (disch := omega) only [s208_157, s208_158, ↓reduceIte, Option.bind_some, Option.toList_some, Option.toList_none, List.cons_append, List.nil_append, if_true, if_false, true_or, or_true, true_and, and_true, not_true_eq_false, not_false_eq_true, Nat.reduceLT, Nat.reduceLeDiff, Nat.reduceEqDiff, Nat.reduceAdd, Nat.reduceMul, Nat.reduceSub, Nat.reducePow, Nat.reduceMod, Nat.reduceDiv, l0, l1, l2, l3, l4, l5, l6, l7, l8, l9, l10, l11, l12, l13, l14, l15, l16, l20, l31, l32, l36, l40, l48, l57, l59, l63, l64, l97, l99, l100, l101, l122, l127, l128, l250, l255, l262143, l262144, l30000, l100000, l12345, l1024, l4095, nI_eqs, nI_les, nI_lts, qI_eq, qI_eqn, nI_eqq, qI_lts, nI_ltp, nI_lep, qI_les, nI_add, nI_mul, qI_add, qI_s, qI_def, nI_clamps, bI_z, bI_o, bI_01, n01, n11, rf_some, rf_none, m1, m1n, bft]
            exact e3
      obtain ⟨h1, o, e225, x1, q1, y1, a1, kw1, rm1⟩ := c225 (d + 1) hx
      have t1 : TH h h1 A s W o j (memP (gY s) j) := ⟨x1, q1, by rw [wM_0]; exact y1, kw1, rm1⟩
      obtain ⟨h2, e2, q2⟩ := lq0 (w * w) 0 o _ h1 p6 p7 p8 p9 (by omega) t1 (fun k hk => absurd hk (Nat.not_lt_zero k))
      obtain ⟨c0, o0, v1, v2, v3, -, -, -, -, -, -⟩ := q2.1.mem hj
      obtain ⟨z1', z2', yc, ao⟩ := q2.z
      have u := ok.u hj
      have f1 : hR h2 A 13 = some (A + 19) := q2.1.1.1.1.2.2.2.2.2.2.2.2.2.2.2.1
      have f2 : hR h2 A 14 = some (A + 20) := q2.1.1.1.1.2.2.2.2.2.2.2.2.2.2.2.2.1
      have f3 : hS h2 (A + 19) = some (0, 6) := q2.1.1.1.1.2.2.2.1
      have f4 : hS h2 (A + 20) = some (0, 6) := q2.1.1.1.1.2.2.2.2.1
      have f5 : hI h2 (A + 19) (YU (gY s) j) = qI (memP (gY s) j).1 := q2.1.1.1.2.1.2.2.2.2.2.2.2.2.1 _ u
      have f6 : hI h2 (A + 20) (YU (gY s) j) = qI (memP (gY s) j).2 := q2.1.1.1.2.1.2.2.2.2.2.2.2.2.2.1 _ u
      have il := ixl _ mp
      have ixe : nI ((memP (gY s) j).1 * w + (memP (gY s) j).2) = nI (ix w (memP (gY s) j)) := rfl
      obtain ⟨h3, e3, x3, kw3, rm3⟩ := lq3 (w * w + 1) 0 o _ _ _ p7 p8 p9 (by omega) (fun j' => by unfold fup; split; exact Nat.zero_le _; exact Nat.le_refl _) (q2.b (ix w (memP (gY s) j)) 0)
      refine ⟨h3, ?_, x3, kw3, by unfold RM at *; omega⟩
      have c1 := t1.1.1.1.1
      have yc1 : hI h1 A 9 = nI (Yc (gY s)) := t1.1.1.2.1.1
      have w1 : nI (Yc (gY s)) + nI 1 = nI w := by rw [nI_add, hw]
      simp (disch := omega) only [s208_0, s208_1, s208_2, s208_3, s208_4, s208_5, s208_6, s208_7, s208_8, s208_9, s208_10, s208_11, s208_12, s208_13, s208_14, s208_15, s208_16, s208_17, s208_18, s208_19, s208_20, s208_21, s208_22, ↓reduceIte, Option.bind_some, Option.toList_some, Option.toList_none, List.cons_append, List.nil_append, if_true, if_false, true_or, or_true, true_and, and_true, not_true_eq_false, not_false_eq_true, Nat.reduceLT, Nat.reduceLeDiff, Nat.reduceEqDiff, Nat.reduceAdd, Nat.reduceMul, Nat.reduceSub, Nat.reducePow, Nat.reduceMod, Nat.reduceDiv, l0, l1, l2, l3, l4, l5, l6, l7, l8, l9, l10, l11, l12, l13, l14, l15, l16, l20, l31, l32, l36, l40, l48, l57, l59, l63, l64, l97, l99, l100, l101, l122, l127, l128, l250, l255, l262143, l262144, l30000, l100000, l12345, l1024, l4095, bI_z, rf_some, b0, e138, e140, e225, c1, yc1, w1, Bool.true_eq_false]
      rw [e2]
      simp (disch := omega) only [s208_35, s208_36, s208_37, s208_38, s208_39, s208_40, s208_41, s208_42, s208_43, s208_44, s208_45, s208_46, s208_47, s208_48, s208_49, s208_50, s208_51, s208_52, s208_53, s208_54, s208_55, s208_56, s208_57, s208_58, s208_59, s208_60, ↓reduceIte, Option.bind_some, Option.toList_some, Option.toList_none, List.cons_append, List.nil_append, if_true, if_false, true_or, or_true, true_and, and_true, not_true_eq_false, not_false_eq_true, Nat.reduceLT, Nat.reduceLeDiff, Nat.reduceEqDiff, Nat.reduceAdd, Nat.reduceMul, Nat.reduceSub, Nat.reducePow, Nat.reduceMod, Nat.reduceDiv, l0, l1, l2, l3, l4, l5, l6, l7, l8, l9, l10, l11, l12, l13, l14, l15, l16, l20, l31, l32, l36, l40, l48, l57, l59, l63, l64, l97, l99, l100, l101, l122, l127, l128, l250, l255, l262143, l262144, l30000, l100000, l12345, l1024, l4095, nI_eqs, nI_les, nI_lts, qI_eq, qI_eqn, nI_eqq, qI_lts, nI_ltp, nI_lep, qI_les, nI_add, nI_mul, qI_add, qI_s, qI_def, nI_clamps, bI_z, bI_o, bI_01, n01, n11, rf_some, rf_none, m1, m1n, bft, c0, v1, gI v2, v3, f1, f2, gI f3, gI f4, f5, f6, addq, ixe, z1', gA z2']
      exact e3
