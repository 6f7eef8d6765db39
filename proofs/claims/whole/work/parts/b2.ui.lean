/-! SEARCHES of the reference: bettering till nothing changes -/
theorem FH.tab {h0 h : AH} {A : Nat} {s : GS} {W : Nat → Prop} {fa qa n : Nat} {f : Nat → Int32} {q : Nat} {Q : Nat → Nat} (x : FH h0 h A s W fa qa n f q Q) (h3 : Yg (gY s) ≤ 3) (n3 : Yn (gY s) ≤ 3) {t : Nat} (v : VN (gY s) t) (V : Int32) {o : Nat} {Y : YS} (y : FO h A s o Y) : FH h0 (stI h fa (rho (gY s) t) V) A s W fa qa n (fup f t V) q Q ∧ FO (stI h fa (rho (gY s) t) V) A s o Y := by
  obtain ⟨x1, x2, x3, x4, x5, x6, x7, x8, x9, x10, x11, x12⟩ := id x
  obtain ⟨nf, ⟨u1, u2, u3, u4, u5⟩, ⟨p1, p2', p3, p4, p5⟩⟩ := x1.2.2.2.2.2.1.q x4 x5
  have g1 : Fr0 (fun b => b = fa ∨ b = qa) h (stI h fa (rho (gY s) t) V) := Fr0.stI (A := fun b => b = fa ∨ b = qa) h (Or.inl rfl) _ _
  have nA : A ≠ fa := fun w => by omega
  refine ⟨x.fq (g1.mono (fun b w => by omega)) (fun j _ => by rw [hI_stI, if_neg (fun w => nA w.1)]) (fun t' ht' => ?_) (fun i hi => by rw [hI_stI, if_neg (fun w => nf w.1.symm)]; exact x11 i hi) (by rw [hI_stI, if_neg (fun w => nA w.1)]; exact x12) ⟨_, g1, Fr0.refl _ _⟩, y.1, y.2.1.fr0 g1 (fun b h1 h2 w => ?_), y.2.2⟩
  · rw [hI_stI]
    by_cases w : t' = t
    · rw [w, if_pos ⟨rfl, rfl⟩, fup_s]
    · rw [if_neg (fun q => w (rho_inj h3 n3 ht' v q.2)), fup_n _ _ w]; exact x10 t' ht'
  · rcases w with w | w <;> rw [w] at h1 h2
    · exact u4 o y.1 ⟨h1, by omega⟩
    · exact p4 o y.1 ⟨h1, by omega⟩
def HF (h0 h : AH) (A : Nat) (s : GS) (W : Nat → Prop) (fa qa n o q : Nat) (Q F : Nat → Nat) : Prop := ∃ f Y, FH h0 h A s W fa qa n f q Q ∧ FO h A s o Y ∧ FV (gY s) q Q F ∧ ∀ i, i < q → f (Q i) = nI (F (Q i))
def NoB (y : YS) (Q F : Nat → Nat) (i k : Nat) : Prop := ∀ k', k' < k → ¬ costN y F (Q i) k' < F (Q i)
theorem m201c (d : Nat) {h0 : AH} {A : Nat} {s : GS} {W : Nat → Prop} {fa qa n o q : Nat} {Q F0 : Nat → Nat} (ok : YOK (gY s)) (h3 : Yg (gY s) ≤ 3) (n3 : Yn (gY s) ≤ 3) (vq : ∀ i, i < q → VN (gY s) (Q i)) (inj : ∀ a b, a < q → b < q → Q a = Q b → a = b) (cl : CL (gY s) q Q q) (p1 p2 : Option Value) {i : Nat} (hi : i < q) : ∀ m k h F b p7, k + m = Yn (gY s) → HF h0 h A s W fa qa n o q Q F → sm F Q q ≤ sm F0 Q q → (b = true → sm F Q q < sm F0 Q q) → (b = false → F = F0 ∧ NoB (gY s) Q F0 i k) → ∃ h' F' b' p7', E (d + 5) 201 115 [some (.ref A), p1, p2, some (.ref o), some (.int (bI b)), some (.int (nI i)), some (.int (nI k)), p7] [] h = E (d + 5) 201 111 [some (.ref A), p1, p2, some (.ref o), some (.int (bI b')), some (.int (qI i)), some (.int (nI (Yn (gY s)))), p7'] [] h' ∧ HF h0 h' A s W fa qa n o q Q F' ∧ sm F' Q q ≤ sm F0 Q q ∧ (b' = true → sm F' Q q < sm F0 Q q) ∧ (b' = false → b = false ∧ F' = F0 ∧ NoB (gY s) Q F0 i (Yn (gY s))) := by
  intro m
  induction m with
  | zero =>
    intro k h F b p7 hk x l1' l2' l3'
    have hk' : k = Yn (gY s) := hk
    subst hk'
    refine ⟨h, F, b, p7, ?_, x, l1', l2', fun w => ⟨w, l3' w⟩⟩
    obtain ⟨f, Y, x1, -⟩ := x
    have a0 := x1.1.1.1.1
    have a17 := x1.1.1.2.1.2.2.1
    have xs := sts_le ok h3 n3
    have dc : nI i + qI 0 = qI i := dcq i
    rw [s201_115]
    simp (disch := omega) only [s201_116, s201_117, s201_118, s201_150, s201_151, ↓reduceIte, Option.bind_some, Option.toList_some, Option.toList_none, List.cons_append, List.nil_append, if_true, if_false, true_or, or_true, true_and, and_true, not_true_eq_false, not_false_eq_true, Nat.reduceLT, Nat.reduceLeDiff, Nat.reduceEqDiff, Nat.reduceAdd, Nat.reduceMul, Nat.reduceSub, Nat.reducePow, Nat.reduceMod, Nat.reduceDiv, l0, l1, l2, l3, l4, l5, l6, l7, l8, l9, l10, l11, l12, l13, l14, l15, l16, l20, l31, l32, l36, l40, l48, l57, l59, l63, l64, l97, l99, l100, l101, l122, l127, l128, l250, l255, l262143, l262144, l30000, l100000, l12345, l1024, l4095, nI_eqs, nI_les, nI_lts, qI_eq, qI_eqn, nI_eqq, qI_lts, nI_ltp, nI_lep, qI_les, nI_add, nI_mul, qI_add, qI_s, qI_def, nI_clamps, bI_z, bI_o, bI_01, n01, n11, rf_some, rf_none, m1, m1n, bft, a0, a17, Nat.le_refl, dc]
  | succ m ih =>
    intro k h F b p7 hk x l1' l2' l3'
    have kl : ¬ Yn (gY s) ≤ k := by omega
    obtain ⟨f, Y, x1, y1, fv, tf⟩ := x
    have v := vq i hi
    obtain ⟨h1, Y', e1, x2, y2⟩ := m199 d x1 y1 h3 n3 v (show k < Yn (gY s) by omega) none none
    rw [cst_N fv cl tf hi (show k < Yn (gY s) by omega)] at e1
    obtain ⟨z1, z2, z3, z4, z5, z6, z7, z8, z9, z10, z11, z12⟩ := id x1
    obtain ⟨w1, w2, w3, w4, w5, w6, w7, w8, w9, w10, w11, w12⟩ := id x2
    have a0 := z1.1.1.1
    have a17 := z1.1.2.1.2.2.1
    have a1 := w1.1.1.1
    have hq1 := z11 i hi
    have hq2 := w11 i hi
    have hf2 := w10 _ v
    have rl := v.rho_n h3 n3 z9
    have tfi := tf i hi
    have f30 := (fv i hi).1
    have qn : q ≤ n := by
      have := pig (sts (gY s)) q (fun i => rho (gY s) (Q i)) (fun a b ha hb e => inj a b ha hb (rho_inj h3 n3 (vq a ha) (vq b hb) e)) (fun a ha => rho_lt h3 n3 (vq a ha))
      omega
    by_cases c : costN (gY s) F (Q i) k < F (Q i)
    · have c' : ¬ F (Q i) ≤ costN (gY s) F (Q i) k := by omega
      have fv' := fv.upd ok h3 n3 vq cl hi (show k < Yn (gY s) by omega) c
      have sl := sm_lt (F := F) (Q := Q) (i := i) c q inj hi
      obtain ⟨x3, y3⟩ := x2.tab h3 n3 v (nI (costN (gY s) F (Q i) k)) y2
      have nr := nars (c := costN (gY s) F (Q i) k) (by omega)
      obtain ⟨h', F', b', p7', e2, r1, r2, r3, r4⟩ := ih (k + 1) _ (fup F (Q i) (costN (gY s) F (Q i) k)) true (some (.int (nI (costN (gY s) F (Q i) k)))) (by omega) ⟨_, _, x3, y3, fv', fun j hj => by
        by_cases w : Q j = Q i
        · rw [w, fup_s, fup_s]
        · rw [fup_n _ _ w, fup_n _ _ w]; exact tf j hj⟩ (by omega) (fun _ => by omega) (fun w => Bool.noConfusion w)
      refine ⟨h', F', b', p7', ?_, r1, r2, r3, fun w => absurd (r4 w).1 (by decide)⟩
      rw [← e2, s201_115]
      generalize hC : costN (gY s) F (Q i) k = C at *
      simp (disch := omega) only [s201_116, s201_117, s201_118, s201_119, s201_120, s201_121, s201_122, s201_123, s201_124, s201_125, s201_126, s201_127, s201_128, s201_129, s201_130, s201_131, s201_132, s201_133, s201_134, s201_135, s201_136, s201_137, s201_138, s201_139, s201_140, s201_141, s201_142, s201_143, s201_144, s201_145, s201_146, s201_147, s201_148, s201_149, ↓reduceIte, Option.bind_some, Option.toList_some, Option.toList_none, List.cons_append, List.nil_append, if_true, if_false, true_or, or_true, true_and, and_true, not_true_eq_false, not_false_eq_true, Nat.reduceLT, Nat.reduceLeDiff, Nat.reduceEqDiff, Nat.reduceAdd, Nat.reduceMul, Nat.reduceSub, Nat.reducePow, Nat.reduceMod, Nat.reduceDiv, l0, l1, l2, l3, l4, l5, l6, l7, l8, l9, l10, l11, l12, l13, l14, l15, l16, l20, l31, l32, l36, l40, l48, l57, l59, l63, l64, l97, l99, l100, l101, l122, l127, l128, l250, l255, l262143, l262144, l30000, l100000, l12345, l1024, l4095, nI_eqs, nI_les, nI_lts, qI_eq, qI_eqn, nI_eqq, qI_lts, nI_ltp, nI_lep, qI_les, nI_add, nI_mul, qI_add, qI_s, qI_def, nI_clamps, bI_z, bI_o, bI_01, n01, n11, rf_some, rf_none, m1, m1n, bft, a0, a17, kl, z5, gI z7, hq1, e1, a1, w4, gA w6, w5, gI w7, hq2, hf2, tfi, c', nr, bI_t]
    · have c' : F (Q i) ≤ costN (gY s) F (Q i) k := by omega
      have cl' : costN (gY s) F (Q i) k < 2 ^ 31 := by
        unfold costN
        split
        · split
          · omega
          · rename_i hp ne
            obtain ⟨j, j1, j2⟩ := cl i hi k (by omega) hp
            have := (fv j j1).1
            rw [j2] at this
            split <;> omega
        · omega
      obtain ⟨h', F', b', p7', e2, r1, r2, r3, r4⟩ := ih (k + 1) h1 F b (some (.int (nI (costN (gY s) F (Q i) k)))) (by omega) ⟨_, _, x2, y2, fv, tf⟩ l1' l2' (fun w => by
        obtain ⟨l4, l5⟩ := l3' w
        refine ⟨l4, fun k' hk' => ?_⟩
        by_cases z : k' = k
        · rw [z, ← l4]; exact c
        · exact l5 k' (by omega))
      refine ⟨h', F', b', p7', ?_, r1, r2, r3, r4⟩
      rw [← e2, s201_115]
      generalize hC : costN (gY s) F (Q i) k = C at *
      simp (disch := omega) only [s201_116, s201_117, s201_118, s201_119, s201_120, s201_121, s201_122, s201_123, s201_124, s201_125, s201_126, s201_127, s201_128, s201_129, s201_130, s201_131, s201_132, s201_133, s201_134, s201_135, s201_136, s201_148, s201_149, ↓reduceIte, Option.bind_some, Option.toList_some, Option.toList_none, List.cons_append, List.nil_append, if_true, if_false, true_or, or_true, true_and, and_true, not_true_eq_false, not_false_eq_true, Nat.reduceLT, Nat.reduceLeDiff, Nat.reduceEqDiff, Nat.reduceAdd, Nat.reduceMul, Nat.reduceSub, Nat.reducePow, Nat.reduceMod, Nat.reduceDiv, l0, l1, l2, l3, l4, l5, l6, l7, l8, l9, l10, l11, l12, l13, l14, l15, l16, l20, l31, l32, l36, l40, l48, l57, l59, l63, l64, l97, l99, l100, l101, l122, l127, l128, l250, l255, l262143, l262144, l30000, l100000, l12345, l1024, l4095, nI_eqs, nI_les, nI_lts, qI_eq, qI_eqn, nI_eqq, qI_lts, nI_ltp, nI_lep, qI_les, nI_add, nI_mul, qI_add, qI_s, qI_def, nI_clamps, bI_z, bI_o, bI_01, n01, n11, rf_some, rf_none, m1, m1n, bft, a0, a17, kl, z5, gI z7, hq1, e1, a1, w4, gA w6, w5, gI w7, hq2, hf2, tfi, c']
theorem m201p (d : Nat) {h0 : AH} {A : Nat} {s : GS} {W : Nat → Prop} {fa qa n o q : Nat} {Q F0 : Nat → Nat} (ok : YOK (gY s)) (h3 : Yg (gY s) ≤ 3) (n3 : Yn (gY s) ≤ 3) (vq : ∀ i, i < q → VN (gY s) (Q i)) (inj : ∀ a b, a < q → b < q → Q a = Q b → a = b) (cl : CL (gY s) q Q q) (p1 p2 : Option Value) : ∀ j h F b p6 p7, j ≤ q → HF h0 h A s W fa qa n o q Q F → sm F Q q ≤ sm F0 Q q → (b = true → sm F Q q < sm F0 Q q) → (b = false → F = F0 ∧ ∀ i, j ≤ i → i < q → NoB (gY s) Q F0 i (Yn (gY s))) → ∃ h' F' b' p5' p6' p7', E (d + 5) 201 111 [some (.ref A), p1, p2, some (.ref o), some (.int (bI b)), some (.int (qI j)), p6, p7] [] h = E (d + 5) 201 102 [some (.ref A), p1, p2, some (.ref o), some (.int (bI b')), p5', p6', p7'] [] h' ∧ HF h0 h' A s W fa qa n o q Q F' ∧ sm F' Q q ≤ sm F0 Q q ∧ (b' = true → sm F' Q q < sm F0 Q q) ∧ (b' = false → F' = F0 ∧ ∀ i, i < q → NoB (gY s) Q F0 i (Yn (gY s))) := by
  intro j
  induction j with
  | zero =>
    intro h F b p6 p7 _ x l1' l2' l3'
    refine ⟨h, F, b, some (.int (qI 0)), p6, p7, ?_, x, l1', l2', fun w => ⟨(l3' w).1, fun i hi => (l3' w).2 i (Nat.zero_le _) hi⟩⟩
    have q0 : qI 0 < nI 0 := by decide
    rw [s201_111]
    simp (disch := omega) only [s201_112, s201_152, ↓reduceIte, Option.bind_some, Option.toList_some, Option.toList_none, List.cons_append, List.nil_append, if_true, if_false, true_or, or_true, true_and, and_true, not_true_eq_false, not_false_eq_true, Nat.reduceLT, Nat.reduceLeDiff, Nat.reduceEqDiff, Nat.reduceAdd, Nat.reduceMul, Nat.reduceSub, Nat.reducePow, Nat.reduceMod, Nat.reduceDiv, l0, l1, l2, l3, l4, l5, l6, l7, l8, l9, l10, l11, l12, l13, l14, l15, l16, l20, l31, l32, l36, l40, l48, l57, l59, l63, l64, l97, l99, l100, l101, l122, l127, l128, l250, l255, l262143, l262144, l30000, l100000, l12345, l1024, l4095, nI_eqs, nI_les, nI_lts, qI_eq, qI_eqn, nI_eqq, qI_lts, nI_ltp, nI_lep, qI_les, nI_add, nI_mul, qI_add, qI_s, qI_def, nI_clamps, bI_z, bI_o, bI_01, n01, n11, rf_some, rf_none, m1, m1n, bft, q0]
  | succ j ih =>
    intro h F b p6 p7 hj x l1' l2' l3'
    obtain ⟨h1, F1, b1, p7', e1, r1, r2, r3, r4⟩ := m201c d (F0 := F0) ok h3 n3 vq inj cl p1 p2 (show j < q by omega) (Yn (gY s)) 0 h F b p7 (by omega) x l1' l2' (fun w => ⟨(l3' w).1, fun k' hk' => absurd hk' (Nat.not_lt_zero _)⟩)
    obtain ⟨h', F', b', p5', p6', p7'', e2, t1, t2, t3, t4⟩ := ih h1 F1 b1 (some (.int (nI (Yn (gY s))))) p7' (by omega) r1 r2 r3 (fun w => by
      obtain ⟨l4, l5, l6⟩ := r4 w
      refine ⟨l5, fun i hi1 hi2 => ?_⟩
      by_cases z : i = j
      · rw [z]; exact l6
      · exact (l3' l4).2 i (by omega) hi2)
    refine ⟨h', F', b', p5', p6', p7'', ?_, t1, t2, t3, t4⟩
    obtain ⟨f, Y, x1, -⟩ := x
    have nl := x1.2.2.2.2.2.2.2.1
    have sn := x1.2.2.2.2.2.2.2.2.1
    have qs := pig (sts (gY s)) q (fun i => rho (gY s) (Q i)) (fun a b ha hb e => inj a b ha hb (rho_inj h3 n3 (vq a ha) (vq b hb) e)) (fun a ha => rho_lt h3 n3 (vq a ha))
    have n0 : ¬ nI j < nI 0 := fun q => by rw [nI_lts (by omega) (by decide)] at q; omega
    rw [← e2, ← e1, qI_s, s201_111]
    simp (disch := omega) only [s201_112, s201_113, s201_114, ↓reduceIte, Option.bind_some, Option.toList_some, Option.toList_none, List.cons_append, List.nil_append, if_true, if_false, true_or, or_true, true_and, and_true, not_true_eq_false, not_false_eq_true, Nat.reduceLT, Nat.reduceLeDiff, Nat.reduceEqDiff, Nat.reduceAdd, Nat.reduceMul, Nat.reduceSub, Nat.reducePow, Nat.reduceMod, Nat.reduceDiv, l0, l1, l2, l3, l4, l5, l6, l7, l8, l9, l10, l11, l12, l13, l14, l15, l16, l20, l31, l32, l36, l40, l48, l57, l59, l63, l64, l97, l99, l100, l101, l122, l127, l128, l250, l255, l262143, l262144, l30000, l100000, l12345, l1024, l4095, n0]
theorem m201w (d : Nat) {h0 : AH} {A : Nat} {s : GS} {W : Nat → Prop} {fa qa n o q : Nat} {Q : Nat → Nat} (ok : YOK (gY s)) (h3 : Yg (gY s) ≤ 3) (n3 : Yn (gY s) ≤ 3) (vq : ∀ i, i < q → VN (gY s) (Q i)) (inj : ∀ a b, a < q → b < q → Q a = Q b → a = b) (cl : CL (gY s) q Q q) (p1 p2 : Option Value) : ∀ N h F p5 p6 p7, sm F Q q = N → HF h0 h A s W fa qa n o q Q F → ∃ h' F', E (d + 5) 201 102 [some (.ref A), p1, p2, some (.ref o), some (.int (nI 1)), p5, p6, p7] [] h = some (none, h') ∧ HF h0 h' A s W fa qa n o q Q F' ∧ ∀ i, i < q → NoB (gY s) Q F' i (Yn (gY s)) := by
  intro N
  induction N using Nat.strongRecOn with
  | ind N ih =>
    intro h F p5 p6 p7 hN' x
    obtain ⟨h1, F1, b1, p5', p6', p7', e1, r1, r2, r3, r4⟩ := m201p d (F0 := F) ok h3 n3 vq inj cl p1 p2 q h F false p6 p7 (Nat.le_refl _) x (Nat.le_refl _) (fun w => Bool.noConfusion w) (fun _ => ⟨rfl, fun i h1 h2 => by omega⟩)
    have st : E (d + 5) 201 102 [some (.ref A), p1, p2, some (.ref o), some (.int (nI 1)), p5, p6, p7] [] h = E (d + 5) 201 111 [some (.ref A), p1, p2, some (.ref o), some (.int (bI false)), some (.int (qI q)), p6, p7] [] h := by
      obtain ⟨f, Y, x1, -⟩ := x
      have a0 := x1.1.1.1.1
      have a33 := x1.2.2.2.2.2.2.2.2.2.2.2
      rw [s201_102]
      simp (disch := omega) only [s201_103, s201_104, s201_105, s201_106, s201_107, s201_108, s201_109, s201_110, ↓reduceIte, Option.bind_some, Option.toList_some, Option.toList_none, List.cons_append, List.nil_append, if_true, if_false, true_or, or_true, true_and, and_true, not_true_eq_false, not_false_eq_true, Nat.reduceLT, Nat.reduceLeDiff, Nat.reduceEqDiff, Nat.reduceAdd, Nat.reduceMul, Nat.reduceSub, Nat.reducePow, Nat.reduceMod, Nat.reduceDiv, l0, l1, l2, l3, l4, l5, l6, l7, l8, l9, l10, l11, l12, l13, l14, l15, l16, l20, l31, l32, l36, l40, l48, l57, l59, l63, l64, l97, l99, l100, l101, l122, l127, l128, l250, l255, l262143, l262144, l30000, l100000, l12345, l1024, l4095, nI_eqs, nI_les, nI_lts, qI_eq, qI_eqn, nI_eqq, qI_lts, nI_ltp, nI_lep, qI_les, nI_add, nI_mul, qI_add, qI_s, qI_def, nI_clamps, bI_z, bI_o, bI_01, n01, n11, rf_some, rf_none, m1, m1n, bft, a0, a33, bI_f, Nat.one_ne_zero]
    cases b1
    · obtain ⟨e2, nb⟩ := r4 rfl
      subst e2
      refine ⟨h1, F1, ?_, r1, nb⟩
      rw [st, e1, s201_102]
      simp (disch := omega) only [s201_103, s201_153, ↓reduceIte, Option.bind_some, Option.toList_some, Option.toList_none, List.cons_append, List.nil_append, if_true, if_false, true_or, or_true, true_and, and_true, not_true_eq_false, not_false_eq_true, Nat.reduceLT, Nat.reduceLeDiff, Nat.reduceEqDiff, Nat.reduceAdd, Nat.reduceMul, Nat.reduceSub, Nat.reducePow, Nat.reduceMod, Nat.reduceDiv, l0, l1, l2, l3, l4, l5, l6, l7, l8, l9, l10, l11, l12, l13, l14, l15, l16, l20, l31, l32, l36, l40, l48, l57, l59, l63, l64, l97, l99, l100, l101, l122, l127, l128, l250, l255, l262143, l262144, l30000, l100000, l12345, l1024, l4095, nI_eqs, nI_les, nI_lts, qI_eq, qI_eqn, nI_eqq, qI_lts, nI_ltp, nI_lep, qI_les, nI_add, nI_mul, qI_add, qI_s, qI_def, nI_clamps, bI_z, bI_o, bI_01, n01, n11, rf_some, rf_none, m1, m1n, bft, bI_f]
    · obtain ⟨h', F', e2, t1, t2⟩ := ih (sm F1 Q q) (by have := r3 rfl; omega) h1 F1 p5' p6' p7' rfl r1
      exact ⟨h', F', by rw [st, e1]; exact e2, t1, t2⟩
/-- what the table says of a state -/
def TBL (y : YS) (f : Nat → Int32) (t : Nat) : Prop := VN y t ∧ ∃ v, v ≤ 30000 ∧ f t = nI v ∧ (∀ D, dsY y t = some D → v + 100 * lsY y t = 101 * D ∧ lsY y t ≤ D ∧ D ≤ 63) ∧ (dsY y t = none → v = 30000)
theorem c201 (d : Nat) {h : AH} {A : Nat} {s : GS} {W : Nat → Prop} (x : MX h A s W) (h3 : Yg (gY s) ≤ 3) (n3 : Yn (gY s) ≤ 3) (b : Bool) (p2 p3 p4 p5 p6 p7 : Option Value) : ∃ h' fa qa n f q Q o Y, E (d + 5) 201 0 [some (.ref A), some (.int (bI b)), p2, p3, p4, p5, p6, p7] [] h = some (none, h') ∧ FH h h' A s W fa qa n f q Q ∧ FO h' A s o Y ∧ (∀ i, i < q → TBL (gY s) f (Q i)) ∧ CL (gY s) q Q q ∧ inQ q Q (ndY (gY s)) ∧ (b = true → ∀ j k, j < Yg (gY s) → k < Yc (gY s) → inQ q Q (tcN (gY s) (ndY (gY s)) j k)) := by
  have ok := x.1.2.2
  obtain ⟨h1, fa, qa, n, q, Q, o, Y, p2', p4', p5', e1, ⟨f, fh, qi⟩, fo, cl, nd, foe⟩ := m201b d x h3 n3 b p2 p3 p4 p5 p6 p7
  have vq : ∀ i, i < q → VN (gY s) (Q i) := fun i hi => (qi.1 i hi).1
  have hf : HF h h1 A s W fa qa n o q Q (fun t => if glN (gY s) t = true then 0 else 30000) := ⟨f, Y, fh, fo, FV.start ok h3 n3 vq, fun i hi => by
    rw [(qi.1 i hi).2]
    show _ = nI (if glN (gY s) (Q i) = true then 0 else 30000)
    split <;> rfl⟩
  obtain ⟨h2, F, e2, ⟨f2, Y2, fh2, fo2, fv, tf⟩, nb⟩ := m201w d ok h3 n3 vq qi.2.1 cl (some (.int (bI b))) p2' _ h1 _ p5' p6 p7 rfl hf
  have fin := fv.fin ok h3 n3 vq cl (fun i hi k hk => nb i hi k hk)
  refine ⟨h2, fa, qa, n, f2, q, Q, o, Y2, ?_, fh2, fo2, fun i hi => ⟨vq i hi, F (Q i), (fv i hi).1, tf i hi, fun D hD => ⟨(fin i hi).1 D hD, dsY_ls ok h3 n3 (vq i hi) hD⟩, (fin i hi).2⟩, cl, nd, foe⟩
  rw [e1, ← e2]
  simp (disch := omega) only [s201_100, s201_101, ↓reduceIte, Option.bind_some, Option.toList_some, Option.toList_none, List.cons_append, List.nil_append, if_true, if_false, true_or, or_true, true_and, and_true, not_true_eq_false, not_false_eq_true, Nat.reduceLT, Nat.reduceLeDiff, Nat.reduceEqDiff, Nat.reduceAdd, Nat.reduceMul, Nat.reduceSub, Nat.reducePow, Nat.reduceMod, Nat.reduceDiv, l0, l1, l2, l3, l4, l5, l6, l7, l8, l9, l10, l11, l12, l13, l14, l15, l16, l20, l31, l32, l36, l40, l48, l57, l59, l63, l64, l97, l99, l100, l101, l122, l127, l128, l250, l255, l262143, l262144, l30000, l100000, l12345, l1024, l4095, nI_eqs, nI_les, nI_lts, qI_eq, qI_eqn, nI_eqq, qI_lts, nI_ltp, nI_lep, qI_les, nI_add, nI_mul, qI_add, qI_s, qI_def, nI_clamps, bI_z, bI_o, bI_01, n01, n11, rf_some, rf_none, m1, m1n, bft]
