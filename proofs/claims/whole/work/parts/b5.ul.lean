/-! WAY of the reference -/
theorem min_ex {p : Nat → Prop} : ∀ K, (∃ k, k < K ∧ p k) → ∃ k, k < K ∧ p k ∧ ∀ j, j < k → ¬ p j := by
  intro K
  induction K using Nat.strongRecOn with
  | ind K ih =>
    intro h
    obtain ⟨k, hk, pk'⟩ := h
    rcases Classical.em (∃ j, j < k ∧ p j) with w | w
    · obtain ⟨j, j1, j2, j3⟩ := ih k hk w
      exact ⟨j, by omega, j2, j3⟩
    · exact ⟨k, hk, pk', fun j hj q => w ⟨j, hj, q⟩⟩
theorem TBL.iff {y : YS} (ok : YOK y) (h3 : Yg y ≤ 3) (n3 : Yn y ≤ 3) {f : Nat → Int32} {q : Nat} {Q : Nat → Nat} (tb : ∀ i, i < q → TBL y f (Q i)) (cl : CL y q Q q) {i k m : Nat} (hi : i < q) (hk : k < Yn y) (hD : dsY y (Q i) = some (m + 1)) : cst y f (Q i) k = f (Q i) ↔ RE (Yn y) (stN y) (glN y) m (stN y (Q i) k) := by
  have lr := dsT_of hD
  have v := (tb i hi).1
  obtain ⟨D, hD', t1, t2, t3⟩ | ⟨hD', -⟩ := (tb i hi).c
  · rw [hD] at hD'
    cases hD'
    rw [t3]
    unfold cst
    by_cases hp : plc (Q i) k < Yg y
    · rw [if_pos hp]
      obtain ⟨j, j1, j2⟩ := cl i hi k hk hp
      have tj := tb j j1
      rw [j2] at tj
      have ls := lsY_st ok h3 n3 v hk hp
      obtain ⟨D2, hD2, u1, u2, u3⟩ | ⟨hD2, u3⟩ := tj.c
      · have lr2 := dsT_of hD2
        have n30 : ¬ nI (100 * (D2 - lsY y (stN y (Q i) k)) + D2) = nI 30000 := fun w => by rw [nI_eqs (by omega) (by omega)] at w; omega
        rw [u3, if_neg n30]
        have ge : m + 1 ≤ D2 + 1 := by
          rcases Nat.lt_or_ge (D2 + 1) (m + 1) with w | w
          · exact absurd ⟨k, hk, lr2.1⟩ (lr.2 (D2 + 1) w)
          · exact w
        have e1 : (RE (Yn y) (stN y) (glN y) m (stN y (Q i) k)) ↔ D2 = m := by
          constructor
          · intro r
            rcases Nat.lt_or_ge m D2 with w | w
            · exact absurd r (lr2.2 m w)
            · omega
          · intro r
            rw [← r]; exact lr2.1
        rw [e1]
        cases b : ltN y (Q i) (plc (Q i) k) (YC y k) <;> rw [b] at ls
        · rw [if_neg (by decide)] at ls ⊢
          rw [nI_add, nI_eqs (by omega) (by omega)]
          omega
        · rw [if_pos rfl] at ls ⊢
          rw [nI_add, nI_eqs (by omega) (by omega)]
          omega
      · rw [u3, if_pos rfl]
        constructor
        · intro w
          rw [nI_eqs (by omega) (by omega)] at w; omega
        · intro w
          exact absurd w (dsT_no hD2 m)
    · rw [if_neg hp]
      have e : stN y (Q i) k = Q i := by unfold stN; rw [if_neg hp]
      rw [e]
      constructor
      · intro w
        rw [nI_eqs (by omega) (by omega)] at w; omega
      · intro w
        exact absurd w (lr.2 m (by omega))
  · rw [hD] at hD'; cases hD'
theorem m204c (d : Nat) {h0 : AH} {A : Nat} {s : GS} {W : Nat → Prop} {fa qa n o : Nat} {f : Nat → Int32} {q : Nat} {Q : Nat → Nat} (h3 : Yg (gY s) ≤ 3) (n3 : Yn (gY s) ≤ 3) (p1 p4 p5 : Option Value) {t C : Nat} (v : VN (gY s) t) (hC : C < Yn (gY s)) (c1 : cst (gY s) f t C = f t) (c2 : ∀ c, c < C → cst (gY s) f t c ≠ f t) : ∀ m c h Y, c + m = C → FH h0 h A s W fa qa n f q Q → FO h A s o Y → ∃ h' Y', E (d + 5) 204 43 [some (.ref A), p1, some (.ref o), some (.int (nI (rho (gY s) t))), p4, p5, some (.int (nI c))] [] h = E (d + 5) 204 55 [some (.ref A), p1, some (.ref o), some (.int (nI (rho (gY s) t))), p4, p5, some (.int (nI C))] [] h' ∧ FH h0 h' A s W fa qa n f q Q ∧ FO h' A s o Y' := by
  intro m
  induction m with
  | zero =>
    intro c h Y hc x y
    have hc' : c = C := hc
    subst hc'
    obtain ⟨h1, Y1, e1, x1, y1⟩ := m199 d x y h3 n3 v hC none none
    have a0 := x.1.1.1.1
    obtain ⟨w1, w2, w3, w4, w5, w6, w7, w8, w9, w10, w11, w12⟩ := id x1
    have a1 := w1.1.1.1
    have fv := w10 t v
    have rl := v.rho_n h3 n3 w9
    refine ⟨h1, Y1, ?_, x1, y1⟩
    rw [c1] at e1
    rw [s204_43]
    simp (disch := omega) only [s204_44, s204_45, s204_46, s204_47, s204_48, s204_49, s204_50, s204_51, s204_52, ↓reduceIte, Option.bind_some, Option.toList_some, Option.toList_none, List.cons_append, List.nil_append, if_true, if_false, true_or, or_true, true_and, and_true, not_true_eq_false, not_false_eq_true, Nat.reduceLT, Nat.reduceLeDiff, Nat.reduceEqDiff, Nat.reduceAdd, Nat.reduceMul, Nat.reduceSub, Nat.reducePow, Nat.reduceMod, Nat.reduceDiv, l0, l1, l2, l3, l4, l5, l6, l7, l8, l9, l10, l11, l12, l13, l14, l15, l16, l20, l31, l32, l36, l40, l48, l57, l59, l63, l64, l97, l99, l100, l101, l122, l127, l128, l250, l255, l262143, l262144, l30000, l100000, l12345, l1024, l4095, nI_eqs, nI_les, nI_lts, qI_eq, qI_eqn, nI_eqq, qI_lts, nI_ltp, nI_lep, qI_les, nI_add, nI_mul, qI_add, qI_s, qI_def, nI_clamps, bI_z, bI_o, bI_01, n01, n11, rf_some, rf_none, m1, m1n, bft, a0, a1, w4, gA w6, fv, e1]
  | succ m ih =>
    intro c h Y hc x y
    obtain ⟨h1, Y1, e1, x1, y1⟩ := m199 d x y h3 n3 v (show c < Yn (gY s) by omega) none none
    have a0 := x.1.1.1.1
    obtain ⟨w1, w2, w3, w4, w5, w6, w7, w8, w9, w10, w11, w12⟩ := id x1
    have a1 := w1.1.1.1
    have fv := w10 t v
    have rl := v.rho_n h3 n3 w9
    have ne := c2 c (by omega)
    obtain ⟨h', Y', e2, z⟩ := ih (c + 1) h1 Y1 (by omega) x1 y1
    refine ⟨h', Y', ?_, z⟩
    rw [← e2, s204_43]
    simp (disch := omega) only [s204_44, s204_45, s204_46, s204_47, s204_48, s204_49, s204_50, s204_51, s204_52, s204_53, s204_54, ↓reduceIte, Option.bind_some, Option.toList_some, Option.toList_none, List.cons_append, List.nil_append, if_true, if_false, true_or, or_true, true_and, and_true, not_true_eq_false, not_false_eq_true, Nat.reduceLT, Nat.reduceLeDiff, Nat.reduceEqDiff, Nat.reduceAdd, Nat.reduceMul, Nat.reduceSub, Nat.reducePow, Nat.reduceMod, Nat.reduceDiv, l0, l1, l2, l3, l4, l5, l6, l7, l8, l9, l10, l11, l12, l13, l14, l15, l16, l20, l31, l32, l36, l40, l48, l57, l59, l63, l64, l97, l99, l100, l101, l122, l127, l128, l250, l255, l262143, l262144, l30000, l100000, l12345, l1024, l4095, nI_eqs, nI_les, nI_lts, qI_eq, qI_eqn, nI_eqq, qI_lts, nI_ltp, nI_lep, qI_les, nI_add, nI_mul, qI_add, qI_s, qI_def, nI_clamps, bI_z, bI_o, bI_01, n01, n11, rf_some, rf_none, m1, m1n, bft, a0, a1, w4, gA w6, fv, e1, ne]
theorem m204k (d : Nat) {h0 : AH} {A : Nat} {s : GS} {W : Nat → Prop} {fa qa n o : Nat} {f : Nat → Int32} {q : Nat} {Q : Nat → Nat} (ok : YOK (gY s)) (h3 : Yg (gY s) ≤ 3) (n3 : Yn (gY s) ≤ 3) (tb : ∀ i, i < q → TBL (gY s) f (Q i)) (cl : CL (gY s) q Q q) (p4 : Option Value) {i : Nat} (hi : i < 100) : ∀ j kk h t D Y p6, kk + j = i → inQ q Q t → dsY (gY s) t = some D → j < D → FH h0 h A s W fa qa n f q Q → FO h A s o Y → ∃ h' Y', E (d + 5) 204 41 [some (.ref A), some (.int (nI i)), some (.ref o), some (.int (nI (rho (gY s) t))), p4, some (.int (nI kk)), p6] [] h = some (some (.int (nI (wyT (Yn (gY s)) (stN (gY s)) (glN (gY s)) D t j))), h') ∧ FH h0 h' A s W fa qa n f q Q ∧ FO h' A s o Y' := by
  intro j
  induction j with
  | zero =>
    intro kk h t D Y p6 hk iq hD hj x y
    obtain ⟨D, rfl⟩ : ∃ D', D = D' + 1 := ⟨D - 1, by omega⟩
    obtain ⟨l, l1', l2'⟩ := iq
    subst l2'
    obtain ⟨C, hC, r1, r2⟩ := min_ex (Yn (gY s)) ((dsT_of hD).1)
    have v := (tb l l1').1
    have it := fun c hc => TBL.iff ok h3 n3 tb cl l1' hc hD (k := c)
    obtain ⟨h', Y', e1, x1, y1⟩ := m204c d h3 n3 (some (.int (nI i))) p4 (some (.int (nI kk))) v hC ((it C hC).mpr r1) (fun c hc w => r2 c hc ((it c (by omega)).mp w)) C 0 h Y (by omega) x y
    have lk : lkB (fun k => reD (Yn (gY s)) (stN (gY s)) (glN (gY s)) D (stN (gY s) (Q l) k)) (Yn (gY s)) 0 = C := lkB_eq _ _ _ _ (Nat.zero_le _) (by omega) (reD_t r1) (fun c _ hc => reD_f (r2 c hc))
    have wy : wyT (Yn (gY s)) (stN (gY s)) (glN (gY s)) (D + 1) (Q l) 0 = C := lk
    refine ⟨h', Y', ?_, x1, y1⟩
    have hk' : kk = i := hk
    rw [wy, s204_41]
    simp (disch := omega) only [s204_42, ↓reduceIte, Option.bind_some, Option.toList_some, Option.toList_none, List.cons_append, List.nil_append, if_true, if_false, true_or, or_true, true_and, and_true, not_true_eq_false, not_false_eq_true, Nat.reduceLT, Nat.reduceLeDiff, Nat.reduceEqDiff, Nat.reduceAdd, Nat.reduceMul, Nat.reduceSub, Nat.reducePow, Nat.reduceMod, Nat.reduceDiv, l0, l1, l2, l3, l4, l5, l6, l7, l8, l9, l10, l11, l12, l13, l14, l15, l16, l20, l31, l32, l36, l40, l48, l57, l59, l63, l64, l97, l99, l100, l101, l122, l127, l128, l250, l255, l262143, l262144, l30000, l100000, l12345, l1024, l4095, nI_eqs, nI_les, nI_lts, qI_eq, qI_eqn, nI_eqq, qI_lts, nI_ltp, nI_lep, qI_les, nI_add, nI_mul, qI_add, qI_s, qI_def, nI_clamps, bI_z, bI_o, bI_01, n01, n11, rf_some, rf_none, m1, m1n, bft]
    rw [e1, hk']
    simp (disch := omega) only [s204_55, s204_56, s204_57, s204_58, s204_59, ↓reduceIte, Option.bind_some, Option.toList_some, Option.toList_none, List.cons_append, List.nil_append, if_true, if_false, true_or, or_true, true_and, and_true, not_true_eq_false, not_false_eq_true, Nat.reduceLT, Nat.reduceLeDiff, Nat.reduceEqDiff, Nat.reduceAdd, Nat.reduceMul, Nat.reduceSub, Nat.reducePow, Nat.reduceMod, Nat.reduceDiv, l0, l1, l2, l3, l4, l5, l6, l7, l8, l9, l10, l11, l12, l13, l14, l15, l16, l20, l31, l32, l36, l40, l48, l57, l59, l63, l64, l97, l99, l100, l101, l122, l127, l128, l250, l255, l262143, l262144, l30000, l100000, l12345, l1024, l4095, nI_eqs, nI_les, nI_lts, qI_eq, qI_eqn, nI_eqq, qI_lts, nI_ltp, nI_lep, qI_les, nI_add, nI_mul, qI_add, qI_s, qI_def, nI_clamps, bI_z, bI_o, bI_01, n01, n11, rf_some, rf_none, m1, m1n, bft]
  | succ j ih =>
    intro kk h t D Y p6 hk iq hD hj x y
    obtain ⟨D, rfl⟩ : ∃ D', D = D' + 1 := ⟨D - 1, by omega⟩
    obtain ⟨l, l1', l2'⟩ := iq
    subst l2'
    have lr := dsT_of hD
    obtain ⟨C, hC, r1, r2⟩ := min_ex (Yn (gY s)) lr.1
    have v := (tb l l1').1
    have it := fun c hc => TBL.iff ok h3 n3 tb cl l1' hc hD (k := c)
    obtain ⟨h1, Y1, e1, x1, y1⟩ := m204c d h3 n3 (some (.int (nI i))) p4 (some (.int (nI kk))) v hC ((it C hC).mpr r1) (fun c hc w => r2 c hc ((it c (by omega)).mp w)) C 0 h Y (by omega) x y
    have lk : lkB (fun k => reD (Yn (gY s)) (stN (gY s)) (glN (gY s)) D (stN (gY s) (Q l) k)) (Yn (gY s)) 0 = C := lkB_eq _ _ _ _ (Nat.zero_le _) (by omega) (reD_t r1) (fun c _ hc => reD_f (r2 c hc))
    have wy : wyT (Yn (gY s)) (stN (gY s)) (glN (gY s)) (D + 1) (Q l) (j + 1) = wyT (Yn (gY s)) (stN (gY s)) (glN (gY s)) D (stN (gY s) (Q l) C) j := by
      show wyT (Yn (gY s)) (stN (gY s)) (glN (gY s)) D (stN (gY s) (Q l) (lkB (fun k => reD (Yn (gY s)) (stN (gY s)) (glN (gY s)) D (stN (gY s) (Q l) k)) (Yn (gY s)) 0)) j = _
      rw [lk]
    have hp : plc (Q l) C < Yg (gY s) := Classical.byContradiction fun w => by
      have e : stN (gY s) (Q l) C = Q l := by unfold stN; rw [if_neg w]
      rw [e] at r1
      exact lr.2 D (by omega) r1
    have hD' : dsY (gY s) (stN (gY s) (Q l) C) = some D := dsT_some ⟨r1, fun m hm w => lr.2 (m + 1) (by omega) ⟨C, hC, w⟩⟩
    have b1 := y1.2.1.1.1
    obtain ⟨h2, e2, y2, f2⟩ := m197 (d + 4) y1.2.1 ok h3 n3 y1.2.2 v none none
    have ry := RY.be y1.2.2 v
    have f2' : Fr0 (blk o 25) h1 h2 := f2.mono (fun b w => by unfold blk; omega)
    have x2 := x1.o y1.1 f2'
    have q2 : hR h2 A 23 = some o := by rw [f2.2.2.2.2.2.1]; exact y1.1
    have b2 := y2.1.1
    obtain ⟨h3', e3, y3, f3⟩ := m184 (d + 1) y2 (k := C) (by rw [ry.1.2.2.1]; exact hC) (by rw [ry.2.2.2 C hC, ry.1.2.1]; exact hp) none none
    have ry3 := ry.try ok h3 n3 hC hp
    have x3 := x2.o q2 f3.bk
    have q3 : hR h3' A 23 = some o := by rw [f3.1.2.2.2.2.2.1]; exact q2
    have b3 := y3.1.1
    have e196 := fun d => m196 d y3 none none
    rw [ry3.rc] at e196
    obtain ⟨h', Y', e4, x4, y4⟩ := ih (kk + 1) h3' (stN (gY s) (Q l) C) D _ (some (.int (nI C))) (by omega) (cl l l1' C hC hp) hD' (by omega) x3 ⟨q3, y3, ry3.1⟩
    refine ⟨h', Y', ?_, x4, y4⟩
    have hk' : ¬ kk = i := by omega
    rw [wy, ← e4, s204_41]
    simp (disch := omega) only [s204_42, ↓reduceIte, Option.bind_some, Option.toList_some, Option.toList_none, List.cons_append, List.nil_append, if_true, if_false, true_or, or_true, true_and, and_true, not_true_eq_false, not_false_eq_true, Nat.reduceLT, Nat.reduceLeDiff, Nat.reduceEqDiff, Nat.reduceAdd, Nat.reduceMul, Nat.reduceSub, Nat.reducePow, Nat.reduceMod, Nat.reduceDiv, l0, l1, l2, l3, l4, l5, l6, l7, l8, l9, l10, l11, l12, l13, l14, l15, l16, l20, l31, l32, l36, l40, l48, l57, l59, l63, l64, l97, l99, l100, l101, l122, l127, l128, l250, l255, l262143, l262144, l30000, l100000, l12345, l1024, l4095, nI_eqs, nI_les, nI_lts, qI_eq, qI_eqn, nI_eqq, qI_lts, nI_ltp, nI_lep, qI_les, nI_add, nI_mul, qI_add, qI_s, qI_def, nI_clamps, bI_z, bI_o, bI_01, n01, n11, rf_some, rf_none, m1, m1n, bft]
    rw [e1]
    simp (disch := omega) only [s204_55, s204_56, s204_57, s204_60, s204_61, s204_62, s204_63, s204_64, s204_65, s204_66, s204_67, s204_68, s204_69, s204_70, s204_71, ↓reduceIte, Option.bind_some, Option.toList_some, Option.toList_none, List.cons_append, List.nil_append, if_true, if_false, true_or, or_true, true_and, and_true, not_true_eq_false, not_false_eq_true, Nat.reduceLT, Nat.reduceLeDiff, Nat.reduceEqDiff, Nat.reduceAdd, Nat.reduceMul, Nat.reduceSub, Nat.reducePow, Nat.reduceMod, Nat.reduceDiv, l0, l1, l2, l3, l4, l5, l6, l7, l8, l9, l10, l11, l12, l13, l14, l15, l16, l20, l31, l32, l36, l40, l48, l57, l59, l63, l64, l97, l99, l100, l101, l122, l127, l128, l250, l255, l262143, l262144, l30000, l100000, l12345, l1024, l4095, nI_eqs, nI_les, nI_lts, qI_eq, qI_eqn, nI_eqq, qI_lts, nI_ltp, nI_lep, qI_les, nI_add, nI_mul, qI_add, qI_s, qI_def, nI_clamps, bI_z, bI_o, bI_01, n01, n11, rf_some, rf_none, m1, m1n, bft, hk', b1, b2, b3, e2, e3, e196]
theorem c204 (d : Nat) {h : AH} {A : Nat} {s : GS} {W : Nat → Prop} (hx : MX h A s W) (i : Int32) (p2 p3 p4 p5 p6 : Option Value) : MC (d + 6) 204 [some (.ref A), some (.int i), p2, p3, p4, p5, p6] h A W (s_way s i) := by
  have b0 := hx.1.1.1
  have e136 := c136e hx
  have e202 := fun d => m202 d hx.1
  unfold s_way
  by_cases i0 : nI 0 ≤ i
  · rw [if_pos i0]
    by_cases sm : Yg (gY s) ≤ 3 ∧ Yn (gY s) ≤ 3
    · rw [if_pos sm]
      rw [decide_eq_true sm] at e202
      obtain ⟨h1, fa, qa, n, f, q, Q, o0, Y0, e1, fh0, fo0, tb, cl, iq, -⟩ := c201 d hx sm.1 sm.2 false none none none none none none
      rw [bI_f] at e1
      obtain ⟨h2, o, e2, fh, fo⟩ := fh0.fresh (d + 3)
      obtain ⟨x1, x2, x3, x4, x5, x6, x7, x8, x9, x10, x11, x12⟩ := id fh
      have ok := x1.1.2.2
      have nd := RY.nd ok sm.1 sm.2
      have e196 := fun d => m196 d x1.1 none none
      rw [nd.rc] at e196
      have rl := nd.2.1.rho_n sm.1 sm.2 x9
      have fv := x10 _ nd.2.1
      have t : TBL (gY s) f (ndY (gY s)) := by
        obtain ⟨i', i1, i2⟩ := iq
        have := tb i' i1
        rw [i2] at this; exact this
      have a1 := fh0.1.1.1.1
      have a2 := x1.1.1.1
      have e136' := c136e x1
      rcases t.c with ⟨D, hD, t1, t2, t3⟩ | ⟨hD, t3⟩
      · rw [hD]
        dsimp only
        rw [t3] at fv
        have hr : D - lsY (gY s) (ndY (gY s)) ≤ 63 := by omega
        generalize D - lsY (gY s) (ndY (gY s)) = r at *
        have n3 : ¬ 100 * r + D = 30000 := by omega
        have vd := vdiv (r := r) t2
        have dd : nI (100 * r + D) / nI 100 = nI r := by rw [nI_d100 (by omega), vd]
        have mm : nI (100 * r + D) - nI (r * 100) = nI D := by rw [nI_sub (by omega)]; congr 1; omega
        rcases inR_cases i (n := D) (by omega) with ⟨k, hk, rfl⟩ | ⟨f', g1, g2⟩ | ⟨f', g1, g2, g3, g4, g5⟩
        · have ck := inR_nI (g := k) (n := D) (by omega) (by omega)
          rw [decide_eq_true hk] at ck
          rw [ck, if_pos rfl, nI_clamp (show k < 2 ^ 31 by omega)]
          obtain ⟨h', Y', e3, fh3, fo3⟩ := m204k (d + 1) ok sm.1 sm.2 tb cl (some (.int (nI (100 * r + D)))) (show k < 100 by omega) k 0 h2 (ndY (gY s)) D (gY s) p6 (by omega) iq hD hk fh fo
          refine MC.of fh3 ?_
          rw [← e3]
          simp (disch := omega) only [s204_0, s204_1, s204_6, s204_7, s204_8, s204_13, s204_14, s204_15, s204_16, s204_17, s204_18, s204_19, s204_20, s204_21, s204_22, s204_23, s204_24, s204_25, s204_26, s204_27, s204_28, s204_29, s204_30, s204_31, s204_32, s204_33, s204_34, s204_39, s204_40, ↓reduceIte, Option.bind_some, Option.toList_some, Option.toList_none, List.cons_append, List.nil_append, if_true, if_false, true_or, or_true, true_and, and_true, not_true_eq_false, not_false_eq_true, Nat.reduceLT, Nat.reduceLeDiff, Nat.reduceEqDiff, Nat.reduceAdd, Nat.reduceMul, Nat.reduceSub, Nat.reducePow, Nat.reduceMod, Nat.reduceDiv, l0, l1, l2, l3, l4, l5, l6, l7, l8, l9, l10, l11, l12, l13, l14, l15, l16, l20, l31, l32, l36, l40, l48, l57, l59, l63, l64, l97, l99, l100, l101, l122, l127, l128, l250, l255, l262143, l262144, l30000, l100000, l12345, l1024, l4095, nI_eqs, nI_les, nI_lts, qI_eq, qI_eqn, nI_eqq, qI_lts, nI_ltp, nI_lep, qI_les, nI_add, nI_mul, qI_add, qI_s, qI_def, nI_clamps, bI_z, bI_o, bI_01, n01, n11, rf_some, rf_none, m1, m1n, bft, Nat.zero_le, b0, e202, e1, e2, a1, a2, x4, gA x6, e196, fv, n3, dd, mm, hk, bI_t, Bool.true_eq_false]
        · exfalso
          have : ¬ i < nI 0 := fun w => by
            rw [Int32.le_iff_toInt_le] at i0
            rw [Int32.lt_iff_toInt_lt] at w
            omega
          rw [g1] at this
          exact this trivial
        · rw [f', if_neg (by decide)]
          refine MC.rfo fh (k := 5) (by decide) (by decide) ?_
          simp (disch := omega) only [s204_0, s204_1, s204_6, s204_7, s204_8, s204_13, s204_14, s204_15, s204_16, s204_17, s204_18, s204_19, s204_20, s204_21, s204_22, s204_23, s204_24, s204_25, s204_26, s204_27, s204_28, s204_29, s204_30, s204_31, s204_32, s204_33, s204_34, s204_35, s204_36, s204_37, s204_38, ↓reduceIte, Option.bind_some, Option.toList_some, Option.toList_none, List.cons_append, List.nil_append, if_true, if_false, true_or, or_true, true_and, and_true, not_true_eq_false, not_false_eq_true, Nat.reduceLT, Nat.reduceLeDiff, Nat.reduceEqDiff, Nat.reduceAdd, Nat.reduceMul, Nat.reduceSub, Nat.reducePow, Nat.reduceMod, Nat.reduceDiv, l0, l1, l2, l3, l4, l5, l6, l7, l8, l9, l10, l11, l12, l13, l14, l15, l16, l20, l31, l32, l36, l40, l48, l57, l59, l63, l64, l97, l99, l100, l101, l122, l127, l128, l250, l255, l262143, l262144, l30000, l100000, l12345, l1024, l4095, nI_eqs, nI_les, nI_lts, qI_eq, qI_eqn, nI_eqq, qI_lts, nI_ltp, nI_lep, qI_les, nI_add, nI_mul, qI_add, qI_s, qI_def, nI_clamps, bI_z, bI_o, bI_01, n01, n11, rf_some, rf_none, m1, m1n, bft, i0, g1, g2, g3, g4, g5, b0, e202, e1, e2, a1, a2, x4, gA x6, e196, fv, n3, dd, mm, bI_t, Bool.true_eq_false, rN_d, e136']
      · rw [hD]
        rw [t3] at fv
        refine MC.rfo fh (k := 5) (by decide) (by decide) ?_
        simp (disch := omega) only [s204_0, s204_1, s204_6, s204_7, s204_8, s204_13, s204_14, s204_15, s204_16, s204_17, s204_18, s204_19, s204_20, s204_21, s204_22, s204_23, s204_24, s204_25, s204_26, s204_27, s204_28, s204_29, s204_35, s204_36, s204_37, s204_38, ↓reduceIte, Option.bind_some, Option.toList_some, Option.toList_none, List.cons_append, List.nil_append, if_true, if_false, true_or, or_true, true_and, and_true, not_true_eq_false, not_false_eq_true, Nat.reduceLT, Nat.reduceLeDiff, Nat.reduceEqDiff, Nat.reduceAdd, Nat.reduceMul, Nat.reduceSub, Nat.reducePow, Nat.reduceMod, Nat.reduceDiv, l0, l1, l2, l3, l4, l5, l6, l7, l8, l9, l10, l11, l12, l13, l14, l15, l16, l20, l31, l32, l36, l40, l48, l57, l59, l63, l64, l97, l99, l100, l101, l122, l127, l128, l250, l255, l262143, l262144, l30000, l100000, l12345, l1024, l4095, nI_eqs, nI_les, nI_lts, qI_eq, qI_eqn, nI_eqq, qI_lts, nI_ltp, nI_lep, qI_les, nI_add, nI_mul, qI_add, qI_s, qI_def, nI_clamps, bI_z, bI_o, bI_01, n01, n11, rf_some, rf_none, m1, m1n, bft, i0, b0, e202, e1, e2, a1, a2, x4, gA x6, e196, fv, bI_t, Bool.true_eq_false, rN_d, e136']
    · rw [if_neg sm]
      rw [decide_eq_false sm] at e202
      refine (MC0.rf hx (k := 5) (by decide) (by decide) ?_).mc hx
      simp (disch := omega) only [s204_0, s204_1, s204_6, s204_7, s204_8, s204_9, s204_10, s204_11, s204_12, ↓reduceIte, Option.bind_some, Option.toList_some, Option.toList_none, List.cons_append, List.nil_append, if_true, if_false, true_or, or_true, true_and, and_true, not_true_eq_false, not_false_eq_true, Nat.reduceLT, Nat.reduceLeDiff, Nat.reduceEqDiff, Nat.reduceAdd, Nat.reduceMul, Nat.reduceSub, Nat.reducePow, Nat.reduceMod, Nat.reduceDiv, l0, l1, l2, l3, l4, l5, l6, l7, l8, l9, l10, l11, l12, l13, l14, l15, l16, l20, l31, l32, l36, l40, l48, l57, l59, l63, l64, l97, l99, l100, l101, l122, l127, l128, l250, l255, l262143, l262144, l30000, l100000, l12345, l1024, l4095, nI_eqs, nI_les, nI_lts, qI_eq, qI_eqn, nI_eqq, qI_lts, nI_ltp, nI_lep, qI_les, nI_add, nI_mul, qI_add, qI_s, qI_def, nI_clamps, bI_z, bI_o, bI_01, n01, n11, rf_some, rf_none, m1, m1n, bft, i0, b0, e202, bI_f, rN_d, e136]
  · rw [if_neg i0]
    refine (MC0.rf hx (k := 2) (by decide) (by decide) ?_).mc hx
    simp (disch := omega) only [s204_0, s204_1, s204_2, s204_3, s204_4, s204_5, ↓reduceIte, Option.bind_some, Option.toList_some, Option.toList_none, List.cons_append, List.nil_append, if_true, if_false, true_or, or_true, true_and, and_true, not_true_eq_false, not_false_eq_true, Nat.reduceLT, Nat.reduceLeDiff, Nat.reduceEqDiff, Nat.reduceAdd, Nat.reduceMul, Nat.reduceSub, Nat.reducePow, Nat.reduceMod, Nat.reduceDiv, l0, l1, l2, l3, l4, l5, l6, l7, l8, l9, l10, l11, l12, l13, l14, l15, l16, l20, l31, l32, l36, l40, l48, l57, l59, l63, l64, l97, l99, l100, l101, l122, l127, l128, l250, l255, l262143, l262144, l30000, l100000, l12345, l1024, l4095, nI_eqs, nI_les, nI_lts, qI_eq, qI_eqn, nI_eqq, qI_lts, nI_ltp, nI_lep, qI_les, nI_add, nI_mul, qI_add, qI_s, qI_def, nI_clamps, bI_z, bI_o, bI_01, n01, n11, rf_some, rf_none, m1, m1n, bft, i0, b0, rN_d, e136]
