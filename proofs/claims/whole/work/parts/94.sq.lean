/-! LOCK and KEY, the developers -/
def thR (y : YS) (c m g : Nat) (r : Nat → Nat × Nat) : Option (Nat → Nat × Nat) := match m with
  | 0 => some r
  | m + 1 => if lt1 y g (r (YU y g)) c = true then thR y c m (g + 1) (fup r (YU y g) (stp y g (r (YU y g)) c)) else none
def PM (y : YS) (M : Nat) (r : Nat → Nat × Nat) : Prop := M < 2 ^ 24 ∧ ∀ u, u < Yg y → dg M u = pk (r u) ∧ pOK y (r u)
theorem PM.set {y : YS} {M u : Nat} {r : Nat → Nat × Nat} {p : Nat × Nat} (h3 : Yc y ≤ 3) (hp : pOK y p) (hu : u < 6) (q : PM y M r) : PM y (wd M u (pk p)) (fup r u p) := by
  have s16 := pk16 h3 hp
  refine ⟨wd_lt (n := 6) s16 hu q.1, fun k hk => ?_⟩
  rw [dg_wd _ _ _ _ s16]
  unfold fup
  by_cases e : k = u
  · rw [if_pos e, if_pos e]; exact ⟨rfl, hp⟩
  · rw [if_neg e, if_neg e]; exact q.2 k hk
theorem x56 (d : Nat) {h : AH} {b : Nat} {y : YS} (xy : XY h b y) {c : Nat} (hc : c < Yc y) (p3 p4 p5 : Option Value) {M : Nat} {r : Nat → Nat × Nat} (hM : PM y M r) : match thR y c (Yg y) 0 r with
    | none => E (d + 3) 56 0 [some (.ref b), some (.int (nI M)), some (.int (nI c)), p3, p4, p5] [] h = some (some (.int (qI 0)), h)
    | some r' => ∃ M', E (d + 3) 56 0 [some (.ref b), some (.int (nI M)), some (.int (nI c)), p3, p4, p5] [] h = some (some (.int (nI M')), h) ∧ PM y M' r' := by
  obtain ⟨⟨z0, z1, z2, z3, z4, z5, z6, z7, r1, r2, r3, r4, r5, r6, r7⟩, ⟨vc, vg, vn, vt, vz, vK, vA, vU, vM, vW, vC, vP⟩, ok⟩ := id xy
  obtain ⟨⟨o2, o3⟩, o6, on, og, oc⟩ := id ok
  have lp : ∀ m g N r p5, g + m = Yg y → PM y N r → match thR y c m g r with
    | none => E (d + 3) 56 4 [some (.ref b), some (.int (nI M)), some (.int (nI c)), some (.int (nI N)), some (.int (nI g)), p5] [] h = some (some (.int (qI 0)), h)
    | some r' => ∃ M', E (d + 3) 56 4 [some (.ref b), some (.int (nI M)), some (.int (nI c)), some (.int (nI N)), some (.int (nI g)), p5] [] h = some (some (.int (nI M')), h) ∧ PM y M' r' := by
    intro m
    induction m with
    | zero =>
      intro g N r p5 hg hN
      have hg' : g = Yg y := hg
      refine ⟨N, ?_, hN⟩
      rw [s56_4, hg']
      simp (disch := omega) only [s56_5, s56_6, s56_7, s56_37, s56_38, ↓reduceIte, Option.bind_some, Option.toList_some, Option.toList_none, List.cons_append, List.nil_append, if_true, if_false, true_or, or_true, true_and, and_true, not_true_eq_false, not_false_eq_true, Nat.reduceLT, Nat.reduceLeDiff, Nat.reduceEqDiff, Nat.reduceAdd, Nat.reduceMul, Nat.reduceSub, Nat.reducePow, Nat.reduceMod, Nat.reduceDiv, l0, l1, l2, l3, l4, l5, l6, l7, l8, l9, l10, l11, l12, l13, l14, l15, l16, l20, l31, l32, l36, l40, l48, l57, l59, l63, l64, l97, l99, l100, l101, l122, l127, l128, l250, l255, l262143, l262144, l30000, l100000, l12345, l1024, l4095, nI_eqs, nI_les, nI_lts, qI_eq, qI_eqn, nI_eqq, qI_lts, nI_ltp, nI_lep, qI_les, nI_add, nI_mul, qI_add, qI_s, qI_def, nI_clamps, bI_z, bI_o, bI_01, n01, n11, rf_some, rf_none, m1, m1n, bft, z0, vg, Nat.le_refl]
    | succ m ih =>
      intro g N r p5 hg hN
      have h1' : ¬ Yg y ≤ g := by omega
      have hg6 : g < Yg y := by omega
      have u := ok.u hg6
      have u6 := ok.u6 hg6
      have vUg := vU g hg6
      obtain ⟨q1, q2⟩ := hN.2 _ u
      have e5 := fun d => x5 d h (M := N) (g := YU y g) (by have := hN.1; omega) (by omega)
      rw [q1] at e5
      have e75 := fun d => x75p d xy hg6 q2 hc
      have e76 := fun d => x76p d xy hg6 q2 hc
      have sok := stp_ok (g := g) q2 hc
      have s16 := pk16 o3 sok
      have e6 := fun d => x6 d h (M := N) (g := YU y g) (m := pk (stp y g (r (YU y g)) c)) (by have := hN.1; omega) (by omega) s16
      have T : thR y c (m + 1) g r = if lt1 y g (r (YU y g)) c = true then thR y c m (g + 1) (fup r (YU y g) (stp y g (r (YU y g)) c)) else none := rfl
      rw [T]
      cases l : lt1 y g (r (YU y g)) c <;> rw [l] at e75
      · rw [if_neg (by decide), s56_4]
        simp (disch := omega) only [s56_5, s56_6, s56_7, s56_8, s56_9, s56_10, s56_11, s56_12, s56_13, s56_14, s56_15, s56_16, s56_17, s56_18, s56_19, s56_20, s56_21, s56_22, ↓reduceIte, Option.bind_some, Option.toList_some, Option.toList_none, List.cons_append, List.nil_append, if_true, if_false, true_or, or_true, true_and, and_true, not_true_eq_false, not_false_eq_true, Nat.reduceLT, Nat.reduceLeDiff, Nat.reduceEqDiff, Nat.reduceAdd, Nat.reduceMul, Nat.reduceSub, Nat.reducePow, Nat.reduceMod, Nat.reduceDiv, l0, l1, l2, l3, l4, l5, l6, l7, l8, l9, l10, l11, l12, l13, l14, l15, l16, l20, l31, l32, l36, l40, l48, l57, l59, l63, l64, l97, l99, l100, l101, l122, l127, l128, l250, l255, l262143, l262144, l30000, l100000, l12345, l1024, l4095, nI_eqs, nI_les, nI_lts, qI_eq, qI_eqn, nI_eqq, qI_lts, nI_ltp, nI_lep, qI_les, nI_add, nI_mul, qI_add, qI_s, qI_def, nI_clamps, bI_z, bI_o, bI_01, n01, n11, rf_some, rf_none, m1, m1n, bft, z0, vg, h1', r7, r3, gI z3, vUg, e5, e75, bI_f]
      · rw [if_pos rfl]
        have i1 := ih (g + 1) _ _ (some (.int (nI (pk (r (YU y g)))))) (by omega) (hN.set o3 sok u6)
        have st : E (d + 3) 56 4 [some (.ref b), some (.int (nI M)), some (.int (nI c)), some (.int (nI N)), some (.int (nI g)), p5] [] h = E (d + 3) 56 4 [some (.ref b), some (.int (nI M)), some (.int (nI c)), some (.int (nI (wd N (YU y g) (pk (stp y g (r (YU y g)) c))))), some (.int (nI (g + 1))), some (.int (nI (pk (r (YU y g)))))] [] h := by
          rw [s56_4]
          simp (disch := omega) only [s56_5, s56_6, s56_7, s56_8, s56_9, s56_10, s56_11, s56_12, s56_13, s56_14, s56_15, s56_16, s56_17, s56_18, s56_19, s56_20, s56_23, s56_24, s56_25, s56_26, s56_27, s56_28, s56_29, s56_30, s56_31, s56_32, s56_33, s56_34, s56_35, s56_36, ↓reduceIte, Option.bind_some, Option.toList_some, Option.toList_none, List.cons_append, List.nil_append, if_true, if_false, true_or, or_true, true_and, and_true, not_true_eq_false, not_false_eq_true, Nat.reduceLT, Nat.reduceLeDiff, Nat.reduceEqDiff, Nat.reduceAdd, Nat.reduceMul, Nat.reduceSub, Nat.reducePow, Nat.reduceMod, Nat.reduceDiv, l0, l1, l2, l3, l4, l5, l6, l7, l8, l9, l10, l11, l12, l13, l14, l15, l16, l20, l31, l32, l36, l40, l48, l57, l59, l63, l64, l97, l99, l100, l101, l122, l127, l128, l250, l255, l262143, l262144, l30000, l100000, l12345, l1024, l4095, nI_eqs, nI_les, nI_lts, qI_eq, qI_eqn, nI_eqq, qI_lts, nI_ltp, nI_lep, qI_les, nI_add, nI_mul, qI_add, qI_s, qI_def, nI_clamps, bI_z, bI_o, bI_01, n01, n11, rf_some, rf_none, m1, m1n, bft, z0, vg, h1', r7, r3, gI z3, vUg, e5, e75, e76, e6, bI_t, Bool.true_eq_false]
        rw [st]; exact i1
  have i1 := lp (Yg y) 0 M r p5 (by omega) hM
  have st : E (d + 3) 56 0 [some (.ref b), some (.int (nI M)), some (.int (nI c)), p3, p4, p5] [] h = E (d + 3) 56 4 [some (.ref b), some (.int (nI M)), some (.int (nI c)), some (.int (nI M)), some (.int (nI 0)), p5] [] h := by
    simp (disch := omega) only [s56_0, s56_1, s56_2, s56_3, ↓reduceIte, Option.bind_some, Option.toList_some, Option.toList_none, List.cons_append, List.nil_append, if_true, if_false, true_or, or_true, true_and, and_true, not_true_eq_false, not_false_eq_true, Nat.reduceLT, Nat.reduceLeDiff, Nat.reduceEqDiff, Nat.reduceAdd, Nat.reduceMul, Nat.reduceSub, Nat.reducePow, Nat.reduceMod, Nat.reduceDiv, l0, l1, l2, l3, l4, l5, l6, l7, l8, l9, l10, l11, l12, l13, l14, l15, l16, l20, l31, l32, l36, l40, l48, l57, l59, l63, l64, l97, l99, l100, l101, l122, l127, l128, l250, l255, l262143, l262144, l30000, l100000, l12345, l1024, l4095, nI_eqs, nI_les, nI_lts, qI_eq, qI_eqn, nI_eqq, qI_lts, nI_ltp, nI_lep, qI_les, nI_add, nI_mul, qI_add, qI_s, qI_def, nI_clamps, bI_z, bI_o, bI_01, n01, n11, rf_some, rf_none, m1, m1n, bft]
  rw [st]; exact i1
def thX {α : Type} (o : Option (Nat → Nat × Nat)) (z : α) (f : (Nat → Nat × Nat) → α) : α := match o with
  | none => z
  | some r => f r
def rwR (y : YS) (n : Nat) (r : Nat → Nat × Nat) : Nat := match n with
  | 0 => 1
  | n + 1 => itr (fun c a => a + thX (thR y c (Yg y) 0 r) 0 (fun r' => rwR y n r')) (Yc y) 0 0
theorem x53 (d : Nat) {h : AH} {b : Nat} {y : YS} (xy : XY h b y) : ∀ n M r p3 p4 p5, PM y M r → n ≤ 6 → E (d + n + 4) 53 0 [some (.ref b), some (.int (nI M)), some (.int (nI n)), p3, p4, p5] [] h = some (some (.int (nI (rwR y n r))), h) := by
  have z0 := xy.1.1
  have yc := xy.2.1.1
  have ok := xy.2.2
  obtain ⟨⟨o2, o3⟩, o6, on, og, oc⟩ := id ok
  intro n
  induction n with
  | zero =>
    intro M r p3 p4 p5 hM _
    show _ = some (some (Value.int (nI 1)), h)
    simp (disch := omega) only [s53_0, s53_1, s53_2, s53_3, ↓reduceIte, Option.bind_some, Option.toList_some, Option.toList_none, List.cons_append, List.nil_append, if_true, if_false, true_or, or_true, true_and, and_true, not_true_eq_false, not_false_eq_true, Nat.reduceLT, Nat.reduceLeDiff, Nat.reduceEqDiff, Nat.reduceAdd, Nat.reduceMul, Nat.reduceSub, Nat.reducePow, Nat.reduceMod, Nat.reduceDiv, l0, l1, l2, l3, l4, l5, l6, l7, l8, l9, l10, l11, l12, l13, l14, l15, l16, l20, l31, l32, l36, l40, l48, l57, l59, l63, l64, l97, l99, l100, l101, l122, l127, l128, l250, l255, l262143, l262144, l30000, l100000, l12345, l1024, l4095, nI_eqs, nI_les, nI_lts, qI_eq, qI_eqn, nI_eqq, qI_lts, nI_ltp, nI_lep, qI_les, nI_add, nI_mul, qI_add, qI_s, qI_def, nI_clamps, bI_z, bI_o, bI_01, n01, n11, rf_some, rf_none, m1, m1n, bft, Nat.lt_irrefl]
  | succ n ih =>
    intro M r p3 p4 p5 hM hn
    have sb1 : nI (n + 1) - nI 1 = nI n := by rw [nI_sub (by omega)]; rfl
    have lp : ∀ m c a p5, c + m = Yc y → E (d + (n + 1) + 4) 53 8 [some (.ref b), some (.int (nI M)), some (.int (nI (n + 1))), some (.int (nI a)), some (.int (nI c)), p5] [] h = some (some (.int (nI (itr (fun c a => a + thX (thR y c (Yg y) 0 r) 0 (fun r' => rwR y n r')) m c a))), h) := by
      intro m
      induction m with
      | zero =>
        intro c a p5 hc
        have hc' : c = Yc y := hc
        rw [s53_8, hc']
        simp (disch := omega) only [s53_9, s53_10, s53_11, s53_31, s53_32, ↓reduceIte, Option.bind_some, Option.toList_some, Option.toList_none, List.cons_append, List.nil_append, if_true, if_false, true_or, or_true, true_and, and_true, not_true_eq_false, not_false_eq_true, Nat.reduceLT, Nat.reduceLeDiff, Nat.reduceEqDiff, Nat.reduceAdd, Nat.reduceMul, Nat.reduceSub, Nat.reducePow, Nat.reduceMod, Nat.reduceDiv, l0, l1, l2, l3, l4, l5, l6, l7, l8, l9, l10, l11, l12, l13, l14, l15, l16, l20, l31, l32, l36, l40, l48, l57, l59, l63, l64, l97, l99, l100, l101, l122, l127, l128, l250, l255, l262143, l262144, l30000, l100000, l12345, l1024, l4095, nI_eqs, nI_les, nI_lts, qI_eq, qI_eqn, nI_eqq, qI_lts, nI_ltp, nI_lep, qI_les, nI_add, nI_mul, qI_add, qI_s, qI_def, nI_clamps, bI_z, bI_o, bI_01, n01, n11, rf_some, rf_none, m1, m1n, bft, z0, yc, Nat.le_refl]
        rfl
      | succ m ih2 =>
        intro c a p5 hc
        have h1' : ¬ Yc y ≤ c := by omega
        have e56 := x56 (d + n + 1) xy (show c < Yc y by omega) none none none hM
        rw [show d + n + 1 + 3 = d + (n + 1) + 3 by omega] at e56
        rw [itr_s, s53_8]
        cases th : thR y c (Yg y) 0 r with
        | none =>
          rw [th] at e56
          show _ = some (some (Value.int (nI (itr (fun c a => a + thX (thR y c (Yg y) 0 r) 0 (fun r' => rwR y n r')) m (c + 1) a))), h)
          have e56 : _ = _ := e56
          rw [← ih2 (c + 1) a (some (.int (qI 0))) (by omega)]
          simp (disch := omega) only [s53_9, s53_10, s53_11, s53_12, s53_13, s53_14, s53_15, s53_16, s53_17, s53_18, s53_19, s53_20, s53_21, s53_22, s53_23, s53_24, s53_25, s53_26, s53_27, s53_28, s53_29, s53_30, ↓reduceIte, Option.bind_some, Option.toList_some, Option.toList_none, List.cons_append, List.nil_append, if_true, if_false, true_or, or_true, true_and, and_true, not_true_eq_false, not_false_eq_true, Nat.reduceLT, Nat.reduceLeDiff, Nat.reduceEqDiff, Nat.reduceAdd, Nat.reduceMul, Nat.reduceSub, Nat.reducePow, Nat.reduceMod, Nat.reduceDiv, l0, l1, l2, l3, l4, l5, l6, l7, l8, l9, l10, l11, l12, l13, l14, l15, l16, l20, l31, l32, l36, l40, l48, l57, l59, l63, l64, l97, l99, l100, l101, l122, l127, l128, l250, l255, l262143, l262144, l30000, l100000, l12345, l1024, l4095, nI_eqs, nI_les, nI_lts, qI_eq, qI_eqn, nI_eqq, qI_lts, nI_ltp, nI_lep, qI_les, nI_add, nI_mul, qI_add, qI_s, qI_def, nI_clamps, bI_z, bI_o, bI_01, n01, n11, rf_some, rf_none, m1, m1n, bft, z0, yc, h1', e56, eq_self]
        | some r' =>
          rw [th] at e56
          obtain ⟨M', e56, hM'⟩ := e56
          have m0 : ¬ M' + 1 = 0 := by omega
          have ml := hM'.1
          have rc := ih M' r' none none none hM' (by omega)
          rw [show d + n + 4 = d + (n + 1) + 3 by omega] at rc
          show _ = some (some (Value.int (nI (itr _ m (c + 1) (a + rwR y n r')))), h)
          rw [← ih2 (c + 1) (a + rwR y n r') (some (.int (nI M'))) (by omega)]
          simp (disch := omega) only [s53_9, s53_10, s53_11, s53_12, s53_13, s53_14, s53_15, s53_16, s53_17, s53_18, s53_19, s53_20, s53_21, s53_22, s53_23, s53_24, s53_25, s53_26, s53_27, s53_28, s53_29, s53_30, ↓reduceIte, Option.bind_some, Option.toList_some, Option.toList_none, List.cons_append, List.nil_append, if_true, if_false, true_or, or_true, true_and, and_true, not_true_eq_false, not_false_eq_true, Nat.reduceLT, Nat.reduceLeDiff, Nat.reduceEqDiff, Nat.reduceAdd, Nat.reduceMul, Nat.reduceSub, Nat.reducePow, Nat.reduceMod, Nat.reduceDiv, l0, l1, l2, l3, l4, l5, l6, l7, l8, l9, l10, l11, l12, l13, l14, l15, l16, l20, l31, l32, l36, l40, l48, l57, l59, l63, l64, l97, l99, l100, l101, l122, l127, l128, l250, l255, l262143, l262144, l30000, l100000, l12345, l1024, l4095, nI_eqs, nI_les, nI_lts, qI_eq, qI_eqn, nI_eqq, qI_lts, nI_ltp, nI_lep, qI_les, nI_add, nI_mul, qI_add, qI_s, qI_def, nI_clamps, bI_z, bI_o, bI_01, n01, n11, rf_some, rf_none, m1, m1n, bft, z0, yc, h1', e56, m0, sb1, rc]
    have l0' : 0 < n + 1 := by omega
    simp (disch := omega) only [s53_0, s53_1, s53_4, s53_5, s53_6, s53_7, ↓reduceIte, Option.bind_some, Option.toList_some, Option.toList_none, List.cons_append, List.nil_append, if_true, if_false, true_or, or_true, true_and, and_true, not_true_eq_false, not_false_eq_true, Nat.reduceLT, Nat.reduceLeDiff, Nat.reduceEqDiff, Nat.reduceAdd, Nat.reduceMul, Nat.reduceSub, Nat.reducePow, Nat.reduceMod, Nat.reduceDiv, l0, l1, l2, l3, l4, l5, l6, l7, l8, l9, l10, l11, l12, l13, l14, l15, l16, l20, l31, l32, l36, l40, l48, l57, l59, l63, l64, l97, l99, l100, l101, l122, l127, l128, l250, l255, l262143, l262144, l30000, l100000, l12345, l1024, l4095, nI_eqs, nI_les, nI_lts, qI_eq, qI_eqn, nI_eqq, qI_lts, nI_ltp, nI_lep, qI_les, nI_add, nI_mul, qI_add, qI_s, qI_def, nI_clamps, bI_z, bI_o, bI_01, n01, n11, rf_some, rf_none, m1, m1n, bft, l0']
    exact lp (Yc y) 0 0 p5 (by omega)
