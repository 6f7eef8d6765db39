/-! LOCK and KEY of the developers, the commands -/
def r0 (y : YS) (u : Nat) : Nat × Nat := (YF y u, YM y u)
theorem PM_0 {y : YS} (ok : YOK y) : PM y (pkM y) (r0 y) := by
  obtain ⟨⟨o2, o3⟩, o6, on, og, oc⟩ := id ok
  have lp : ∀ m i s, i + m = Yg y → s < 2 ^ 24 → (∀ u, u < i → dg s u = pk (r0 y u)) → itr (fun g M => wd M g (YF y g + 4 * YM y g)) m i s < 2 ^ 24 ∧ ∀ u, u < i + m → dg (itr (fun g M => wd M g (YF y g + 4 * YM y g)) m i s) u = pk (r0 y u) := by
    intro m
    induction m with
    | zero => intro i s hi hs hu; exact ⟨hs, hu⟩
    | succ m ih =>
      intro i s hi hs hu
      have := og i (by omega)
      obtain ⟨a1, a2⟩ := ih (i + 1) (wd s i (YF y i + 4 * YM y i)) (by omega) (wd_lt (n := 6) (by omega) (by omega) hs) (fun u hu' => by
        rw [dg_wd _ _ _ _ (by omega)]
        by_cases e : u = i
        · subst e; rw [if_pos rfl]; rfl
        · rw [if_neg e]; exact hu u (by omega))
      exact ⟨a1, fun u hu' => a2 u (by omega)⟩
  obtain ⟨a1, a2⟩ := lp (Yg y) 0 0 (by omega) (by decide) (fun u hu => absurd hu (Nat.not_lt_zero u))
  refine ⟨a1, fun u hu => ⟨a2 u (by omega), ?_⟩⟩
  have := og u hu
  exact ⟨this.2.2.2.2.1, this.2.2.2.2.2⟩
theorem rwR_le {y : YS} (h3 : Yc y ≤ 3) : ∀ n r, rwR y n r ≤ 3 ^ n := by
  intro n
  induction n with
  | zero => intro r; exact Nat.le_refl _
  | succ n ih =>
    intro r
    have lp : ∀ m c a, itr (fun c a => a + thX (thR y c (Yg y) 0 r) 0 (fun r' => rwR y n r')) m c a ≤ a + m * 3 ^ n := by
      intro m
      induction m with
      | zero => intro c a; rw [Nat.zero_mul]; exact Nat.le_refl _
      | succ m ih2 =>
        intro c a
        rw [itr_s]
        have a1 := ih2 (c + 1) (a + thX (thR y c (Yg y) 0 r) 0 (fun r' => rwR y n r'))
        have a2 : thX (thR y c (Yg y) 0 r) 0 (fun r' => rwR y n r') ≤ 3 ^ n := by
          cases thR y c (Yg y) 0 r with
          | none => exact Nat.zero_le _
          | some r' => exact ih r'
        rw [Nat.succ_mul]; omega
    have a1 := lp (Yc y) 0 0
    have a2 : Yc y * 3 ^ n ≤ 3 * 3 ^ n := Nat.mul_le_mul_right _ h3
    show itr _ (Yc y) 0 0 ≤ _
    rw [Nat.pow_succ]; omega
theorem rwR_lt {y : YS} (h3 : Yc y ≤ 3) {n : Nat} (hn : n ≤ 6) (r : Nat → Nat × Nat) : rwR y n r < 730 := by
  have a := rwR_le h3 n r
  have b : 3 ^ n ≤ 3 ^ 6 := Nat.pow_le_pow_right (by decide) hn
  have : (3 : Nat) ^ 6 = 729 := by decide
  omega
def fkR (y : YS) (n : Nat) (r : Nat → Nat × Nat) (m c : Nat) : Option Nat := match m with
  | 0 => none
  | m + 1 => if 0 < thX (thR y c (Yg y) 0 r) 0 (fun r' => rwR y n r') then some c else fkR y n r m (c + 1)
def opI (o : Option Nat) : Int32 := match o with
  | none => qI 0
  | some c => nI c
theorem x55 (d : Nat) {h : AH} {b : Nat} {y : YS} (xy : XY h b y) {n M : Nat} {r : Nat → Nat × Nat} (hM : PM y M r) (hn : n ≤ 6) (p3 p4 : Option Value) : E (d + n + 5) 55 0 [some (.ref b), some (.int (nI M)), some (.int (nI n)), p3, p4] [] h = some (some (.int (opI (fkR y n r (Yc y) 0))), h) := by
  have z0 := xy.1.1
  have yc := xy.2.1.1
  have ok := xy.2.2
  obtain ⟨⟨o2, o3⟩, o6, on, og, oc⟩ := id ok
  have lp : ∀ m c p4, c + m = Yc y → E (d + n + 5) 55 2 [some (.ref b), some (.int (nI M)), some (.int (nI n)), some (.int (nI c)), p4] [] h = some (some (.int (opI (fkR y n r m c))), h) := by
    intro m
    induction m with
    | zero =>
      intro c p4 hc
      have hc' : c = Yc y := hc
      rw [s55_2, hc']
      simp (disch := omega) only [s55_3, s55_4, s55_5, s55_23, s55_24, ↓reduceIte, Option.bind_some, Option.toList_some, Option.toList_none, List.cons_append, List.nil_append, if_true, if_false, true_or, or_true, true_and, and_true, not_true_eq_false, not_false_eq_true, Nat.reduceLT, Nat.reduceLeDiff, Nat.reduceEqDiff, Nat.reduceAdd, Nat.reduceMul, Nat.reduceSub, Nat.reducePow, Nat.reduceMod, Nat.reduceDiv, l0, l1, l2, l3, l4, l5, l6, l7, l8, l9, l10, l11, l12, l13, l14, l15, l16, l20, l31, l32, l36, l40, l48, l57, l59, l63, l64, l97, l99, l100, l101, l122, l127, l128, l250, l255, l262143, l262144, l30000, l100000, l12345, l1024, l4095, nI_eqs, nI_les, nI_lts, qI_eq, qI_eqn, nI_eqq, qI_lts, nI_ltp, nI_lep, qI_les, nI_add, nI_mul, qI_add, qI_s, qI_def, nI_clamps, bI_z, bI_o, bI_01, n01, n11, rf_some, rf_none, m1, m1n, bft, z0, yc, Nat.le_refl]
      rfl
    | succ m ih =>
      intro c p4 hc
      have h1' : ¬ Yc y ≤ c := by omega
      have e56 := x56 (d + n + 1) xy (show c < Yc y by omega) none none none hM
      rw [show d + n + 1 + 3 = d + n + 4 by omega] at e56
      have T : fkR y n r (m + 1) c = if 0 < thX (thR y c (Yg y) 0 r) 0 (fun r' => rwR y n r') then some c else fkR y n r m (c + 1) := rfl
      rw [T, s55_2]
      cases th : thR y c (Yg y) 0 r with
      | none =>
        rw [th] at e56
        have e56 : _ = _ := e56
        rw [if_neg (show ¬ 0 < thX none 0 (fun r' => rwR y n r') from Nat.lt_irrefl 0), ← ih (c + 1) (some (.int (qI 0))) (by omega)]
        simp (disch := omega) only [s55_3, s55_4, s55_5, s55_6, s55_7, s55_8, s55_9, s55_10, s55_11, s55_12, s55_13, s55_14, s55_15, s55_16, s55_17, s55_18, s55_19, s55_20, s55_21, s55_22, ↓reduceIte, Option.bind_some, Option.toList_some, Option.toList_none, List.cons_append, List.nil_append, if_true, if_false, true_or, or_true, true_and, and_true, not_true_eq_false, not_false_eq_true, Nat.reduceLT, Nat.reduceLeDiff, Nat.reduceEqDiff, Nat.reduceAdd, Nat.reduceMul, Nat.reduceSub, Nat.reducePow, Nat.reduceMod, Nat.reduceDiv, l0, l1, l2, l3, l4, l5, l6, l7, l8, l9, l10, l11, l12, l13, l14, l15, l16, l20, l31, l32, l36, l40, l48, l57, l59, l63, l64, l97, l99, l100, l101, l122, l127, l128, l250, l255, l262143, l262144, l30000, l100000, l12345, l1024, l4095, nI_eqs, nI_les, nI_lts, qI_eq, qI_eqn, nI_eqq, qI_lts, nI_ltp, nI_lep, qI_les, nI_add, nI_mul, qI_add, qI_s, qI_def, nI_clamps, bI_z, bI_o, bI_01, n01, n11, rf_some, rf_none, m1, m1n, bft, z0, yc, h1', e56, eq_self]
      | some r' =>
        rw [th] at e56
        obtain ⟨M', e56, hM'⟩ := e56
        have m0 : ¬ M' + 1 = 0 := by omega
        have ml := hM'.1
        have rc := x53 d xy n M' r' none none none hM' hn
        have rl := rwR_lt o3 hn r'
        show _ = some (some (Value.int (opI (if 0 < rwR y n r' then some c else fkR y n r m (c + 1)))), h)
        by_cases q : 0 < rwR y n r'
        · rw [if_pos q]
          have q' : ¬ rwR y n r' ≤ 0 := by omega
          show _ = some (some (Value.int (nI c)), h)
          simp (disch := omega) only [s55_3, s55_4, s55_5, s55_6, s55_7, s55_8, s55_9, s55_10, s55_11, s55_12, s55_13, s55_14, s55_15, s55_16, s55_17, s55_18, s55_19, s55_20, s55_21, s55_22, ↓reduceIte, Option.bind_some, Option.toList_some, Option.toList_none, List.cons_append, List.nil_append, if_true, if_false, true_or, or_true, true_and, and_true, not_true_eq_false, not_false_eq_true, Nat.reduceLT, Nat.reduceLeDiff, Nat.reduceEqDiff, Nat.reduceAdd, Nat.reduceMul, Nat.reduceSub, Nat.reducePow, Nat.reduceMod, Nat.reduceDiv, l0, l1, l2, l3, l4, l5, l6, l7, l8, l9, l10, l11, l12, l13, l14, l15, l16, l20, l31, l32, l36, l40, l48, l57, l59, l63, l64, l97, l99, l100, l101, l122, l127, l128, l250, l255, l262143, l262144, l30000, l100000, l12345, l1024, l4095, nI_eqs, nI_les, nI_lts, qI_eq, qI_eqn, nI_eqq, qI_lts, nI_ltp, nI_lep, qI_les, nI_add, nI_mul, qI_add, qI_s, qI_def, nI_clamps, bI_z, bI_o, bI_01, n01, n11, rf_some, rf_none, m1, m1n, bft, z0, yc, h1', e56, m0, rc, q']
        · rw [if_neg q, ← ih (c + 1) (some (.int (nI M'))) (by omega)]
          have q' : rwR y n r' ≤ 0 := by omega
          simp (disch := omega) only [s55_3, s55_4, s55_5, s55_6, s55_7, s55_8, s55_9, s55_10, s55_11, s55_12, s55_13, s55_14, s55_15, s55_16, s55_17, s55_18, s55_19, s55_20, s55_21, s55_22, ↓reduceIte, Option.bind_some, Option.toList_some, Option.toList_none, List.cons_append, List.nil_append, if_true, if_false, true_or, or_true, true_and, and_true, not_true_eq_false, not_false_eq_true, Nat.reduceLT, Nat.reduceLeDiff, Nat.reduceEqDiff, Nat.reduceAdd, Nat.reduceMul, Nat.reduceSub, Nat.reducePow, Nat.reduceMod, Nat.reduceDiv, l0, l1, l2, l3, l4, l5, l6, l7, l8, l9, l10, l11, l12, l13, l14, l15, l16, l20, l31, l32, l36, l40, l48, l57, l59, l63, l64, l97, l99, l100, l101, l122, l127, l128, l250, l255, l262143, l262144, l30000, l100000, l12345, l1024, l4095, nI_eqs, nI_les, nI_lts, qI_eq, qI_eqn, nI_eqq, qI_lts, nI_ltp, nI_lep, qI_les, nI_add, nI_mul, qI_add, qI_s, qI_def, nI_clamps, bI_z, bI_o, bI_01, n01, n11, rf_some, rf_none, m1, m1n, bft, z0, yc, h1', e56, m0, rc, q']
  rw [s55_0, s55_1]
  exact lp (Yc y) 0 p4 (by omega)
theorem fkR_some {y : YS} {n : Nat} {r : Nat → Nat × Nat} {k : Nat} : ∀ m c, fkR y n r m c = some k → c ≤ k ∧ k < c + m ∧ ∃ r', thR y k (Yg y) 0 r = some r' ∧ 0 < rwR y n r' := by
  intro m
  induction m with
  | zero => intro c h; have h : (none : Option Nat) = some k := h; cases h
  | succ m ih =>
    intro c h
    have h : (if 0 < thX (thR y c (Yg y) 0 r) 0 (fun r' => rwR y n r') then some c else fkR y n r m (c + 1)) = some k := h
    by_cases q : 0 < thX (thR y c (Yg y) 0 r) 0 (fun r' => rwR y n r')
    · rw [if_pos q] at h
      have e := Option.some.inj h
      subst e
      refine ⟨Nat.le_refl _, by omega, ?_⟩
      cases th : thR y c (Yg y) 0 r with
      | none => rw [th] at q; exact absurd q (Nat.lt_irrefl 0)
      | some r' => rw [th] at q; exact ⟨r', rfl, q⟩
    · rw [if_neg q] at h
      obtain ⟨a1, a2, a3⟩ := ih (c + 1) h
      exact ⟨by omega, by omega, a3⟩
def kaR (y : YS) (m : Nat) (l a : Nat) (r : Nat → Nat × Nat) (z : Int32) : Int32 := match l with
  | 0 => z
  | l + 1 => match fkR y (m - a - 1) r (Yc y) 0 with
    | none => qI 0
    | some c => thX (thR y c (Yg y) 0 r) (qI 0) (fun r' => kaR y m l (a + 1) r' (nI c))
theorem x54 (d : Nat) {h : AH} {b : Nat} {y : YS} (xy : XY h b y) {m i : Nat} (hm : m ≤ 6) (hi : i < m) (p3 p4 p5 : Option Value) : E (d + 12) 54 0 [some (.ref b), some (.int (nI m)), some (.int (nI i)), p3, p4, p5] [] h = some (some (.int (kaR y m (i + 1) 0 (r0 y) (qI 0))), h) := by
  have z0 := xy.1.1
  have ok := xy.2.2
  obtain ⟨⟨o2, o3⟩, o6, on, og, oc⟩ := id ok
  have e74 := fun d => x74 d xy none none
  have lp : ∀ l a M r z, a + l = i + 1 → PM y M r → E (d + 12) 54 7 [some (.ref b), some (.int (nI m)), some (.int (nI i)), some (.int (nI M)), some (.int z), some (.int (nI a))] [] h = some (some (.int (kaR y m l a r z)), h) := by
    intro l
    induction l with
    | zero =>
      intro a M r z ha hM
      have ha' : a = i + 1 := ha
      subst ha'
      rw [s54_7]
      simp (disch := omega) only [s54_8, s54_9, s54_31, s54_32, ↓reduceIte, Option.bind_some, Option.toList_some, Option.toList_none, List.cons_append, List.nil_append, if_true, if_false, true_or, or_true, true_and, and_true, not_true_eq_false, not_false_eq_true, Nat.reduceLT, Nat.reduceLeDiff, Nat.reduceEqDiff, Nat.reduceAdd, Nat.reduceMul, Nat.reduceSub, Nat.reducePow, Nat.reduceMod, Nat.reduceDiv, l0, l1, l2, l3, l4, l5, l6, l7, l8, l9, l10, l11, l12, l13, l14, l15, l16, l20, l31, l32, l36, l40, l48, l57, l59, l63, l64, l97, l99, l100, l101, l122, l127, l128, l250, l255, l262143, l262144, l30000, l100000, l12345, l1024, l4095, nI_eqs, nI_les, nI_lts, qI_eq, qI_eqn, nI_eqq, qI_lts, nI_ltp, nI_lep, qI_les, nI_add, nI_mul, qI_add, qI_s, qI_def, nI_clamps, bI_z, bI_o, bI_01, n01, n11, rf_some, rf_none, m1, m1n, bft, Nat.lt_succ_self]
      rfl
    | succ l ih =>
      intro a M r z ha hM
      have h1' : ¬ i < a := by omega
      have sb : nI m - nI a = nI (m - a) := nI_sub (by omega)
      have sb1 : nI (m - a) - nI 1 = nI (m - a - 1) := nI_sub (by omega)
      have e55 := x55 (d + 6 - (m - a - 1)) xy hM (n := m - a - 1) (by omega) none none
      rw [show d + 6 - (m - a - 1) + (m - a - 1) + 5 = d + 11 by omega] at e55
      have T : kaR y m (l + 1) a r z = match fkR y (m - a - 1) r (Yc y) 0 with
        | none => qI 0
        | some c => thX (thR y c (Yg y) 0 r) (qI 0) (fun r' => kaR y m l (a + 1) r' (nI c)) := rfl
      rw [T, s54_7]
      cases fk : fkR y (m - a - 1) r (Yc y) 0 with
      | none =>
        rw [fk] at e55
        have e55 : _ = some (some (Value.int (qI 0)), h) := e55
        dsimp only
        simp (disch := omega) only [s54_8, s54_9, s54_10, s54_11, s54_12, s54_13, s54_14, s54_15, s54_16, s54_17, s54_18, s54_19, s54_20, s54_21, s54_22, s54_23, ↓reduceIte, Option.bind_some, Option.toList_some, Option.toList_none, List.cons_append, List.nil_append, if_true, if_false, true_or, or_true, true_and, and_true, not_true_eq_false, not_false_eq_true, Nat.reduceLT, Nat.reduceLeDiff, Nat.reduceEqDiff, Nat.reduceAdd, Nat.reduceMul, Nat.reduceSub, Nat.reducePow, Nat.reduceMod, Nat.reduceDiv, l0, l1, l2, l3, l4, l5, l6, l7, l8, l9, l10, l11, l12, l13, l14, l15, l16, l20, l31, l32, l36, l40, l48, l57, l59, l63, l64, l97, l99, l100, l101, l122, l127, l128, l250, l255, l262143, l262144, l30000, l100000, l12345, l1024, l4095, nI_eqs, nI_les, nI_lts, qI_eq, qI_eqn, nI_eqq, qI_lts, nI_ltp, nI_lep, qI_les, nI_add, nI_mul, qI_add, qI_s, qI_def, nI_clamps, bI_z, bI_o, bI_01, n01, n11, rf_some, rf_none, m1, m1n, bft, h1', sb, sb1, e55, eq_self]
      | some c =>
        rw [fk] at e55
        have e55 : _ = some (some (Value.int (nI c)), h) := e55
        obtain ⟨c1, c2, r', th, rp⟩ := fkR_some _ _ fk
        have e56 := x56 (d + 8) xy (show c < Yc y by omega) none none none hM
        rw [th] at e56
        obtain ⟨M', e56, hM'⟩ := e56
        have c0 : ¬ c + 1 = 0 := by omega
        dsimp only
        rw [th]
        show _ = some (some (Value.int (kaR y m l (a + 1) r' (nI c))), h)
        rw [← ih (a + 1) M' r' (nI c) (by omega) hM']
        simp (disch := omega) only [s54_8, s54_9, s54_10, s54_11, s54_12, s54_13, s54_14, s54_15, s54_16, s54_17, s54_18, s54_19, s54_20, s54_21, s54_22, s54_23, s54_24, s54_25, s54_26, s54_27, s54_28, s54_29, s54_30, ↓reduceIte, Option.bind_some, Option.toList_some, Option.toList_none, List.cons_append, List.nil_append, if_true, if_false, true_or, or_true, true_and, and_true, not_true_eq_false, not_false_eq_true, Nat.reduceLT, Nat.reduceLeDiff, Nat.reduceEqDiff, Nat.reduceAdd, Nat.reduceMul, Nat.reduceSub, Nat.reducePow, Nat.reduceMod, Nat.reduceDiv, l0, l1, l2, l3, l4, l5, l6, l7, l8, l9, l10, l11, l12, l13, l14, l15, l16, l20, l31, l32, l36, l40, l48, l57, l59, l63, l64, l97, l99, l100, l101, l122, l127, l128, l250, l255, l262143, l262144, l30000, l100000, l12345, l1024, l4095, nI_eqs, nI_les, nI_lts, qI_eq, qI_eqn, nI_eqq, qI_lts, nI_ltp, nI_lep, qI_les, nI_add, nI_mul, qI_add, qI_s, qI_def, nI_clamps, bI_z, bI_o, bI_01, n01, n11, rf_some, rf_none, m1, m1n, bft, h1', sb, sb1, e55, c0, e56]
  simp (disch := omega) only [s54_0, s54_1, s54_2, s54_3, s54_4, s54_5, s54_6, ↓reduceIte, Option.bind_some, Option.toList_some, Option.toList_none, List.cons_append, List.nil_append, if_true, if_false, true_or, or_true, true_and, and_true, not_true_eq_false, not_false_eq_true, Nat.reduceLT, Nat.reduceLeDiff, Nat.reduceEqDiff, Nat.reduceAdd, Nat.reduceMul, Nat.reduceSub, Nat.reducePow, Nat.reduceMod, Nat.reduceDiv, l0, l1, l2, l3, l4, l5, l6, l7, l8, l9, l10, l11, l12, l13, l14, l15, l16, l20, l31, l32, l36, l40, l48, l57, l59, l63, l64, l97, l99, l100, l101, l122, l127, l128, l250, l255, l262143, l262144, l30000, l100000, l12345, l1024, l4095, nI_eqs, nI_les, nI_lts, qI_eq, qI_eqn, nI_eqq, qI_lts, nI_ltp, nI_lep, qI_les, nI_add, nI_mul, qI_add, qI_s, qI_def, nI_clamps, bI_z, bI_o, bI_01, n01, n11, rf_some, rf_none, m1, m1n, bft, z0, e74]
  exact lp (i + 1) 0 (pkM y) (r0 y) (qI 0) (by omega) (PM_0 ok)
def s_lock (s : GS) (m : Int32) : Int32 × GS := if inR m 7 = true then (nI (rwR (gY s) m.toNatClampNeg (r0 (gY s))), s) else rfS s 2
def s_key (s : GS) (m i : Int32) : Int32 × GS := if inR m 7 = true ∧ inR i m.toNatClampNeg = true then (if rwR (gY s) m.toNatClampNeg (r0 (gY s)) = 0 then rfS s 5 else (kaR (gY s) m.toNatClampNeg (i.toNatClampNeg + 1) 0 (r0 (gY s)) (qI 0), s)) else rfS s 2
theorem c116 (d : Nat) {h : AH} {B : Nat} {s : GS} (hx : DX h B s) (m : Int32) : DC (d + 12) 116 [some (.ref B), some (.int m)] h B (s_lock s m) := by
  obtain ⟨⟨b0, b1, b2, b3, b4, b5, b6, b7⟩, xy, ⟨k0, k1⟩, xh, ⟨t0, t1, t2, t3, t4, t5⟩, rx, qx⟩ := id hx; have e131 := c131e hx; obtain ⟨⟨z0, z1, z2, z3, z4, z5, z6, z7, r1, r2, r3, r4, r5, r6, r7⟩, ⟨vc, vg, vn, vt, vz, vK, vA, vU, vM, vW, vC, vP⟩, ok⟩ := id xy; obtain ⟨⟨o2, o3⟩, o6, on, og, oc⟩ := id ok
  unfold s_lock
  rcases inR_cases m (n := 7) (by decide) with ⟨j, hj, rfl⟩ | ⟨f, f1, f2⟩ | ⟨f, f1, f2, f3, f4, f5⟩
  · have cg := inR_nI (g := j) (n := 7) (by omega) (by decide)
    rw [decide_eq_true hj] at cg
    rw [cg, if_pos rfl, nI_clamp (show j < 2 ^ 31 by omega)]
    have e74 := fun d => x74 d xy none none
    have e53 := x53 (d + 7 - j) xy j (pkM (gY s)) (r0 (gY s)) none none none (PM_0 ok) (by omega)
    rw [show d + 7 - j + j + 4 = d + 11 by omega] at e53
    have g1 : j ≤ 6 := by omega
    refine ⟨h, ?_, hx, Fr0.refl _ _⟩
    simp (disch := omega) only [s116_0, s116_1, s116_2, s116_3, s116_4, s116_9, s116_10, s116_11, s116_12, s116_13, s116_14, s116_15, s116_16, ↓reduceIte, Option.bind_some, Option.toList_some, Option.toList_none, List.cons_append, List.nil_append, if_true, if_false, true_or, or_true, true_and, and_true, not_true_eq_false, not_false_eq_true, Nat.reduceLT, Nat.reduceLeDiff, Nat.reduceEqDiff, Nat.reduceAdd, Nat.reduceMul, Nat.reduceSub, Nat.reducePow, Nat.reduceMod, Nat.reduceDiv, l0, l1, l2, l3, l4, l5, l6, l7, l8, l9, l10, l11, l12, l13, l14, l15, l16, l20, l31, l32, l36, l40, l48, l57, l59, l63, l64, l97, l99, l100, l101, l122, l127, l128, l250, l255, l262143, l262144, l30000, l100000, l12345, l1024, l4095, nI_eqs, nI_les, nI_lts, qI_eq, qI_eqn, nI_eqq, qI_lts, nI_ltp, nI_lep, qI_les, nI_add, nI_mul, qI_add, qI_s, qI_def, nI_clamps, bI_z, bI_o, bI_01, n01, n11, rf_some, rf_none, m1, m1n, bft, b0, b1, z0, g1, Nat.not_lt_zero, e74, e53]
  · rw [f, if_neg (by decide)]
    refine ⟨_, ?_, hx.rf (k := 2) (by decide) (by decide)⟩
    simp (disch := omega) only [s116_0, s116_1, s116_2, s116_3, s116_4, s116_5, s116_6, s116_7, s116_8, ↓reduceIte, Option.bind_some, Option.toList_some, Option.toList_none, List.cons_append, List.nil_append, if_true, if_false, true_or, or_true, true_and, and_true, not_true_eq_false, not_false_eq_true, Nat.reduceLT, Nat.reduceLeDiff, Nat.reduceEqDiff, Nat.reduceAdd, Nat.reduceMul, Nat.reduceSub, Nat.reducePow, Nat.reduceMod, Nat.reduceDiv, l0, l1, l2, l3, l4, l5, l6, l7, l8, l9, l10, l11, l12, l13, l14, l15, l16, l20, l31, l32, l36, l40, l48, l57, l59, l63, l64, l97, l99, l100, l101, l122, l127, l128, l250, l255, l262143, l262144, l30000, l100000, l12345, l1024, l4095, nI_eqs, nI_les, nI_lts, qI_eq, qI_eqn, nI_eqq, qI_lts, nI_ltp, nI_lep, qI_les, nI_add, nI_mul, qI_add, qI_s, qI_def, nI_clamps, bI_z, bI_o, bI_01, n01, n11, rf_some, rf_none, m1, m1n, bft, b0, f1, rN_d, e131]
    rfl
  · rw [f, if_neg (by decide)]
    refine ⟨_, ?_, hx.rf (k := 2) (by decide) (by decide)⟩
    simp (disch := omega) only [s116_0, s116_1, s116_2, s116_3, s116_4, s116_5, s116_6, s116_7, s116_8, ↓reduceIte, Option.bind_some, Option.toList_some, Option.toList_none, List.cons_append, List.nil_append, if_true, if_false, true_or, or_true, true_and, and_true, not_true_eq_false, not_false_eq_true, Nat.reduceLT, Nat.reduceLeDiff, Nat.reduceEqDiff, Nat.reduceAdd, Nat.reduceMul, Nat.reduceSub, Nat.reducePow, Nat.reduceMod, Nat.reduceDiv, l0, l1, l2, l3, l4, l5, l6, l7, l8, l9, l10, l11, l12, l13, l14, l15, l16, l20, l31, l32, l36, l40, l48, l57, l59, l63, l64, l97, l99, l100, l101, l122, l127, l128, l250, l255, l262143, l262144, l30000, l100000, l12345, l1024, l4095, nI_eqs, nI_les, nI_lts, qI_eq, qI_eqn, nI_eqq, qI_lts, nI_ltp, nI_lep, qI_les, nI_add, nI_mul, qI_add, qI_s, qI_def, nI_clamps, bI_z, bI_o, bI_01, n01, n11, rf_some, rf_none, m1, m1n, bft, b0, f1, (f5 6 rfl).1, rN_d, e131]
    rfl
theorem c117 (d : Nat) {h : AH} {B : Nat} {s : GS} (hx : DX h B s) (m i : Int32) : DC (d + 13) 117 [some (.ref B), some (.int m), some (.int i)] h B (s_key s m i) := by
  obtain ⟨⟨b0, b1, b2, b3, b4, b5, b6, b7⟩, xy, ⟨k0, k1⟩, xh, ⟨t0, t1, t2, t3, t4, t5⟩, rx, qx⟩ := id hx; have e131 := c131e hx; obtain ⟨⟨z0, z1, z2, z3, z4, z5, z6, z7, r1, r2, r3, r4, r5, r6, r7⟩, ⟨vc, vg, vn, vt, vz, vK, vA, vU, vM, vW, vC, vP⟩, ok⟩ := id xy; obtain ⟨⟨o2, o3⟩, o6, on, og, oc⟩ := id ok
  unfold s_key
  rcases inR_cases m (n := 7) (by decide) with ⟨j, hj, rfl⟩ | ⟨f, f1, f2⟩ | ⟨f, f1, f2, f3, f4, f5⟩
  · have cg := inR_nI (g := j) (n := 7) (by omega) (by decide)
    rw [decide_eq_true hj] at cg
    rw [cg, nI_clamp (show j < 2 ^ 31 by omega)]
    have g1 : ¬ 6 < j := by omega
    rcases inR_cases i (n := j) (by omega) with ⟨k, hk, rfl⟩ | ⟨f, f1, f2⟩ | ⟨f, f1, f2, f3, f4, f5⟩
    · have ck := inR_nI (g := k) (n := j) (by omega) (by omega)
      rw [decide_eq_true hk] at ck
      rw [ck, if_pos ⟨rfl, rfl⟩, nI_clamp (show k < 2 ^ 31 by omega)]
      have e74 := fun d => x74 d xy none none
      have e53 := x53 (d + 8 - j) xy j (pkM (gY s)) (r0 (gY s)) none none none (PM_0 ok) (by omega)
      rw [show d + 8 - j + j + 4 = d + 12 by omega] at e53
      have rl := rwR_lt o3 (show j ≤ 6 by omega) (r0 (gY s))
      by_cases z : rwR (gY s) j (r0 (gY s)) = 0
      · rw [if_pos z]
        rw [z] at e53
        refine ⟨_, ?_, hx.rf (k := 5) (by decide) (by decide)⟩
        simp (disch := omega) only [s117_0, s117_1, s117_2, s117_3, s117_4, s117_5, s117_6, s117_7, s117_8, s117_9, s117_14, s117_15, s117_16, s117_17, s117_18, s117_19, s117_20, s117_21, s117_22, s117_23, s117_24, s117_25, ↓reduceIte, Option.bind_some, Option.toList_some, Option.toList_none, List.cons_append, List.nil_append, if_true, if_false, true_or, or_true, true_and, and_true, not_true_eq_false, not_false_eq_true, Nat.reduceLT, Nat.reduceLeDiff, Nat.reduceEqDiff, Nat.reduceAdd, Nat.reduceMul, Nat.reduceSub, Nat.reducePow, Nat.reduceMod, Nat.reduceDiv, l0, l1, l2, l3, l4, l5, l6, l7, l8, l9, l10, l11, l12, l13, l14, l15, l16, l20, l31, l32, l36, l40, l48, l57, l59, l63, l64, l97, l99, l100, l101, l122, l127, l128, l250, l255, l262143, l262144, l30000, l100000, l12345, l1024, l4095, nI_eqs, nI_les, nI_lts, qI_eq, qI_eqn, nI_eqq, qI_lts, nI_ltp, nI_lep, qI_les, nI_add, nI_mul, qI_add, qI_s, qI_def, nI_clamps, bI_z, bI_o, bI_01, n01, n11, rf_some, rf_none, m1, m1n, bft, b0, b1, z0, g1, hk, Nat.not_lt_zero, e74, e53, rN_d, e131]
        rfl
      · rw [if_neg z]
        have e54 := fun d => x54 d xy (m := j) (i := k) (by omega) hk none none none
        refine ⟨h, ?_, hx, Fr0.refl _ _⟩
        simp (disch := omega) only [s117_0, s117_1, s117_2, s117_3, s117_4, s117_5, s117_6, s117_7, s117_8, s117_9, s117_14, s117_15, s117_16, s117_17, s117_18, s117_19, s117_20, s117_21, s117_26, s117_27, s117_28, s117_29, s117_30, s117_31, ↓reduceIte, Option.bind_some, Option.toList_some, Option.toList_none, List.cons_append, List.nil_append, if_true, if_false, true_or, or_true, true_and, and_true, not_true_eq_false, not_false_eq_true, Nat.reduceLT, Nat.reduceLeDiff, Nat.reduceEqDiff, Nat.reduceAdd, Nat.reduceMul, Nat.reduceSub, Nat.reducePow, Nat.reduceMod, Nat.reduceDiv, l0, l1, l2, l3, l4, l5, l6, l7, l8, l9, l10, l11, l12, l13, l14, l15, l16, l20, l31, l32, l36, l40, l48, l57, l59, l63, l64, l97, l99, l100, l101, l122, l127, l128, l250, l255, l262143, l262144, l30000, l100000, l12345, l1024, l4095, nI_eqs, nI_les, nI_lts, qI_eq, qI_eqn, nI_eqq, qI_lts, nI_ltp, nI_lep, qI_les, nI_add, nI_mul, qI_add, qI_s, qI_def, nI_clamps, bI_z, bI_o, bI_01, n01, n11, rf_some, rf_none, m1, m1n, bft, b0, b1, z0, g1, hk, Nat.not_lt_zero, e74, e53, z, e54]
    · rw [f, if_neg (fun w => absurd w.2 (by decide))]
      refine ⟨_, ?_, hx.rf (k := 2) (by decide) (by decide)⟩
      simp (disch := omega) only [s117_0, s117_1, s117_2, s117_3, s117_4, s117_5, s117_6, s117_7, s117_8, s117_9, s117_10, s117_11, s117_12, s117_13, ↓reduceIte, Option.bind_some, Option.toList_some, Option.toList_none, List.cons_append, List.nil_append, if_true, if_false, true_or, or_true, true_and, and_true, not_true_eq_false, not_false_eq_true, Nat.reduceLT, Nat.reduceLeDiff, Nat.reduceEqDiff, Nat.reduceAdd, Nat.reduceMul, Nat.reduceSub, Nat.reducePow, Nat.reduceMod, Nat.reduceDiv, l0, l1, l2, l3, l4, l5, l6, l7, l8, l9, l10, l11, l12, l13, l14, l15, l16, l20, l31, l32, l36, l40, l48, l57, l59, l63, l64, l97, l99, l100, l101, l122, l127, l128, l250, l255, l262143, l262144, l30000, l100000, l12345, l1024, l4095, nI_eqs, nI_les, nI_lts, qI_eq, qI_eqn, nI_eqq, qI_lts, nI_ltp, nI_lep, qI_les, nI_add, nI_mul, qI_add, qI_s, qI_def, nI_clamps, bI_z, bI_o, bI_01, n01, n11, rf_some, rf_none, m1, m1n, bft, b0, g1, Nat.not_lt_zero, f1, rN_d, e131]
      rfl
    · rw [f, if_neg (fun w => absurd w.2 (by decide))]
      refine ⟨_, ?_, hx.rf (k := 2) (by decide) (by decide)⟩
      simp (disch := omega) only [s117_0, s117_1, s117_2, s117_3, s117_4, s117_5, s117_6, s117_7, s117_8, s117_9, s117_10, s117_11, s117_12, s117_13, ↓reduceIte, Option.bind_some, Option.toList_some, Option.toList_none, List.cons_append, List.nil_append, if_true, if_false, true_or, or_true, true_and, and_true, not_true_eq_false, not_false_eq_true, Nat.reduceLT, Nat.reduceLeDiff, Nat.reduceEqDiff, Nat.reduceAdd, Nat.reduceMul, Nat.reduceSub, Nat.reducePow, Nat.reduceMod, Nat.reduceDiv, l0, l1, l2, l3, l4, l5, l6, l7, l8, l9, l10, l11, l12, l13, l14, l15, l16, l20, l31, l32, l36, l40, l48, l57, l59, l63, l64, l97, l99, l100, l101, l122, l127, l128, l250, l255, l262143, l262144, l30000, l100000, l12345, l1024, l4095, nI_eqs, nI_les, nI_lts, qI_eq, qI_eqn, nI_eqq, qI_lts, nI_ltp, nI_lep, qI_les, nI_add, nI_mul, qI_add, qI_s, qI_def, nI_clamps, bI_z, bI_o, bI_01, n01, n11, rf_some, rf_none, m1, m1n, bft, b0, g1, Nat.not_lt_zero, f1, f3, rN_d, e131]
      rfl
  · rw [f, if_neg (fun w => absurd w.1 (by decide))]
    refine ⟨_, ?_, hx.rf (k := 2) (by decide) (by decide)⟩
    simp (disch := omega) only [s117_0, s117_1, s117_2, s117_3, s117_4, s117_5, s117_6, s117_7, s117_8, s117_9, s117_10, s117_11, s117_12, s117_13, ↓reduceIte, Option.bind_some, Option.toList_some, Option.toList_none, List.cons_append, List.nil_append, if_true, if_false, true_or, or_true, true_and, and_true, not_true_eq_false, not_false_eq_true, Nat.reduceLT, Nat.reduceLeDiff, Nat.reduceEqDiff, Nat.reduceAdd, Nat.reduceMul, Nat.reduceSub, Nat.reducePow, Nat.reduceMod, Nat.reduceDiv, l0, l1, l2, l3, l4, l5, l6, l7, l8, l9, l10, l11, l12, l13, l14, l15, l16, l20, l31, l32, l36, l40, l48, l57, l59, l63, l64, l97, l99, l100, l101, l122, l127, l128, l250, l255, l262143, l262144, l30000, l100000, l12345, l1024, l4095, nI_eqs, nI_les, nI_lts, qI_eq, qI_eqn, nI_eqq, qI_lts, nI_ltp, nI_lep, qI_les, nI_add, nI_mul, qI_add, qI_s, qI_def, nI_clamps, bI_z, bI_o, bI_01, n01, n11, rf_some, rf_none, m1, m1n, bft, b0, f1, rN_d, e131]
    rfl
  · rw [f, if_neg (fun w => absurd w.1 (by decide))]
    refine ⟨_, ?_, hx.rf (k := 2) (by decide) (by decide)⟩
    simp (disch := omega) only [s117_0, s117_1, s117_2, s117_3, s117_4, s117_5, s117_6, s117_7, s117_8, s117_9, s117_10, s117_11, s117_12, s117_13, ↓reduceIte, Option.bind_some, Option.toList_some, Option.toList_none, List.cons_append, List.nil_append, if_true, if_false, true_or, or_true, true_and, and_true, not_true_eq_false, not_false_eq_true, Nat.reduceLT, Nat.reduceLeDiff, Nat.reduceEqDiff, Nat.reduceAdd, Nat.reduceMul, Nat.reduceSub, Nat.reducePow, Nat.reduceMod, Nat.reduceDiv, l0, l1, l2, l3, l4, l5, l6, l7, l8, l9, l10, l11, l12, l13, l14, l15, l16, l20, l31, l32, l36, l40, l48, l57, l59, l63, l64, l97, l99, l100, l101, l122, l127, l128, l250, l255, l262143, l262144, l30000, l100000, l12345, l1024, l4095, nI_eqs, nI_les, nI_lts, qI_eq, qI_eqn, nI_eqq, qI_lts, nI_ltp, nI_lep, qI_les, nI_add, nI_mul, qI_add, qI_s, qI_def, nI_clamps, bI_z, bI_o, bI_01, n01, n11, rf_some, rf_none, m1, m1n, bft, b0, f1, (f5 6 rfl).2, rN_d, e131]
    rfl
