/-! ROWS OF COLOURS at a gate -/
def lt1 (y : YS) (g : Nat) (p : Nat × Nat) (c : Nat) : Bool := letB (Yc y) (YK y g) (YA y g) p.1 p.2 c
def stp (y : YS) (g : Nat) (p : Nat × Nat) (c : Nat) : Nat × Nat := (memF (lt1 y g p c) (YK y g) p.1 c, memS (lt1 y g p c) (YK y g) p.1 p.2 c)
def pOK (y : YS) (p : Nat × Nat) : Prop := p.1 ≤ Yc y ∧ p.2 ≤ Yc y
theorem stp_ok {y : YS} {g c : Nat} {p : Nat × Nat} (h : pOK y p) (hc : c < Yc y) : pOK y (stp y g p c) := by
  have a := memF_lt (l := lt1 y g p c) (k := YK y g) (F := p.1) (c := c) (n := Yc y + 1) (by have := h.1; omega) (by omega)
  have b := memS_lt (l := lt1 y g p c) (k := YK y g) (F := p.1) (S := p.2) (c := c) (n := Yc y + 1) (by have := h.1; omega) (by have := h.2; omega) (by omega)
  exact ⟨Nat.le_of_lt_succ a, Nat.le_of_lt_succ b⟩
def pk (p : Nat × Nat) : Nat := p.1 + 4 * p.2
def memP (y : YS) (g : Nat) : Nat × Nat := (YF y (YU y g), YM y (YU y g))
theorem memP_ok {y : YS} (ok : YOK y) {g : Nat} (hg : g < Yg y) : pOK y (memP y g) := by
  have u := ok.u hg
  have := ok.2.2.2.1 (YU y g) u
  exact ⟨this.2.2.2.2.1, this.2.2.2.2.2⟩
theorem x75p (d : Nat) {h : AH} {b : Nat} {y : YS} (hx : XY h b y) {g c : Nat} {p : Nat × Nat} (hg : g < Yg y) (hp : pOK y p) (hc : c < Yc y) (p4 p5 : Option Value) : E (d + 1) 75 0 [some (.ref b), some (.int (nI g)), some (.int (nI (pk p))), some (.int (nI c)), p4, p5] [] h = some (some (.int (bI (lt1 y g p c))), h) := by
  have c3 := hx.2.2.1.2
  obtain ⟨p1, p2⟩ := hp
  exact x75 d hx hg (by omega) (by omega) (by omega) p4 p5
theorem x76p (d : Nat) {h : AH} {b : Nat} {y : YS} (hx : XY h b y) {g c : Nat} {p : Nat × Nat} (hg : g < Yg y) (hp : pOK y p) (hc : c < Yc y) (p4 : Option Value) : E (d + 2) 76 0 [some (.ref b), some (.int (nI g)), some (.int (nI (pk p))), some (.int (nI c)), p4] [] h = some (some (.int (nI (pk (stp y g p c)))), h) := by
  have c3 := hx.2.2.1.2
  obtain ⟨p1, p2⟩ := hp
  exact x76 d hx hg (by omega) (by omega) (by omega) p4
theorem x68p (d : Nat) {h : AH} {b : Nat} {y : YS} (hx : XY h b y) {g : Nat} (hg : g < Yg y) : E d 68 0 [some (.ref b), some (.int (nI g))] [] h = some (some (.int (nI (pk (memP y g)))), h) := x68 d hx hg
theorem x3p (d : Nat) (h : AH) {y : YS} {p : Nat × Nat} (hc : Yc y ≤ 3) (hp : pOK y p) : E d 3 0 [some (.int (nI (pk p)))] [] h = some (some (.int (qI p.1)), h) := by
  obtain ⟨p1, p2⟩ := hp
  exact x3 d h (by omega) (by omega)
theorem x4p (d : Nat) (h : AH) {y : YS} {p : Nat × Nat} (hc : Yc y ≤ 3) (hp : pOK y p) : E d 4 0 [some (.int (nI (pk p)))] [] h = some (some (.int (qI p.2)), h) := by
  obtain ⟨p1, p2⟩ := hp
  exact x4 d h (by omega) (by omega)
/-- the yard whose gate's memory is p -/
def wM (y : YS) (g : Nat) (p : Nat × Nat) : YS := sM y (YU y g) p.1 p.2
theorem wM_0 (y : YS) (g : Nat) : wM y g (memP y g) = y := sM_same y (YU y g)
theorem fup_fup {α : Type} (f : Nat → α) (k : Nat) (a b : α) : fup (fup f k a) k b = fup f k b := by
  funext j; unfold fup; split <;> rfl
theorem wM_let (y : YS) (g c : Nat) (p : Nat × Nat) : letY (wM y g p) g c = lt1 y g p c := by
  show letB (Yc y) (YK y g) (YA y g) (fup (YF y) (YU y g) p.1 (YU y g)) (fup (YM y) (YU y g) p.2 (YU y g)) c = _
  rw [fup_s, fup_s]; rfl
theorem wM_rem (y : YS) (g c : Nat) (p : Nat × Nat) : rem (wM y g p) g c = wM y g (stp y g p c) := by
  unfold rem
  rw [wM_let]
  show sM (wM y g p) (YU y g) (memF (lt1 y g p c) (YK y g) (fup (YF y) (YU y g) p.1 (YU y g)) c) (memS (lt1 y g p c) (YK y g) (fup (YF y) (YU y g) p.1 (YU y g)) (fup (YM y) (YU y g) p.2 (YU y g)) c) = _
  rw [fup_s, fup_s]
  show yMk (Yc y) (Yg y) (Yn y) (Yt y) (Yz y) (YK y) (YA y) (YU y) (fup (fup (YF y) (YU y g) p.1) (YU y g) _) (fup (fup (YM y) (YU y g) p.2) (YU y g) _) (YW y) (YC y) (YP y) = _
  rw [fup_fup, fup_fup]; rfl
theorem m183p (d : Nat) {h : AH} {a : Nat} {y : YS} {g c : Nat} {p : Nat × Nat} (hx : MY h a (wM y g p)) (hg : g < Yg y) (hc : c < Yc y) (p3 : Option Value) : ∃ h', E (d + 2) 183 0 [some (.ref a), some (.int (nI g)), some (.int (nI c)), p3] [] h = some (some (.int (bI (lt1 y g p c))), h') ∧ MY h' a (wM y g (stp y g p c)) ∧ FY a h h' := by
  obtain ⟨h', e, q, f⟩ := m183 d hx (g := g) (c := c) hg hc p3
  rw [wM_let] at e
  rw [wM_rem] at q
  exact ⟨h', e, q, f⟩
/-- a colour out of a row -/
def cv (e : Nat → Int64) (i : Nat) : Nat := (e i).toInt.toNat
theorem cv_of {e : Nat → Int64} {i n : Nat} (hn : n < 2 ^ 31) (h : inRL (e i) n = true) : cv e i < n ∧ e i = lN (cv e i) := by
  unfold inRL at h
  rw [Bool.and_eq_true, decide_eq_true_iff, decide_eq_true_iff] at h
  unfold cv
  refine ⟨by omega, Int64.toInt_inj.mp ?_⟩
  rw [lN_toInt (by omega)]; omega
def badC (e : Nat → Int64) (c m i : Nat) : Bool := anyB (fun i => !inRL (e i) c) m i
def crK (sh : Nat → SHT) (y : YS) (q : Bool) (x n : Int32) (most : Nat) : Nat := if strK sh (q && n1B n most) x n = 0 then (if badC (He (sh x.toNatClampNeg)) (Yc y) n.toNatClampNeg 0 = true then 2 else 0) else strK sh (q && n1B n most) x n
theorem crK_lt (sh : Nat → SHT) (y : YS) (q : Bool) (x n : Int32) (most : Nat) : crK sh y q x n most ≤ 6 ∧ (crK sh y q x n most ≠ 0 → 2 ≤ crK sh y q x n most) := by
  unfold crK
  have := strK_lt sh (q && n1B n most) x n
  split
  · split <;> decide
  · exact this
theorem crK_0 {sh : Nat → SHT} {y : YS} {q : Bool} {x n : Int32} {most : Nat} (hm : most ≤ 40) (hs : ∀ k, k < 8 → SOK (sh k)) (h : crK sh y q x n most = 0) : q = true ∧ ∃ k m, k < 8 ∧ x = nI k ∧ Hk (sh k) = 1 ∧ n = nI m ∧ 1 ≤ m ∧ m ≤ most ∧ m ≤ Hn (sh k) ∧ ∀ i, i < m → inRL (He (sh k) i) (Yc y) = true := by
  unfold crK at h
  by_cases a : strK sh (q && n1B n most) x n = 0
  · rw [if_pos a] at h
    obtain ⟨b, k, hk, rfl, w, hn⟩ := strK_0 a
    rw [Bool.and_eq_true] at b
    obtain ⟨m, h1, h2, rfl⟩ := n1B_of (by omega) b.2
    have n40 := (hs k hk).n
    rw [inR_nI (by omega) (by omega), decide_eq_true_iff] at hn
    refine ⟨b.1, k, m, hk, rfl, w, rfl, h1, h2, by omega, ?_⟩
    rw [nI_clamp (show k < 2 ^ 31 by omega), nI_clamp (show m < 2 ^ 31 by omega)] at h
    by_cases c : badC (He (sh k)) (Yc y) m 0 = true
    · rw [if_pos c] at h; cases h
    · intro i hi
      have := anyB_f (Bool.eq_false_iff.mpr c) i (Nat.zero_le _) (by omega)
      simpa using this
  · rw [if_neg a] at h; exact absurd h a
theorem x123 (d : Nat) {h : AH} {B : Nat} {sh : Nat → SHT} {y : YS} (xh : XH h B sh) (xy : XY h (B + 1) y) (b1 : hR h B 0 = some (B + 1)) (q : Bool) (x n : Int32) {most : Nat} (hm : most ≤ 40) (p5 p6 p7 p8 : Option Value) : E (d + 3) 123 0 [some (.ref B), some (.int (bI q)), some (.int x), some (.int n), some (.int (nI most)), p5, p6, p7, p8] [] h = some (some (.int (if crK sh y q x n most = 0 then nI 0 else rN (crK sh y q x n most))), h) := by
  have b0 := xh.1
  have y0 := xy.1.1
  have yc := xy.2.1.1
  have yc3 := xy.2.2.1.2
  have lp : ∀ m i k n' x1 x4 x5 x7 x8, k < 8 → Hk (sh k) = 1 → n' ≤ Hn (sh k) → i + m = n' → E (d + 3) 123 22 [some (.ref B), x1, some (.int (nI k)), some (.int (nI n')), x4, x5, some (.int (nI i)), x7, x8] [] h = some (some (.int (if badC (He (sh k)) (Yc y) m i = true then rN 2 else nI 0)), h) := by
    intro m
    induction m with
    | zero =>
      intro i k n' x1 x4 x5 x7 x8 hk w hn hi
      have n40 := (xh.2.2.2 k hk).2.2.2.n
      have hi' : i = n' := hi
      subst hi'
      rw [s123_22]
      simp (disch := omega) only [s123_0, s123_1, s123_2, s123_3, s123_4, s123_5, s123_6, s123_7, s123_8, s123_9, s123_10, s123_11, s123_12, s123_13, s123_14, s123_15, s123_16, s123_17, s123_18, s123_19, s123_20, s123_21, s123_23, s123_24, s123_25, s123_26, s123_27, s123_28, s123_29, s123_30, s123_31, s123_32, s123_33, s123_34, s123_35, s123_36, s123_37, s123_38, s123_39, s123_40, s123_41, s123_42, s123_43, s123_44, s123_45, s123_46, ↓reduceIte, Option.bind_some, Option.toList_some, Option.toList_none, List.cons_append, List.nil_append, if_true, if_false, true_or, or_true, true_and, and_true, not_true_eq_false, not_false_eq_true, Nat.reduceLT, Nat.reduceLeDiff, Nat.reduceEqDiff, Nat.reduceAdd, Nat.reduceMul, Nat.reduceSub, Nat.reducePow, Nat.reduceMod, Nat.reduceDiv, l0, l1, l2, l3, l4, l5, l6, l7, l8, l9, l10, l11, l12, l13, l14, l15, l16, l20, l31, l32, l36, l40, l48, l57, l59, l63, l64, l97, l99, l100, l101, l122, l127, l128, l250, l255, l262143, l262144, l30000, l100000, l12345, l1024, l4095, nI_eqs, nI_les, nI_lts, qI_eq, qI_eqn, nI_eqq, qI_lts, nI_ltp, nI_lep, qI_les, nI_add, nI_mul, qI_add, qI_s, qI_def, nI_clamps, bI_z, bI_o, bI_01, n01, n11, rf_some, rf_none, m1, m1n, bft, Nat.le_refl]
      rfl
    | succ m ih =>
      intro i k n' x1 x4 x5 x7 x8 hk w hn hi
      have n40 := (xh.2.2.2 k hk).2.2.2.n
      have h1' : ¬ n' ≤ i := by omega
      have e84 := fun d => x84 d xh (nI k) (nI i)
      have el : elN sh (nI k) (nI i) = He (sh k) i := by
        unfold elN
        rw [nI_clamp (show k < 2 ^ 31 by omega), nI_clamp (show i < 2 ^ 31 by omega), inR_nI (by omega) (by decide), inR_nI (by omega) (by omega), decide_eq_true hk, decide_eq_true (show i < Hn (sh k) by omega), if_pos ⟨rfl, w, rfl⟩]
      rw [el] at e84
      have bs : badC (He (sh k)) (Yc y) (m + 1) i = (!inRL (He (sh k) i) (Yc y) || badC (He (sh k)) (Yc y) m (i + 1)) := rfl
      rw [s123_22, bs]
      rcases inRL_cases (He (sh k) i) (n := Yc y) (by omega) with ⟨t, ht, e⟩ | ⟨f0, f1⟩ | ⟨f0, f1, f2⟩
      · rw [e, inRL_lN (by omega), decide_eq_true ht, Bool.not_true, Bool.false_or]
        rw [e] at e84
        simp (disch := omega) only [s123_0, s123_1, s123_2, s123_3, s123_4, s123_5, s123_6, s123_7, s123_8, s123_9, s123_10, s123_11, s123_12, s123_13, s123_14, s123_15, s123_16, s123_17, s123_18, s123_19, s123_20, s123_21, s123_23, s123_24, s123_25, s123_26, s123_27, s123_28, s123_29, s123_30, s123_31, s123_32, s123_33, s123_34, s123_35, s123_36, s123_37, s123_38, s123_39, s123_40, s123_41, s123_42, s123_43, s123_44, s123_45, s123_46, ↓reduceIte, Option.bind_some, Option.toList_some, Option.toList_none, List.cons_append, List.nil_append, if_true, if_false, true_or, or_true, true_and, and_true, not_true_eq_false, not_false_eq_true, Nat.reduceLT, Nat.reduceLeDiff, Nat.reduceEqDiff, Nat.reduceAdd, Nat.reduceMul, Nat.reduceSub, Nat.reducePow, Nat.reduceMod, Nat.reduceDiv, l0, l1, l2, l3, l4, l5, l6, l7, l8, l9, l10, l11, l12, l13, l14, l15, l16, l20, l31, l32, l36, l40, l48, l57, l59, l63, l64, l97, l99, l100, l101, l122, l127, l128, l250, l255, l262143, l262144, l30000, l100000, l12345, l1024, l4095, nI_eqs, nI_les, nI_lts, qI_eq, qI_eqn, nI_eqq, qI_lts, nI_ltp, nI_lep, qI_les, nI_add, nI_mul, qI_add, qI_s, qI_def, nI_clamps, bI_z, bI_o, bI_01, n01, n11, rf_some, rf_none, m1, m1n, bft, j0, j1, j2, j63, lcl, lcg, lce, lcle, lcge, lN_lts, lN_eqs, lN_les, lN_shr1, lN_and1, lN_mul, lN_i, nI_l, h1', b0, b1, y0, yc, e84, ht, Nat.not_lt_zero]
        exact ih _ _ _ _ _ _ _ _ hk w hn (by omega)
      · rw [f0, Bool.not_false, Bool.true_or, if_pos rfl]
        simp (disch := omega) only [s123_0, s123_1, s123_2, s123_3, s123_4, s123_5, s123_6, s123_7, s123_8, s123_9, s123_10, s123_11, s123_12, s123_13, s123_14, s123_15, s123_16, s123_17, s123_18, s123_19, s123_20, s123_21, s123_23, s123_24, s123_25, s123_26, s123_27, s123_28, s123_29, s123_30, s123_31, s123_32, s123_33, s123_34, s123_35, s123_36, s123_37, s123_38, s123_39, s123_40, s123_41, s123_42, s123_43, s123_44, s123_45, s123_46, ↓reduceIte, Option.bind_some, Option.toList_some, Option.toList_none, List.cons_append, List.nil_append, if_true, if_false, true_or, or_true, true_and, and_true, not_true_eq_false, not_false_eq_true, Nat.reduceLT, Nat.reduceLeDiff, Nat.reduceEqDiff, Nat.reduceAdd, Nat.reduceMul, Nat.reduceSub, Nat.reducePow, Nat.reduceMod, Nat.reduceDiv, l0, l1, l2, l3, l4, l5, l6, l7, l8, l9, l10, l11, l12, l13, l14, l15, l16, l20, l31, l32, l36, l40, l48, l57, l59, l63, l64, l97, l99, l100, l101, l122, l127, l128, l250, l255, l262143, l262144, l30000, l100000, l12345, l1024, l4095, nI_eqs, nI_les, nI_lts, qI_eq, qI_eqn, nI_eqq, qI_lts, nI_ltp, nI_lep, qI_les, nI_add, nI_mul, qI_add, qI_s, qI_def, nI_clamps, bI_z, bI_o, bI_01, n01, n11, rf_some, rf_none, m1, m1n, bft, j0, j1, j2, j63, lcl, lcg, lce, lcle, lcge, lN_lts, lN_eqs, lN_les, lN_shr1, lN_and1, lN_mul, lN_i, nI_l, h1', b0, b1, y0, yc, e84, f1, rN_d]
      · rw [f0, Bool.not_false, Bool.true_or, if_pos rfl]
        simp (disch := omega) only [s123_0, s123_1, s123_2, s123_3, s123_4, s123_5, s123_6, s123_7, s123_8, s123_9, s123_10, s123_11, s123_12, s123_13, s123_14, s123_15, s123_16, s123_17, s123_18, s123_19, s123_20, s123_21, s123_23, s123_24, s123_25, s123_26, s123_27, s123_28, s123_29, s123_30, s123_31, s123_32, s123_33, s123_34, s123_35, s123_36, s123_37, s123_38, s123_39, s123_40, s123_41, s123_42, s123_43, s123_44, s123_45, s123_46, ↓reduceIte, Option.bind_some, Option.toList_some, Option.toList_none, List.cons_append, List.nil_append, if_true, if_false, true_or, or_true, true_and, and_true, not_true_eq_false, not_false_eq_true, Nat.reduceLT, Nat.reduceLeDiff, Nat.reduceEqDiff, Nat.reduceAdd, Nat.reduceMul, Nat.reduceSub, Nat.reducePow, Nat.reduceMod, Nat.reduceDiv, l0, l1, l2, l3, l4, l5, l6, l7, l8, l9, l10, l11, l12, l13, l14, l15, l16, l20, l31, l32, l36, l40, l48, l57, l59, l63, l64, l97, l99, l100, l101, l122, l127, l128, l250, l255, l262143, l262144, l30000, l100000, l12345, l1024, l4095, nI_eqs, nI_les, nI_lts, qI_eq, qI_eqn, nI_eqq, qI_lts, nI_ltp, nI_lep, qI_les, nI_add, nI_mul, qI_add, qI_s, qI_def, nI_clamps, bI_z, bI_o, bI_01, n01, n11, rf_some, rf_none, m1, m1n, bft, j0, j1, j2, j63, lcl, lcg, lce, lcle, lcge, lN_lts, lN_eqs, lN_les, lN_shr1, lN_and1, lN_mul, lN_i, nI_l, h1', b0, b1, y0, yc, e84, f1, f2, rN_d]
  have key : ∀ q', (∀ d, E (d + 2) 134 0 [some (.ref B), some (.int (nI q'.toNat)), some (.int x), some (.int n), none] [] h = some (some (.int (if strK sh q' x n = 0 then nI 0 else rN (strK sh q' x n))), h)) := by
    intro q' d
    have := x134 d xh q' x n none
    rw [strR_K] at this
    exact this
  have fin : ∀ q', q' = (q && n1B n most) → (E (d + 3) 123 15 [some (.ref B), some (.int (bI q)), some (.int x), some (.int n), some (.int (nI most)), p5, p6, p7, p8] [.int (if strK sh q' x n = 0 then nI 0 else rN (strK sh q' x n))] h = some (some (.int (if crK sh y q x n most = 0 then nI 0 else rN (crK sh y q x n most))), h)) := by
    intro q' hq
    subst hq
    unfold crK
    have kl := strK_lt sh (q && n1B n most) x n
    by_cases a : strK sh (q && n1B n most) x n = 0
    · rw [if_pos a, if_pos a]
      obtain ⟨bb, k, hk, rfl, w, hn⟩ := strK_0 a
      rw [Bool.and_eq_true] at bb
      obtain ⟨m, h1, h2, rfl⟩ := n1B_of (by omega) bb.2
      have n40 := (xh.2.2.2 k hk).2.2.2.n
      rw [inR_nI (by omega) (by omega), decide_eq_true_iff] at hn
      rw [nI_clamp (show k < 2 ^ 31 by omega), nI_clamp (show m < 2 ^ 31 by omega)]
      have e := lp m 0 k m (some (.int (bI q))) (some (.int (nI most))) (some (.int (nI 0))) p7 p8 hk w (by omega) (by omega)
      simp (disch := omega) only [s123_15, s123_16, s123_17, s123_18, s123_19, s123_20, s123_21, ↓reduceIte, Option.bind_some, Option.toList_some, Option.toList_none, List.cons_append, List.nil_append, if_true, if_false, true_or, or_true, true_and, and_true, not_true_eq_false, not_false_eq_true, Nat.reduceLT, Nat.reduceLeDiff, Nat.reduceEqDiff, Nat.reduceAdd, Nat.reduceMul, Nat.reduceSub, Nat.reducePow, Nat.reduceMod, Nat.reduceDiv, l0, l1, l2, l3, l4, l5, l6, l7, l8, l9, l10, l11, l12, l13, l14, l15, l16, l20, l31, l32, l36, l40, l48, l57, l59, l63, l64, l97, l99, l100, l101, l122, l127, l128, l250, l255, l262143, l262144, l30000, l100000, l12345, l1024, l4095, nI_eqs, nI_les, nI_lts, qI_eq, qI_eqn, nI_eqq, qI_lts, nI_ltp, nI_lep, qI_les, nI_add, nI_mul, qI_add, qI_s, qI_def, nI_clamps, bI_z, bI_o, bI_01, n01, n11, rf_some, rf_none, m1, m1n, bft]
      rw [e]
      split <;> rfl
    · rw [if_neg a, if_neg a]
      have k2 := kl.2 a
      have ne := rN_ne k2 kl.1
      simp (disch := omega) only [s123_15, s123_16, s123_17, s123_18, s123_19, s123_20, s123_21, ↓reduceIte, Option.bind_some, Option.toList_some, Option.toList_none, List.cons_append, List.nil_append, if_true, if_false, true_or, or_true, true_and, and_true, not_true_eq_false, not_false_eq_true, Nat.reduceLT, Nat.reduceLeDiff, Nat.reduceEqDiff, Nat.reduceAdd, Nat.reduceMul, Nat.reduceSub, Nat.reducePow, Nat.reduceMod, Nat.reduceDiv, l0, l1, l2, l3, l4, l5, l6, l7, l8, l9, l10, l11, l12, l13, l14, l15, l16, l20, l31, l32, l36, l40, l48, l57, l59, l63, l64, l97, l99, l100, l101, l122, l127, l128, l250, l255, l262143, l262144, l30000, l100000, l12345, l1024, l4095, nI_eqs, nI_les, nI_lts, qI_eq, qI_eqn, nI_eqq, qI_lts, nI_ltp, nI_lep, qI_les, nI_add, nI_mul, qI_add, qI_s, qI_def, nI_clamps, bI_z, bI_o, bI_01, n01, n11, rf_some, rf_none, m1, m1n, bft, ne, a, if_false]
  cases q
  · have e := key false
    rw [show (false : Bool).toNat = 0 from rfl] at e
    rw [← fin false (by rw [Bool.false_and])]
    simp (disch := omega) only [s123_0, s123_1, s123_2, s123_3, s123_4, s123_5, s123_6, s123_7, s123_8, s123_9, s123_10, s123_11, s123_12, s123_13, s123_14, ↓reduceIte, Option.bind_some, Option.toList_some, Option.toList_none, List.cons_append, List.nil_append, if_true, if_false, true_or, or_true, true_and, and_true, not_true_eq_false, not_false_eq_true, Nat.reduceLT, Nat.reduceLeDiff, Nat.reduceEqDiff, Nat.reduceAdd, Nat.reduceMul, Nat.reduceSub, Nat.reducePow, Nat.reduceMod, Nat.reduceDiv, l0, l1, l2, l3, l4, l5, l6, l7, l8, l9, l10, l11, l12, l13, l14, l15, l16, l20, l31, l32, l36, l40, l48, l57, l59, l63, l64, l97, l99, l100, l101, l122, l127, l128, l250, l255, l262143, l262144, l30000, l100000, l12345, l1024, l4095, nI_eqs, nI_les, nI_lts, qI_eq, qI_eqn, nI_eqq, qI_lts, nI_ltp, nI_lep, qI_les, nI_add, nI_mul, qI_add, qI_s, qI_def, nI_clamps, bI_z, bI_o, bI_01, n01, n11, rf_some, rf_none, m1, m1n, bft, b0, e]
  · have ef := key false
    have et := key true
    rw [show (false : Bool).toNat = 0 from rfl] at ef
    rw [show (true : Bool).toNat = 1 from rfl] at et
    rcases inR_cases n (n := most + 1) (by omega) with ⟨g, hg, rfl⟩ | ⟨f, f1, f2⟩ | ⟨f, f1, f2, f3, f4, f5⟩
    · have nb := n1B_nI (n := g) (m := most) (by omega) (by omega)
      by_cases c : 1 ≤ g
      · rw [decide_eq_true ⟨c, by omega⟩] at nb
        rw [← fin true (by rw [nb]; rfl)]
        have g1 : ¬ g < 1 := by omega
        have g2 : ¬ most < g := by omega
        simp (disch := omega) only [s123_0, s123_1, s123_2, s123_3, s123_4, s123_5, s123_6, s123_7, s123_8, s123_9, s123_10, s123_11, s123_12, s123_13, s123_14, ↓reduceIte, Option.bind_some, Option.toList_some, Option.toList_none, List.cons_append, List.nil_append, if_true, if_false, true_or, or_true, true_and, and_true, not_true_eq_false, not_false_eq_true, Nat.reduceLT, Nat.reduceLeDiff, Nat.reduceEqDiff, Nat.reduceAdd, Nat.reduceMul, Nat.reduceSub, Nat.reducePow, Nat.reduceMod, Nat.reduceDiv, l0, l1, l2, l3, l4, l5, l6, l7, l8, l9, l10, l11, l12, l13, l14, l15, l16, l20, l31, l32, l36, l40, l48, l57, l59, l63, l64, l97, l99, l100, l101, l122, l127, l128, l250, l255, l262143, l262144, l30000, l100000, l12345, l1024, l4095, nI_eqs, nI_les, nI_lts, qI_eq, qI_eqn, nI_eqq, qI_lts, nI_ltp, nI_lep, qI_les, nI_add, nI_mul, qI_add, qI_s, qI_def, nI_clamps, bI_z, bI_o, bI_01, n01, n11, rf_some, rf_none, m1, m1n, bft, b0, et, g1, g2, Bool.true_eq_false]
      · rw [decide_eq_false (fun w => c w.1)] at nb
        rw [← fin false (by rw [nb]; rfl)]
        have g1 : g < 1 := by omega
        simp (disch := omega) only [s123_0, s123_1, s123_2, s123_3, s123_4, s123_5, s123_6, s123_7, s123_8, s123_9, s123_10, s123_11, s123_12, s123_13, s123_14, ↓reduceIte, Option.bind_some, Option.toList_some, Option.toList_none, List.cons_append, List.nil_append, if_true, if_false, true_or, or_true, true_and, and_true, not_true_eq_false, not_false_eq_true, Nat.reduceLT, Nat.reduceLeDiff, Nat.reduceEqDiff, Nat.reduceAdd, Nat.reduceMul, Nat.reduceSub, Nat.reducePow, Nat.reduceMod, Nat.reduceDiv, l0, l1, l2, l3, l4, l5, l6, l7, l8, l9, l10, l11, l12, l13, l14, l15, l16, l20, l31, l32, l36, l40, l48, l57, l59, l63, l64, l97, l99, l100, l101, l122, l127, l128, l250, l255, l262143, l262144, l30000, l100000, l12345, l1024, l4095, nI_eqs, nI_les, nI_lts, qI_eq, qI_eqn, nI_eqq, qI_lts, nI_ltp, nI_lep, qI_les, nI_add, nI_mul, qI_add, qI_s, qI_def, nI_clamps, bI_z, bI_o, bI_01, n01, n11, rf_some, rf_none, m1, m1n, bft, b0, ef, g1, Bool.true_eq_false]
    · have nb : n1B n most = false := by unfold n1B; rw [f, Bool.and_false]
      rw [← fin false (by rw [nb]; rfl)]
      simp (disch := omega) only [s123_0, s123_1, s123_2, s123_3, s123_4, s123_5, s123_6, s123_7, s123_8, s123_9, s123_10, s123_11, s123_12, s123_13, s123_14, ↓reduceIte, Option.bind_some, Option.toList_some, Option.toList_none, List.cons_append, List.nil_append, if_true, if_false, true_or, or_true, true_and, and_true, not_true_eq_false, not_false_eq_true, Nat.reduceLT, Nat.reduceLeDiff, Nat.reduceEqDiff, Nat.reduceAdd, Nat.reduceMul, Nat.reduceSub, Nat.reducePow, Nat.reduceMod, Nat.reduceDiv, l0, l1, l2, l3, l4, l5, l6, l7, l8, l9, l10, l11, l12, l13, l14, l15, l16, l20, l31, l32, l36, l40, l48, l57, l59, l63, l64, l97, l99, l100, l101, l122, l127, l128, l250, l255, l262143, l262144, l30000, l100000, l12345, l1024, l4095, nI_eqs, nI_les, nI_lts, qI_eq, qI_eqn, nI_eqq, qI_lts, nI_ltp, nI_lep, qI_les, nI_add, nI_mul, qI_add, qI_s, qI_def, nI_clamps, bI_z, bI_o, bI_01, n01, n11, rf_some, rf_none, m1, m1n, bft, b0, ef, lt_tr 1 (by decide) f1, Bool.true_eq_false]
    · have nb : n1B n most = false := by unfold n1B; rw [f, Bool.and_false]
      rw [← fin false (by rw [nb]; rfl)]
      have f6 := (f5 most rfl).2
      by_cases c : n < nI 1
      · simp (disch := omega) only [s123_0, s123_1, s123_2, s123_3, s123_4, s123_5, s123_6, s123_7, s123_8, s123_9, s123_10, s123_11, s123_12, s123_13, s123_14, ↓reduceIte, Option.bind_some, Option.toList_some, Option.toList_none, List.cons_append, List.nil_append, if_true, if_false, true_or, or_true, true_and, and_true, not_true_eq_false, not_false_eq_true, Nat.reduceLT, Nat.reduceLeDiff, Nat.reduceEqDiff, Nat.reduceAdd, Nat.reduceMul, Nat.reduceSub, Nat.reducePow, Nat.reduceMod, Nat.reduceDiv, l0, l1, l2, l3, l4, l5, l6, l7, l8, l9, l10, l11, l12, l13, l14, l15, l16, l20, l31, l32, l36, l40, l48, l57, l59, l63, l64, l97, l99, l100, l101, l122, l127, l128, l250, l255, l262143, l262144, l30000, l100000, l12345, l1024, l4095, nI_eqs, nI_les, nI_lts, qI_eq, qI_eqn, nI_eqq, qI_lts, nI_ltp, nI_lep, qI_les, nI_add, nI_mul, qI_add, qI_s, qI_def, nI_clamps, bI_z, bI_o, bI_01, n01, n11, rf_some, rf_none, m1, m1n, bft, b0, ef, c, Bool.true_eq_false]
      · simp (disch := omega) only [s123_0, s123_1, s123_2, s123_3, s123_4, s123_5, s123_6, s123_7, s123_8, s123_9, s123_10, s123_11, s123_12, s123_13, s123_14, ↓reduceIte, Option.bind_some, Option.toList_some, Option.toList_none, List.cons_append, List.nil_append, if_true, if_false, true_or, or_true, true_and, and_true, not_true_eq_false, not_false_eq_true, Nat.reduceLT, Nat.reduceLeDiff, Nat.reduceEqDiff, Nat.reduceAdd, Nat.reduceMul, Nat.reduceSub, Nat.reducePow, Nat.reduceMod, Nat.reduceDiv, l0, l1, l2, l3, l4, l5, l6, l7, l8, l9, l10, l11, l12, l13, l14, l15, l16, l20, l31, l32, l36, l40, l48, l57, l59, l63, l64, l97, l99, l100, l101, l122, l127, l128, l250, l255, l262143, l262144, l30000, l100000, l12345, l1024, l4095, nI_eqs, nI_les, nI_lts, qI_eq, qI_eqn, nI_eqq, qI_lts, nI_ltp, nI_lep, qI_les, nI_add, nI_mul, qI_add, qI_s, qI_def, nI_clamps, bI_z, bI_o, bI_01, n01, n11, rf_some, rf_none, m1, m1n, bft, b0, ef, c, f6, Bool.true_eq_false]
theorem x122 (d : Nat) {h : AH} {B : Nat} {sh : Nat → SHT} (xh : XH h B sh) {k i c : Nat} (hk : k < 8) (w : Hk (sh k) = 1) (hi : i < Hn (sh k)) (hv : He (sh k) i = lN c) : E (d + 2) 122 0 [some (.ref B), some (.int (nI k)), some (.int (nI i))] [] h = some (some (.int (nI c)), h) := by
  have b0 := xh.1
  have n40 := (xh.2.2.2 k hk).2.2.2.n
  have e84 := fun d => x84 d xh (nI k) (nI i)
  have el : elN sh (nI k) (nI i) = He (sh k) i := by
    unfold elN
    rw [nI_clamp (show k < 2 ^ 31 by omega), nI_clamp (show i < 2 ^ 31 by omega), inR_nI (by omega) (by decide), inR_nI (by omega) (by omega), decide_eq_true hk, decide_eq_true hi, if_pos ⟨rfl, w, rfl⟩]
  rw [el, hv] at e84
  simp (disch := omega) only [s122_0, s122_1, s122_2, s122_3, s122_4, s122_5, ↓reduceIte, Option.bind_some, Option.toList_some, Option.toList_none, List.cons_append, List.nil_append, if_true, if_false, true_or, or_true, true_and, and_true, not_true_eq_false, not_false_eq_true, Nat.reduceLT, Nat.reduceLeDiff, Nat.reduceEqDiff, Nat.reduceAdd, Nat.reduceMul, Nat.reduceSub, Nat.reducePow, Nat.reduceMod, Nat.reduceDiv, l0, l1, l2, l3, l4, l5, l6, l7, l8, l9, l10, l11, l12, l13, l14, l15, l16, l20, l31, l32, l36, l40, l48, l57, l59, l63, l64, l97, l99, l100, l101, l122, l127, l128, l250, l255, l262143, l262144, l30000, l100000, l12345, l1024, l4095, nI_eqs, nI_les, nI_lts, qI_eq, qI_eqn, nI_eqq, qI_lts, nI_ltp, nI_lep, qI_les, nI_add, nI_mul, qI_add, qI_s, qI_def, nI_clamps, bI_z, bI_o, bI_01, n01, n11, rf_some, rf_none, m1, m1n, bft, b0, e84, lN_i]
