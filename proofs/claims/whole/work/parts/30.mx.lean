/-! THE REFERENCE'S YARD at a -/
theorem bft (b : Bool) : (b = false ∨ b = true) = True := by cases b <;> decide
theorem lN_toI64 {n : Nat} (h : n < 2 ^ 31) : (lN n).toInt = n := lN_toInt h
def inRL (v : Int64) (n : Nat) : Bool := decide (0 ≤ v.toInt) && decide (v.toInt < n)
theorem inRL_i (x : Int32) {n : Nat} (hn : n < 2 ^ 31) : inRL x.toInt64 n = inR x n := by
  rw [Bool.eq_iff_iff, inR_iff hn]
  unfold inRL
  rw [Bool.and_eq_true, decide_eq_true_iff, decide_eq_true_iff, Int32.toInt_toInt64]
theorem in_q (v : Int64) {n : Nat} (hn : n < 2 ^ 31) : (decide (lN 0 ≤ v) && decide (v ≤ (qI n).toInt64)) = inRL v n := by
  rw [Bool.eq_iff_iff]
  unfold inRL
  rw [Bool.and_eq_true, Bool.and_eq_true, decide_eq_true_iff, decide_eq_true_iff, decide_eq_true_iff, decide_eq_true_iff, Int64.le_iff_toInt_le, Int64.le_iff_toInt_le, Int32.toInt_toInt64, qI_toInt hn, lN_toInt (by decide)]
  constructor <;> intro ⟨q, w⟩ <;> constructor <;> omega
theorem in_l (v : Int64) {n : Nat} (hn : n + 1 < 2 ^ 31) : (decide (lN 0 ≤ v) && decide (v ≤ lN n)) = inRL v (n + 1) := by
  rw [Bool.eq_iff_iff]
  unfold inRL
  rw [Bool.and_eq_true, Bool.and_eq_true, decide_eq_true_iff, decide_eq_true_iff, decide_eq_true_iff, decide_eq_true_iff, Int64.le_iff_toInt_le, Int64.le_iff_toInt_le, lN_toInt (show n < 2 ^ 31 by omega), lN_toInt (by decide)]
  constructor <;> intro ⟨q, w⟩ <;> constructor <;> omega
theorem m137 (d : Nat) (h : AH) (v lo hi : Int64) : E d 137 0 [some (.long v), none, some (.long lo), none, some (.long hi), none] [] h = some (some (.int (bI (decide (lo ≤ v) && decide (v ≤ hi)))), h) := by
  have e1 : (lg_cmp v lo < nI 0) = (v < lo) := propext (lg_cmp_lt v lo)
  have e2 : (nI 0 < lg_cmp v hi) = (hi < v) := propext (lg_cmp_gt v hi)
  simp (disch := omega) only [s137_0, s137_1, s137_2, s137_3, s137_4, s137_5, s137_6, s137_7, s137_8, s137_9, s137_10, s137_11, ↓reduceIte, Option.bind_some, Option.toList_some, Option.toList_none, List.cons_append, List.nil_append, if_true, if_false, true_or, or_true, true_and, and_true, not_true_eq_false, not_false_eq_true, Nat.reduceLT, Nat.reduceLeDiff, Nat.reduceEqDiff, Nat.reduceAdd, Nat.reduceMul, Nat.reduceSub, Nat.reducePow, Nat.reduceMod, Nat.reduceDiv, l0, l1, l2, l3, l4, l5, l6, l7, l8, l9, l10, l11, l12, l13, l14, l15, l16, l20, l31, l32, l36, l40, l48, l57, l59, l63, l64, l97, l99, l100, l101, l122, l127, l128, l250, l255, l262143, l262144, l30000, l100000, l12345, l1024, l4095, nI_eqs, nI_les, nI_lts, qI_eq, qI_eqn, nI_eqq, qI_lts, nI_ltp, nI_lep, qI_les, nI_add, nI_mul, qI_add, qI_s, qI_def, nI_clamps, bI_z, bI_o, bI_01, n01, n11, rf_some, rf_none, m1, m1n, bft, e1, e2]
  by_cases a : v < lo
  · have a' : ¬ lo ≤ v := by rw [Int64.lt_iff_toInt_lt] at a; rw [Int64.le_iff_toInt_le]; omega
    simp [a, a', bI]
  · have a' : lo ≤ v := by rw [Int64.lt_iff_toInt_lt] at a; rw [Int64.le_iff_toInt_le]; omega
    by_cases b : hi < v
    · have b' : ¬ v ≤ hi := by rw [Int64.lt_iff_toInt_lt] at b; rw [Int64.le_iff_toInt_le]; omega
      simp [a, b, b', bI]
    · have b' : v ≤ hi := by rw [Int64.lt_iff_toInt_lt] at b; rw [Int64.le_iff_toInt_le]; omega
      simp [a, a', b, b', bI]
def MS (h : AH) (a : Nat) : Prop := hS h a = some (105, 0) ∧ hS h (a + 17) = some (0, 6) ∧ hS h (a + 18) = some (0, 6) ∧ hS h (a + 19) = some (0, 6) ∧ hS h (a + 20) = some (0, 6) ∧ hS h (a + 21) = some (0, 6) ∧ hS h (a + 22) = some (0, 6) ∧ hS h (a + 23) = some (0, 6) ∧ hS h (a + 24) = some (0, 6) ∧ hR h a 11 = some (a + 17) ∧ hR h a 12 = some (a + 18) ∧ hR h a 13 = some (a + 19) ∧ hR h a 14 = some (a + 20) ∧ hR h a 15 = some (a + 21) ∧ hR h a 16 = some (a + 22) ∧ hR h a 18 = some (a + 23) ∧ hR h a 19 = some (a + 24)
def MV (h : AH) (a : Nat) (y : YS) : Prop := hI h a 9 = nI (Yc y) ∧ hI h a 10 = nI (Yg y) ∧ hI h a 17 = nI (Yn y) ∧ hI h a 20 = Yt y ∧ hI h a 21 = Yz y ∧ (∀ g, g < Yg y → hI h (a + 17) g = nI (YK y g)) ∧ (∀ g, g < Yg y → hI h (a + 18) g = nI (YA y g)) ∧ (∀ g, g < Yg y → hI h (a + 21) g = nI (YU y g)) ∧ (∀ g, g < Yg y → hI h (a + 19) g = qI (YF y g)) ∧ (∀ g, g < Yg y → hI h (a + 20) g = qI (YM y g)) ∧ (∀ g, g < Yg y → hI h (a + 22) g = YW y g) ∧ (∀ k, k < Yn y → hI h (a + 23) k = nI (YC y k)) ∧ (∀ k, k < Yn y → hI h (a + 24) k = nI (YP y k))
def MY (h : AH) (a : Nat) (y : YS) : Prop := MS h a ∧ MV h a y ∧ YOK y
theorem MV.fr {h h' : AH} {a : Nat} {y : YS} (v : MV h a y) (f : ∀ b, a ≤ b → b < a + 25 → ∀ j, hI h' b j = hI h b j) : MV h' a y := by
  obtain ⟨vc, vg, vn, vt, vz, vK, vA, vU, vF, vM, vW, vC, vP⟩ := v
  have e0 := f a (by omega) (by omega)
  have e1 := f (a + 17) (by omega) (by omega)
  have e2 := f (a + 18) (by omega) (by omega)
  have e3 := f (a + 19) (by omega) (by omega)
  have e4 := f (a + 20) (by omega) (by omega)
  have e5 := f (a + 21) (by omega) (by omega)
  have e6 := f (a + 22) (by omega) (by omega)
  have e7 := f (a + 23) (by omega) (by omega)
  have e8 := f (a + 24) (by omega) (by omega)
  refine ⟨?_, ?_, ?_, ?_, ?_, ?_, ?_, ?_, ?_, ?_, ?_, ?_, ?_⟩ <;> simp only [e0, e1, e2, e3, e4, e5, e6, e7, e8] <;> assumption
theorem MY.fr0 {h h' : AH} {a : Nat} {y : YS} {A : Nat → Prop} (v : MY h a y) (f : Fr0 A h h') (n : ∀ b, a ≤ b → b < a + 25 → ¬ A b) : MY h' a y := by
  obtain ⟨s, v, ok⟩ := v
  obtain ⟨a1, a2, a3, a4, a5, a6, a7⟩ := f
  refine ⟨?_, v.fr (fun b h1 h2 j => (a7 b (n b h1 h2) j).1), ok⟩
  unfold MS
  rw [a5, a6]
  exact s
theorem MV.c {h : AH} {a : Nat} {y : YS} (v : MV h a y) (n : Nat) : MV (stI h a 9 (nI n)) a (sc y n) := by
  obtain ⟨vc, vg, vn, vt, vz, vK, vA, vU, vF, vM, vW, vC, vP⟩ := v; refine ⟨?_, ?_, ?_, ?_, ?_, ?_, ?_, ?_, ?_, ?_, ?_, ?_, ?_⟩ <;> simp_all [hI_stI, fup, Yc, Yg, Yn, Yt, Yz, YK, YA, YU, YF, YM, YW, YC, YP, yMk, sc, sg, sn, sT, sZ, sK, sA, sU, sM, sW, sC, sP]
theorem MV.t {h : AH} {a : Nat} {y : YS} (v : MV h a y) (n : Int32) : MV (stI h a 20 n) a (sT y n) := by
  obtain ⟨vc, vg, vn, vt, vz, vK, vA, vU, vF, vM, vW, vC, vP⟩ := v; refine ⟨?_, ?_, ?_, ?_, ?_, ?_, ?_, ?_, ?_, ?_, ?_, ?_, ?_⟩ <;> simp_all [hI_stI, fup, Yc, Yg, Yn, Yt, Yz, YK, YA, YU, YF, YM, YW, YC, YP, yMk, sc, sg, sn, sT, sZ, sK, sA, sU, sM, sW, sC, sP]
theorem MV.z {h : AH} {a : Nat} {y : YS} (v : MV h a y) (n : Int32) : MV (stI h a 21 n) a (sZ y n) := by
  obtain ⟨vc, vg, vn, vt, vz, vK, vA, vU, vF, vM, vW, vC, vP⟩ := v; refine ⟨?_, ?_, ?_, ?_, ?_, ?_, ?_, ?_, ?_, ?_, ?_, ?_, ?_⟩ <;> simp_all [hI_stI, fup, Yc, Yg, Yn, Yt, Yz, YK, YA, YU, YF, YM, YW, YC, YP, yMk, sc, sg, sn, sT, sZ, sK, sA, sU, sM, sW, sC, sP]
theorem MV.K {h : AH} {a : Nat} {y : YS} (v : MV h a y) (g n : Nat) : MV (stI h (a + 17) g (nI n)) a (sK y g n) := by
  obtain ⟨vc, vg, vn, vt, vz, vK, vA, vU, vF, vM, vW, vC, vP⟩ := v; refine ⟨?_, ?_, ?_, ?_, ?_, ?_, ?_, ?_, ?_, ?_, ?_, ?_, ?_⟩ <;> simp_all [hI_stI, fup, Yc, Yg, Yn, Yt, Yz, YK, YA, YU, YF, YM, YW, YC, YP, yMk, sc, sg, sn, sT, sZ, sK, sA, sU, sM, sW, sC, sP] <;> intro g hg <;> split <;> simp_all
theorem MV.A {h : AH} {a : Nat} {y : YS} (v : MV h a y) (g n : Nat) : MV (stI h (a + 18) g (nI n)) a (sA y g n) := by
  obtain ⟨vc, vg, vn, vt, vz, vK, vA, vU, vF, vM, vW, vC, vP⟩ := v; refine ⟨?_, ?_, ?_, ?_, ?_, ?_, ?_, ?_, ?_, ?_, ?_, ?_, ?_⟩ <;> simp_all [hI_stI, fup, Yc, Yg, Yn, Yt, Yz, YK, YA, YU, YF, YM, YW, YC, YP, yMk, sc, sg, sn, sT, sZ, sK, sA, sU, sM, sW, sC, sP] <;> intro g hg <;> split <;> simp_all
theorem MV.U {h : AH} {a : Nat} {y : YS} (v : MV h a y) (g n : Nat) : MV (stI h (a + 21) g (nI n)) a (sU y g n) := by
  obtain ⟨vc, vg, vn, vt, vz, vK, vA, vU, vF, vM, vW, vC, vP⟩ := v; refine ⟨?_, ?_, ?_, ?_, ?_, ?_, ?_, ?_, ?_, ?_, ?_, ?_, ?_⟩ <;> simp_all [hI_stI, fup, Yc, Yg, Yn, Yt, Yz, YK, YA, YU, YF, YM, YW, YC, YP, yMk, sc, sg, sn, sT, sZ, sK, sA, sU, sM, sW, sC, sP] <;> intro g hg <;> split <;> simp_all
theorem MV.M {h : AH} {a : Nat} {y : YS} (v : MV h a y) (g f s : Nat) : MV (stI (stI h (a + 20) g (qI s)) (a + 19) g (qI f)) a (sM y g f s) := by
  obtain ⟨vc, vg, vn, vt, vz, vK, vA, vU, vF, vM, vW, vC, vP⟩ := v; refine ⟨?_, ?_, ?_, ?_, ?_, ?_, ?_, ?_, ?_, ?_, ?_, ?_, ?_⟩ <;> simp_all [hI_stI, fup, Yc, Yg, Yn, Yt, Yz, YK, YA, YU, YF, YM, YW, YC, YP, yMk, sc, sg, sn, sT, sZ, sK, sA, sU, sM, sW, sC, sP] <;> intro g hg <;> split <;> simp_all
theorem MV.W {h : AH} {a : Nat} {y : YS} (v : MV h a y) (g : Nat) (n : Int32) : MV (stI h (a + 22) g n) a (sW y g n) := by
  obtain ⟨vc, vg, vn, vt, vz, vK, vA, vU, vF, vM, vW, vC, vP⟩ := v; refine ⟨?_, ?_, ?_, ?_, ?_, ?_, ?_, ?_, ?_, ?_, ?_, ?_, ?_⟩ <;> simp_all [hI_stI, fup, Yc, Yg, Yn, Yt, Yz, YK, YA, YU, YF, YM, YW, YC, YP, yMk, sc, sg, sn, sT, sZ, sK, sA, sU, sM, sW, sC, sP] <;> intro g hg <;> split <;> simp_all
theorem MV.C {h : AH} {a : Nat} {y : YS} (v : MV h a y) (g n : Nat) : MV (stI h (a + 23) g (nI n)) a (sC y g n) := by
  obtain ⟨vc, vg, vn, vt, vz, vK, vA, vU, vF, vM, vW, vC, vP⟩ := v; refine ⟨?_, ?_, ?_, ?_, ?_, ?_, ?_, ?_, ?_, ?_, ?_, ?_, ?_⟩ <;> simp_all [hI_stI, fup, Yc, Yg, Yn, Yt, Yz, YK, YA, YU, YF, YM, YW, YC, YP, yMk, sc, sg, sn, sT, sZ, sK, sA, sU, sM, sW, sC, sP] <;> intro g hg <;> split <;> simp_all
theorem MV.P {h : AH} {a : Nat} {y : YS} (v : MV h a y) (g n : Nat) : MV (stI h (a + 24) g (nI n)) a (sP y g n) := by
  obtain ⟨vc, vg, vn, vt, vz, vK, vA, vU, vF, vM, vW, vC, vP⟩ := v; refine ⟨?_, ?_, ?_, ?_, ?_, ?_, ?_, ?_, ?_, ?_, ?_, ?_, ?_⟩ <;> simp_all [hI_stI, fup, Yc, Yg, Yn, Yt, Yz, YK, YA, YU, YF, YM, YW, YC, YP, yMk, sc, sg, sn, sT, sZ, sK, sA, sU, sM, sW, sC, sP] <;> intro g hg <;> split <;> simp_all
theorem sM_same (y : YS) (g : Nat) : sM y g (YF y g) (YM y g) = y := by
  have q : ∀ f : Nat → Nat, fup f g (f g) = f := fun f => by funext j; unfold fup; split <;> simp_all
  unfold sM; rw [q, q]; rfl
theorem MV.Ms {h : AH} {a : Nat} {y : YS} (v : MV h a y) (g s : Nat) : MV (stI h (a + 20) g (qI s)) a (sM y g (YF y g) s) := by
  have q : ∀ f : Nat → Nat, fup f g (f g) = f := fun f => by funext j; unfold fup; split <;> simp_all
  unfold sM; rw [q]
  obtain ⟨vc, vg, vn, vt, vz, vK, vA, vU, vF, vM, vW, vC, vP⟩ := v; refine ⟨?_, ?_, ?_, ?_, ?_, ?_, ?_, ?_, ?_, ?_, ?_, ?_, ?_⟩ <;> simp_all [hI_stI, fup, Yc, Yg, Yn, Yt, Yz, YK, YA, YU, YF, YM, YW, YC, YP, yMk, sc, sg, sn, sT, sZ, sK, sA, sU, sM, sW, sC, sP] <;> intro g hg <;> split <;> simp_all
theorem MV.Mf {h : AH} {a : Nat} {y : YS} (v : MV h a y) (g f : Nat) : MV (stI h (a + 19) g (qI f)) a (sM y g f (YM y g)) := by
  have q : ∀ f : Nat → Nat, fup f g (f g) = f := fun f => by funext j; unfold fup; split <;> simp_all
  unfold sM; rw [q]
  obtain ⟨vc, vg, vn, vt, vz, vK, vA, vU, vF, vM, vW, vC, vP⟩ := v; refine ⟨?_, ?_, ?_, ?_, ?_, ?_, ?_, ?_, ?_, ?_, ?_, ?_, ?_⟩ <;> simp_all [hI_stI, fup, Yc, Yg, Yn, Yt, Yz, YK, YA, YU, YF, YM, YW, YC, YP, yMk, sc, sg, sn, sT, sZ, sK, sA, sU, sM, sW, sC, sP] <;> intro g hg <;> split <;> simp_all
theorem m138 (d : Nat) {h : AH} {a : Nat} {y : YS} (hx : MY h a y) (x : Int32) : E (d + 1) 138 0 [some (.ref a), some (.int x)] [] h = some (some (.int (bI (inR x (Yg y)))), h) := by
  obtain ⟨⟨z0, z1, z2, z3, z4, z5, z6, z7, z8, r1, r2, r3, r4, r5, r6, r7, r8⟩, ⟨vc, vg, vn, vt, vz, vK, vA, vU, vF, vM, vW, vC, vP⟩, ok⟩ := hx
  obtain ⟨⟨o2, o3⟩, o6, on, og, oc⟩ := id ok
  rw [← inRL_i x (n := Yg y) (by omega), ← in_q x.toInt64 (n := Yg y) (by omega)]
  simp (disch := omega) only [s138_0, s138_1, s138_2, s138_3, s138_4, s138_5, s138_6, s138_7, s138_8, s138_9, ↓reduceIte, Option.bind_some, Option.toList_some, Option.toList_none, List.cons_append, List.nil_append, if_true, if_false, true_or, or_true, true_and, and_true, not_true_eq_false, not_false_eq_true, Nat.reduceLT, Nat.reduceLeDiff, Nat.reduceEqDiff, Nat.reduceAdd, Nat.reduceMul, Nat.reduceSub, Nat.reducePow, Nat.reduceMod, Nat.reduceDiv, l0, l1, l2, l3, l4, l5, l6, l7, l8, l9, l10, l11, l12, l13, l14, l15, l16, l20, l31, l32, l36, l40, l48, l57, l59, l63, l64, l97, l99, l100, l101, l122, l127, l128, l250, l255, l262143, l262144, l30000, l100000, l12345, l1024, l4095, nI_eqs, nI_les, nI_lts, qI_eq, qI_eqn, nI_eqq, qI_lts, nI_ltp, nI_lep, qI_les, nI_add, nI_mul, qI_add, qI_s, qI_def, nI_clamps, bI_z, bI_o, bI_01, n01, n11, rf_some, rf_none, m1, m1n, bft, j0, z0, r1, r2, r3, r4, r5, r6, r7, r8, vc, vg, vn, vt, vz, gI z1, gI z2, gI z3, gI z4, gI z5, gI z6, gI z7, gI z8, gA z1, gA z2, gA z3, gA z4, gA z5, gA z6, gA z7, gA z8, m137]
theorem m139 (d : Nat) {h : AH} {a : Nat} {y : YS} (hx : MY h a y) (x : Int32) : E (d + 1) 139 0 [some (.ref a), some (.int x)] [] h = some (some (.int (bI (inR x (Yn y)))), h) := by
  obtain ⟨⟨z0, z1, z2, z3, z4, z5, z6, z7, z8, r1, r2, r3, r4, r5, r6, r7, r8⟩, ⟨vc, vg, vn, vt, vz, vK, vA, vU, vF, vM, vW, vC, vP⟩, ok⟩ := hx
  obtain ⟨⟨o2, o3⟩, o6, on, og, oc⟩ := id ok
  rw [← inRL_i x (n := Yn y) (by omega), ← in_q x.toInt64 (n := Yn y) (by omega)]
  simp (disch := omega) only [s139_0, s139_1, s139_2, s139_3, s139_4, s139_5, s139_6, s139_7, s139_8, s139_9, ↓reduceIte, Option.bind_some, Option.toList_some, Option.toList_none, List.cons_append, List.nil_append, if_true, if_false, true_or, or_true, true_and, and_true, not_true_eq_false, not_false_eq_true, Nat.reduceLT, Nat.reduceLeDiff, Nat.reduceEqDiff, Nat.reduceAdd, Nat.reduceMul, Nat.reduceSub, Nat.reducePow, Nat.reduceMod, Nat.reduceDiv, l0, l1, l2, l3, l4, l5, l6, l7, l8, l9, l10, l11, l12, l13, l14, l15, l16, l20, l31, l32, l36, l40, l48, l57, l59, l63, l64, l97, l99, l100, l101, l122, l127, l128, l250, l255, l262143, l262144, l30000, l100000, l12345, l1024, l4095, nI_eqs, nI_les, nI_lts, qI_eq, qI_eqn, nI_eqq, qI_lts, nI_ltp, nI_lep, qI_les, nI_add, nI_mul, qI_add, qI_s, qI_def, nI_clamps, bI_z, bI_o, bI_01, n01, n11, rf_some, rf_none, m1, m1n, bft, j0, z0, r1, r2, r3, r4, r5, r6, r7, r8, vc, vg, vn, vt, vz, gI z1, gI z2, gI z3, gI z4, gI z5, gI z6, gI z7, gI z8, gA z1, gA z2, gA z3, gA z4, gA z5, gA z6, gA z7, gA z8, m137]
theorem m140 (d : Nat) {h : AH} {a : Nat} {y : YS} (hx : MY h a y) (x : Int64) (p : Option Value) : E (d + 1) 140 0 [some (.ref a), some (.long x), p] [] h = some (some (.int (bI (inRL x (Yc y)))), h) := by
  obtain ⟨⟨z0, z1, z2, z3, z4, z5, z6, z7, z8, r1, r2, r3, r4, r5, r6, r7, r8⟩, ⟨vc, vg, vn, vt, vz, vK, vA, vU, vF, vM, vW, vC, vP⟩, ok⟩ := hx
  obtain ⟨⟨o2, o3⟩, o6, on, og, oc⟩ := id ok
  rw [← in_q x (n := Yc y) (by omega)]
  simp (disch := omega) only [s140_0, s140_1, s140_2, s140_3, s140_4, s140_5, s140_6, s140_7, s140_8, ↓reduceIte, Option.bind_some, Option.toList_some, Option.toList_none, List.cons_append, List.nil_append, if_true, if_false, true_or, or_true, true_and, and_true, not_true_eq_false, not_false_eq_true, Nat.reduceLT, Nat.reduceLeDiff, Nat.reduceEqDiff, Nat.reduceAdd, Nat.reduceMul, Nat.reduceSub, Nat.reducePow, Nat.reduceMod, Nat.reduceDiv, l0, l1, l2, l3, l4, l5, l6, l7, l8, l9, l10, l11, l12, l13, l14, l15, l16, l20, l31, l32, l36, l40, l48, l57, l59, l63, l64, l97, l99, l100, l101, l122, l127, l128, l250, l255, l262143, l262144, l30000, l100000, l12345, l1024, l4095, nI_eqs, nI_les, nI_lts, qI_eq, qI_eqn, nI_eqq, qI_lts, nI_ltp, nI_lep, qI_les, nI_add, nI_mul, qI_add, qI_s, qI_def, nI_clamps, bI_z, bI_o, bI_01, n01, n11, rf_some, rf_none, m1, m1n, bft, j0, z0, r1, r2, r3, r4, r5, r6, r7, r8, vc, vg, vn, vt, vz, gI z1, gI z2, gI z3, gI z4, gI z5, gI z6, gI z7, gI z8, gA z1, gA z2, gA z3, gA z4, gA z5, gA z6, gA z7, gA z8, m137]
theorem m141 (d : Nat) {h : AH} {a : Nat} {y : YS} (hx : MY h a y) {k : Nat} (hk : k < Yn y) : E d 141 0 [some (.ref a), some (.int (nI k))] [] h = some (some (.int (bI (decide (Yg y ≤ YP y k)))), h) := by
  obtain ⟨⟨z0, z1, z2, z3, z4, z5, z6, z7, z8, r1, r2, r3, r4, r5, r6, r7, r8⟩, ⟨vc, vg, vn, vt, vz, vK, vA, vU, vF, vM, vW, vC, vP⟩, ok⟩ := hx
  obtain ⟨⟨o2, o3⟩, o6, on, og, oc⟩ := id ok
  have := oc k hk
  simp (disch := omega) only [s141_0, s141_1, s141_2, s141_3, s141_4, s141_5, s141_6, s141_7, s141_8, s141_9, s141_10, ↓reduceIte, Option.bind_some, Option.toList_some, Option.toList_none, List.cons_append, List.nil_append, if_true, if_false, true_or, or_true, true_and, and_true, not_true_eq_false, not_false_eq_true, Nat.reduceLT, Nat.reduceLeDiff, Nat.reduceEqDiff, Nat.reduceAdd, Nat.reduceMul, Nat.reduceSub, Nat.reducePow, Nat.reduceMod, Nat.reduceDiv, l0, l1, l2, l3, l4, l5, l6, l7, l8, l9, l10, l11, l12, l13, l14, l15, l16, l20, l31, l32, l36, l40, l48, l57, l59, l63, l64, l97, l99, l100, l101, l122, l127, l128, l250, l255, l262143, l262144, l30000, l100000, l12345, l1024, l4095, nI_eqs, nI_les, nI_lts, qI_eq, qI_eqn, nI_eqq, qI_lts, nI_ltp, nI_lep, qI_les, nI_add, nI_mul, qI_add, qI_s, qI_def, nI_clamps, bI_z, bI_o, bI_01, n01, n11, rf_some, rf_none, m1, m1n, bft, z0, r1, r2, r3, r4, r5, r6, r7, r8, vc, vg, vn, vt, vz, gI z1, gI z2, gI z3, gI z4, gI z5, gI z6, gI z7, gI z8, gA z1, gA z2, gA z3, gA z4, gA z5, gA z6, gA z7, gA z8, vK, vA, vU, vF, vM, vW, vC, vP]
  by_cases p : YP y k = Yg y
  · simp [p, bI]
  · have : ¬ Yg y ≤ YP y k := by omega
    simp [p, this, bI]
theorem m180 (d : Nat) {h : AH} {a' : Nat} {y : YS} (hx : MY h a' y) {k a F S c : Nat} (hk : k < 6) (ha : a < 10) (hF : F < 4) (hS' : S < 4) (hc : c < 3) : E d 180 0 [some (.ref a'), some (.int (nI k)), some (.int (nI a)), some (.int (qI F)), some (.int (qI S)), some (.int (nI c))] [] h = some (some (.int (bI (letB (Yc y) k a F S c))), h) := by
  obtain ⟨⟨z0, z1, z2, z3, z4, z5, z6, z7, z8, r1, r2, r3, r4, r5, r6, r7, r8⟩, ⟨vc, vg, vn, vt, vz, vK, vA, vU, vF, vM, vW, vC, vP⟩, ok⟩ := hx
  obtain ⟨⟨o2, o3⟩, o6, on, og, oc⟩ := id ok
  have ea := nI_rem (a := a) (b := Yc y) (by omega) (by omega)
  have eb := nI_rem (a := a) (b := 2) (by omega) (by decide)
  have h1 : ¬ Yc y = 0 := by omega
  have hm := Nat.mod_lt a (show Yc y > 0 by omega)
  have hm2 := Nat.mod_lt a (show 2 > 0 by decide)
  rcases k6 hk with e | e | e | e | e | e <;> subst e
  · simp (disch := omega) only [s180_0, s180_1, s180_2, s180_3, s180_4, s180_5, s180_6, s180_7, s180_8, s180_9, s180_10, s180_11, s180_12, s180_13, s180_14, s180_15, s180_16, s180_17, s180_18, s180_19, s180_20, s180_21, s180_22, s180_23, s180_24, s180_25, s180_26, s180_27, s180_28, s180_29, s180_30, s180_31, s180_32, s180_33, s180_34, s180_35, s180_36, s180_37, s180_38, s180_39, s180_40, s180_41, s180_42, s180_43, s180_44, s180_45, s180_46, s180_47, s180_48, s180_49, s180_50, s180_51, s180_52, s180_53, s180_54, ↓reduceIte, Option.bind_some, Option.toList_some, Option.toList_none, List.cons_append, List.nil_append, if_true, if_false, true_or, or_true, true_and, and_true, not_true_eq_false, not_false_eq_true, Nat.reduceLT, Nat.reduceLeDiff, Nat.reduceEqDiff, Nat.reduceAdd, Nat.reduceMul, Nat.reduceSub, Nat.reducePow, Nat.reduceMod, Nat.reduceDiv, l0, l1, l2, l3, l4, l5, l6, l7, l8, l9, l10, l11, l12, l13, l14, l15, l16, l20, l31, l32, l36, l40, l48, l57, l59, l63, l64, l97, l99, l100, l101, l122, l127, l128, l250, l255, l262143, l262144, l30000, l100000, l12345, l1024, l4095, nI_eqs, nI_les, nI_lts, qI_eq, qI_eqn, nI_eqq, qI_lts, nI_ltp, nI_lep, qI_les, nI_add, nI_mul, qI_add, qI_s, qI_def, nI_clamps, bI_z, bI_o, bI_01, n01, n11, rf_some, rf_none, m1, m1n, bft, z0, r1, r2, r3, r4, r5, r6, r7, r8, vc, vg, vn, vt, vz, gI z1, gI z2, gI z3, gI z4, gI z5, gI z6, gI z7, gI z8, gA z1, gA z2, gA z3, gA z4, gA z5, gA z6, gA z7, gA z8, ea, h1, letB]
    by_cases q : c = a % Yc y
    · simp [q, bI]
    · simp [q, bI]
  · simp (disch := omega) only [s180_0, s180_1, s180_2, s180_3, s180_4, s180_5, s180_6, s180_7, s180_8, s180_9, s180_10, s180_11, s180_12, s180_13, s180_14, s180_15, s180_16, s180_17, s180_18, s180_19, s180_20, s180_21, s180_22, s180_23, s180_24, s180_25, s180_26, s180_27, s180_28, s180_29, s180_30, s180_31, s180_32, s180_33, s180_34, s180_35, s180_36, s180_37, s180_38, s180_39, s180_40, s180_41, s180_42, s180_43, s180_44, s180_45, s180_46, s180_47, s180_48, s180_49, s180_50, s180_51, s180_52, s180_53, s180_54, ↓reduceIte, Option.bind_some, Option.toList_some, Option.toList_none, List.cons_append, List.nil_append, if_true, if_false, true_or, or_true, true_and, and_true, not_true_eq_false, not_false_eq_true, Nat.reduceLT, Nat.reduceLeDiff, Nat.reduceEqDiff, Nat.reduceAdd, Nat.reduceMul, Nat.reduceSub, Nat.reducePow, Nat.reduceMod, Nat.reduceDiv, l0, l1, l2, l3, l4, l5, l6, l7, l8, l9, l10, l11, l12, l13, l14, l15, l16, l20, l31, l32, l36, l40, l48, l57, l59, l63, l64, l97, l99, l100, l101, l122, l127, l128, l250, l255, l262143, l262144, l30000, l100000, l12345, l1024, l4095, nI_eqs, nI_les, nI_lts, qI_eq, qI_eqn, nI_eqq, qI_lts, nI_ltp, nI_lep, qI_les, nI_add, nI_mul, qI_add, qI_s, qI_def, nI_clamps, bI_z, bI_o, bI_01, n01, n11, rf_some, rf_none, m1, m1n, bft, z0, r1, r2, r3, r4, r5, r6, r7, r8, vc, vg, vn, vt, vz, gI z1, gI z2, gI z3, gI z4, gI z5, gI z6, gI z7, gI z8, gA z1, gA z2, gA z3, gA z4, gA z5, gA z6, gA z7, gA z8, letB]
    by_cases q : c + 1 = F
    · simp [q, bI]
    · simp [q, bI]
  · simp (disch := omega) only [s180_0, s180_1, s180_2, s180_3, s180_4, s180_5, s180_6, s180_7, s180_8, s180_9, s180_10, s180_11, s180_12, s180_13, s180_14, s180_15, s180_16, s180_17, s180_18, s180_19, s180_20, s180_21, s180_22, s180_23, s180_24, s180_25, s180_26, s180_27, s180_28, s180_29, s180_30, s180_31, s180_32, s180_33, s180_34, s180_35, s180_36, s180_37, s180_38, s180_39, s180_40, s180_41, s180_42, s180_43, s180_44, s180_45, s180_46, s180_47, s180_48, s180_49, s180_50, s180_51, s180_52, s180_53, s180_54, ↓reduceIte, Option.bind_some, Option.toList_some, Option.toList_none, List.cons_append, List.nil_append, if_true, if_false, true_or, or_true, true_and, and_true, not_true_eq_false, not_false_eq_true, Nat.reduceLT, Nat.reduceLeDiff, Nat.reduceEqDiff, Nat.reduceAdd, Nat.reduceMul, Nat.reduceSub, Nat.reducePow, Nat.reduceMod, Nat.reduceDiv, l0, l1, l2, l3, l4, l5, l6, l7, l8, l9, l10, l11, l12, l13, l14, l15, l16, l20, l31, l32, l36, l40, l48, l57, l59, l63, l64, l97, l99, l100, l101, l122, l127, l128, l250, l255, l262143, l262144, l30000, l100000, l12345, l1024, l4095, nI_eqs, nI_les, nI_lts, qI_eq, qI_eqn, nI_eqq, qI_lts, nI_ltp, nI_lep, qI_les, nI_add, nI_mul, qI_add, qI_s, qI_def, nI_clamps, bI_z, bI_o, bI_01, n01, n11, rf_some, rf_none, m1, m1n, bft, z0, r1, r2, r3, r4, r5, r6, r7, r8, vc, vg, vn, vt, vz, gI z1, gI z2, gI z3, gI z4, gI z5, gI z6, gI z7, gI z8, gA z1, gA z2, gA z3, gA z4, gA z5, gA z6, gA z7, gA z8, letB]
    by_cases q : c + 1 = F
    · simp [q, bI]
    · by_cases q' : c + 1 = S
      · simp [q', bI]
      · simp [q, q', bI]
  · simp (disch := omega) only [s180_0, s180_1, s180_2, s180_3, s180_4, s180_5, s180_6, s180_7, s180_8, s180_9, s180_10, s180_11, s180_12, s180_13, s180_14, s180_15, s180_16, s180_17, s180_18, s180_19, s180_20, s180_21, s180_22, s180_23, s180_24, s180_25, s180_26, s180_27, s180_28, s180_29, s180_30, s180_31, s180_32, s180_33, s180_34, s180_35, s180_36, s180_37, s180_38, s180_39, s180_40, s180_41, s180_42, s180_43, s180_44, s180_45, s180_46, s180_47, s180_48, s180_49, s180_50, s180_51, s180_52, s180_53, s180_54, ↓reduceIte, Option.bind_some, Option.toList_some, Option.toList_none, List.cons_append, List.nil_append, if_true, if_false, true_or, or_true, true_and, and_true, not_true_eq_false, not_false_eq_true, Nat.reduceLT, Nat.reduceLeDiff, Nat.reduceEqDiff, Nat.reduceAdd, Nat.reduceMul, Nat.reduceSub, Nat.reducePow, Nat.reduceMod, Nat.reduceDiv, l0, l1, l2, l3, l4, l5, l6, l7, l8, l9, l10, l11, l12, l13, l14, l15, l16, l20, l31, l32, l36, l40, l48, l57, l59, l63, l64, l97, l99, l100, l101, l122, l127, l128, l250, l255, l262143, l262144, l30000, l100000, l12345, l1024, l4095, nI_eqs, nI_les, nI_lts, qI_eq, qI_eqn, nI_eqq, qI_lts, nI_ltp, nI_lep, qI_les, nI_add, nI_mul, qI_add, qI_s, qI_def, nI_clamps, bI_z, bI_o, bI_01, n01, n11, rf_some, rf_none, m1, m1n, bft, z0, r1, r2, r3, r4, r5, r6, r7, r8, vc, vg, vn, vt, vz, gI z1, gI z2, gI z3, gI z4, gI z5, gI z6, gI z7, gI z8, gA z1, gA z2, gA z3, gA z4, gA z5, gA z6, gA z7, gA z8, letB]
    by_cases q : c + 1 = S
    · simp [q, bI]
    · simp [q, bI]
  · simp (disch := omega) only [s180_0, s180_1, s180_2, s180_3, s180_4, s180_5, s180_6, s180_7, s180_8, s180_9, s180_10, s180_11, s180_12, s180_13, s180_14, s180_15, s180_16, s180_17, s180_18, s180_19, s180_20, s180_21, s180_22, s180_23, s180_24, s180_25, s180_26, s180_27, s180_28, s180_29, s180_30, s180_31, s180_32, s180_33, s180_34, s180_35, s180_36, s180_37, s180_38, s180_39, s180_40, s180_41, s180_42, s180_43, s180_44, s180_45, s180_46, s180_47, s180_48, s180_49, s180_50, s180_51, s180_52, s180_53, s180_54, ↓reduceIte, Option.bind_some, Option.toList_some, Option.toList_none, List.cons_append, List.nil_append, if_true, if_false, true_or, or_true, true_and, and_true, not_true_eq_false, not_false_eq_true, Nat.reduceLT, Nat.reduceLeDiff, Nat.reduceEqDiff, Nat.reduceAdd, Nat.reduceMul, Nat.reduceSub, Nat.reducePow, Nat.reduceMod, Nat.reduceDiv, l0, l1, l2, l3, l4, l5, l6, l7, l8, l9, l10, l11, l12, l13, l14, l15, l16, l20, l31, l32, l36, l40, l48, l57, l59, l63, l64, l97, l99, l100, l101, l122, l127, l128, l250, l255, l262143, l262144, l30000, l100000, l12345, l1024, l4095, nI_eqs, nI_les, nI_lts, qI_eq, qI_eqn, nI_eqq, qI_lts, nI_ltp, nI_lep, qI_les, nI_add, nI_mul, qI_add, qI_s, qI_def, nI_clamps, bI_z, bI_o, bI_01, n01, n11, rf_some, rf_none, m1, m1n, bft, z0, r1, r2, r3, r4, r5, r6, r7, r8, vc, vg, vn, vt, vz, gI z1, gI z2, gI z3, gI z4, gI z5, gI z6, gI z7, gI z8, gA z1, gA z2, gA z3, gA z4, gA z5, gA z6, gA z7, gA z8, letB]
    by_cases q : c + 1 = F
    · subst q
      by_cases q' : c + 1 = S
      · simp [q', bI]
      · simp [q', bI]
    · simp [q, bI]
  · simp (disch := omega) only [s180_0, s180_1, s180_2, s180_3, s180_4, s180_5, s180_6, s180_7, s180_8, s180_9, s180_10, s180_11, s180_12, s180_13, s180_14, s180_15, s180_16, s180_17, s180_18, s180_19, s180_20, s180_21, s180_22, s180_23, s180_24, s180_25, s180_26, s180_27, s180_28, s180_29, s180_30, s180_31, s180_32, s180_33, s180_34, s180_35, s180_36, s180_37, s180_38, s180_39, s180_40, s180_41, s180_42, s180_43, s180_44, s180_45, s180_46, s180_47, s180_48, s180_49, s180_50, s180_51, s180_52, s180_53, s180_54, ↓reduceIte, Option.bind_some, Option.toList_some, Option.toList_none, List.cons_append, List.nil_append, if_true, if_false, true_or, or_true, true_and, and_true, not_true_eq_false, not_false_eq_true, Nat.reduceLT, Nat.reduceLeDiff, Nat.reduceEqDiff, Nat.reduceAdd, Nat.reduceMul, Nat.reduceSub, Nat.reducePow, Nat.reduceMod, Nat.reduceDiv, l0, l1, l2, l3, l4, l5, l6, l7, l8, l9, l10, l11, l12, l13, l14, l15, l16, l20, l31, l32, l36, l40, l48, l57, l59, l63, l64, l97, l99, l100, l101, l122, l127, l128, l250, l255, l262143, l262144, l30000, l100000, l12345, l1024, l4095, nI_eqs, nI_les, nI_lts, qI_eq, qI_eqn, nI_eqq, qI_lts, nI_ltp, nI_lep, qI_les, nI_add, nI_mul, qI_add, qI_s, qI_def, nI_clamps, bI_z, bI_o, bI_01, n01, n11, rf_some, rf_none, m1, m1n, bft, z0, r1, r2, r3, r4, r5, r6, r7, r8, vc, vg, vn, vt, vz, gI z1, gI z2, gI z3, gI z4, gI z5, gI z6, gI z7, gI z8, gA z1, gA z2, gA z3, gA z4, gA z5, gA z6, gA z7, gA z8, eb, letB]
    by_cases q : a % 2 = 1
    · simp [q, bI]
    · simp [q, bI]
theorem m181 (d : Nat) {h : AH} {a : Nat} {y : YS} (hx : MY h a y) {g c : Nat} (hg : g < Yg y) (hc : c < Yc y) : E (d + 1) 181 0 [some (.ref a), some (.int (nI g)), some (.int (nI c))] [] h = some (some (.int (bI (letY y g c))), h) := by
  have u := hx.2.2.u hg
  have e180 := fun (k a F S : Nat) (hk : k < 6) (ha : a < 10) (hF : F < 4) (hS' : S < 4) => m180 d hx (c := c) hk ha hF hS' (by have := hx.2.2.1.2; omega)
  obtain ⟨⟨z0, z1, z2, z3, z4, z5, z6, z7, z8, r1, r2, r3, r4, r5, r6, r7, r8⟩, ⟨vc, vg, vn, vt, vz, vK, vA, vU, vF, vM, vW, vC, vP⟩, ok⟩ := hx
  obtain ⟨⟨o2, o3⟩, o6, on, og, oc⟩ := id ok
  have t1 := og g hg
  have t2 := og (YU y g) u
  simp (disch := omega) only [s181_0, s181_1, s181_2, s181_3, s181_4, s181_5, s181_6, s181_7, s181_8, s181_9, s181_10, s181_11, s181_12, s181_13, s181_14, s181_15, s181_16, s181_17, s181_18, s181_19, s181_20, s181_21, s181_22, s181_23, s181_24, s181_25, ↓reduceIte, Option.bind_some, Option.toList_some, Option.toList_none, List.cons_append, List.nil_append, if_true, if_false, true_or, or_true, true_and, and_true, not_true_eq_false, not_false_eq_true, Nat.reduceLT, Nat.reduceLeDiff, Nat.reduceEqDiff, Nat.reduceAdd, Nat.reduceMul, Nat.reduceSub, Nat.reducePow, Nat.reduceMod, Nat.reduceDiv, l0, l1, l2, l3, l4, l5, l6, l7, l8, l9, l10, l11, l12, l13, l14, l15, l16, l20, l31, l32, l36, l40, l48, l57, l59, l63, l64, l97, l99, l100, l101, l122, l127, l128, l250, l255, l262143, l262144, l30000, l100000, l12345, l1024, l4095, nI_eqs, nI_les, nI_lts, qI_eq, qI_eqn, nI_eqq, qI_lts, nI_ltp, nI_lep, qI_les, nI_add, nI_mul, qI_add, qI_s, qI_def, nI_clamps, bI_z, bI_o, bI_01, n01, n11, rf_some, rf_none, m1, m1n, bft, z0, r1, r2, r3, r4, r5, r6, r7, r8, vc, vg, vn, vt, vz, gI z1, gI z2, gI z3, gI z4, gI z5, gI z6, gI z7, gI z8, gA z1, gA z2, gA z3, gA z4, gA z5, gA z6, gA z7, gA z8, vK, vA, vU, vF, vM, vW, vC, vP, e180, letY]
