/-! SEARCHES of the developers: the run, its loops -/
def RZ (y : YS) (h0 h : AH) (B lh0 e0 s0 : Nat) : Prop := ∃ c S P C, QL h0 h B lh0 e0 c S P C ∧ 0 < c ∧ S 0 = s0 ∧ ∀ D, dsT (Yn y) (stN y) (glN y) s0 = some D → hI h (B + 28) 4 = nI D ∧ ∃ G, hI h (B + 28) 3 = nI G ∧ G < c ∧ D ≤ G ∧ (∀ t, t < D → 0 < anc P t G) ∧ (∀ t, anc P t G ≤ G) ∧ ∀ m, m < D → C (anc P (D - 1 - m) G) = wyT (Yn y) (stN y) (glN y) D s0 m
/-- what holds while it runs -/
def RI (y : YS) (h0 h : AH) (B lh0 e0 s0 c i k : Nat) (S P C : Nat → Nat) : Prop := QL h0 h B lh0 e0 c S P C ∧ BI (Yn y) (stN y) s0 c i k S P C ∧ (∀ j, j < c → VN y (S j)) ∧ XY h (B + 1) y
theorem x11i (d : Nat) {h0 : AH} {B lh0 e0 s0 : Nat} {y : YS} (h3 : Yg y ≤ 3) (n3 : Yn y ≤ 3) (xy0 : XY h0 (B + 1) y) (hl0 : lh0 = B + 30 ∨ B + 48 ≤ lh0) (hB : B + 48 ≤ hN h0) (gv : Int32) {i s : Nat} : ∀ m k h c S P C, k + m = Yn y → RI y h0 h B lh0 e0 s0 c i k S P C → i < c → S i = s → (∀ j, j < i + 1 → glN y (S j) = false) → ∃ h' c' S' P' C', E (d + 4) 11 56 [some (.ref (B + 28)), some (.ref (B + 1)), some (.int (nI s0)), some (.int gv), some (.int (nI i)), some (.int (nI s)), some (.int (nI k))] [] h = E (d + 4) 11 28 [some (.ref (B + 28)), some (.ref (B + 1)), some (.int (nI s0)), some (.int gv), some (.int (nI (i + 1))), some (.int (nI s)), some (.int (nI (Yn y)))] [] h' ∧ RI y h0 h' B lh0 e0 s0 c' (i + 1) 0 S' P' C' ∧ (∀ j, j < i + 1 → glN y (S' j) = false) := by
  intro m
  have ok := xy0.2.2
  induction m with
  | zero =>
    intro k h c S P C hk r hi hs ng
    have hk' : k = Yn y := hk
    subst hk'
    obtain ⟨q, b, v, xy⟩ := r
    refine ⟨h, c, S, P, C, ?_, ⟨q, b.next hi, v, xy⟩, ng⟩
    obtain ⟨⟨z0, -⟩, ⟨-, vg, vn, -⟩, -⟩ := xy
    rw [s11_56]
    simp (disch := omega) only [s11_57, s11_58, s11_59, s11_70, s11_71, ↓reduceIte, Option.bind_some, Option.toList_some, Option.toList_none, List.cons_append, List.nil_append, if_true, if_false, true_or, or_true, true_and, and_true, not_true_eq_false, not_false_eq_true, Nat.reduceLT, Nat.reduceLeDiff, Nat.reduceEqDiff, Nat.reduceAdd, Nat.reduceMul, Nat.reduceSub, Nat.reducePow, Nat.reduceMod, Nat.reduceDiv, l0, l1, l2, l3, l4, l5, l6, l7, l8, l9, l10, l11, l12, l13, l14, l15, l16, l20, l31, l32, l36, l40, l48, l57, l59, l63, l64, l97, l99, l100, l101, l122, l127, l128, l250, l255, l262143, l262144, l30000, l100000, l12345, l1024, l4095, nI_eqs, nI_les, nI_lts, qI_eq, qI_eqn, nI_eqq, qI_lts, nI_ltp, nI_lep, qI_les, nI_add, nI_mul, qI_add, qI_s, qI_def, nI_clamps, bI_z, bI_o, bI_01, n01, n11, rf_some, rf_none, m1, m1n, bft, z0, vn, Nat.le_refl]
  | succ m ih =>
    intro k h c S P C hk r hi hs ng
    obtain ⟨q, b, v, xy⟩ := r
    have kl : ¬ Yn y ≤ k := by omega
    have vi := v i hi
    rw [hs] at vi
    have e12 := fun d => x12 d xy h3 n3 vi (k := k) (by omega) none none none none
    have v2 := vi.st' ok h3 n3 (k := k) (by omega)
    obtain ⟨c1, c2, c3, c4⟩ := q.c
    have ic := c4 i hi
    have i18 : i < 262144 := by omega
    have xy' := xy
    obtain ⟨⟨z0, -⟩, ⟨-, vg, vn, -⟩, -⟩ := xy
    rcases Classical.em (∃ j, j < c ∧ S j = stN y s k) with o | o
    · have e14 := fun d => x14o d q v2.1 o (some (.int (nI i))) (some (.int (nI k))) none none none
      have st : E (d + 4) 11 56 [some (.ref (B + 28)), some (.ref (B + 1)), some (.int (nI s0)), some (.int gv), some (.int (nI i)), some (.int (nI s)), some (.int (nI k))] [] h = E (d + 4) 11 56 [some (.ref (B + 28)), some (.ref (B + 1)), some (.int (nI s0)), some (.int gv), some (.int (nI i)), some (.int (nI s)), some (.int (nI (k + 1)))] [] h := by
        rw [s11_56]
        simp (disch := omega) only [s11_57, s11_58, s11_59, s11_60, s11_61, s11_62, s11_63, s11_64, s11_65, s11_66, s11_67, s11_68, s11_69, ↓reduceIte, Option.bind_some, Option.toList_some, Option.toList_none, List.cons_append, List.nil_append, if_true, if_false, true_or, or_true, true_and, and_true, not_true_eq_false, not_false_eq_true, Nat.reduceLT, Nat.reduceLeDiff, Nat.reduceEqDiff, Nat.reduceAdd, Nat.reduceMul, Nat.reduceSub, Nat.reducePow, Nat.reduceMod, Nat.reduceDiv, l0, l1, l2, l3, l4, l5, l6, l7, l8, l9, l10, l11, l12, l13, l14, l15, l16, l20, l31, l32, l36, l40, l48, l57, l59, l63, l64, l97, l99, l100, l101, l122, l127, l128, l250, l255, l262143, l262144, l30000, l100000, l12345, l1024, l4095, nI_eqs, nI_les, nI_lts, qI_eq, qI_eqn, nI_eqq, qI_lts, nI_ltp, nI_lep, qI_les, nI_add, nI_mul, qI_add, qI_s, qI_def, nI_clamps, bI_z, bI_o, bI_01, n01, n11, rf_some, rf_none, m1, m1n, bft, z0, vn, c1, kl, e12, e14]
      rw [st]
      obtain ⟨j, j1, j2⟩ := o
      exact ih (k + 1) h c S P C (by omega) ⟨q, b.old (by omega) j1 (by rw [hs]; exact j2), v, xy'⟩ hi hs ng
    · have o' : ∀ j, j < c → S j ≠ stN y s k := fun j hj e => o ⟨j, hj, e⟩
      have bn := b.new hi (show k < Yn y by omega) (by rw [hs]; exact o')
      rw [hs] at bn
      have cl : c < 262144 := by
        have := pig 262144 (c + 1) _ bn.2.2.2.1 (fun a ha => by
          by_cases e : a = c
          · rw [e, fup_s]; exact v2.1
          · rw [fup_n _ _ e]; exact c4 a (by omega))
        omega
      obtain ⟨h', e14, q'⟩ := x14n (d + 2) q (s := stN y s k) (p := i) (k := k) v2.1 i18 (by omega) o' cl hB none none none
      have st : E (d + 4) 11 56 [some (.ref (B + 28)), some (.ref (B + 1)), some (.int (nI s0)), some (.int gv), some (.int (nI i)), some (.int (nI s)), some (.int (nI k))] [] h = E (d + 4) 11 56 [some (.ref (B + 28)), some (.ref (B + 1)), some (.int (nI s0)), some (.int gv), some (.int (nI i)), some (.int (nI s)), some (.int (nI (k + 1)))] [] h' := by
        rw [s11_56]
        simp (disch := omega) only [s11_57, s11_58, s11_59, s11_60, s11_61, s11_62, s11_63, s11_64, s11_65, s11_66, s11_67, s11_68, s11_69, ↓reduceIte, Option.bind_some, Option.toList_some, Option.toList_none, List.cons_append, List.nil_append, if_true, if_false, true_or, or_true, true_and, and_true, not_true_eq_false, not_false_eq_true, Nat.reduceLT, Nat.reduceLeDiff, Nat.reduceEqDiff, Nat.reduceAdd, Nat.reduceMul, Nat.reduceSub, Nat.reducePow, Nat.reduceMod, Nat.reduceDiv, l0, l1, l2, l3, l4, l5, l6, l7, l8, l9, l10, l11, l12, l13, l14, l15, l16, l20, l31, l32, l36, l40, l48, l57, l59, l63, l64, l97, l99, l100, l101, l122, l127, l128, l250, l255, l262143, l262144, l30000, l100000, l12345, l1024, l4095, nI_eqs, nI_les, nI_lts, qI_eq, qI_eqn, nI_eqq, qI_lts, nI_ltp, nI_lep, qI_les, nI_add, nI_mul, qI_add, qI_s, qI_def, nI_clamps, bI_z, bI_o, bI_01, n01, n11, rf_some, rf_none, m1, m1n, bft, z0, vn, c1, kl, e12, e14]
      rw [st]
      refine ih (k + 1) h' (c + 1) _ _ _ (by omega) ⟨q', bn, fun j hj => ?_, q'.xy hl0 hB xy0⟩ (by omega) ?_ (fun j hj => ?_)
      · by_cases e : j = c
        · rw [e, fup_s]; exact v2
        · rw [fup_n _ _ e]; exact v j (by omega)
      · rw [fup_n _ _ (by omega)]; exact hs
      · rw [fup_n _ _ (by omega)]; exact ng j hj
theorem x11o (d : Nat) {h0 : AH} {B lh0 e0 s0 : Nat} {y : YS} (h3 : Yg y ≤ 3) (n3 : Yn y ≤ 3) (xy0 : XY h0 (B + 1) y) (hl0 : lh0 = B + 30 ∨ B + 48 ≤ lh0) (hB : B + 48 ≤ hN h0) : ∀ m i h c S P C p5 p6, i + m = 262144 → RI y h0 h B lh0 e0 s0 c i 0 S P C → (∀ j, j < i → glN y (S j) = false) → ∃ h', E (d + 4) 11 28 [some (.ref (B + 28)), some (.ref (B + 1)), some (.int (nI s0)), some (.int (nI (GO y))), some (.int (nI i)), p5, p6] [] h = some (some (.int (bI (dsT (Yn y) (stN y) (glN y) s0).isSome)), h') ∧ RZ y h0 h' B lh0 e0 s0 := by
  intro m
  have go : GO y < 2 ^ 31 := by
    rw [show GO y = GOn (Yg y) (Yn y) from rfl, GO_n h3 n3]
    split <;> split <;> split <;> omega
  induction m with
  | zero =>
    intro i h c S P C p5 p6 hi r ng
    obtain ⟨q, b, v, xy⟩ := r
    obtain ⟨c1, c2, c3, c4⟩ := q.c
    have ic := b.2.2.2.2.2.2.2
    have hi' : i = c := by omega
    subst hi'
    have dn : dsT (Yn y) (stN y) (glN y) s0 = none := dsT_none (b.none ng)
    refine ⟨h, ?_, i, S, P, C, q, b.1, b.2.1, fun D hD => ?_⟩
    · rw [dn, s11_28]
      simp (disch := omega) only [s11_29, s11_30, s11_31, s11_72, s11_73, ↓reduceIte, Option.bind_some, Option.toList_some, Option.toList_none, List.cons_append, List.nil_append, if_true, if_false, true_or, or_true, true_and, and_true, not_true_eq_false, not_false_eq_true, Nat.reduceLT, Nat.reduceLeDiff, Nat.reduceEqDiff, Nat.reduceAdd, Nat.reduceMul, Nat.reduceSub, Nat.reducePow, Nat.reduceMod, Nat.reduceDiv, l0, l1, l2, l3, l4, l5, l6, l7, l8, l9, l10, l11, l12, l13, l14, l15, l16, l20, l31, l32, l36, l40, l48, l57, l59, l63, l64, l97, l99, l100, l101, l122, l127, l128, l250, l255, l262143, l262144, l30000, l100000, l12345, l1024, l4095, nI_eqs, nI_les, nI_lts, qI_eq, qI_eqn, nI_eqq, qI_lts, nI_ltp, nI_lep, qI_les, nI_add, nI_mul, qI_add, qI_s, qI_def, nI_clamps, bI_z, bI_o, bI_01, n01, n11, rf_some, rf_none, m1, m1n, bft, c1, c2, Nat.le_refl]
      rfl
    · rw [dn] at hD; cases hD
  | succ m ih =>
    intro i h c S P C p5 p6 hi r ng
    obtain ⟨q, b, v, xy⟩ := id r
    obtain ⟨c1, c2, c3, c4⟩ := q.c
    have ic := b.2.2.2.2.2.2.2
    rcases Nat.eq_or_lt_of_le ic with hi' | hi'
    · subst hi'
      have dn : dsT (Yn y) (stN y) (glN y) s0 = none := dsT_none (b.none ng)
      refine ⟨h, ?_, i, S, P, C, q, b.1, b.2.1, fun D hD => ?_⟩
      · rw [dn, s11_28]
        simp (disch := omega) only [s11_29, s11_30, s11_31, s11_72, s11_73, ↓reduceIte, Option.bind_some, Option.toList_some, Option.toList_none, List.cons_append, List.nil_append, if_true, if_false, true_or, or_true, true_and, and_true, not_true_eq_false, not_false_eq_true, Nat.reduceLT, Nat.reduceLeDiff, Nat.reduceEqDiff, Nat.reduceAdd, Nat.reduceMul, Nat.reduceSub, Nat.reducePow, Nat.reduceMod, Nat.reduceDiv, l0, l1, l2, l3, l4, l5, l6, l7, l8, l9, l10, l11, l12, l13, l14, l15, l16, l20, l31, l32, l36, l40, l48, l57, l59, l63, l64, l97, l99, l100, l101, l122, l127, l128, l250, l255, l262143, l262144, l30000, l100000, l12345, l1024, l4095, nI_eqs, nI_les, nI_lts, qI_eq, qI_eqn, nI_eqq, qI_lts, nI_ltp, nI_lep, qI_les, nI_add, nI_mul, qI_add, qI_s, qI_def, nI_clamps, bI_z, bI_o, bI_01, n01, n11, rf_some, rf_none, m1, m1n, bft, c1, c2, Nat.le_refl]
        rfl
      · rw [dn] at hD; cases hD
    · have vi := v i hi'
      have s18 := vi.1
      have g := GO_iff h3 n3 vi
      have lh1 : ¬ c ≤ i := by omega
      have lh2 : ¬ 262144 ≤ i := by omega
      have e16 := fun d => q.at hi' d
      have sh : nI (S i) >>> nI 12 = nI (S i / 4096) := nI_shr' (by omega) (by decide)
      have m4 : nI 12 &&& nI 31 = nI 12 := sh31 (by decide)
      cases gl : glN y (S i)
      · have gn : ¬ S i / 4096 = GO y := fun w => by rw [gl] at g; exact absurd (g.mp w) (by decide)
        obtain ⟨h', c', S', P', C', e, r', ng'⟩ := x11i d (s := S i) h3 n3 xy0 hl0 hB (nI (GO y)) (Yn y) 0 h c S P C (by omega) r hi' rfl (fun j hj => by
          by_cases w : j = i
          · rw [w]; exact gl
          · exact ng j (by omega))
        obtain ⟨h2, e2, z⟩ := ih (i + 1) h' c' S' P' C' (some (.int (nI (S i)))) (some (.int (nI (Yn y)))) (by omega) r' ng'
        refine ⟨h2, ?_, z⟩
        rw [← e2, ← e, s11_28]
        simp (disch := omega) only [s11_29, s11_30, s11_31, s11_32, s11_33, s11_34, s11_35, s11_36, s11_37, s11_38, s11_39, s11_40, s11_41, s11_42, s11_43, s11_54, s11_55, ↓reduceIte, Option.bind_some, Option.toList_some, Option.toList_none, List.cons_append, List.nil_append, if_true, if_false, true_or, or_true, true_and, and_true, not_true_eq_false, not_false_eq_true, Nat.reduceLT, Nat.reduceLeDiff, Nat.reduceEqDiff, Nat.reduceAdd, Nat.reduceMul, Nat.reduceSub, Nat.reducePow, Nat.reduceMod, Nat.reduceDiv, l0, l1, l2, l3, l4, l5, l6, l7, l8, l9, l10, l11, l12, l13, l14, l15, l16, l20, l31, l32, l36, l40, l48, l57, l59, l63, l64, l97, l99, l100, l101, l122, l127, l128, l250, l255, l262143, l262144, l30000, l100000, l12345, l1024, l4095, nI_eqs, nI_les, nI_lts, qI_eq, qI_eqn, nI_eqq, qI_lts, nI_ltp, nI_lep, qI_les, nI_add, nI_mul, qI_add, qI_s, qI_def, nI_clamps, bI_z, bI_o, bI_01, n01, n11, rf_some, rf_none, m1, m1n, bft, c1, c2, lh1, lh2, e16, m4, sh, gn]
      · have gy : S i / 4096 = GO y := g.mpr gl
        have hP := b.2.2.2.2.1
        obtain ⟨D, dD, d0, d1⟩ := anc_ex (fun j h1 h2 => (hP j h1 h2).1) i hi'
        have al := anc_le b hi'
        obtain ⟨f1, f2⟩ := b.found hi' gl ng d0 d1
        have ds := dsT_some f1
        have q1 := q.st (k := 3) (by decide) (nI i)
        have e18 := fun d => x18 d q1 hi' dD d0 d1 al none none
        have q2 := q1.st (k := 4) (by decide) (nI D)
        refine ⟨_, ?_, c, S, P, C, q2, b.1, b.2.1, fun D' hD => ?_⟩
        · rw [ds, s11_28]
          simp (disch := omega) only [s11_29, s11_30, s11_31, s11_32, s11_33, s11_34, s11_35, s11_36, s11_37, s11_38, s11_39, s11_40, s11_41, s11_42, s11_43, s11_44, s11_45, s11_46, s11_47, s11_48, s11_49, s11_50, s11_51, s11_52, s11_53, ↓reduceIte, Option.bind_some, Option.toList_some, Option.toList_none, List.cons_append, List.nil_append, if_true, if_false, true_or, or_true, true_and, and_true, not_true_eq_false, not_false_eq_true, Nat.reduceLT, Nat.reduceLeDiff, Nat.reduceEqDiff, Nat.reduceAdd, Nat.reduceMul, Nat.reduceSub, Nat.reducePow, Nat.reduceMod, Nat.reduceDiv, l0, l1, l2, l3, l4, l5, l6, l7, l8, l9, l10, l11, l12, l13, l14, l15, l16, l20, l31, l32, l36, l40, l48, l57, l59, l63, l64, l97, l99, l100, l101, l122, l127, l128, l250, l255, l262143, l262144, l30000, l100000, l12345, l1024, l4095, nI_eqs, nI_les, nI_lts, qI_eq, qI_eqn, nI_eqq, qI_lts, nI_ltp, nI_lep, qI_les, nI_add, nI_mul, qI_add, qI_s, qI_def, nI_clamps, bI_z, bI_o, bI_01, n01, n11, rf_some, rf_none, m1, m1n, bft, hS_stI, c1, c2, lh1, lh2, e16, m4, sh, gy, e18]
          rfl
        · rw [ds] at hD
          cases hD
          refine ⟨by rw [hI_stI, if_pos ⟨rfl, rfl⟩], i, by rw [hI_stI, if_neg (fun w => by omega), hI_stI, if_pos ⟨rfl, rfl⟩], hi', dD, d1, al, fun m hm => ?_⟩
          have := f2 m D hm (Nat.le_refl _)
          rw [d0, b.2.1] at this
          exact this.symm
theorem x11 (d : Nat) {h : AH} {B l e s0 c0 : Nat} {y : YS} (xy : XY h (B + 1) y) (h3 : Yg y ≤ 3) (n3 : Yn y ≤ 3) (hB : B + 48 ≤ hN h) (sa : SA h B l e) (hc : c0 ≤ 1024 * 2 ^ e) (h2 : hI h (B + 28) 2 = nI c0) (nz : ∀ w, hL h (B + 29) w ≠ 0 → ∃ i, i < c0 ∧ stA (hL h l i) / 64 = w) (v : VN y s0) (p3 p4 p5 p6 : Option Value) : ∃ h', E (d + 4) 11 0 [some (.ref (B + 28)), some (.ref (B + 1)), some (.int (nI s0)), p3, p4, p5, p6] [] h = some (some (.int (bI (dsT (Yn y) (stN y) (glN y) s0).isSome)), h') ∧ RZ y h h' B l e s0 := by
  have ok := xy.2.2
  have hl0 := sa.2.2.2.2.1
  obtain ⟨h1, e1, s1, k1, z1, f1⟩ := x13 (d + 2) sa hc h2 nz none
  have q0 : QL h h1 B l e 0 (fun _ => 0) (fun _ => 0) (fun _ => 0) := ⟨l, e, s1, fun i hi => absurd hi (Nat.not_lt_zero _), fun w => ⟨0, by decide, z1 w, fun b hb => ⟨fun q => by rw [Nat.zero_testBit] at q; exact Bool.noConfusion q, fun q => by obtain ⟨j, hj, -⟩ := q; omega⟩⟩, k1, Nat.zero_le _, f1.fq (fun b w => by omega), Or.inl rfl, by rw [f1.1], by rw [f1.2.1]⟩
  obtain ⟨h2', e2, q1⟩ := x14n (d + 2) q0 (s := s0) (p := 0) (k := 0) v.1 (by decide) (by decide) (fun j hj => absurd hj (Nat.not_lt_zero _)) (by decide) hB none none none
  have b1 : BI (Yn y) (stN y) s0 1 0 0 (fup (fun _ => 0) 0 s0) (fup (fun _ => 0) 0 0) (fup (fun _ => 0) 0 0) := BI.start _ _ (fup_s _ _ _) (fup_s _ _ _)
  obtain ⟨h3', e3, z⟩ := x11o d h3 n3 xy hl0 hB 262144 0 h2' 1 _ _ _ p5 p6 (by decide) ⟨q1, b1, fun j hj => by
    have : j = 0 := by omega
    rw [this, fup_s]; exact v, q1.xy hl0 hB xy⟩ (fun j hj => absurd hj (Nat.not_lt_zero _))
  have lp : ∀ m i g, i + m = Yn y → E (d + 4) 11 4 [some (.ref (B + 28)), some (.ref (B + 1)), some (.int (nI s0)), some (.int (nI g)), some (.int (nI i)), p5, p6] [] h = E (d + 4) 11 19 [some (.ref (B + 28)), some (.ref (B + 1)), some (.int (nI s0)), some (.int (nI (itr (fun k g => g ||| Yg y * 2 ^ (2 * k)) m i g))), some (.int (nI (Yn y))), p5, p6] [] h := by
    obtain ⟨⟨z0, -⟩, ⟨-, vg, vn, -⟩, -⟩ := xy
    intro m
    induction m with
    | zero =>
      intro i g hi
      have hi' : i = Yn y := hi
      subst hi'
      rw [s11_4, itr_0]
      simp (disch := omega) only [s11_5, s11_6, s11_7, ↓reduceIte, Option.bind_some, Option.toList_some, Option.toList_none, List.cons_append, List.nil_append, if_true, if_false, true_or, or_true, true_and, and_true, not_true_eq_false, not_false_eq_true, Nat.reduceLT, Nat.reduceLeDiff, Nat.reduceEqDiff, Nat.reduceAdd, Nat.reduceMul, Nat.reduceSub, Nat.reducePow, Nat.reduceMod, Nat.reduceDiv, l0, l1, l2, l3, l4, l5, l6, l7, l8, l9, l10, l11, l12, l13, l14, l15, l16, l20, l31, l32, l36, l40, l48, l57, l59, l63, l64, l97, l99, l100, l101, l122, l127, l128, l250, l255, l262143, l262144, l30000, l100000, l12345, l1024, l4095, nI_eqs, nI_les, nI_lts, qI_eq, qI_eqn, nI_eqq, qI_lts, nI_ltp, nI_lep, qI_les, nI_add, nI_mul, qI_add, qI_s, qI_def, nI_clamps, bI_z, bI_o, bI_01, n01, n11, rf_some, rf_none, m1, m1n, bft, z0, vn, Nat.le_refl]
    | succ m ih =>
      intro i g hi
      have h1' : ¬ Yn y ≤ i := by omega
      have sh : nI (Yg y) <<< (nI (2 * i) &&& nI 31) = nI (Yg y * 2 ^ (2 * i)) := nI_shl (by omega)
      rw [s11_4, itr_s, ← ih (i + 1) _ (by omega)]
      simp (disch := omega) only [s11_5, s11_6, s11_7, s11_8, s11_9, s11_10, s11_11, s11_12, s11_13, s11_14, s11_15, s11_16, s11_17, s11_18, ↓reduceIte, Option.bind_some, Option.toList_some, Option.toList_none, List.cons_append, List.nil_append, if_true, if_false, true_or, or_true, true_and, and_true, not_true_eq_false, not_false_eq_true, Nat.reduceLT, Nat.reduceLeDiff, Nat.reduceEqDiff, Nat.reduceAdd, Nat.reduceMul, Nat.reduceSub, Nat.reducePow, Nat.reduceMod, Nat.reduceDiv, l0, l1, l2, l3, l4, l5, l6, l7, l8, l9, l10, l11, l12, l13, l14, l15, l16, l20, l31, l32, l36, l40, l48, l57, l59, l63, l64, l97, l99, l100, l101, l122, l127, l128, l250, l255, l262143, l262144, l30000, l100000, l12345, l1024, l4095, nI_eqs, nI_les, nI_lts, qI_eq, qI_eqn, nI_eqq, qI_lts, nI_ltp, nI_lep, qI_les, nI_add, nI_mul, qI_add, qI_s, qI_def, nI_clamps, bI_z, bI_o, bI_01, n01, n11, rf_some, rf_none, m1, m1n, bft, z0, vg, vn, h1', sh, nI_or]
  have eg := lp (Yn y) 0 0 (by omega)
  refine ⟨h3', ?_, z⟩
  have z0 := sa.1
  have z1' : hS h1 (B + 28) = some (100, 0) := s1.1
  have go : itr (fun k g => g ||| Yg y * 2 ^ (2 * k)) (Yn y) 0 0 = GO y := rfl
  rw [go] at eg
  rw [← e3, s11_0]
  simp (disch := omega) only [s11_1, s11_2, s11_3, ↓reduceIte, Option.bind_some, Option.toList_some, Option.toList_none, List.cons_append, List.nil_append, if_true, if_false, true_or, or_true, true_and, and_true, not_true_eq_false, not_false_eq_true, Nat.reduceLT, Nat.reduceLeDiff, Nat.reduceEqDiff, Nat.reduceAdd, Nat.reduceMul, Nat.reduceSub, Nat.reducePow, Nat.reduceMod, Nat.reduceDiv, l0, l1, l2, l3, l4, l5, l6, l7, l8, l9, l10, l11, l12, l13, l14, l15, l16, l20, l31, l32, l36, l40, l48, l57, l59, l63, l64, l97, l99, l100, l101, l122, l127, l128, l250, l255, l262143, l262144, l30000, l100000, l12345, l1024, l4095, nI_eqs, nI_les, nI_lts, qI_eq, qI_eqn, nI_eqq, qI_lts, nI_ltp, nI_lep, qI_les, nI_add, nI_mul, qI_add, qI_s, qI_def, nI_clamps, bI_z, bI_o, bI_01, n01, n11, rf_some, rf_none, m1, m1n, bft]
  rw [eg]
  simp (disch := omega) only [s11_19, s11_20, s11_21, s11_22, s11_23, s11_24, s11_25, s11_26, s11_27, ↓reduceIte, Option.bind_some, Option.toList_some, Option.toList_none, List.cons_append, List.nil_append, if_true, if_false, true_or, or_true, true_and, and_true, not_true_eq_false, not_false_eq_true, Nat.reduceLT, Nat.reduceLeDiff, Nat.reduceEqDiff, Nat.reduceAdd, Nat.reduceMul, Nat.reduceSub, Nat.reducePow, Nat.reduceMod, Nat.reduceDiv, l0, l1, l2, l3, l4, l5, l6, l7, l8, l9, l10, l11, l12, l13, l14, l15, l16, l20, l31, l32, l36, l40, l48, l57, l59, l63, l64, l97, l99, l100, l101, l122, l127, l128, l250, l255, l262143, l262144, l30000, l100000, l12345, l1024, l4095, nI_eqs, nI_les, nI_lts, qI_eq, qI_eqn, nI_eqq, qI_lts, nI_ltp, nI_lep, qI_les, nI_add, nI_mul, qI_add, qI_s, qI_def, nI_clamps, bI_z, bI_o, bI_01, n01, n11, rf_some, rf_none, m1, m1n, bft, z0, z1', e1, e2]
