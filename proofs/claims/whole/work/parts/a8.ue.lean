/-! SEARCHES of the reference: the table and the queue -/
def FH (h0 h : AH) (A : Nat) (s : GS) (W : Nat → Prop) (fa qa n : Nat) (f : Nat → Int32) (q : Nat) (Q : Nat → Nat) : Prop := MX h A s W ∧ KW W h0 h ∧ RM A h0 h 0 0 ∧ hR h A 31 = some fa ∧ hR h A 32 = some qa ∧ hS h fa = some (2, n) ∧ hS h qa = some (0, n) ∧ n ≤ 262144 ∧ sts (gY s) ≤ n ∧ (∀ t, VN (gY s) t → hI h fa (rho (gY s) t) = f t) ∧ (∀ i, i < q → hI h qa i = nI (rho (gY s) (Q i))) ∧ hI h A 33 = nI q
/-- the model that thinks -/
def FO (h : AH) (A : Nat) (s : GS) (o : Nat) (Y : YS) : Prop := hR h A 23 = some o ∧ MY h o Y ∧ ST (gY s) Y
theorem MG.q {h : AH} {A : Nat} {k : Option YS} {W : Nat → Prop} (x : MG h A k W) {fa qa : Nat} (h1 : hR h A 31 = some fa) (h2 : hR h A 32 = some qa) : fa ≠ qa ∧ MQ1 h A W fa ∧ MQ1 h A W qa := by
  obtain ⟨x1, x2, x3, x4, p, q, m, x5, x6, x7, x8, x9, x10, x11, x12⟩ := x
  rw [h1] at x5; rw [h2] at x6
  cases x5; cases x6
  exact ⟨x10, x11, x12⟩
theorem MX.fq {h h' : AH} {A : Nat} {s : GS} {W : Nat → Prop} {fa qa : Nat} (x : MX h A s W) (h1 : hR h A 31 = some fa) (h2 : hR h A 32 = some qa) (f : Fr0 (fun b => b = fa ∨ b = qa) h h') : MX h' A s W ∧ KW W h h' ∧ RM A h h' 0 0 := by
  obtain ⟨x1, x2, x3, x4, x5, x6, x7, x8, x9⟩ := x
  obtain ⟨ne, ⟨q1, q2, q3, q4, q5⟩, ⟨p1, p2, p3, p4, p5⟩⟩ := x6.q h1 h2
  refine ⟨⟨x1.fr0 f (fun b _ _ w => by omega), x2.fr0 f (fun b _ _ w => by omega), x3.fr0 f ((f.2.2.2.2.2.2 A (fun w => by omega) 7).1) (fun w => by omega), x4.fr0 f (fun w => by omega), x5.fr0 f, ?_, x7, by rw [f.1]; exact x8, by rw [f.1]; exact x9⟩, f.kw (fun b w q => by rcases w with w | w <;> rw [w] at q; exact q3 q; exact p3 q), f.rm A⟩
  obtain ⟨y1, y2, y3, y4, p, q, m, y5, y6, y7, y8, y9, y10, y11, y12⟩ := x6
  have f' := f
  obtain ⟨f1, f2, f3, f4, f5, f6, f7⟩ := f
  refine ⟨fun o ho => ?_, by rw [f6]; exact y2, fun y hy => ?_, by rw [f6]; exact y4, p, q, m, by rw [f6]; exact y5, by rw [f6]; exact y6, by rw [f5]; exact y7, by rw [f5]; exact y8, y9, y10, y11.fr0 f', y12.fr0 f'⟩
  · rw [f6] at ho
    obtain ⟨w1, w2, w3, w4⟩ := y1 o ho
    exact ⟨w1.fr0 f', w2, by rw [f1]; exact w3, w4⟩
  · obtain ⟨p', w1, w2, w3, w4, w5⟩ := y3 y hy
    refine ⟨p', by rw [f6]; exact w1, w2.fr0 f' (fun b h1 h2 w => ?_), w3, by rw [f1]; exact w4, w5⟩
    have e1 := q5 p' w1
    have e2 := p5 p' w1
    rcases w with w | w <;> rw [w] at h1 h2
    · exact e1 ⟨h1, by omega⟩
    · exact e2 ⟨h1, by omega⟩
theorem FH.fq {h0 h h' : AH} {A : Nat} {s : GS} {W : Nat → Prop} {fa qa n : Nat} {f f' : Nat → Int32} {q q' : Nat} {Q Q' : Nat → Nat} (x : FH h0 h A s W fa qa n f q Q) (fr : Fr0 (fun b => b = fa ∨ b = qa ∨ b = A) h h') (eA : ∀ j, j ≤ 21 → hI h' A j = hI h A j) (hf : ∀ t, VN (gY s) t → hI h' fa (rho (gY s) t) = f' t) (hq : ∀ i, i < q' → hI h' qa i = nI (rho (gY s) (Q' i))) (h33 : hI h' A 33 = nI q') (mid : ∃ hm, Fr0 (fun b => b = fa ∨ b = qa) h hm ∧ Fr0 (fun b => b = A) hm h') : FH h0 h' A s W fa qa n f' q' Q' := by
  obtain ⟨x1, x2, x3, x4, x5, x6, x7, x8, x9, x10, x11, x12⟩ := x
  obtain ⟨hm, m1, m2⟩ := mid
  obtain ⟨z1, z2, z3⟩ := x1.fq x4 x5 m1
  obtain ⟨ne, ⟨q1, -⟩, ⟨p1, -⟩⟩ := x1.2.2.2.2.2.1.q x4 x5
  have eA' : ∀ j, hI hm A j = hI h A j := fun j => (m1.2.2.2.2.2.2 A (fun w => by omega) j).1
  obtain ⟨w1, w2⟩ := z1.w (m2.mono (B := fun b => b = A ∨ b = A + 13 ∨ (A + 25 ≤ b ∧ b < A + 53)) (fun b w => Or.inl w)) (fun j hj => by rw [eA' j]; exact eA j hj)
  have k2 := w2.kw z1.2.2.2.2.2.2.1
  have r2 := w2.rm A
  refine ⟨w1, (x2.trans z2).trans k2, by unfold RM at *; omega, by rw [fr.2.2.2.2.2.1]; exact x4, by rw [fr.2.2.2.2.2.1]; exact x5, by rw [fr.2.2.2.2.1]; exact x6, by rw [fr.2.2.2.2.1]; exact x7, x8, x9, hf, hq, h33⟩
theorem FH.o {h0 h h' : AH} {A : Nat} {s : GS} {W : Nat → Prop} {fa qa n : Nat} {f : Nat → Int32} {q : Nat} {Q : Nat → Nat} (x : FH h0 h A s W fa qa n f q Q) {o : Nat} (ho : hR h A 23 = some o) (fr : Fr0 (blk o 25) h h') : FH h0 h' A s W fa qa n f q Q := by
  obtain ⟨x1, x2, x3, x4, x5, x6, x7, x8, x9, x10, x11, x12⟩ := x
  obtain ⟨z1, z2, z3⟩ := x1.o ho fr
  obtain ⟨ne, ⟨q1, q2, q3, q4, q5⟩, ⟨p1, p2, p3, p4, p5⟩⟩ := x1.2.2.2.2.2.1.q x4 x5
  have oA := (x1.2.2.2.2.2.1.1 o ho).2.1
  have n1 : ¬ blk o 25 fa := fun w => q4 o ho ⟨w.1, by have := w.2; omega⟩
  have n2 : ¬ blk o 25 qa := fun w => p4 o ho ⟨w.1, by have := w.2; omega⟩
  refine ⟨z1, x2.trans z2, by unfold RM at *; omega, by rw [fr.2.2.2.2.2.1]; exact x4, by rw [fr.2.2.2.2.2.1]; exact x5, by rw [fr.2.2.2.2.1]; exact x6, by rw [fr.2.2.2.2.1]; exact x7, x8, x9, fun t ht => by rw [(fr.2.2.2.2.2.2 _ n1 _).1]; exact x10 t ht, fun i hi => by rw [(fr.2.2.2.2.2.2 _ n2 _).1]; exact x11 i hi, by rw [(fr.2.2.2.2.2.2 A (fun w => by unfold blk at w; omega) _).1]; exact x12⟩
/-- a fresh copy keeps the table -/
theorem FH.fresh {h0 h : AH} {A : Nat} {s : GS} {W : Nat → Prop} {fa qa n : Nat} {f : Nat → Int32} {q : Nat} {Q : Nat → Nat} (x : FH h0 h A s W fa qa n f q Q) (d : Nat) : ∃ h' o, E (d + 2) 225 0 [some (.ref A)] [] h = some (some (.ref o), h') ∧ FH h0 h' A s W fa qa n f q Q ∧ FO h' A s o (gY s) := by
  obtain ⟨x1, x2, x3, x4, x5, x6, x7, x8, x9, x10, x11, x12⟩ := x
  obtain ⟨h', o, e, m1, r1, y1, o1, kw, rm⟩ := c225 d x1
  have oth : OTH h A := by
    unfold OTH
    cases w : hR h A 23 with
    | none => exact Or.inl rfl
    | some o =>
      have g := x1.2.2.2.2.2.1.1 o w
      exact Or.inr ⟨o, rfl, g.1, g.2.1, g.2.2.1⟩
  obtain ⟨h2, o2, e2, q1, q2, q3, q4, q5, fn⟩ := m225 d x1.1 oth x1.2.2.2.2.2.2.2.1
  rw [e] at e2
  have e3 := Prod.mk.inj (Option.some.inj e2)
  have e4 := Value.ref.inj (Option.some.inj e3.1)
  have e5 := e3.2
  subst e5
  subst e4
  obtain ⟨f1, f2, f3, f4, f5, f6, f7⟩ := fn
  obtain ⟨ne, ⟨u1, u2, u3, u4, u5⟩, ⟨p1, p2, p3, p4, p5⟩⟩ := x1.2.2.2.2.2.1.q x4 x5
  have AN := x1.2.2.2.2.2.2.2.1
  have n1 : ¬ blk o 25 fa := fun w => by
    rcases q5 with ⟨w1, -⟩ | ⟨-, w1, -⟩
    · exact u4 o w1 ⟨w.1, by have := w.2; omega⟩
    · have h1 : o ≤ fa := w.1
      rw [w1] at h1; exact absurd (Nat.lt_of_lt_of_le u2 h1) (Nat.lt_irrefl _)
  have n2 : ¬ blk o 25 qa := fun w => by
    rcases q5 with ⟨w1, -⟩ | ⟨-, w1, -⟩
    · exact p4 o w1 ⟨w.1, by have := w.2; omega⟩
    · have h1 : o ≤ qa := w.1
      rw [w1] at h1; exact absurd (Nat.lt_of_lt_of_le p2 h1) (Nat.lt_irrefl _)
  refine ⟨h', o, e, ⟨m1, x2.trans kw, by unfold RM at *; omega, by rw [f7 A 31 (by omega) (fun w => absurd w.2 (by decide))]; exact x4, by rw [f7 A 32 (by omega) (fun w => absurd w.2 (by decide))]; exact x5, by rw [f5 fa u2]; exact x6, by rw [f5 qa p2]; exact x7, x8, x9, fun t ht => by rw [(f6 fa u2 n1 _).1]; exact x10 t ht, fun i hi => by rw [(f6 qa p2 n2 _).1]; exact x11 i hi, by rw [(f6 A (by omega) (fun w => by unfold blk at w; omega) _).1]; exact x12⟩, r1, y1, rfl, rfl, rfl, rfl, rfl, rfl, rfl⟩
theorem nar0 : vp_nar .short ((nI 0).toInt16.toInt32) = nI 0 := by decide
theorem nar3 : vp_nar .short ((nI 30000).toInt16.toInt32) = nI 30000 := by decide
theorem nar1 : vp_nar .short (qI 0) = qI 0 := by decide
theorem nars {c : Nat} (h : c < 32768) : vp_nar .short ((nI c).toInt16.toInt32) = nI c := by
  have e : (nI c).toInt16.toInt32 = nI c := by
    apply Int32.toInt_inj.mp
    rw [Int16.toInt_toInt32, Int32.toInt_toInt16, nI_toInt (by omega)]
    rw [Int.bmod_eq_of_le (by omega) (by omega)]
  rw [e]
  show (nI c).toInt16.toInt32 = nI c
  exact e
theorem VN.rho_n {s : GS} {n t : Nat} (h3 : Yg (gY s) ≤ 3) (n3 : Yn (gY s) ≤ 3) (v : VN (gY s) t) (h : sts (gY s) ≤ n) : rho (gY s) t < n := Nat.lt_of_lt_of_le (rho_lt h3 n3 v) h
/-- a state is pushed -/
theorem m200o (d : Nat) {h0 h : AH} {A : Nat} {s : GS} {W : Nat → Prop} {fa qa n : Nat} {f : Nat → Int32} {q : Nat} {Q : Nat → Nat} (x : FH h0 h A s W fa qa n f q Q) {o t : Nat} {Y : YS} (y : FO h A s o Y) (r : RY (gY s) t Y) (h3 : Yg (gY s) ≤ 3) (n3 : Yn (gY s) ≤ 3) (ne : f t ≠ qI 0) (p2 : Option Value) : E (d + 2) 200 0 [some (.ref A), some (.ref o), p2] [] h = some (none, h) := by
  obtain ⟨x1, x2, x3, x4, x5, x6, x7, x8, x9, x10, x11, x12⟩ := x
  have e196 := fun d => m196 d y.2.1 none none
  rw [r.rc] at e196
  have rl := r.2.1.rho_n h3 n3 x9
  have v := x10 t r.2.1
  have a0 := x1.1.1.1
  have b0 := y.2.1.1.1
  have nz : ¬ f t = qI 0 := ne
  simp (disch := omega) only [s200_0, s200_1, s200_2, s200_3, s200_4, s200_5, s200_6, s200_7, s200_8, s200_31, ↓reduceIte, Option.bind_some, Option.toList_some, Option.toList_none, List.cons_append, List.nil_append, if_true, if_false, true_or, or_true, true_and, and_true, not_true_eq_false, not_false_eq_true, Nat.reduceLT, Nat.reduceLeDiff, Nat.reduceEqDiff, Nat.reduceAdd, Nat.reduceMul, Nat.reduceSub, Nat.reducePow, Nat.reduceMod, Nat.reduceDiv, l0, l1, l2, l3, l4, l5, l6, l7, l8, l9, l10, l11, l12, l13, l14, l15, l16, l20, l31, l32, l36, l40, l48, l57, l59, l63, l64, l97, l99, l100, l101, l122, l127, l128, l250, l255, l262143, l262144, l30000, l100000, l12345, l1024, l4095, nI_eqs, nI_les, nI_lts, qI_eq, qI_eqn, nI_eqq, qI_lts, nI_ltp, nI_lep, qI_les, nI_add, nI_mul, qI_add, qI_s, qI_def, nI_clamps, bI_z, bI_o, bI_01, n01, n11, rf_some, rf_none, m1, m1n, bft, a0, b0, x4, gA x6, e196, v, nz]
theorem m200n (d : Nat) {h0 h : AH} {A : Nat} {s : GS} {W : Nat → Prop} {fa qa n : Nat} {f : Nat → Int32} {q : Nat} {Q : Nat → Nat} (x : FH h0 h A s W fa qa n f q Q) {o t : Nat} {Y : YS} (y : FO h A s o Y) (r : RY (gY s) t Y) (h3 : Yg (gY s) ≤ 3) (n3 : Yn (gY s) ≤ 3) (ne : f t = qI 0) (hq : q < n) (p2 : Option Value) : ∃ h', E (d + 2) 200 0 [some (.ref A), some (.ref o), p2] [] h = some (none, h') ∧ FH h0 h' A s W fa qa n (fup f t (if glN (gY s) t = true then nI 0 else nI 30000)) (q + 1) (fup Q q t) ∧ FO h' A s o Y := by
  obtain ⟨x1, x2, x3, x4, x5, x6, x7, x8, x9, x10, x11, x12⟩ := id x
  obtain ⟨nf, ⟨u1, u2, u3, u4, u5⟩, ⟨p1, p2', p3, p4, p5⟩⟩ := x1.2.2.2.2.2.1.q x4 x5
  have oA := x1.2.2.2.2.2.1.1 o y.1
  have e196 := fun d => m196 d y.2.1 none none
  have e198 := fun d => m198 d y.2.1 none none
  rw [r.rc] at e196
  rw [r.out] at e198
  have rl := r.2.1.rho_n h3 n3 x9
  have v := x10 t r.2.1
  rw [ne] at v
  have a0 := x1.1.1.1
  have b0 := y.2.1.1.1
  have key : ∀ V : Int32, ∃ h', h' = stI (stI (stI h fa (rho (gY s) t) V) A 33 (nI (q + 1))) qa q (nI (rho (gY s) t)) ∧ FH h0 h' A s W fa qa n (fup f t V) (q + 1) (fup Q q t) ∧ FO h' A s o Y := fun V => by
    have g1 : Fr0 (fun b => b = fa ∨ b = qa) h (stI h fa (rho (gY s) t) V) := Fr0.stI (A := fun b => b = fa ∨ b = qa) h (Or.inl rfl) _ _
    have g2 : Fr0 (fun b => b = A) (stI h fa (rho (gY s) t) V) (stI (stI h fa (rho (gY s) t) V) A 33 (nI (q + 1))) := Fr0.stI (A := fun b => b = A) _ rfl _ _
    have g3 : Fr0 (fun b => b = fa ∨ b = qa) (stI (stI h fa (rho (gY s) t) V) A 33 (nI (q + 1))) (stI (stI (stI h fa (rho (gY s) t) V) A 33 (nI (q + 1))) qa q (nI (rho (gY s) t))) := Fr0.stI (A := fun b => b = fa ∨ b = qa) _ (Or.inr rfl) _ _
    have G := ((g1.mono (B := fun b => b = fa ∨ b = qa ∨ b = A) (fun b w => by omega)).trans (g2.mono (fun b w => Or.inr (Or.inr w)))).trans (g3.mono (fun b w => by omega))
    have ct : ∀ h' : AH, (∀ b j, hI h' b j = if b = qa ∧ j = q then nI (rho (gY s) t) else if b = A ∧ j = 33 then nI (q + 1) else if b = fa ∧ j = rho (gY s) t then V else hI h b j) → (∀ t', VN (gY s) t' → hI h' fa (rho (gY s) t') = fup f t V t') ∧ (∀ i, i < q + 1 → hI h' qa i = nI (rho (gY s) (fup Q q t i))) ∧ hI h' A 33 = nI (q + 1) ∧ ∀ j, j ≤ 21 → hI h' A j = hI h A j := fun h' e => by
      refine ⟨fun t' ht' => ?_, fun i hi => ?_, ?_, fun j hj => ?_⟩
      · rw [e, if_neg (fun w => nf w.1), if_neg (fun w => by omega)]
        by_cases w : t' = t
        · rw [w, if_pos ⟨rfl, rfl⟩, fup_s]
        · rw [if_neg (fun q => w (rho_inj h3 n3 ht' r.2.1 q.2)), fup_n _ _ w]; exact x10 t' ht'
      · rw [e]
        by_cases w : i = q
        · rw [w, if_pos ⟨rfl, rfl⟩, fup_s]
        · rw [if_neg (fun q => w q.2), if_neg (fun w => by omega), if_neg (fun w => nf w.1.symm), fup_n _ _ w]; exact x11 i (by omega)
      · rw [e, if_neg (fun w => by omega), if_pos ⟨rfl, rfl⟩]
      · rw [e, if_neg (fun w => by omega), if_neg (fun w => by omega), if_neg (fun w => by omega)]
    obtain ⟨c1, c2, c4, c5⟩ := ct (stI (stI (stI h fa (rho (gY s) t) V) A 33 (nI (q + 1))) qa q (nI (rho (gY s) t))) (fun b j => by rw [hI_stI, hI_stI, hI_stI])
    have g4 : Fr0 (fun b => b = fa ∨ b = qa) h (stI (stI h fa (rho (gY s) t) V) qa q (nI (rho (gY s) t))) := g1.trans (Fr0.stI (A := fun b => b = fa ∨ b = qa) _ (Or.inr rfl) _ _)
    have g5 : Fr0 (fun b => b = A) (stI (stI h fa (rho (gY s) t) V) qa q (nI (rho (gY s) t))) (stI (stI (stI h fa (rho (gY s) t) V) A 33 (nI (q + 1))) qa q (nI (rho (gY s) t))) := by
      refine ⟨rfl, rfl, rfl, rfl, rfl, rfl, fun b hb j => ⟨?_, rfl⟩⟩
      rw [hI_stI, hI_stI, hI_stI, hI_stI, hI_stI]
      by_cases w : b = qa ∧ j = q
      · rw [if_pos w, if_pos w]
      · rw [if_neg w, if_neg w, if_neg (fun w => hb w.1)]
    refine ⟨_, rfl, x.fq G c5 c1 c2 c4 ⟨_, g4, g5⟩, by rw [G.2.2.2.2.2.1]; exact y.1, y.2.1.fr0 G (fun b h1 h2 w => ?_), y.2.2⟩
    rcases w with w | w | w <;> rw [w] at h1 h2
    · exact u4 o y.1 ⟨h1, by omega⟩
    · exact p4 o y.1 ⟨h1, by omega⟩
    · omega
  have e33 : nI q + nI 1 = nI (q + 1) := nI_add q 1
  have c33 : ∀ V, hI (stI h fa (rho (gY s) t) V) A 33 = nI q := fun V => by rw [hI_stI, if_neg (fun w => by omega)]; exact x12
  have s1 : ∀ V, hS (stI h fa (rho (gY s) t) V) qa = some (0, n) := fun V => x7
  cases gl : glN (gY s) t <;> rw [gl] at e198
  · rw [if_neg (by decide)]
    obtain ⟨h', e, z⟩ := key (nI 30000)
    refine ⟨h', ?_, z⟩
    rw [e]
    simp (disch := omega) only [s200_0, s200_1, s200_2, s200_3, s200_4, s200_5, s200_6, s200_7, s200_8, s200_9, s200_10, s200_11, s200_12, s200_13, s200_14, s200_17, s200_18, s200_19, s200_20, s200_21, s200_22, s200_23, s200_24, s200_25, s200_26, s200_27, s200_28, s200_29, s200_30, s200_31, ↓reduceIte, Option.bind_some, Option.toList_some, Option.toList_none, List.cons_append, List.nil_append, if_true, if_false, true_or, or_true, true_and, and_true, not_true_eq_false, not_false_eq_true, Nat.reduceLT, Nat.reduceLeDiff, Nat.reduceEqDiff, Nat.reduceAdd, Nat.reduceMul, Nat.reduceSub, Nat.reducePow, Nat.reduceMod, Nat.reduceDiv, l0, l1, l2, l3, l4, l5, l6, l7, l8, l9, l10, l11, l12, l13, l14, l15, l16, l20, l31, l32, l36, l40, l48, l57, l59, l63, l64, l97, l99, l100, l101, l122, l127, l128, l250, l255, l262143, l262144, l30000, l100000, l12345, l1024, l4095, nI_eqs, nI_les, nI_lts, qI_eq, qI_eqn, nI_eqq, qI_lts, nI_ltp, nI_lep, qI_les, nI_add, nI_mul, qI_add, qI_s, qI_def, nI_clamps, bI_z, bI_o, bI_01, n01, n11, rf_some, rf_none, m1, m1n, bft, hS_stI, hR_stI, a0, b0, x4, x5, gA x6, gA x7, e196, e198, v, c33, nar3, e33, bI_f, gA (show hS (stI (stI h fa (rho (gY s) t) (nI 30000)) A 33 (nI (q + 1))) qa = some (0, n) from x7)]
  · rw [if_pos rfl]
    obtain ⟨h', e, z⟩ := key (nI 0)
    refine ⟨h', ?_, z⟩
    rw [e]
    simp (disch := omega) only [s200_0, s200_1, s200_2, s200_3, s200_4, s200_5, s200_6, s200_7, s200_8, s200_9, s200_10, s200_11, s200_12, s200_13, s200_14, s200_15, s200_16, s200_18, s200_19, s200_20, s200_21, s200_22, s200_23, s200_24, s200_25, s200_26, s200_27, s200_28, s200_29, s200_30, s200_31, ↓reduceIte, Option.bind_some, Option.toList_some, Option.toList_none, List.cons_append, List.nil_append, if_true, if_false, true_or, or_true, true_and, and_true, not_true_eq_false, not_false_eq_true, Nat.reduceLT, Nat.reduceLeDiff, Nat.reduceEqDiff, Nat.reduceAdd, Nat.reduceMul, Nat.reduceSub, Nat.reducePow, Nat.reduceMod, Nat.reduceDiv, l0, l1, l2, l3, l4, l5, l6, l7, l8, l9, l10, l11, l12, l13, l14, l15, l16, l20, l31, l32, l36, l40, l48, l57, l59, l63, l64, l97, l99, l100, l101, l122, l127, l128, l250, l255, l262143, l262144, l30000, l100000, l12345, l1024, l4095, nI_eqs, nI_les, nI_lts, qI_eq, qI_eqn, nI_eqq, qI_lts, nI_ltp, nI_lep, qI_les, nI_add, nI_mul, qI_add, qI_s, qI_def, nI_clamps, bI_z, bI_o, bI_01, n01, n11, rf_some, rf_none, m1, m1n, bft, hS_stI, hR_stI, a0, b0, x4, x5, gA x6, gA x7, e196, e198, v, c33, nar0, e33, bI_t, gA (show hS (stI (stI h fa (rho (gY s) t) (nI 0)) A 33 (nI (q + 1))) qa = some (0, n) from x7)]
/-- what a try costs -/
def cst (y : YS) (f : Nat → Int32) (t k : Nat) : Int32 := if plc t k < Yg y then (if f (stN y t k) = nI 30000 then nI 30000 else f (stN y t k) + (if ltN y t (plc t k) (YC y k) = true then nI 1 else nI 101)) else nI 30000
theorem m199 (d : Nat) {h0 h : AH} {A : Nat} {s : GS} {W : Nat → Prop} {fa qa n : Nat} {f : Nat → Int32} {q : Nat} {Q : Nat → Nat} (x : FH h0 h A s W fa qa n f q Q) {o t k : Nat} {Y : YS} (y : FO h A s o Y) (h3 : Yg (gY s) ≤ 3) (n3 : Yn (gY s) ≤ 3) (v : VN (gY s) t) (hk : k < Yn (gY s)) (p4 p5 : Option Value) : ∃ h' Y', E (d + 4) 199 0 [some (.ref A), some (.ref o), some (.int (nI (rho (gY s) t))), some (.int (nI k)), p4, p5] [] h = some (some (.int (cst (gY s) f t k)), h') ∧ FH h0 h' A s W fa qa n f q Q ∧ FO h' A s o Y' := by
  have ok := x.1.1.2.2
  have a0 := x.1.1.1.1
  have b0 := y.2.1.1.1
  obtain ⟨h1, e1, y1, f1⟩ := m197 (d + 3) y.2.1 ok h3 n3 y.2.2 v none none
  have f1' : Fr0 (blk o 25) h h1 := f1.mono (fun b w => by unfold blk; omega)
  have x1 := x.o y.1 f1'
  have r1 := RY.be y.2.2 v
  have st1 : ST (gY s) (beN Y t) := r1.1
  have q1 : hR h1 A 23 = some o := by rw [f1.2.2.2.2.2.1]; exact y.1
  have b1 := y1.1.1
  have e141 := fun d => m141 d y1 (k := k) (by rw [st1.2.2.1]; exact hk)
  rw [st1.2.1, r1.2.2.2 k hk] at e141
  unfold cst
  by_cases hp : plc t k < Yg (gY s)
  · rw [if_pos hp]
    rw [decide_eq_false (by omega)] at e141
    obtain ⟨h2, e2, y2, f2⟩ := m184 d y1 (k := k) (by rw [st1.2.2.1]; exact hk) (by rw [r1.2.2.2 k hk, st1.2.1]; exact hp) none none
    have L := r1.let' ok hp (YC (gY s) k)
    rw [r1.2.2.2 k hk, st1.2.2.2.2.2.2, L] at e2
    have r2 := r1.try ok h3 n3 hk hp
    have x2 := x1.o q1 f2.bk
    have q2 : hR h2 A 23 = some o := by rw [f2.1.2.2.2.2.2.1]; exact q1
    have e196 := fun d => m196 d y2 none none
    rw [r2.rc] at e196
    have b2 := y2.1.1
    obtain ⟨z1, z2, z3, z4, z5, z6, z7, z8, z9, z10, z11, z12⟩ := id x2
    have rl := r2.2.1.rho_n h3 n3 z9
    have fv := z10 _ r2.2.1
    have a2 := z1.1.1.1
    refine ⟨h2, _, ?_, x2, q2, y2, r2.1⟩
    cases l : ltN (gY s) t (plc t k) (YC (gY s) k) <;> rw [l] at e2
    · rw [if_neg (show ¬ false = true by decide)]
      by_cases w : f (stN (gY s) t k) = nI 30000
      · rw [if_pos w]
        rw [w] at fv
        simp (disch := omega) only [s199_0, s199_1, s199_2, s199_3, s199_4, s199_5, s199_6, s199_9, s199_10, s199_11, s199_12, s199_15, s199_16, s199_17, s199_18, s199_19, s199_20, s199_21, s199_22, s199_23, s199_24, s199_25, s199_26, s199_27, s199_31, ↓reduceIte, Option.bind_some, Option.toList_some, Option.toList_none, List.cons_append, List.nil_append, if_true, if_false, true_or, or_true, true_and, and_true, not_true_eq_false, not_false_eq_true, Nat.reduceLT, Nat.reduceLeDiff, Nat.reduceEqDiff, Nat.reduceAdd, Nat.reduceMul, Nat.reduceSub, Nat.reducePow, Nat.reduceMod, Nat.reduceDiv, l0, l1, l2, l3, l4, l5, l6, l7, l8, l9, l10, l11, l12, l13, l14, l15, l16, l20, l31, l32, l36, l40, l48, l57, l59, l63, l64, l97, l99, l100, l101, l122, l127, l128, l250, l255, l262143, l262144, l30000, l100000, l12345, l1024, l4095, nI_eqs, nI_les, nI_lts, qI_eq, qI_eqn, nI_eqq, qI_lts, nI_ltp, nI_lep, qI_les, nI_add, nI_mul, qI_add, qI_s, qI_def, nI_clamps, bI_z, bI_o, bI_01, n01, n11, rf_some, rf_none, m1, m1n, bft, b0, b1, a2, b2, z4, gA z6, e1, e141, e2, e196, fv, bI_f]
      · rw [if_neg w]
        simp (disch := omega) only [s199_0, s199_1, s199_2, s199_3, s199_4, s199_5, s199_6, s199_9, s199_10, s199_11, s199_12, s199_15, s199_16, s199_17, s199_18, s199_19, s199_20, s199_21, s199_22, s199_23, s199_24, s199_25, s199_28, s199_29, s199_30, s199_31, ↓reduceIte, Option.bind_some, Option.toList_some, Option.toList_none, List.cons_append, List.nil_append, if_true, if_false, true_or, or_true, true_and, and_true, not_true_eq_false, not_false_eq_true, Nat.reduceLT, Nat.reduceLeDiff, Nat.reduceEqDiff, Nat.reduceAdd, Nat.reduceMul, Nat.reduceSub, Nat.reducePow, Nat.reduceMod, Nat.reduceDiv, l0, l1, l2, l3, l4, l5, l6, l7, l8, l9, l10, l11, l12, l13, l14, l15, l16, l20, l31, l32, l36, l40, l48, l57, l59, l63, l64, l97, l99, l100, l101, l122, l127, l128, l250, l255, l262143, l262144, l30000, l100000, l12345, l1024, l4095, nI_eqs, nI_les, nI_lts, qI_eq, qI_eqn, nI_eqq, qI_lts, nI_ltp, nI_lep, qI_les, nI_add, nI_mul, qI_add, qI_s, qI_def, nI_clamps, bI_z, bI_o, bI_01, n01, n11, rf_some, rf_none, m1, m1n, bft, b0, b1, a2, b2, z4, gA z6, e1, e141, e2, e196, fv, w, bI_f]
    · rw [if_pos rfl]
      by_cases w : f (stN (gY s) t k) = nI 30000
      · rw [if_pos w]
        rw [w] at fv
        simp (disch := omega) only [s199_0, s199_1, s199_2, s199_3, s199_4, s199_5, s199_6, s199_9, s199_10, s199_11, s199_12, s199_13, s199_14, s199_16, s199_17, s199_18, s199_19, s199_20, s199_21, s199_22, s199_23, s199_24, s199_25, s199_26, s199_27, s199_31, ↓reduceIte, Option.bind_some, Option.toList_some, Option.toList_none, List.cons_append, List.nil_append, if_true, if_false, true_or, or_true, true_and, and_true, not_true_eq_false, not_false_eq_true, Nat.reduceLT, Nat.reduceLeDiff, Nat.reduceEqDiff, Nat.reduceAdd, Nat.reduceMul, Nat.reduceSub, Nat.reducePow, Nat.reduceMod, Nat.reduceDiv, l0, l1, l2, l3, l4, l5, l6, l7, l8, l9, l10, l11, l12, l13, l14, l15, l16, l20, l31, l32, l36, l40, l48, l57, l59, l63, l64, l97, l99, l100, l101, l122, l127, l128, l250, l255, l262143, l262144, l30000, l100000, l12345, l1024, l4095, nI_eqs, nI_les, nI_lts, qI_eq, qI_eqn, nI_eqq, qI_lts, nI_ltp, nI_lep, qI_les, nI_add, nI_mul, qI_add, qI_s, qI_def, nI_clamps, bI_z, bI_o, bI_01, n01, n11, rf_some, rf_none, m1, m1n, bft, b0, b1, a2, b2, z4, gA z6, e1, e141, e2, e196, fv, bI_f, bI_t, Bool.true_eq_false]
      · rw [if_neg w]
        simp (disch := omega) only [s199_0, s199_1, s199_2, s199_3, s199_4, s199_5, s199_6, s199_9, s199_10, s199_11, s199_12, s199_13, s199_14, s199_16, s199_17, s199_18, s199_19, s199_20, s199_21, s199_22, s199_23, s199_24, s199_25, s199_28, s199_29, s199_30, s199_31, ↓reduceIte, Option.bind_some, Option.toList_some, Option.toList_none, List.cons_append, List.nil_append, if_true, if_false, true_or, or_true, true_and, and_true, not_true_eq_false, not_false_eq_true, Nat.reduceLT, Nat.reduceLeDiff, Nat.reduceEqDiff, Nat.reduceAdd, Nat.reduceMul, Nat.reduceSub, Nat.reducePow, Nat.reduceMod, Nat.reduceDiv, l0, l1, l2, l3, l4, l5, l6, l7, l8, l9, l10, l11, l12, l13, l14, l15, l16, l20, l31, l32, l36, l40, l48, l57, l59, l63, l64, l97, l99, l100, l101, l122, l127, l128, l250, l255, l262143, l262144, l30000, l100000, l12345, l1024, l4095, nI_eqs, nI_les, nI_lts, qI_eq, qI_eqn, nI_eqq, qI_lts, nI_ltp, nI_lep, qI_les, nI_add, nI_mul, qI_add, qI_s, qI_def, nI_clamps, bI_z, bI_o, bI_01, n01, n11, rf_some, rf_none, m1, m1n, bft, b0, b1, a2, b2, z4, gA z6, e1, e141, e2, e196, fv, w, bI_f, bI_t, Bool.true_eq_false]
  · rw [if_neg hp]
    rw [decide_eq_true (by omega)] at e141
    refine ⟨h1, _, ?_, x1, q1, y1, st1⟩
    simp (disch := omega) only [s199_0, s199_1, s199_2, s199_3, s199_4, s199_5, s199_6, s199_7, s199_8, ↓reduceIte, Option.bind_some, Option.toList_some, Option.toList_none, List.cons_append, List.nil_append, if_true, if_false, true_or, or_true, true_and, and_true, not_true_eq_false, not_false_eq_true, Nat.reduceLT, Nat.reduceLeDiff, Nat.reduceEqDiff, Nat.reduceAdd, Nat.reduceMul, Nat.reduceSub, Nat.reducePow, Nat.reduceMod, Nat.reduceDiv, l0, l1, l2, l3, l4, l5, l6, l7, l8, l9, l10, l11, l12, l13, l14, l15, l16, l20, l31, l32, l36, l40, l48, l57, l59, l63, l64, l97, l99, l100, l101, l122, l127, l128, l250, l255, l262143, l262144, l30000, l100000, l12345, l1024, l4095, nI_eqs, nI_les, nI_lts, qI_eq, qI_eqn, nI_eqq, qI_lts, nI_ltp, nI_lep, qI_les, nI_add, nI_mul, qI_add, qI_s, qI_def, nI_clamps, bI_z, bI_o, bI_01, n01, n11, rf_some, rf_none, m1, m1n, bft, b0, b1, e1, e141, bI_t, Bool.true_eq_false]
