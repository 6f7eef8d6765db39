/-! NUMBERS of both sides agree; the reference's picture while reading -/
theorem nm_c (n : Nat) (b : Nat → Nat) (e : Nat) : ((tkL n b e).1 = 2 ∧ ∃ v, v < 100 ∧ nmD b (tkL n b e) = nI v ∧ fgT n b (tkL n b e) = v) ∨ (nmD b (tkL n b e) = qI 0 ∧ ((tkL n b e).1 = 2 → fgT n b (tkL n b e) = 100000)) := by
  by_cases c : (tkL n b e).1 = 2
  · have dg := tkL_dg n b e c
    have q := fgT_eq c
    by_cases l : (tkL n b e).2.2 - (tkL n b e).2.1 ≤ 2
    · rw [if_pos l] at q
      refine Or.inl ⟨c, _, ?_, ?_, q⟩
      · clear q c
        generalize tkL n b e = t at *
        obtain ⟨s, f, e2⟩ := t
        dsimp only at *
        generalize hl : e2 - f = l' at *
        match l' with
        | 0 => exact (by decide : (0 : Nat) < 100)
        | 1 =>
          have := dg f (by omega) (by omega)
          show 10 * 0 + b f - 48 < 100
          omega
        | 2 =>
          have a1 := dg f (by omega) (by omega)
          have a2 := dg (f + 1) (by omega) (by omega)
          show 10 * (10 * 0 + b f - 48) + b (f + 1) - 48 < 100
          omega
        | l + 3 => omega
      · unfold nmD; rw [if_pos ⟨c, l⟩]
    · rw [if_neg l] at q
      refine Or.inr ⟨?_, fun _ => q⟩
      unfold nmD; rw [if_neg (fun w => l w.2)]
  · refine Or.inr ⟨?_, fun w => absurd w c⟩
    unfold nmD; rw [if_neg (fun w => c w.1)]
theorem inR_no {k : Nat} (hk : k < 2 ^ 31) : inR (qI 0) k = false := by
  cases h : inR (qI 0) k
  · rfl
  · rw [inR_iff hk, qI_toInt (by decide)] at h
    omega
theorem inF_q (n : Nat) (b : Nat → Nat) (e : Nat) {k : Nat} (hk : k ≤ 100) : inF n b (tkL n b e) (nI 0) (qI k) = inR (nmD b (tkL n b e)) k := by
  unfold inF
  have z : (nI 0).toInt64 = lN 0 := rfl
  rw [z, in_q _ (by omega), inRL_i _ (by omega)]
  rcases nm_c n b e with ⟨c, v, hv, e1, e2⟩ | ⟨e1, e2⟩
  · rw [if_pos c, e1, e2]
  · rw [e1, inR_no (by omega)]
    by_cases c : (tkL n b e).1 = 2
    · rw [if_pos c, e2 c, inR_nI (by decide) (by omega)]
      exact decide_eq_false (by omega)
    · rw [if_neg c]
theorem inF_23 (n : Nat) (b : Nat → Nat) (e : Nat) : inF n b (tkL n b e) (nI 2) (nI 3) = decide (nmD b (tkL n b e) = nI 2 ∨ nmD b (tkL n b e) = nI 3) := by
  unfold inF
  rcases nm_c n b e with ⟨c, v, hv, e1, e2⟩ | ⟨e1, e2⟩
  · rw [if_pos c, e1, e2]
    simp (disch := omega) only [nI_eqs]
    rw [Bool.eq_iff_iff, Bool.and_eq_true, decide_eq_true_iff, decide_eq_true_iff, decide_eq_true_iff, Int64.le_iff_toInt_le, Int64.le_iff_toInt_le, Int32.toInt_toInt64, Int32.toInt_toInt64, Int32.toInt_toInt64, nI_toInt (by omega), nI_toInt (by omega), nI_toInt (by omega)]
    omega
  · rw [e1]
    have z : decide (qI 0 = nI 2 ∨ qI 0 = nI 3) = false := by decide
    rw [z]
    by_cases c : (tkL n b e).1 = 2
    · rw [if_pos c, e2 c]; decide
    · rw [if_neg c]
theorem inF_v {n : Nat} {b : Nat → Nat} {e : Nat} {k : Nat} (hk : k ≤ 100) (w : inF n b (tkL n b e) (nI 0) (qI k) = true) : (tkL n b e).1 = 2 ∧ ∃ v, v < k ∧ nmD b (tkL n b e) = nI v ∧ fgT n b (tkL n b e) = v := by
  rw [inF_q n b e hk] at w
  rcases nm_c n b e with ⟨c, v, hv, e1, e2⟩ | ⟨e1, e2⟩
  · rw [e1, inR_nI (by omega) (by omega)] at w
    exact ⟨c, v, of_decide_eq_true w, e1, e2⟩
  · rw [e1, inR_no (by omega)] at w
    exact Bool.noConfusion w
def TZ (h : AH) (A : Nat) : Prop := hR h A 29 = some (A + 25) ∧ hS h (A + 25) = some (0, 2)
def PN (h : AH) (A n : Nat) (b : Nat → Nat) (y : YS) (e : Nat) : Prop := AP h A n b ∧ ATk h A n b (tkL n b e) ∧ e ≤ n ∧ MY h A y ∧ TZ h A
def FM (A : Nat) (h h' : AH) : Prop := Fr0 (fun a => yA A a ∨ a = A + 25) h h' ∧ ∀ j, j < 24 ∨ j = 30 → yFl j = false → hI h' A j = hI h A j
theorem FM.refl (A : Nat) (h : AH) : FM A h h := ⟨Fr0.refl _ _, fun _ _ _ => rfl⟩
theorem FM.trans {A : Nat} {h h1 h2 : AH} (f : FM A h h1) (g : FM A h1 h2) : FM A h h2 := ⟨f.1.trans g.1, fun j hj hk => (g.2 j hj hk).trans (f.2 j hj hk)⟩
theorem AG.fm {A : Nat} {h h' : AH} (f : AG A h h') : FM A h h' := ⟨f.1.mono (fun a w => w.elim (fun w => Or.inl (Or.inl w)) Or.inr), fun j hj _ => f.2 j hj⟩
theorem FY.fm {A : Nat} {h h' : AH} (f : FY A h h') : FM A h h' := ⟨f.1.mono (fun a w => Or.inl w), fun j _ hk => f.2 j hk⟩
theorem MY.ag {A : Nat} {h h' : AH} {y : YS} (q : MY h A y) (f : AG A h h') : MY h' A y := ⟨q.1.of f.1, q.2.1.fx (fun j hj => f.2 j (by unfold yFl at hj; simp only [Bool.or_eq_true, beq_iff_eq] at hj; omega)) (fun b h1 h2 j => (f.1.2.2.2.2.2.2 b (fun w => by omega) j).1), q.2.2⟩
theorem TZ.fm {A : Nat} {h h' : AH} (q : TZ h A) (f : FM A h h') : TZ h' A := by
  unfold TZ at *
  rw [f.1.2.2.2.2.1, f.1.2.2.2.2.2.1]; exact q
theorem AP.fy {h h' : AH} {A n : Nat} {b : Nat → Nat} (q : AP h A n b) (f : FY A h h') : AP h' A n b := by
  obtain ⟨a1, a2, a3, a4, a5, a6⟩ := q
  obtain ⟨⟨f1, f2, f3, f4, f5, f6, f7⟩, g⟩ := f
  exact ⟨by rw [f5]; exact a1, by rw [f6]; exact a2, by rw [f5]; exact a3, by rw [g 7 (by decide)]; exact a4, a5, fun i hi => by rw [(f7 (A + 15) (fun w => by unfold yA at w; omega) i).1]; exact a6 i hi⟩
theorem PN.y {h h' : AH} {A n e : Nat} {b : Nat → Nat} {y y' : YS} (q : PN h A n b y e) (m : MY h' A y') (f : FY A h h') : PN h' A n b y' e ∧ FM A h h' ∧ ∀ j, hI h' (A + 25) j = hI h (A + 25) j := by
  obtain ⟨q1, ⟨t1, t2, t3, t4⟩, q3, q4, q5⟩ := q
  refine ⟨⟨q1.fy f, ⟨?_, ?_, ?_, ?_⟩, q3, m, q5.fm f.fm⟩, f.fm, fun j => (f.1.2.2.2.2.2.2 _ (fun w => by unfold yA at w; omega) j).1⟩
  · rw [f.2 25 (by decide)]; exact t1
  · rw [f.2 26 (by decide)]; exact t2
  · rw [f.2 24 (by decide)]; exact t3
  · rw [f.2 27 (by decide)]; exact t4
/-- what a statement comes to, the reference -/
def MR' (A n : Nat) (b : Nat → Nat) (h : AH) (e : Option (Option Value × AH)) (r : (YS × (Nat × Nat × Nat)) ⊕ Nat) : Prop := match r with
  | .inl r => ∃ h' e', e = some (some (.int (nI 1)), h') ∧ PN h' A n b r.1 e' ∧ r.2 = tkL n b e' ∧ FM A h h'
  | .inr p => ∃ h', e = some (some (.int (nI 0)), h') ∧ FM A h h' ∧ hI h' A 28 = nI p
theorem PN.tok {h : AH} {A n e : Nat} {b : Nat → Nat} {y : YS} (q : PN h A n b y e) : tOK n (tkL n b e) := tkL_ok q.1.2.2.2.2.1 b q.2.2.1
/-- the next number -/
theorem PN.num {h : AH} {A n e : Nat} {b : Nat → Nat} {y : YS} (q : PN h A n b y e) (d : Nat) (lo hi : Int32) :
    (inF n b (tkL n b (tkL n b e).2.2) lo hi = true → ∃ h', E (d + 3) 171 0 [some (.ref A), some (.int lo), some (.int hi)] [] h = some (some (.int (nI 1)), h') ∧ FM A h h' ∧ PN h' A n b y (tkL n b (tkL n b e).2.2).2.2 ∧ hI h' (A + 25) 0 = nI (fgT n b (tkL n b (tkL n b e).2.2))) ∧
    (inF n b (tkL n b (tkL n b e).2.2) lo hi = false → ∃ h', E (d + 3) 171 0 [some (.ref A), some (.int lo), some (.int hi)] [] h = some (some (.int (nI 0)), h') ∧ FM A h h' ∧ hI h' A 28 = nI (tkL n b (tkL n b e).2.2).2.1) := by
  have ok := q.tok
  obtain ⟨q1, ⟨t1, t2, t3, t4⟩, q3, q4, q5⟩ := q
  have o3 := ok.2.2.1
  have ok2 := tkL_ok ok.2.2.2 b o3
  obtain ⟨v1, v2⟩ := m171 d q1 o3 t3 q5.1 q5.2 lo hi
  refine ⟨fun w => ?_, fun w => ?_⟩
  · obtain ⟨h', e1, g, T, k1, k2⟩ := v1 w
    exact ⟨h', e1, g.fm, ⟨q1.ag g, T, ok2.2.2.1, q4.ag g, q5.fm g.fm⟩, k1⟩
  · obtain ⟨h', e1, g, k1⟩ := v2 w
    exact ⟨h', e1, g.fm, k1⟩
/-- the number that is looked at, as the second -/
theorem PN.num1 {h : AH} {A n e : Nat} {b : Nat → Nat} {y : YS} (q : PN h A n b y e) (d : Nat) (lo hi : Int32) :
    (inF n b (tkL n b e) lo hi = true → ∃ h', E (d + 2) 170 0 [some (.ref A), some (.int (nI 1)), some (.int lo), some (.int hi)] [] h = some (some (.int (nI 1)), h') ∧ FM A h h' ∧ PN h' A n b y (tkL n b e).2.2 ∧ hI h' (A + 25) 1 = nI (fgT n b (tkL n b e)) ∧ hI h' (A + 25) 0 = hI h (A + 25) 0) ∧
    (inF n b (tkL n b e) lo hi = false → ∃ h', E (d + 2) 170 0 [some (.ref A), some (.int (nI 1)), some (.int lo), some (.int hi)] [] h = some (some (.int (nI 0)), h') ∧ FM A h h' ∧ hI h' A 28 = nI (tkL n b e).2.1) := by
  have ok := q.tok
  obtain ⟨q1, T0, q3, q4, q5⟩ := q
  obtain ⟨v1, v2⟩ := m170 d q1 T0 ok q5.1 q5.2 (i := 1) (by decide) lo hi
  refine ⟨fun w => ?_, fun w => ?_⟩
  · obtain ⟨h', e1, g, T, k1, k2⟩ := v1 w
    exact ⟨h', e1, g.fm, ⟨q1.ag g, T, ok.2.2.1, q4.ag g, q5.fm g.fm⟩, k1, k2 0 (by decide)⟩
  · exact ⟨_, v2 w, (AF.st h (k := 28) (by decide) (nI (tkL n b e).2.1)).ag.fm, by rw [hI_stI, if_pos ⟨rfl, rfl⟩]⟩
theorem PN.wrong {h : AH} {A n e : Nat} {b : Nat → Nat} {y : YS} (q : PN h A n b y e) : (∀ d, E d 168 0 [some (.ref A)] [] h = some (some (.int (nI 0)), stI h A 28 (nI (tkL n b e).2.1))) ∧ FM A h (stI h A 28 (nI (tkL n b e).2.1)) ∧ hI (stI h A 28 (nI (tkL n b e).2.1)) A 28 = nI (tkL n b e).2.1 := ⟨fun d => m168 d q.1 q.2.1, (AF.st h (k := 28) (by decide) _).ag.fm, by rw [hI_stI, if_pos ⟨rfl, rfl⟩]⟩
