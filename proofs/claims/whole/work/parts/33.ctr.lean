/-! CONSTRUCTORS that only make arrays and set ints, by wip/whole/genctor.py -/
theorem hU_stR (h : AH) (a k : Nat) (v : Option Nat) : hU (stR h a k v) = hU h := rfl
theorem hU_stI (h : AH) (a k : Nat) (v : Int32) : hU (stI h a k v) = hU h := rfl
theorem hU_newC (h : AH) (sh : Nat × Nat) (u : Nat) : hU (newC h sh u) = hU h + u := rfl
theorem hU_newM (h : AH) (t t1 n k : Nat) : hU (newM h t t1 n k) = hU h + n + n * k := rfl
theorem hN_stR (h : AH) (a k : Nat) (v : Option Nat) : hN (stR h a k v) = hN h := rfl
theorem hN_stI (h : AH) (a k : Nat) (v : Int32) : hN (stI h a k v) = hN h := rfl
theorem hN_newC (h : AH) (sh : Nat × Nat) (u : Nat) : hN (newC h sh u) = hN h + 1 := rfl
theorem hN_newM (h : AH) (t t1 n k : Nat) : hN (newM h t t1 n k) = hN h + 1 + n := rfl
theorem hS_stR (h : AH) (a k : Nat) (v : Option Nat) : hS (stR h a k v) = hS h := rfl
theorem hI_stR (h : AH) (a k : Nat) (v : Option Nat) : hI (stR h a k v) = hI h := rfl
theorem hL_stR (h : AH) (a k : Nat) (v : Option Nat) : hL (stR h a k v) = hL h := rfl
theorem hR_stR (h : AH) (a k : Nat) (v : Option Nat) (b j : Nat) : hR (stR h a k v) b j = if b = a ∧ j = k then v else hR h b j := rfl
theorem hS_newC (h : AH) (sh : Nat × Nat) (u b : Nat) : hS (newC h sh u) b = if b = hN h then some sh else hS h b := rfl
theorem hR_newC (h : AH) (sh : Nat × Nat) (u b j : Nat) : hR (newC h sh u) b j = if b = hN h then none else hR h b j := rfl
theorem hI_newC (h : AH) (sh : Nat × Nat) (u b j : Nat) : hI (newC h sh u) b j = if b = hN h then 0 else hI h b j := rfl
theorem hL_newC (h : AH) (sh : Nat × Nat) (u b j : Nat) : hL (newC h sh u) b j = if b = hN h then 0 else hL h b j := rfl
theorem hS_newM (h : AH) (t t1 n k b : Nat) : hS (newM h t t1 n k) b = if b = hN h then some (t, n) else if hN h < b ∧ b < hN h + 1 + n then some (t1, k) else hS h b := rfl
theorem hR_newM (h : AH) (t t1 n k b j : Nat) : hR (newM h t t1 n k) b j = if b = hN h then (if j < n then some (hN h + 1 + j) else none) else if hN h < b ∧ b < hN h + 1 + n then none else hR h b j := rfl
theorem hI_newM (h : AH) (t t1 n k b j : Nat) : hI (newM h t t1 n k) b j = if hN h ≤ b ∧ b < hN h + 1 + n then 0 else hI h b j := rfl
theorem hL_newM (h : AH) (t t1 n k b j : Nat) : hL (newM h t t1 n k) b j = if hN h ≤ b ∧ b < hN h + 1 + n then 0 else hL h b j := rfl
def H22_0 (h : AH) (_ : Nat) : AH := h
def H22_1 (h : AH) (a : Nat) : AH := stI (H22_0 h a) a 0 (qI 0)
theorem N22_1 {h : AH} {a : Nat} (hn : hN h = a + 1) : hN (H22_1 h a) = a + 1 := by unfold H22_1; rw [hN_stI, show hN (H22_0 h a) = hN h from rfl, hn]
theorem S22_1 {h : AH} {a : Nat} (hn : hN h = a + 1) (b : Nat) : hS (H22_1 h a) b = hS (H22_0 h a) b := by unfold H22_1; rw [hS_stI]
theorem R22_1 {h : AH} {a : Nat} (hn : hN h = a + 1) (b j : Nat) : hR (H22_1 h a) b j = hR (H22_0 h a) b j := by unfold H22_1; rw [hR_stI]
theorem I22_1 {h : AH} {a : Nat} (hn : hN h = a + 1) (b j : Nat) : hI (H22_1 h a) b j = if b = a ∧ j = 0 then (qI 0) else hI (H22_0 h a) b j := by unfold H22_1; rw [hI_stI]
theorem L22_1 {h : AH} {a : Nat} (hn : hN h = a + 1) (b j : Nat) : hL (H22_1 h a) b j = hL (H22_0 h a) b j := by unfold H22_1; rw [hL_stI]
theorem T22_1 {h : AH} {a : Nat} (hn : hN h = a + 1) (hs : hS h a = some (101, 0)) : hS (H22_1 h a) a = some (101, 0) := by rw [S22_1 hn]; exact hs 
theorem E22_1 (d : Nat) {h : AH} {a : Nat} (hn : hN h = a + 1) (hs : hS h a = some (101, 0)) : E d 22 2 [some (.ref a)] [] (H22_0 h a) = E d 22 5 [some (.ref a)] [] (H22_1 h a) := by
  have q : hS (H22_0 h a) a = some (101, 0) := hs
  simp only [s22_2, s22_3, s22_4, q, if_true, l0, l1, l2, l3, l4, l5, l6, l7, l8, l9, l10, l11, l12, l13, l14, l15, l16, l20, l31, l32, l36, l40, l48, l57, l59, l63, l64, l97, l99, l100, l101, l122, l127, l128, l250, l255, l262143, l262144, l30000, l100000, l12345, l1024, l4095]
  rfl
def H22_2 (h : AH) (a : Nat) : AH := stI (H22_1 h a) a 1 (qI 0)
theorem N22_2 {h : AH} {a : Nat} (hn : hN h = a + 1) : hN (H22_2 h a) = a + 1 := by unfold H22_2; rw [hN_stI, (N22_1 hn)]
theorem S22_2 {h : AH} {a : Nat} (hn : hN h = a + 1) (b : Nat) : hS (H22_2 h a) b = hS (H22_1 h a) b := by unfold H22_2; rw [hS_stI]
theorem R22_2 {h : AH} {a : Nat} (hn : hN h = a + 1) (b j : Nat) : hR (H22_2 h a) b j = hR (H22_1 h a) b j := by unfold H22_2; rw [hR_stI]
theorem I22_2 {h : AH} {a : Nat} (hn : hN h = a + 1) (b j : Nat) : hI (H22_2 h a) b j = if b = a ∧ j = 1 then (qI 0) else hI (H22_1 h a) b j := by unfold H22_2; rw [hI_stI]
theorem L22_2 {h : AH} {a : Nat} (hn : hN h = a + 1) (b j : Nat) : hL (H22_2 h a) b j = hL (H22_1 h a) b j := by unfold H22_2; rw [hL_stI]
theorem T22_2 {h : AH} {a : Nat} (hn : hN h = a + 1) (hs : hS h a = some (101, 0)) : hS (H22_2 h a) a = some (101, 0) := by rw [S22_2 hn]; rw [T22_1 hn hs]
theorem E22_2 (d : Nat) {h : AH} {a : Nat} (hn : hN h = a + 1) (hs : hS h a = some (101, 0)) : E d 22 5 [some (.ref a)] [] (H22_1 h a) = E d 22 8 [some (.ref a)] [] (H22_2 h a) := by
  have q : hS (H22_1 h a) a = some (101, 0) := T22_1 hn hs
  simp only [s22_5, s22_6, s22_7, q, if_true, l0, l1, l2, l3, l4, l5, l6, l7, l8, l9, l10, l11, l12, l13, l14, l15, l16, l20, l31, l32, l36, l40, l48, l57, l59, l63, l64, l97, l99, l100, l101, l122, l127, l128, l250, l255, l262143, l262144, l30000, l100000, l12345, l1024, l4095]
  rfl
def H22_3 (h : AH) (a : Nat) : AH := stI (H22_2 h a) a 2 (nI 0)
theorem N22_3 {h : AH} {a : Nat} (hn : hN h = a + 1) : hN (H22_3 h a) = a + 1 := by unfold H22_3; rw [hN_stI, (N22_2 hn)]
theorem S22_3 {h : AH} {a : Nat} (hn : hN h = a + 1) (b : Nat) : hS (H22_3 h a) b = hS (H22_2 h a) b := by unfold H22_3; rw [hS_stI]
theorem R22_3 {h : AH} {a : Nat} (hn : hN h = a + 1) (b j : Nat) : hR (H22_3 h a) b j = hR (H22_2 h a) b j := by unfold H22_3; rw [hR_stI]
theorem I22_3 {h : AH} {a : Nat} (hn : hN h = a + 1) (b j : Nat) : hI (H22_3 h a) b j = if b = a ∧ j = 2 then (nI 0) else hI (H22_2 h a) b j := by unfold H22_3; rw [hI_stI]
theorem L22_3 {h : AH} {a : Nat} (hn : hN h = a + 1) (b j : Nat) : hL (H22_3 h a) b j = hL (H22_2 h a) b j := by unfold H22_3; rw [hL_stI]
theorem T22_3 {h : AH} {a : Nat} (hn : hN h = a + 1) (hs : hS h a = some (101, 0)) : hS (H22_3 h a) a = some (101, 0) := by rw [S22_3 hn]; rw [T22_2 hn hs]
theorem E22_3 (d : Nat) {h : AH} {a : Nat} (hn : hN h = a + 1) (hs : hS h a = some (101, 0)) : E d 22 8 [some (.ref a)] [] (H22_2 h a) = E d 22 11 [some (.ref a)] [] (H22_3 h a) := by
  have q : hS (H22_2 h a) a = some (101, 0) := T22_2 hn hs
  simp only [s22_8, s22_9, s22_10, q, if_true, l0, l1, l2, l3, l4, l5, l6, l7, l8, l9, l10, l11, l12, l13, l14, l15, l16, l20, l31, l32, l36, l40, l48, l57, l59, l63, l64, l97, l99, l100, l101, l122, l127, l128, l250, l255, l262143, l262144, l30000, l100000, l12345, l1024, l4095]
  rfl
def H22_4 (h : AH) (a : Nat) : AH := stR (newC (H22_3 h a) (1, 40) 40) a 3 (some (a + 1))
theorem N22_4 {h : AH} {a : Nat} (hn : hN h = a + 1) : hN (H22_4 h a) = a + 2 := by unfold H22_4; rw [hN_stR, hN_newC, (N22_3 hn)]
theorem S22_4 {h : AH} {a : Nat} (hn : hN h = a + 1) (b : Nat) : hS (H22_4 h a) b = if b = a + 1 then some (1, 40) else hS (H22_3 h a) b := by unfold H22_4; rw [hS_stR, hS_newC, (N22_3 hn)]
theorem R22_4 {h : AH} {a : Nat} (hn : hN h = a + 1) (b j : Nat) : hR (H22_4 h a) b j = if b = a ∧ j = 3 then some (a + 1) else if b = a + 1 then none else hR (H22_3 h a) b j := by unfold H22_4; rw [hR_stR, hR_newC, (N22_3 hn)]
theorem I22_4 {h : AH} {a : Nat} (hn : hN h = a + 1) (b j : Nat) : hI (H22_4 h a) b j = if b = a + 1 then 0 else hI (H22_3 h a) b j := by unfold H22_4; rw [hI_stR, hI_newC, (N22_3 hn)]
theorem L22_4 {h : AH} {a : Nat} (hn : hN h = a + 1) (b j : Nat) : hL (H22_4 h a) b j = if b = a + 1 then 0 else hL (H22_3 h a) b j := by unfold H22_4; rw [hL_stR, hL_newC, (N22_3 hn)]
theorem T22_4 {h : AH} {a : Nat} (hn : hN h = a + 1) (hs : hS h a = some (101, 0)) : hS (H22_4 h a) a = some (101, 0) := by rw [S22_4 hn, if_neg (by omega)]; rw [T22_3 hn hs]
theorem E22_4 (d : Nat) {h : AH} {a : Nat} (hn : hN h = a + 1) (hs : hS h a = some (101, 0)) : E d 22 11 [some (.ref a)] [] (H22_3 h a) = E d 22 15 [some (.ref a)] [] (H22_4 h a) := by
  have q : hS (H22_3 h a) a = some (101, 0) := T22_3 hn hs
  have qn : hN (H22_3 h a) = a + 1 := N22_3 hn
  have q2 : hS (newC (H22_3 h a) (1, 40) 40) a = some (101, 0) := by rw [hS_newC, if_neg (show ¬ a = hN (H22_3 h a) by omega)]; exact q
  have g2 : (40 : Int32).toNatClampNeg = 40 := nI_clamp (n := 40) (by omega)
  have g : (¬ (40 : Int32) < 0 ∧ 40 ≤ 67108864) := ⟨nI_pos (show 40 < 2 ^ 31 by omega), by omega⟩
  simp only [s22_11, s22_12, s22_13, g2]
  rw [if_pos g]
  simp only [s22_14, qn, q2, if_true]
  rfl
theorem E22 (d : Nat) {h : AH} {a : Nat} (hn : hN h = a + 1) (hs : hS h a = some (101, 0)) : E d 22 0 [some (.ref a)] [] h = some (none, H22_4 h a) := by
  rw [s22_0, s22_1]
  show E d 22 2 [some (.ref a)] [] (H22_0 h a) = _
  rw [E22_1 d hn hs, E22_2 d hn hs, E22_3 d hn hs, E22_4 d hn hs, s22_15]
theorem U22 {h : AH} {a : Nat} : hU (H22_4 h a) = hU h + 40 := by simp only [H22_0, H22_1, H22_2, H22_3, H22_4, hU_stR, hU_stI, hU_newC, hU_newM]
-- 22 ends at a + 2
def H32_0 (h : AH) (_ : Nat) : AH := h
def H32_1 (h : AH) (a : Nat) : AH := stR (newC (H32_0 h a) (0, 250) 250) a 0 (some (a + 1))
theorem N32_1 {h : AH} {a : Nat} (hn : hN h = a + 1) : hN (H32_1 h a) = a + 2 := by unfold H32_1; rw [hN_stR, hN_newC, show hN (H32_0 h a) = hN h from rfl, hn]
theorem S32_1 {h : AH} {a : Nat} (hn : hN h = a + 1) (b : Nat) : hS (H32_1 h a) b = if b = a + 1 then some (0, 250) else hS (H32_0 h a) b := by unfold H32_1; rw [hS_stR, hS_newC, show hN (H32_0 h a) = hN h from rfl, hn]
theorem R32_1 {h : AH} {a : Nat} (hn : hN h = a + 1) (b j : Nat) : hR (H32_1 h a) b j = if b = a ∧ j = 0 then some (a + 1) else if b = a + 1 then none else hR (H32_0 h a) b j := by unfold H32_1; rw [hR_stR, hR_newC, show hN (H32_0 h a) = hN h from rfl, hn]
theorem I32_1 {h : AH} {a : Nat} (hn : hN h = a + 1) (b j : Nat) : hI (H32_1 h a) b j = if b = a + 1 then 0 else hI (H32_0 h a) b j := by unfold H32_1; rw [hI_stR, hI_newC, show hN (H32_0 h a) = hN h from rfl, hn]
theorem L32_1 {h : AH} {a : Nat} (hn : hN h = a + 1) (b j : Nat) : hL (H32_1 h a) b j = if b = a + 1 then 0 else hL (H32_0 h a) b j := by unfold H32_1; rw [hL_stR, hL_newC, show hN (H32_0 h a) = hN h from rfl, hn]
theorem T32_1 {h : AH} {a : Nat} (hn : hN h = a + 1) (hs : hS h a = some (102, 0)) : hS (H32_1 h a) a = some (102, 0) := by rw [S32_1 hn, if_neg (by omega)]; exact hs 
theorem E32_1 (d : Nat) {h : AH} {a : Nat} (hn : hN h = a + 1) (hs : hS h a = some (102, 0)) : E d 32 2 [some (.ref a)] [] (H32_0 h a) = E d 32 6 [some (.ref a)] [] (H32_1 h a) := by
  have q : hS (H32_0 h a) a = some (102, 0) := hs
  have qn : hN (H32_0 h a) = a + 1 := hn
  have q2 : hS (newC (H32_0 h a) (0, 250) 250) a = some (102, 0) := by rw [hS_newC, if_neg (show ¬ a = hN (H32_0 h a) by omega)]; exact q
  have g2 : (250 : Int32).toNatClampNeg = 250 := nI_clamp (n := 250) (by omega)
  have g : (¬ (250 : Int32) < 0 ∧ 250 ≤ 67108864) := ⟨nI_pos (show 250 < 2 ^ 31 by omega), by omega⟩
  simp only [s32_2, s32_3, s32_4, g2]
  rw [if_pos g]
  simp only [s32_5, qn, q2, if_true]
  rfl
def H32_2 (h : AH) (a : Nat) : AH := stI (H32_1 h a) a 1 (nI 0)
theorem N32_2 {h : AH} {a : Nat} (hn : hN h = a + 1) : hN (H32_2 h a) = a + 2 := by unfold H32_2; rw [hN_stI, (N32_1 hn)]
theorem S32_2 {h : AH} {a : Nat} (hn : hN h = a + 1) (b : Nat) : hS (H32_2 h a) b = hS (H32_1 h a) b := by unfold H32_2; rw [hS_stI]
theorem R32_2 {h : AH} {a : Nat} (hn : hN h = a + 1) (b j : Nat) : hR (H32_2 h a) b j = hR (H32_1 h a) b j := by unfold H32_2; rw [hR_stI]
theorem I32_2 {h : AH} {a : Nat} (hn : hN h = a + 1) (b j : Nat) : hI (H32_2 h a) b j = if b = a ∧ j = 1 then (nI 0) else hI (H32_1 h a) b j := by unfold H32_2; rw [hI_stI]
theorem L32_2 {h : AH} {a : Nat} (hn : hN h = a + 1) (b j : Nat) : hL (H32_2 h a) b j = hL (H32_1 h a) b j := by unfold H32_2; rw [hL_stI]
theorem T32_2 {h : AH} {a : Nat} (hn : hN h = a + 1) (hs : hS h a = some (102, 0)) : hS (H32_2 h a) a = some (102, 0) := by rw [S32_2 hn]; rw [T32_1 hn hs]
theorem E32_2 (d : Nat) {h : AH} {a : Nat} (hn : hN h = a + 1) (hs : hS h a = some (102, 0)) : E d 32 6 [some (.ref a)] [] (H32_1 h a) = E d 32 9 [some (.ref a)] [] (H32_2 h a) := by
  have q : hS (H32_1 h a) a = some (102, 0) := T32_1 hn hs
  simp only [s32_6, s32_7, s32_8, q, if_true, l0, l1, l2, l3, l4, l5, l6, l7, l8, l9, l10, l11, l12, l13, l14, l15, l16, l20, l31, l32, l36, l40, l48, l57, l59, l63, l64, l97, l99, l100, l101, l122, l127, l128, l250, l255, l262143, l262144, l30000, l100000, l12345, l1024, l4095]
  rfl
def H32_3 (h : AH) (a : Nat) : AH := stI (H32_2 h a) a 2 (nI 0)
theorem N32_3 {h : AH} {a : Nat} (hn : hN h = a + 1) : hN (H32_3 h a) = a + 2 := by unfold H32_3; rw [hN_stI, (N32_2 hn)]
theorem S32_3 {h : AH} {a : Nat} (hn : hN h = a + 1) (b : Nat) : hS (H32_3 h a) b = hS (H32_2 h a) b := by unfold H32_3; rw [hS_stI]
theorem R32_3 {h : AH} {a : Nat} (hn : hN h = a + 1) (b j : Nat) : hR (H32_3 h a) b j = hR (H32_2 h a) b j := by unfold H32_3; rw [hR_stI]
theorem I32_3 {h : AH} {a : Nat} (hn : hN h = a + 1) (b j : Nat) : hI (H32_3 h a) b j = if b = a ∧ j = 2 then (nI 0) else hI (H32_2 h a) b j := by unfold H32_3; rw [hI_stI]
theorem L32_3 {h : AH} {a : Nat} (hn : hN h = a + 1) (b j : Nat) : hL (H32_3 h a) b j = hL (H32_2 h a) b j := by unfold H32_3; rw [hL_stI]
theorem T32_3 {h : AH} {a : Nat} (hn : hN h = a + 1) (hs : hS h a = some (102, 0)) : hS (H32_3 h a) a = some (102, 0) := by rw [S32_3 hn]; rw [T32_2 hn hs]
theorem E32_3 (d : Nat) {h : AH} {a : Nat} (hn : hN h = a + 1) (hs : hS h a = some (102, 0)) : E d 32 9 [some (.ref a)] [] (H32_2 h a) = E d 32 12 [some (.ref a)] [] (H32_3 h a) := by
  have q : hS (H32_2 h a) a = some (102, 0) := T32_2 hn hs
  simp only [s32_9, s32_10, s32_11, q, if_true, l0, l1, l2, l3, l4, l5, l6, l7, l8, l9, l10, l11, l12, l13, l14, l15, l16, l20, l31, l32, l36, l40, l48, l57, l59, l63, l64, l97, l99, l100, l101, l122, l127, l128, l250, l255, l262143, l262144, l30000, l100000, l12345, l1024, l4095]
  rfl
def H32_4 (h : AH) (a : Nat) : AH := stI (H32_3 h a) a 3 (nI 0)
theorem N32_4 {h : AH} {a : Nat} (hn : hN h = a + 1) : hN (H32_4 h a) = a + 2 := by unfold H32_4; rw [hN_stI, (N32_3 hn)]
theorem S32_4 {h : AH} {a : Nat} (hn : hN h = a + 1) (b : Nat) : hS (H32_4 h a) b = hS (H32_3 h a) b := by unfold H32_4; rw [hS_stI]
theorem R32_4 {h : AH} {a : Nat} (hn : hN h = a + 1) (b j : Nat) : hR (H32_4 h a) b j = hR (H32_3 h a) b j := by unfold H32_4; rw [hR_stI]
theorem I32_4 {h : AH} {a : Nat} (hn : hN h = a + 1) (b j : Nat) : hI (H32_4 h a) b j = if b = a ∧ j = 3 then (nI 0) else hI (H32_3 h a) b j := by unfold H32_4; rw [hI_stI]
theorem L32_4 {h : AH} {a : Nat} (hn : hN h = a + 1) (b j : Nat) : hL (H32_4 h a) b j = hL (H32_3 h a) b j := by unfold H32_4; rw [hL_stI]
theorem T32_4 {h : AH} {a : Nat} (hn : hN h = a + 1) (hs : hS h a = some (102, 0)) : hS (H32_4 h a) a = some (102, 0) := by rw [S32_4 hn]; rw [T32_3 hn hs]
theorem E32_4 (d : Nat) {h : AH} {a : Nat} (hn : hN h = a + 1) (hs : hS h a = some (102, 0)) : E d 32 12 [some (.ref a)] [] (H32_3 h a) = E d 32 15 [some (.ref a)] [] (H32_4 h a) := by
  have q : hS (H32_3 h a) a = some (102, 0) := T32_3 hn hs
  simp only [s32_12, s32_13, s32_14, q, if_true, l0, l1, l2, l3, l4, l5, l6, l7, l8, l9, l10, l11, l12, l13, l14, l15, l16, l20, l31, l32, l36, l40, l48, l57, l59, l63, l64, l97, l99, l100, l101, l122, l127, l128, l250, l255, l262143, l262144, l30000, l100000, l12345, l1024, l4095]
  rfl
def H32_5 (h : AH) (a : Nat) : AH := stI (H32_4 h a) a 4 (nI 0)
theorem N32_5 {h : AH} {a : Nat} (hn : hN h = a + 1) : hN (H32_5 h a) = a + 2 := by unfold H32_5; rw [hN_stI, (N32_4 hn)]
theorem S32_5 {h : AH} {a : Nat} (hn : hN h = a + 1) (b : Nat) : hS (H32_5 h a) b = hS (H32_4 h a) b := by unfold H32_5; rw [hS_stI]
theorem R32_5 {h : AH} {a : Nat} (hn : hN h = a + 1) (b j : Nat) : hR (H32_5 h a) b j = hR (H32_4 h a) b j := by unfold H32_5; rw [hR_stI]
theorem I32_5 {h : AH} {a : Nat} (hn : hN h = a + 1) (b j : Nat) : hI (H32_5 h a) b j = if b = a ∧ j = 4 then (nI 0) else hI (H32_4 h a) b j := by unfold H32_5; rw [hI_stI]
theorem L32_5 {h : AH} {a : Nat} (hn : hN h = a + 1) (b j : Nat) : hL (H32_5 h a) b j = hL (H32_4 h a) b j := by unfold H32_5; rw [hL_stI]
theorem T32_5 {h : AH} {a : Nat} (hn : hN h = a + 1) (hs : hS h a = some (102, 0)) : hS (H32_5 h a) a = some (102, 0) := by rw [S32_5 hn]; rw [T32_4 hn hs]
theorem E32_5 (d : Nat) {h : AH} {a : Nat} (hn : hN h = a + 1) (hs : hS h a = some (102, 0)) : E d 32 15 [some (.ref a)] [] (H32_4 h a) = E d 32 18 [some (.ref a)] [] (H32_5 h a) := by
  have q : hS (H32_4 h a) a = some (102, 0) := T32_4 hn hs
  simp only [s32_15, s32_16, s32_17, q, if_true, l0, l1, l2, l3, l4, l5, l6, l7, l8, l9, l10, l11, l12, l13, l14, l15, l16, l20, l31, l32, l36, l40, l48, l57, l59, l63, l64, l97, l99, l100, l101, l122, l127, l128, l250, l255, l262143, l262144, l30000, l100000, l12345, l1024, l4095]
  rfl
theorem E32 (d : Nat) {h : AH} {a : Nat} (hn : hN h = a + 1) (hs : hS h a = some (102, 0)) : E d 32 0 [some (.ref a)] [] h = some (none, H32_5 h a) := by
  rw [s32_0, s32_1]
  show E d 32 2 [some (.ref a)] [] (H32_0 h a) = _
  rw [E32_1 d hn hs, E32_2 d hn hs, E32_3 d hn hs, E32_4 d hn hs, E32_5 d hn hs, s32_18]
theorem U32 {h : AH} {a : Nat} : hU (H32_5 h a) = hU h + 250 := by simp only [H32_0, H32_1, H32_2, H32_3, H32_4, H32_5, hU_stR, hU_stI, hU_newC, hU_newM]
-- 32 ends at a + 2
def H7_0 (h : AH) (_ : Nat) : AH := h
def H7_1 (h : AH) (a : Nat) : AH := stR (newC (H7_0 h a) (1, 4096) 4096) a 0 (some (a + 1))
theorem N7_1 {h : AH} {a : Nat} (hn : hN h = a + 1) : hN (H7_1 h a) = a + 2 := by unfold H7_1; rw [hN_stR, hN_newC, show hN (H7_0 h a) = hN h from rfl, hn]
theorem S7_1 {h : AH} {a : Nat} (hn : hN h = a + 1) (b : Nat) : hS (H7_1 h a) b = if b = a + 1 then some (1, 4096) else hS (H7_0 h a) b := by unfold H7_1; rw [hS_stR, hS_newC, show hN (H7_0 h a) = hN h from rfl, hn]
theorem R7_1 {h : AH} {a : Nat} (hn : hN h = a + 1) (b j : Nat) : hR (H7_1 h a) b j = if b = a ∧ j = 0 then some (a + 1) else if b = a + 1 then none else hR (H7_0 h a) b j := by unfold H7_1; rw [hR_stR, hR_newC, show hN (H7_0 h a) = hN h from rfl, hn]
theorem I7_1 {h : AH} {a : Nat} (hn : hN h = a + 1) (b j : Nat) : hI (H7_1 h a) b j = if b = a + 1 then 0 else hI (H7_0 h a) b j := by unfold H7_1; rw [hI_stR, hI_newC, show hN (H7_0 h a) = hN h from rfl, hn]
theorem L7_1 {h : AH} {a : Nat} (hn : hN h = a + 1) (b j : Nat) : hL (H7_1 h a) b j = if b = a + 1 then 0 else hL (H7_0 h a) b j := by unfold H7_1; rw [hL_stR, hL_newC, show hN (H7_0 h a) = hN h from rfl, hn]
theorem T7_1 {h : AH} {a : Nat} (hn : hN h = a + 1) (hs : hS h a = some (100, 0)) : hS (H7_1 h a) a = some (100, 0) := by rw [S7_1 hn, if_neg (by omega)]; exact hs 
theorem E7_1 (d : Nat) {h : AH} {a : Nat} (hn : hN h = a + 1) (hs : hS h a = some (100, 0)) : E d 7 2 [some (.ref a)] [] (H7_0 h a) = E d 7 6 [some (.ref a)] [] (H7_1 h a) := by
  have q : hS (H7_0 h a) a = some (100, 0) := hs
  have qn : hN (H7_0 h a) = a + 1 := hn
  have q2 : hS (newC (H7_0 h a) (1, 4096) 4096) a = some (100, 0) := by rw [hS_newC, if_neg (show ¬ a = hN (H7_0 h a) by omega)]; exact q
  have g2 : (4096 : Int32).toNatClampNeg = 4096 := nI_clamp (n := 4096) (by omega)
  have g : (¬ (4096 : Int32) < 0 ∧ 4096 ≤ 67108864) := ⟨nI_pos (show 4096 < 2 ^ 31 by omega), by omega⟩
  simp only [s7_2, s7_3, s7_4, g2]
  rw [if_pos g]
  simp only [s7_5, qn, q2, if_true]
  rfl
def H7_2 (h : AH) (a : Nat) : AH := stR (newC (H7_1 h a) (1, 1024) 1024) a 1 (some (a + 2))
theorem N7_2 {h : AH} {a : Nat} (hn : hN h = a + 1) : hN (H7_2 h a) = a + 3 := by unfold H7_2; rw [hN_stR, hN_newC, (N7_1 hn)]
theorem S7_2 {h : AH} {a : Nat} (hn : hN h = a + 1) (b : Nat) : hS (H7_2 h a) b = if b = a + 2 then some (1, 1024) else hS (H7_1 h a) b := by unfold H7_2; rw [hS_stR, hS_newC, (N7_1 hn)]
theorem R7_2 {h : AH} {a : Nat} (hn : hN h = a + 1) (b j : Nat) : hR (H7_2 h a) b j = if b = a ∧ j = 1 then some (a + 2) else if b = a + 2 then none else hR (H7_1 h a) b j := by unfold H7_2; rw [hR_stR, hR_newC, (N7_1 hn)]
theorem I7_2 {h : AH} {a : Nat} (hn : hN h = a + 1) (b j : Nat) : hI (H7_2 h a) b j = if b = a + 2 then 0 else hI (H7_1 h a) b j := by unfold H7_2; rw [hI_stR, hI_newC, (N7_1 hn)]
theorem L7_2 {h : AH} {a : Nat} (hn : hN h = a + 1) (b j : Nat) : hL (H7_2 h a) b j = if b = a + 2 then 0 else hL (H7_1 h a) b j := by unfold H7_2; rw [hL_stR, hL_newC, (N7_1 hn)]
theorem T7_2 {h : AH} {a : Nat} (hn : hN h = a + 1) (hs : hS h a = some (100, 0)) : hS (H7_2 h a) a = some (100, 0) := by rw [S7_2 hn, if_neg (by omega)]; rw [T7_1 hn hs]
theorem E7_2 (d : Nat) {h : AH} {a : Nat} (hn : hN h = a + 1) (hs : hS h a = some (100, 0)) : E d 7 6 [some (.ref a)] [] (H7_1 h a) = E d 7 10 [some (.ref a)] [] (H7_2 h a) := by
  have q : hS (H7_1 h a) a = some (100, 0) := T7_1 hn hs
  have qn : hN (H7_1 h a) = a + 2 := N7_1 hn
  have q2 : hS (newC (H7_1 h a) (1, 1024) 1024) a = some (100, 0) := by rw [hS_newC, if_neg (show ¬ a = hN (H7_1 h a) by omega)]; exact q
  have g2 : (1024 : Int32).toNatClampNeg = 1024 := nI_clamp (n := 1024) (by omega)
  have g : (¬ (1024 : Int32) < 0 ∧ 1024 ≤ 67108864) := ⟨nI_pos (show 1024 < 2 ^ 31 by omega), by omega⟩
  simp only [s7_6, s7_7, s7_8, g2]
  rw [if_pos g]
  simp only [s7_9, qn, q2, if_true]
  rfl
def H7_3 (h : AH) (a : Nat) : AH := stI (H7_2 h a) a 2 (nI 0)
theorem N7_3 {h : AH} {a : Nat} (hn : hN h = a + 1) : hN (H7_3 h a) = a + 3 := by unfold H7_3; rw [hN_stI, (N7_2 hn)]
theorem S7_3 {h : AH} {a : Nat} (hn : hN h = a + 1) (b : Nat) : hS (H7_3 h a) b = hS (H7_2 h a) b := by unfold H7_3; rw [hS_stI]
theorem R7_3 {h : AH} {a : Nat} (hn : hN h = a + 1) (b j : Nat) : hR (H7_3 h a) b j = hR (H7_2 h a) b j := by unfold H7_3; rw [hR_stI]
theorem I7_3 {h : AH} {a : Nat} (hn : hN h = a + 1) (b j : Nat) : hI (H7_3 h a) b j = if b = a ∧ j = 2 then (nI 0) else hI (H7_2 h a) b j := by unfold H7_3; rw [hI_stI]
theorem L7_3 {h : AH} {a : Nat} (hn : hN h = a + 1) (b j : Nat) : hL (H7_3 h a) b j = hL (H7_2 h a) b j := by unfold H7_3; rw [hL_stI]
theorem T7_3 {h : AH} {a : Nat} (hn : hN h = a + 1) (hs : hS h a = some (100, 0)) : hS (H7_3 h a) a = some (100, 0) := by rw [S7_3 hn]; rw [T7_2 hn hs]
theorem E7_3 (d : Nat) {h : AH} {a : Nat} (hn : hN h = a + 1) (hs : hS h a = some (100, 0)) : E d 7 10 [some (.ref a)] [] (H7_2 h a) = E d 7 13 [some (.ref a)] [] (H7_3 h a) := by
  have q : hS (H7_2 h a) a = some (100, 0) := T7_2 hn hs
  simp only [s7_10, s7_11, s7_12, q, if_true, l0, l1, l2, l3, l4, l5, l6, l7, l8, l9, l10, l11, l12, l13, l14, l15, l16, l20, l31, l32, l36, l40, l48, l57, l59, l63, l64, l97, l99, l100, l101, l122, l127, l128, l250, l255, l262143, l262144, l30000, l100000, l12345, l1024, l4095]
  rfl
def H7_4 (h : AH) (a : Nat) : AH := stI (H7_3 h a) a 3 (nI 0)
theorem N7_4 {h : AH} {a : Nat} (hn : hN h = a + 1) : hN (H7_4 h a) = a + 3 := by unfold H7_4; rw [hN_stI, (N7_3 hn)]
theorem S7_4 {h : AH} {a : Nat} (hn : hN h = a + 1) (b : Nat) : hS (H7_4 h a) b = hS (H7_3 h a) b := by unfold H7_4; rw [hS_stI]
theorem R7_4 {h : AH} {a : Nat} (hn : hN h = a + 1) (b j : Nat) : hR (H7_4 h a) b j = hR (H7_3 h a) b j := by unfold H7_4; rw [hR_stI]
theorem I7_4 {h : AH} {a : Nat} (hn : hN h = a + 1) (b j : Nat) : hI (H7_4 h a) b j = if b = a ∧ j = 3 then (nI 0) else hI (H7_3 h a) b j := by unfold H7_4; rw [hI_stI]
theorem L7_4 {h : AH} {a : Nat} (hn : hN h = a + 1) (b j : Nat) : hL (H7_4 h a) b j = hL (H7_3 h a) b j := by unfold H7_4; rw [hL_stI]
theorem T7_4 {h : AH} {a : Nat} (hn : hN h = a + 1) (hs : hS h a = some (100, 0)) : hS (H7_4 h a) a = some (100, 0) := by rw [S7_4 hn]; rw [T7_3 hn hs]
theorem E7_4 (d : Nat) {h : AH} {a : Nat} (hn : hN h = a + 1) (hs : hS h a = some (100, 0)) : E d 7 13 [some (.ref a)] [] (H7_3 h a) = E d 7 16 [some (.ref a)] [] (H7_4 h a) := by
  have q : hS (H7_3 h a) a = some (100, 0) := T7_3 hn hs
  simp only [s7_13, s7_14, s7_15, q, if_true, l0, l1, l2, l3, l4, l5, l6, l7, l8, l9, l10, l11, l12, l13, l14, l15, l16, l20, l31, l32, l36, l40, l48, l57, l59, l63, l64, l97, l99, l100, l101, l122, l127, l128, l250, l255, l262143, l262144, l30000, l100000, l12345, l1024, l4095]
  rfl
def H7_5 (h : AH) (a : Nat) : AH := stI (H7_4 h a) a 4 (nI 0)
theorem N7_5 {h : AH} {a : Nat} (hn : hN h = a + 1) : hN (H7_5 h a) = a + 3 := by unfold H7_5; rw [hN_stI, (N7_4 hn)]
theorem S7_5 {h : AH} {a : Nat} (hn : hN h = a + 1) (b : Nat) : hS (H7_5 h a) b = hS (H7_4 h a) b := by unfold H7_5; rw [hS_stI]
theorem R7_5 {h : AH} {a : Nat} (hn : hN h = a + 1) (b j : Nat) : hR (H7_5 h a) b j = hR (H7_4 h a) b j := by unfold H7_5; rw [hR_stI]
theorem I7_5 {h : AH} {a : Nat} (hn : hN h = a + 1) (b j : Nat) : hI (H7_5 h a) b j = if b = a ∧ j = 4 then (nI 0) else hI (H7_4 h a) b j := by unfold H7_5; rw [hI_stI]
theorem L7_5 {h : AH} {a : Nat} (hn : hN h = a + 1) (b j : Nat) : hL (H7_5 h a) b j = hL (H7_4 h a) b j := by unfold H7_5; rw [hL_stI]
theorem T7_5 {h : AH} {a : Nat} (hn : hN h = a + 1) (hs : hS h a = some (100, 0)) : hS (H7_5 h a) a = some (100, 0) := by rw [S7_5 hn]; rw [T7_4 hn hs]
theorem E7_5 (d : Nat) {h : AH} {a : Nat} (hn : hN h = a + 1) (hs : hS h a = some (100, 0)) : E d 7 16 [some (.ref a)] [] (H7_4 h a) = E d 7 19 [some (.ref a)] [] (H7_5 h a) := by
  have q : hS (H7_4 h a) a = some (100, 0) := T7_4 hn hs
  simp only [s7_16, s7_17, s7_18, q, if_true, l0, l1, l2, l3, l4, l5, l6, l7, l8, l9, l10, l11, l12, l13, l14, l15, l16, l20, l31, l32, l36, l40, l48, l57, l59, l63, l64, l97, l99, l100, l101, l122, l127, l128, l250, l255, l262143, l262144, l30000, l100000, l12345, l1024, l4095]
  rfl
theorem E7 (d : Nat) {h : AH} {a : Nat} (hn : hN h = a + 1) (hs : hS h a = some (100, 0)) : E d 7 0 [some (.ref a)] [] h = some (none, H7_5 h a) := by
  rw [s7_0, s7_1]
  show E d 7 2 [some (.ref a)] [] (H7_0 h a) = _
  rw [E7_1 d hn hs, E7_2 d hn hs, E7_3 d hn hs, E7_4 d hn hs, E7_5 d hn hs, s7_19]
theorem U7 {h : AH} {a : Nat} : hU (H7_5 h a) = hU h + 5120 := by simp only [H7_0, H7_1, H7_2, H7_3, H7_4, H7_5, hU_stR, hU_stI, hU_newC, hU_newM]
-- 7 ends at a + 3
def H58_0 (h : AH) (_ : Nat) : AH := h
def H58_1 (h : AH) (a : Nat) : AH := stI (H58_0 h a) a 0 (nI 3)
theorem N58_1 {h : AH} {a : Nat} (hn : hN h = a + 1) : hN (H58_1 h a) = a + 1 := by unfold H58_1; rw [hN_stI, show hN (H58_0 h a) = hN h from rfl, hn]
theorem S58_1 {h : AH} {a : Nat} (hn : hN h = a + 1) (b : Nat) : hS (H58_1 h a) b = hS (H58_0 h a) b := by unfold H58_1; rw [hS_stI]
theorem R58_1 {h : AH} {a : Nat} (hn : hN h = a + 1) (b j : Nat) : hR (H58_1 h a) b j = hR (H58_0 h a) b j := by unfold H58_1; rw [hR_stI]
theorem I58_1 {h : AH} {a : Nat} (hn : hN h = a + 1) (b j : Nat) : hI (H58_1 h a) b j = if b = a ∧ j = 0 then (nI 3) else hI (H58_0 h a) b j := by unfold H58_1; rw [hI_stI]
theorem L58_1 {h : AH} {a : Nat} (hn : hN h = a + 1) (b j : Nat) : hL (H58_1 h a) b j = hL (H58_0 h a) b j := by unfold H58_1; rw [hL_stI]
theorem T58_1 {h : AH} {a : Nat} (hn : hN h = a + 1) (hs : hS h a = some (103, 0)) : hS (H58_1 h a) a = some (103, 0) := by rw [S58_1 hn]; exact hs 
theorem E58_1 (d : Nat) {h : AH} {a : Nat} (hn : hN h = a + 1) (hs : hS h a = some (103, 0)) : E d 58 2 [some (.ref a)] [] (H58_0 h a) = E d 58 5 [some (.ref a)] [] (H58_1 h a) := by
  have q : hS (H58_0 h a) a = some (103, 0) := hs
  simp only [s58_2, s58_3, s58_4, q, if_true, l0, l1, l2, l3, l4, l5, l6, l7, l8, l9, l10, l11, l12, l13, l14, l15, l16, l20, l31, l32, l36, l40, l48, l57, l59, l63, l64, l97, l99, l100, l101, l122, l127, l128, l250, l255, l262143, l262144, l30000, l100000, l12345, l1024, l4095]
  rfl
def H58_2 (h : AH) (a : Nat) : AH := stI (H58_1 h a) a 1 (nI 0)
theorem N58_2 {h : AH} {a : Nat} (hn : hN h = a + 1) : hN (H58_2 h a) = a + 1 := by unfold H58_2; rw [hN_stI, (N58_1 hn)]
theorem S58_2 {h : AH} {a : Nat} (hn : hN h = a + 1) (b : Nat) : hS (H58_2 h a) b = hS (H58_1 h a) b := by unfold H58_2; rw [hS_stI]
theorem R58_2 {h : AH} {a : Nat} (hn : hN h = a + 1) (b j : Nat) : hR (H58_2 h a) b j = hR (H58_1 h a) b j := by unfold H58_2; rw [hR_stI]
theorem I58_2 {h : AH} {a : Nat} (hn : hN h = a + 1) (b j : Nat) : hI (H58_2 h a) b j = if b = a ∧ j = 1 then (nI 0) else hI (H58_1 h a) b j := by unfold H58_2; rw [hI_stI]
theorem L58_2 {h : AH} {a : Nat} (hn : hN h = a + 1) (b j : Nat) : hL (H58_2 h a) b j = hL (H58_1 h a) b j := by unfold H58_2; rw [hL_stI]
theorem T58_2 {h : AH} {a : Nat} (hn : hN h = a + 1) (hs : hS h a = some (103, 0)) : hS (H58_2 h a) a = some (103, 0) := by rw [S58_2 hn]; rw [T58_1 hn hs]
theorem E58_2 (d : Nat) {h : AH} {a : Nat} (hn : hN h = a + 1) (hs : hS h a = some (103, 0)) : E d 58 5 [some (.ref a)] [] (H58_1 h a) = E d 58 8 [some (.ref a)] [] (H58_2 h a) := by
  have q : hS (H58_1 h a) a = some (103, 0) := T58_1 hn hs
  simp only [s58_5, s58_6, s58_7, q, if_true, l0, l1, l2, l3, l4, l5, l6, l7, l8, l9, l10, l11, l12, l13, l14, l15, l16, l20, l31, l32, l36, l40, l48, l57, l59, l63, l64, l97, l99, l100, l101, l122, l127, l128, l250, l255, l262143, l262144, l30000, l100000, l12345, l1024, l4095]
  rfl
def H58_3 (h : AH) (a : Nat) : AH := stI (H58_2 h a) a 2 (nI 0)
theorem N58_3 {h : AH} {a : Nat} (hn : hN h = a + 1) : hN (H58_3 h a) = a + 1 := by unfold H58_3; rw [hN_stI, (N58_2 hn)]
theorem S58_3 {h : AH} {a : Nat} (hn : hN h = a + 1) (b : Nat) : hS (H58_3 h a) b = hS (H58_2 h a) b := by unfold H58_3; rw [hS_stI]
theorem R58_3 {h : AH} {a : Nat} (hn : hN h = a + 1) (b j : Nat) : hR (H58_3 h a) b j = hR (H58_2 h a) b j := by unfold H58_3; rw [hR_stI]
theorem I58_3 {h : AH} {a : Nat} (hn : hN h = a + 1) (b j : Nat) : hI (H58_3 h a) b j = if b = a ∧ j = 2 then (nI 0) else hI (H58_2 h a) b j := by unfold H58_3; rw [hI_stI]
theorem L58_3 {h : AH} {a : Nat} (hn : hN h = a + 1) (b j : Nat) : hL (H58_3 h a) b j = hL (H58_2 h a) b j := by unfold H58_3; rw [hL_stI]
theorem T58_3 {h : AH} {a : Nat} (hn : hN h = a + 1) (hs : hS h a = some (103, 0)) : hS (H58_3 h a) a = some (103, 0) := by rw [S58_3 hn]; rw [T58_2 hn hs]
theorem E58_3 (d : Nat) {h : AH} {a : Nat} (hn : hN h = a + 1) (hs : hS h a = some (103, 0)) : E d 58 8 [some (.ref a)] [] (H58_2 h a) = E d 58 11 [some (.ref a)] [] (H58_3 h a) := by
  have q : hS (H58_2 h a) a = some (103, 0) := T58_2 hn hs
  simp only [s58_8, s58_9, s58_10, q, if_true, l0, l1, l2, l3, l4, l5, l6, l7, l8, l9, l10, l11, l12, l13, l14, l15, l16, l20, l31, l32, l36, l40, l48, l57, l59, l63, l64, l97, l99, l100, l101, l122, l127, l128, l250, l255, l262143, l262144, l30000, l100000, l12345, l1024, l4095]
  rfl
def H58_4 (h : AH) (a : Nat) : AH := stI (H58_3 h a) a 3 (nI 0)
theorem N58_4 {h : AH} {a : Nat} (hn : hN h = a + 1) : hN (H58_4 h a) = a + 1 := by unfold H58_4; rw [hN_stI, (N58_3 hn)]
theorem S58_4 {h : AH} {a : Nat} (hn : hN h = a + 1) (b : Nat) : hS (H58_4 h a) b = hS (H58_3 h a) b := by unfold H58_4; rw [hS_stI]
theorem R58_4 {h : AH} {a : Nat} (hn : hN h = a + 1) (b j : Nat) : hR (H58_4 h a) b j = hR (H58_3 h a) b j := by unfold H58_4; rw [hR_stI]
theorem I58_4 {h : AH} {a : Nat} (hn : hN h = a + 1) (b j : Nat) : hI (H58_4 h a) b j = if b = a ∧ j = 3 then (nI 0) else hI (H58_3 h a) b j := by unfold H58_4; rw [hI_stI]
theorem L58_4 {h : AH} {a : Nat} (hn : hN h = a + 1) (b j : Nat) : hL (H58_4 h a) b j = hL (H58_3 h a) b j := by unfold H58_4; rw [hL_stI]
theorem T58_4 {h : AH} {a : Nat} (hn : hN h = a + 1) (hs : hS h a = some (103, 0)) : hS (H58_4 h a) a = some (103, 0) := by rw [S58_4 hn]; rw [T58_3 hn hs]
theorem E58_4 (d : Nat) {h : AH} {a : Nat} (hn : hN h = a + 1) (hs : hS h a = some (103, 0)) : E d 58 11 [some (.ref a)] [] (H58_3 h a) = E d 58 14 [some (.ref a)] [] (H58_4 h a) := by
  have q : hS (H58_3 h a) a = some (103, 0) := T58_3 hn hs
  simp only [s58_11, s58_12, s58_13, q, if_true, l0, l1, l2, l3, l4, l5, l6, l7, l8, l9, l10, l11, l12, l13, l14, l15, l16, l20, l31, l32, l36, l40, l48, l57, l59, l63, l64, l97, l99, l100, l101, l122, l127, l128, l250, l255, l262143, l262144, l30000, l100000, l12345, l1024, l4095]
  rfl
def H58_5 (h : AH) (a : Nat) : AH := stI (H58_4 h a) a 4 (nI 1)
theorem N58_5 {h : AH} {a : Nat} (hn : hN h = a + 1) : hN (H58_5 h a) = a + 1 := by unfold H58_5; rw [hN_stI, (N58_4 hn)]
theorem S58_5 {h : AH} {a : Nat} (hn : hN h = a + 1) (b : Nat) : hS (H58_5 h a) b = hS (H58_4 h a) b := by unfold H58_5; rw [hS_stI]
theorem R58_5 {h : AH} {a : Nat} (hn : hN h = a + 1) (b j : Nat) : hR (H58_5 h a) b j = hR (H58_4 h a) b j := by unfold H58_5; rw [hR_stI]
theorem I58_5 {h : AH} {a : Nat} (hn : hN h = a + 1) (b j : Nat) : hI (H58_5 h a) b j = if b = a ∧ j = 4 then (nI 1) else hI (H58_4 h a) b j := by unfold H58_5; rw [hI_stI]
theorem L58_5 {h : AH} {a : Nat} (hn : hN h = a + 1) (b j : Nat) : hL (H58_5 h a) b j = hL (H58_4 h a) b j := by unfold H58_5; rw [hL_stI]
theorem T58_5 {h : AH} {a : Nat} (hn : hN h = a + 1) (hs : hS h a = some (103, 0)) : hS (H58_5 h a) a = some (103, 0) := by rw [S58_5 hn]; rw [T58_4 hn hs]
theorem E58_5 (d : Nat) {h : AH} {a : Nat} (hn : hN h = a + 1) (hs : hS h a = some (103, 0)) : E d 58 14 [some (.ref a)] [] (H58_4 h a) = E d 58 17 [some (.ref a)] [] (H58_5 h a) := by
  have q : hS (H58_4 h a) a = some (103, 0) := T58_4 hn hs
  simp only [s58_14, s58_15, s58_16, q, if_true, l0, l1, l2, l3, l4, l5, l6, l7, l8, l9, l10, l11, l12, l13, l14, l15, l16, l20, l31, l32, l36, l40, l48, l57, l59, l63, l64, l97, l99, l100, l101, l122, l127, l128, l250, l255, l262143, l262144, l30000, l100000, l12345, l1024, l4095]
  rfl
def H58_6 (h : AH) (a : Nat) : AH := stR (newC (H58_5 h a) (0, 6) 6) a 5 (some (a + 1))
theorem N58_6 {h : AH} {a : Nat} (hn : hN h = a + 1) : hN (H58_6 h a) = a + 2 := by unfold H58_6; rw [hN_stR, hN_newC, (N58_5 hn)]
theorem S58_6 {h : AH} {a : Nat} (hn : hN h = a + 1) (b : Nat) : hS (H58_6 h a) b = if b = a + 1 then some (0, 6) else hS (H58_5 h a) b := by unfold H58_6; rw [hS_stR, hS_newC, (N58_5 hn)]
theorem R58_6 {h : AH} {a : Nat} (hn : hN h = a + 1) (b j : Nat) : hR (H58_6 h a) b j = if b = a ∧ j = 5 then some (a + 1) else if b = a + 1 then none else hR (H58_5 h a) b j := by unfold H58_6; rw [hR_stR, hR_newC, (N58_5 hn)]
theorem I58_6 {h : AH} {a : Nat} (hn : hN h = a + 1) (b j : Nat) : hI (H58_6 h a) b j = if b = a + 1 then 0 else hI (H58_5 h a) b j := by unfold H58_6; rw [hI_stR, hI_newC, (N58_5 hn)]
theorem L58_6 {h : AH} {a : Nat} (hn : hN h = a + 1) (b j : Nat) : hL (H58_6 h a) b j = if b = a + 1 then 0 else hL (H58_5 h a) b j := by unfold H58_6; rw [hL_stR, hL_newC, (N58_5 hn)]
theorem T58_6 {h : AH} {a : Nat} (hn : hN h = a + 1) (hs : hS h a = some (103, 0)) : hS (H58_6 h a) a = some (103, 0) := by rw [S58_6 hn, if_neg (by omega)]; rw [T58_5 hn hs]
theorem E58_6 (d : Nat) {h : AH} {a : Nat} (hn : hN h = a + 1) (hs : hS h a = some (103, 0)) : E d 58 17 [some (.ref a)] [] (H58_5 h a) = E d 58 21 [some (.ref a)] [] (H58_6 h a) := by
  have q : hS (H58_5 h a) a = some (103, 0) := T58_5 hn hs
  have qn : hN (H58_5 h a) = a + 1 := N58_5 hn
  have q2 : hS (newC (H58_5 h a) (0, 6) 6) a = some (103, 0) := by rw [hS_newC, if_neg (show ¬ a = hN (H58_5 h a) by omega)]; exact q
  have g2 : (6 : Int32).toNatClampNeg = 6 := nI_clamp (n := 6) (by omega)
  have g : (¬ (6 : Int32) < 0 ∧ 6 ≤ 67108864) := ⟨nI_pos (show 6 < 2 ^ 31 by omega), by omega⟩
  simp only [s58_17, s58_18, s58_19, g2]
  rw [if_pos g]
  simp only [s58_20, qn, q2, if_true]
  rfl
def H58_7 (h : AH) (a : Nat) : AH := stR (newC (H58_6 h a) (0, 6) 6) a 6 (some (a + 2))
theorem N58_7 {h : AH} {a : Nat} (hn : hN h = a + 1) : hN (H58_7 h a) = a + 3 := by unfold H58_7; rw [hN_stR, hN_newC, (N58_6 hn)]
theorem S58_7 {h : AH} {a : Nat} (hn : hN h = a + 1) (b : Nat) : hS (H58_7 h a) b = if b = a + 2 then some (0, 6) else hS (H58_6 h a) b := by unfold H58_7; rw [hS_stR, hS_newC, (N58_6 hn)]
theorem R58_7 {h : AH} {a : Nat} (hn : hN h = a + 1) (b j : Nat) : hR (H58_7 h a) b j = if b = a ∧ j = 6 then some (a + 2) else if b = a + 2 then none else hR (H58_6 h a) b j := by unfold H58_7; rw [hR_stR, hR_newC, (N58_6 hn)]
theorem I58_7 {h : AH} {a : Nat} (hn : hN h = a + 1) (b j : Nat) : hI (H58_7 h a) b j = if b = a + 2 then 0 else hI (H58_6 h a) b j := by unfold H58_7; rw [hI_stR, hI_newC, (N58_6 hn)]
theorem L58_7 {h : AH} {a : Nat} (hn : hN h = a + 1) (b j : Nat) : hL (H58_7 h a) b j = if b = a + 2 then 0 else hL (H58_6 h a) b j := by unfold H58_7; rw [hL_stR, hL_newC, (N58_6 hn)]
theorem T58_7 {h : AH} {a : Nat} (hn : hN h = a + 1) (hs : hS h a = some (103, 0)) : hS (H58_7 h a) a = some (103, 0) := by rw [S58_7 hn, if_neg (by omega)]; rw [T58_6 hn hs]
theorem E58_7 (d : Nat) {h : AH} {a : Nat} (hn : hN h = a + 1) (hs : hS h a = some (103, 0)) : E d 58 21 [some (.ref a)] [] (H58_6 h a) = E d 58 25 [some (.ref a)] [] (H58_7 h a) := by
  have q : hS (H58_6 h a) a = some (103, 0) := T58_6 hn hs
  have qn : hN (H58_6 h a) = a + 2 := N58_6 hn
  have q2 : hS (newC (H58_6 h a) (0, 6) 6) a = some (103, 0) := by rw [hS_newC, if_neg (show ¬ a = hN (H58_6 h a) by omega)]; exact q
  have g2 : (6 : Int32).toNatClampNeg = 6 := nI_clamp (n := 6) (by omega)
  have g : (¬ (6 : Int32) < 0 ∧ 6 ≤ 67108864) := ⟨nI_pos (show 6 < 2 ^ 31 by omega), by omega⟩
  simp only [s58_21, s58_22, s58_23, g2]
  rw [if_pos g]
  simp only [s58_24, qn, q2, if_true]
  rfl
def H58_8 (h : AH) (a : Nat) : AH := stR (newC (H58_7 h a) (0, 6) 6) a 7 (some (a + 3))
theorem N58_8 {h : AH} {a : Nat} (hn : hN h = a + 1) : hN (H58_8 h a) = a + 4 := by unfold H58_8; rw [hN_stR, hN_newC, (N58_7 hn)]
theorem S58_8 {h : AH} {a : Nat} (hn : hN h = a + 1) (b : Nat) : hS (H58_8 h a) b = if b = a + 3 then some (0, 6) else hS (H58_7 h a) b := by unfold H58_8; rw [hS_stR, hS_newC, (N58_7 hn)]
theorem R58_8 {h : AH} {a : Nat} (hn : hN h = a + 1) (b j : Nat) : hR (H58_8 h a) b j = if b = a ∧ j = 7 then some (a + 3) else if b = a + 3 then none else hR (H58_7 h a) b j := by unfold H58_8; rw [hR_stR, hR_newC, (N58_7 hn)]
theorem I58_8 {h : AH} {a : Nat} (hn : hN h = a + 1) (b j : Nat) : hI (H58_8 h a) b j = if b = a + 3 then 0 else hI (H58_7 h a) b j := by unfold H58_8; rw [hI_stR, hI_newC, (N58_7 hn)]
theorem L58_8 {h : AH} {a : Nat} (hn : hN h = a + 1) (b j : Nat) : hL (H58_8 h a) b j = if b = a + 3 then 0 else hL (H58_7 h a) b j := by unfold H58_8; rw [hL_stR, hL_newC, (N58_7 hn)]
theorem T58_8 {h : AH} {a : Nat} (hn : hN h = a + 1) (hs : hS h a = some (103, 0)) : hS (H58_8 h a) a = some (103, 0) := by rw [S58_8 hn, if_neg (by omega)]; rw [T58_7 hn hs]
theorem E58_8 (d : Nat) {h : AH} {a : Nat} (hn : hN h = a + 1) (hs : hS h a = some (103, 0)) : E d 58 25 [some (.ref a)] [] (H58_7 h a) = E d 58 29 [some (.ref a)] [] (H58_8 h a) := by
  have q : hS (H58_7 h a) a = some (103, 0) := T58_7 hn hs
  have qn : hN (H58_7 h a) = a + 3 := N58_7 hn
  have q2 : hS (newC (H58_7 h a) (0, 6) 6) a = some (103, 0) := by rw [hS_newC, if_neg (show ¬ a = hN (H58_7 h a) by omega)]; exact q
  have g2 : (6 : Int32).toNatClampNeg = 6 := nI_clamp (n := 6) (by omega)
  have g : (¬ (6 : Int32) < 0 ∧ 6 ≤ 67108864) := ⟨nI_pos (show 6 < 2 ^ 31 by omega), by omega⟩
  simp only [s58_25, s58_26, s58_27, g2]
  rw [if_pos g]
  simp only [s58_28, qn, q2, if_true]
  rfl
def H58_9 (h : AH) (a : Nat) : AH := stR (newC (H58_8 h a) (0, 6) 6) a 8 (some (a + 4))
theorem N58_9 {h : AH} {a : Nat} (hn : hN h = a + 1) : hN (H58_9 h a) = a + 5 := by unfold H58_9; rw [hN_stR, hN_newC, (N58_8 hn)]
theorem S58_9 {h : AH} {a : Nat} (hn : hN h = a + 1) (b : Nat) : hS (H58_9 h a) b = if b = a + 4 then some (0, 6) else hS (H58_8 h a) b := by unfold H58_9; rw [hS_stR, hS_newC, (N58_8 hn)]
theorem R58_9 {h : AH} {a : Nat} (hn : hN h = a + 1) (b j : Nat) : hR (H58_9 h a) b j = if b = a ∧ j = 8 then some (a + 4) else if b = a + 4 then none else hR (H58_8 h a) b j := by unfold H58_9; rw [hR_stR, hR_newC, (N58_8 hn)]
theorem I58_9 {h : AH} {a : Nat} (hn : hN h = a + 1) (b j : Nat) : hI (H58_9 h a) b j = if b = a + 4 then 0 else hI (H58_8 h a) b j := by unfold H58_9; rw [hI_stR, hI_newC, (N58_8 hn)]
theorem L58_9 {h : AH} {a : Nat} (hn : hN h = a + 1) (b j : Nat) : hL (H58_9 h a) b j = if b = a + 4 then 0 else hL (H58_8 h a) b j := by unfold H58_9; rw [hL_stR, hL_newC, (N58_8 hn)]
theorem T58_9 {h : AH} {a : Nat} (hn : hN h = a + 1) (hs : hS h a = some (103, 0)) : hS (H58_9 h a) a = some (103, 0) := by rw [S58_9 hn, if_neg (by omega)]; rw [T58_8 hn hs]
theorem E58_9 (d : Nat) {h : AH} {a : Nat} (hn : hN h = a + 1) (hs : hS h a = some (103, 0)) : E d 58 29 [some (.ref a)] [] (H58_8 h a) = E d 58 33 [some (.ref a)] [] (H58_9 h a) := by
  have q : hS (H58_8 h a) a = some (103, 0) := T58_8 hn hs
  have qn : hN (H58_8 h a) = a + 4 := N58_8 hn
  have q2 : hS (newC (H58_8 h a) (0, 6) 6) a = some (103, 0) := by rw [hS_newC, if_neg (show ¬ a = hN (H58_8 h a) by omega)]; exact q
  have g2 : (6 : Int32).toNatClampNeg = 6 := nI_clamp (n := 6) (by omega)
  have g : (¬ (6 : Int32) < 0 ∧ 6 ≤ 67108864) := ⟨nI_pos (show 6 < 2 ^ 31 by omega), by omega⟩
  simp only [s58_29, s58_30, s58_31, g2]
  rw [if_pos g]
  simp only [s58_32, qn, q2, if_true]
  rfl
def H58_10 (h : AH) (a : Nat) : AH := stR (newC (H58_9 h a) (0, 6) 6) a 9 (some (a + 5))
theorem N58_10 {h : AH} {a : Nat} (hn : hN h = a + 1) : hN (H58_10 h a) = a + 6 := by unfold H58_10; rw [hN_stR, hN_newC, (N58_9 hn)]
theorem S58_10 {h : AH} {a : Nat} (hn : hN h = a + 1) (b : Nat) : hS (H58_10 h a) b = if b = a + 5 then some (0, 6) else hS (H58_9 h a) b := by unfold H58_10; rw [hS_stR, hS_newC, (N58_9 hn)]
theorem R58_10 {h : AH} {a : Nat} (hn : hN h = a + 1) (b j : Nat) : hR (H58_10 h a) b j = if b = a ∧ j = 9 then some (a + 5) else if b = a + 5 then none else hR (H58_9 h a) b j := by unfold H58_10; rw [hR_stR, hR_newC, (N58_9 hn)]
theorem I58_10 {h : AH} {a : Nat} (hn : hN h = a + 1) (b j : Nat) : hI (H58_10 h a) b j = if b = a + 5 then 0 else hI (H58_9 h a) b j := by unfold H58_10; rw [hI_stR, hI_newC, (N58_9 hn)]
theorem L58_10 {h : AH} {a : Nat} (hn : hN h = a + 1) (b j : Nat) : hL (H58_10 h a) b j = if b = a + 5 then 0 else hL (H58_9 h a) b j := by unfold H58_10; rw [hL_stR, hL_newC, (N58_9 hn)]
theorem T58_10 {h : AH} {a : Nat} (hn : hN h = a + 1) (hs : hS h a = some (103, 0)) : hS (H58_10 h a) a = some (103, 0) := by rw [S58_10 hn, if_neg (by omega)]; rw [T58_9 hn hs]
theorem E58_10 (d : Nat) {h : AH} {a : Nat} (hn : hN h = a + 1) (hs : hS h a = some (103, 0)) : E d 58 33 [some (.ref a)] [] (H58_9 h a) = E d 58 37 [some (.ref a)] [] (H58_10 h a) := by
  have q : hS (H58_9 h a) a = some (103, 0) := T58_9 hn hs
  have qn : hN (H58_9 h a) = a + 5 := N58_9 hn
  have q2 : hS (newC (H58_9 h a) (0, 6) 6) a = some (103, 0) := by rw [hS_newC, if_neg (show ¬ a = hN (H58_9 h a) by omega)]; exact q
  have g2 : (6 : Int32).toNatClampNeg = 6 := nI_clamp (n := 6) (by omega)
  have g : (¬ (6 : Int32) < 0 ∧ 6 ≤ 67108864) := ⟨nI_pos (show 6 < 2 ^ 31 by omega), by omega⟩
  simp only [s58_33, s58_34, s58_35, g2]
  rw [if_pos g]
  simp only [s58_36, qn, q2, if_true]
  rfl
def H58_11 (h : AH) (a : Nat) : AH := stR (newC (H58_10 h a) (0, 6) 6) a 10 (some (a + 6))
theorem N58_11 {h : AH} {a : Nat} (hn : hN h = a + 1) : hN (H58_11 h a) = a + 7 := by unfold H58_11; rw [hN_stR, hN_newC, (N58_10 hn)]
theorem S58_11 {h : AH} {a : Nat} (hn : hN h = a + 1) (b : Nat) : hS (H58_11 h a) b = if b = a + 6 then some (0, 6) else hS (H58_10 h a) b := by unfold H58_11; rw [hS_stR, hS_newC, (N58_10 hn)]
theorem R58_11 {h : AH} {a : Nat} (hn : hN h = a + 1) (b j : Nat) : hR (H58_11 h a) b j = if b = a ∧ j = 10 then some (a + 6) else if b = a + 6 then none else hR (H58_10 h a) b j := by unfold H58_11; rw [hR_stR, hR_newC, (N58_10 hn)]
theorem I58_11 {h : AH} {a : Nat} (hn : hN h = a + 1) (b j : Nat) : hI (H58_11 h a) b j = if b = a + 6 then 0 else hI (H58_10 h a) b j := by unfold H58_11; rw [hI_stR, hI_newC, (N58_10 hn)]
theorem L58_11 {h : AH} {a : Nat} (hn : hN h = a + 1) (b j : Nat) : hL (H58_11 h a) b j = if b = a + 6 then 0 else hL (H58_10 h a) b j := by unfold H58_11; rw [hL_stR, hL_newC, (N58_10 hn)]
theorem T58_11 {h : AH} {a : Nat} (hn : hN h = a + 1) (hs : hS h a = some (103, 0)) : hS (H58_11 h a) a = some (103, 0) := by rw [S58_11 hn, if_neg (by omega)]; rw [T58_10 hn hs]
theorem E58_11 (d : Nat) {h : AH} {a : Nat} (hn : hN h = a + 1) (hs : hS h a = some (103, 0)) : E d 58 37 [some (.ref a)] [] (H58_10 h a) = E d 58 41 [some (.ref a)] [] (H58_11 h a) := by
  have q : hS (H58_10 h a) a = some (103, 0) := T58_10 hn hs
  have qn : hN (H58_10 h a) = a + 6 := N58_10 hn
  have q2 : hS (newC (H58_10 h a) (0, 6) 6) a = some (103, 0) := by rw [hS_newC, if_neg (show ¬ a = hN (H58_10 h a) by omega)]; exact q
  have g2 : (6 : Int32).toNatClampNeg = 6 := nI_clamp (n := 6) (by omega)
  have g : (¬ (6 : Int32) < 0 ∧ 6 ≤ 67108864) := ⟨nI_pos (show 6 < 2 ^ 31 by omega), by omega⟩
  simp only [s58_37, s58_38, s58_39, g2]
  rw [if_pos g]
  simp only [s58_40, qn, q2, if_true]
  rfl
def H58_12 (h : AH) (a : Nat) : AH := stR (newC (H58_11 h a) (0, 6) 6) a 11 (some (a + 7))
theorem N58_12 {h : AH} {a : Nat} (hn : hN h = a + 1) : hN (H58_12 h a) = a + 8 := by unfold H58_12; rw [hN_stR, hN_newC, (N58_11 hn)]
theorem S58_12 {h : AH} {a : Nat} (hn : hN h = a + 1) (b : Nat) : hS (H58_12 h a) b = if b = a + 7 then some (0, 6) else hS (H58_11 h a) b := by unfold H58_12; rw [hS_stR, hS_newC, (N58_11 hn)]
theorem R58_12 {h : AH} {a : Nat} (hn : hN h = a + 1) (b j : Nat) : hR (H58_12 h a) b j = if b = a ∧ j = 11 then some (a + 7) else if b = a + 7 then none else hR (H58_11 h a) b j := by unfold H58_12; rw [hR_stR, hR_newC, (N58_11 hn)]
theorem I58_12 {h : AH} {a : Nat} (hn : hN h = a + 1) (b j : Nat) : hI (H58_12 h a) b j = if b = a + 7 then 0 else hI (H58_11 h a) b j := by unfold H58_12; rw [hI_stR, hI_newC, (N58_11 hn)]
theorem L58_12 {h : AH} {a : Nat} (hn : hN h = a + 1) (b j : Nat) : hL (H58_12 h a) b j = if b = a + 7 then 0 else hL (H58_11 h a) b j := by unfold H58_12; rw [hL_stR, hL_newC, (N58_11 hn)]
theorem T58_12 {h : AH} {a : Nat} (hn : hN h = a + 1) (hs : hS h a = some (103, 0)) : hS (H58_12 h a) a = some (103, 0) := by rw [S58_12 hn, if_neg (by omega)]; rw [T58_11 hn hs]
theorem E58_12 (d : Nat) {h : AH} {a : Nat} (hn : hN h = a + 1) (hs : hS h a = some (103, 0)) : E d 58 41 [some (.ref a)] [] (H58_11 h a) = E d 58 45 [some (.ref a)] [] (H58_12 h a) := by
  have q : hS (H58_11 h a) a = some (103, 0) := T58_11 hn hs
  have qn : hN (H58_11 h a) = a + 7 := N58_11 hn
  have q2 : hS (newC (H58_11 h a) (0, 6) 6) a = some (103, 0) := by rw [hS_newC, if_neg (show ¬ a = hN (H58_11 h a) by omega)]; exact q
  have g2 : (6 : Int32).toNatClampNeg = 6 := nI_clamp (n := 6) (by omega)
  have g : (¬ (6 : Int32) < 0 ∧ 6 ≤ 67108864) := ⟨nI_pos (show 6 < 2 ^ 31 by omega), by omega⟩
  simp only [s58_41, s58_42, s58_43, g2]
  rw [if_pos g]
  simp only [s58_44, qn, q2, if_true]
  rfl
theorem E58 (d : Nat) {h : AH} {a : Nat} (hn : hN h = a + 1) (hs : hS h a = some (103, 0)) : E d 58 0 [some (.ref a)] [] h = some (none, H58_12 h a) := by
  rw [s58_0, s58_1]
  show E d 58 2 [some (.ref a)] [] (H58_0 h a) = _
  rw [E58_1 d hn hs, E58_2 d hn hs, E58_3 d hn hs, E58_4 d hn hs, E58_5 d hn hs, E58_6 d hn hs, E58_7 d hn hs, E58_8 d hn hs, E58_9 d hn hs, E58_10 d hn hs, E58_11 d hn hs, E58_12 d hn hs, s58_45]
theorem U58 {h : AH} {a : Nat} : hU (H58_12 h a) = hU h + 42 := by simp only [H58_0, H58_1, H58_2, H58_3, H58_4, H58_5, H58_6, H58_7, H58_8, H58_9, H58_10, H58_11, H58_12, hU_stR, hU_stI, hU_newC, hU_newM]
-- 58 ends at a + 8
def H135_0 (h : AH) (_ : Nat) : AH := h
def H135_1 (h : AH) (a : Nat) : AH := stR (newC (H135_0 h a) (0, 8) 8) a 0 (some (a + 1))
theorem N135_1 {h : AH} {a : Nat} (hn : hN h = a + 1) : hN (H135_1 h a) = a + 2 := by unfold H135_1; rw [hN_stR, hN_newC, show hN (H135_0 h a) = hN h from rfl, hn]
theorem S135_1 {h : AH} {a : Nat} (hn : hN h = a + 1) (b : Nat) : hS (H135_1 h a) b = if b = a + 1 then some (0, 8) else hS (H135_0 h a) b := by unfold H135_1; rw [hS_stR, hS_newC, show hN (H135_0 h a) = hN h from rfl, hn]
theorem R135_1 {h : AH} {a : Nat} (hn : hN h = a + 1) (b j : Nat) : hR (H135_1 h a) b j = if b = a ∧ j = 0 then some (a + 1) else if b = a + 1 then none else hR (H135_0 h a) b j := by unfold H135_1; rw [hR_stR, hR_newC, show hN (H135_0 h a) = hN h from rfl, hn]
theorem I135_1 {h : AH} {a : Nat} (hn : hN h = a + 1) (b j : Nat) : hI (H135_1 h a) b j = if b = a + 1 then 0 else hI (H135_0 h a) b j := by unfold H135_1; rw [hI_stR, hI_newC, show hN (H135_0 h a) = hN h from rfl, hn]
theorem L135_1 {h : AH} {a : Nat} (hn : hN h = a + 1) (b j : Nat) : hL (H135_1 h a) b j = if b = a + 1 then 0 else hL (H135_0 h a) b j := by unfold H135_1; rw [hL_stR, hL_newC, show hN (H135_0 h a) = hN h from rfl, hn]
theorem T135_1 {h : AH} {a : Nat} (hn : hN h = a + 1) (hs : hS h a = some (105, 0)) : hS (H135_1 h a) a = some (105, 0) := by rw [S135_1 hn, if_neg (by omega)]; exact hs 
theorem E135_1 (d : Nat) {h : AH} {a : Nat} (hn : hN h = a + 1) (hs : hS h a = some (105, 0)) : E d 135 2 [some (.ref a)] [] (H135_0 h a) = E d 135 6 [some (.ref a)] [] (H135_1 h a) := by
  have q : hS (H135_0 h a) a = some (105, 0) := hs
  have qn : hN (H135_0 h a) = a + 1 := hn
  have q2 : hS (newC (H135_0 h a) (0, 8) 8) a = some (105, 0) := by rw [hS_newC, if_neg (show ¬ a = hN (H135_0 h a) by omega)]; exact q
  have g2 : (8 : Int32).toNatClampNeg = 8 := nI_clamp (n := 8) (by omega)
  have g : (¬ (8 : Int32) < 0 ∧ 8 ≤ 67108864) := ⟨nI_pos (show 8 < 2 ^ 31 by omega), by omega⟩
  simp only [s135_2, s135_3, s135_4, g2]
  rw [if_pos g]
  simp only [s135_5, qn, q2, if_true]
  rfl
def H135_2 (h : AH) (a : Nat) : AH := stR (newC (H135_1 h a) (0, 8) 8) a 1 (some (a + 2))
theorem N135_2 {h : AH} {a : Nat} (hn : hN h = a + 1) : hN (H135_2 h a) = a + 3 := by unfold H135_2; rw [hN_stR, hN_newC, (N135_1 hn)]
theorem S135_2 {h : AH} {a : Nat} (hn : hN h = a + 1) (b : Nat) : hS (H135_2 h a) b = if b = a + 2 then some (0, 8) else hS (H135_1 h a) b := by unfold H135_2; rw [hS_stR, hS_newC, (N135_1 hn)]
theorem R135_2 {h : AH} {a : Nat} (hn : hN h = a + 1) (b j : Nat) : hR (H135_2 h a) b j = if b = a ∧ j = 1 then some (a + 2) else if b = a + 2 then none else hR (H135_1 h a) b j := by unfold H135_2; rw [hR_stR, hR_newC, (N135_1 hn)]
theorem I135_2 {h : AH} {a : Nat} (hn : hN h = a + 1) (b j : Nat) : hI (H135_2 h a) b j = if b = a + 2 then 0 else hI (H135_1 h a) b j := by unfold H135_2; rw [hI_stR, hI_newC, (N135_1 hn)]
theorem L135_2 {h : AH} {a : Nat} (hn : hN h = a + 1) (b j : Nat) : hL (H135_2 h a) b j = if b = a + 2 then 0 else hL (H135_1 h a) b j := by unfold H135_2; rw [hL_stR, hL_newC, (N135_1 hn)]
theorem T135_2 {h : AH} {a : Nat} (hn : hN h = a + 1) (hs : hS h a = some (105, 0)) : hS (H135_2 h a) a = some (105, 0) := by rw [S135_2 hn, if_neg (by omega)]; rw [T135_1 hn hs]
theorem E135_2 (d : Nat) {h : AH} {a : Nat} (hn : hN h = a + 1) (hs : hS h a = some (105, 0)) : E d 135 6 [some (.ref a)] [] (H135_1 h a) = E d 135 10 [some (.ref a)] [] (H135_2 h a) := by
  have q : hS (H135_1 h a) a = some (105, 0) := T135_1 hn hs
  have qn : hN (H135_1 h a) = a + 2 := N135_1 hn
  have q2 : hS (newC (H135_1 h a) (0, 8) 8) a = some (105, 0) := by rw [hS_newC, if_neg (show ¬ a = hN (H135_1 h a) by omega)]; exact q
  have g2 : (8 : Int32).toNatClampNeg = 8 := nI_clamp (n := 8) (by omega)
  have g : (¬ (8 : Int32) < 0 ∧ 8 ≤ 67108864) := ⟨nI_pos (show 8 < 2 ^ 31 by omega), by omega⟩
  simp only [s135_6, s135_7, s135_8, g2]
  rw [if_pos g]
  simp only [s135_9, qn, q2, if_true]
  rfl
def H135_3 (h : AH) (a : Nat) : AH := stR (newC (H135_2 h a) (0, 8) 8) a 2 (some (a + 3))
theorem N135_3 {h : AH} {a : Nat} (hn : hN h = a + 1) : hN (H135_3 h a) = a + 4 := by unfold H135_3; rw [hN_stR, hN_newC, (N135_2 hn)]
theorem S135_3 {h : AH} {a : Nat} (hn : hN h = a + 1) (b : Nat) : hS (H135_3 h a) b = if b = a + 3 then some (0, 8) else hS (H135_2 h a) b := by unfold H135_3; rw [hS_stR, hS_newC, (N135_2 hn)]
theorem R135_3 {h : AH} {a : Nat} (hn : hN h = a + 1) (b j : Nat) : hR (H135_3 h a) b j = if b = a ∧ j = 2 then some (a + 3) else if b = a + 3 then none else hR (H135_2 h a) b j := by unfold H135_3; rw [hR_stR, hR_newC, (N135_2 hn)]
theorem I135_3 {h : AH} {a : Nat} (hn : hN h = a + 1) (b j : Nat) : hI (H135_3 h a) b j = if b = a + 3 then 0 else hI (H135_2 h a) b j := by unfold H135_3; rw [hI_stR, hI_newC, (N135_2 hn)]
theorem L135_3 {h : AH} {a : Nat} (hn : hN h = a + 1) (b j : Nat) : hL (H135_3 h a) b j = if b = a + 3 then 0 else hL (H135_2 h a) b j := by unfold H135_3; rw [hL_stR, hL_newC, (N135_2 hn)]
theorem T135_3 {h : AH} {a : Nat} (hn : hN h = a + 1) (hs : hS h a = some (105, 0)) : hS (H135_3 h a) a = some (105, 0) := by rw [S135_3 hn, if_neg (by omega)]; rw [T135_2 hn hs]
theorem E135_3 (d : Nat) {h : AH} {a : Nat} (hn : hN h = a + 1) (hs : hS h a = some (105, 0)) : E d 135 10 [some (.ref a)] [] (H135_2 h a) = E d 135 14 [some (.ref a)] [] (H135_3 h a) := by
  have q : hS (H135_2 h a) a = some (105, 0) := T135_2 hn hs
  have qn : hN (H135_2 h a) = a + 3 := N135_2 hn
  have q2 : hS (newC (H135_2 h a) (0, 8) 8) a = some (105, 0) := by rw [hS_newC, if_neg (show ¬ a = hN (H135_2 h a) by omega)]; exact q
  have g2 : (8 : Int32).toNatClampNeg = 8 := nI_clamp (n := 8) (by omega)
  have g : (¬ (8 : Int32) < 0 ∧ 8 ≤ 67108864) := ⟨nI_pos (show 8 < 2 ^ 31 by omega), by omega⟩
  simp only [s135_10, s135_11, s135_12, g2]
  rw [if_pos g]
  simp only [s135_13, qn, q2, if_true]
  rfl
def H135_4 (h : AH) (a : Nat) : AH := stR (newM (H135_3 h a) 4 1 8 40) a 3 (some (a + 4))
theorem N135_4 {h : AH} {a : Nat} (hn : hN h = a + 1) : hN (H135_4 h a) = a + 13 := by unfold H135_4; rw [hN_stR, hN_newM, (N135_3 hn)]
theorem S135_4 {h : AH} {a : Nat} (hn : hN h = a + 1) (b : Nat) : hS (H135_4 h a) b = if b = a + 4 then some (4, 8) else if a + 4 < b ∧ b < a + 13 then some (1, 40) else hS (H135_3 h a) b := by unfold H135_4; rw [hS_stR, hS_newM, (N135_3 hn)]
theorem R135_4 {h : AH} {a : Nat} (hn : hN h = a + 1) (b j : Nat) : hR (H135_4 h a) b j = if b = a ∧ j = 3 then some (a + 4) else if b = a + 4 then (if j < 8 then some (a + 4 + 1 + j) else none) else if a + 4 < b ∧ b < a + 13 then none else hR (H135_3 h a) b j := by unfold H135_4; rw [hR_stR, hR_newM, (N135_3 hn)]
theorem I135_4 {h : AH} {a : Nat} (hn : hN h = a + 1) (b j : Nat) : hI (H135_4 h a) b j = if a + 4 ≤ b ∧ b < a + 13 then 0 else hI (H135_3 h a) b j := by unfold H135_4; rw [hI_stR, hI_newM, (N135_3 hn)]
theorem L135_4 {h : AH} {a : Nat} (hn : hN h = a + 1) (b j : Nat) : hL (H135_4 h a) b j = if a + 4 ≤ b ∧ b < a + 13 then 0 else hL (H135_3 h a) b j := by unfold H135_4; rw [hL_stR, hL_newM, (N135_3 hn)]
theorem T135_4 {h : AH} {a : Nat} (hn : hN h = a + 1) (hs : hS h a = some (105, 0)) : hS (H135_4 h a) a = some (105, 0) := by rw [S135_4 hn, if_neg (by omega), if_neg (by omega)]; rw [T135_3 hn hs]
theorem E135_4 (d : Nat) {h : AH} {a : Nat} (hn : hN h = a + 1) (hs : hS h a = some (105, 0)) : E d 135 14 [some (.ref a)] [] (H135_3 h a) = E d 135 19 [some (.ref a)] [] (H135_4 h a) := by
  have q : hS (H135_3 h a) a = some (105, 0) := T135_3 hn hs
  have qn : hN (H135_3 h a) = a + 4 := N135_3 hn
  have q2 : hS (newM (H135_3 h a) 4 1 8 40) a = some (105, 0) := by rw [hS_newM, if_neg (show ¬ a = hN (H135_3 h a) by omega), if_neg (show ¬ (hN (H135_3 h a) < a ∧ a < hN (H135_3 h a) + 1 + 8) by omega)]; exact q
  have g2 : (8 : Int32).toNatClampNeg = 8 := nI_clamp (n := 8) (by omega)
  have g3 : (40 : Int32).toNatClampNeg = 40 := nI_clamp (n := 40) (by omega)
  have g : (¬ (8 : Int32) < 0 ∧ ¬ (40 : Int32) < 0 ∧ 8 ≤ 67108864 ∧ 40 ≤ 67108864) := ⟨nI_pos (show 8 < 2 ^ 31 by omega), nI_pos (show 40 < 2 ^ 31 by omega), by omega, by omega⟩
  simp only [s135_14, s135_15, s135_16, s135_17, g2, g3]
  rw [if_pos g]
  simp only [s135_18, qn, q2, if_true]
  rfl
def H135_5 (h : AH) (a : Nat) : AH := stR (newC (H135_4 h a) (1, 40) 40) a 4 (some (a + 13))
theorem N135_5 {h : AH} {a : Nat} (hn : hN h = a + 1) : hN (H135_5 h a) = a + 14 := by unfold H135_5; rw [hN_stR, hN_newC, (N135_4 hn)]
theorem S135_5 {h : AH} {a : Nat} (hn : hN h = a + 1) (b : Nat) : hS (H135_5 h a) b = if b = a + 13 then some (1, 40) else hS (H135_4 h a) b := by unfold H135_5; rw [hS_stR, hS_newC, (N135_4 hn)]
theorem R135_5 {h : AH} {a : Nat} (hn : hN h = a + 1) (b j : Nat) : hR (H135_5 h a) b j = if b = a ∧ j = 4 then some (a + 13) else if b = a + 13 then none else hR (H135_4 h a) b j := by unfold H135_5; rw [hR_stR, hR_newC, (N135_4 hn)]
theorem I135_5 {h : AH} {a : Nat} (hn : hN h = a + 1) (b j : Nat) : hI (H135_5 h a) b j = if b = a + 13 then 0 else hI (H135_4 h a) b j := by unfold H135_5; rw [hI_stR, hI_newC, (N135_4 hn)]
theorem L135_5 {h : AH} {a : Nat} (hn : hN h = a + 1) (b j : Nat) : hL (H135_5 h a) b j = if b = a + 13 then 0 else hL (H135_4 h a) b j := by unfold H135_5; rw [hL_stR, hL_newC, (N135_4 hn)]
theorem T135_5 {h : AH} {a : Nat} (hn : hN h = a + 1) (hs : hS h a = some (105, 0)) : hS (H135_5 h a) a = some (105, 0) := by rw [S135_5 hn, if_neg (by omega)]; rw [T135_4 hn hs]
theorem E135_5 (d : Nat) {h : AH} {a : Nat} (hn : hN h = a + 1) (hs : hS h a = some (105, 0)) : E d 135 19 [some (.ref a)] [] (H135_4 h a) = E d 135 23 [some (.ref a)] [] (H135_5 h a) := by
  have q : hS (H135_4 h a) a = some (105, 0) := T135_4 hn hs
  have qn : hN (H135_4 h a) = a + 13 := N135_4 hn
  have q2 : hS (newC (H135_4 h a) (1, 40) 40) a = some (105, 0) := by rw [hS_newC, if_neg (show ¬ a = hN (H135_4 h a) by omega)]; exact q
  have g2 : (40 : Int32).toNatClampNeg = 40 := nI_clamp (n := 40) (by omega)
  have g : (¬ (40 : Int32) < 0 ∧ 40 ≤ 67108864) := ⟨nI_pos (show 40 < 2 ^ 31 by omega), by omega⟩
  simp only [s135_19, s135_20, s135_21, g2]
  rw [if_pos g]
  simp only [s135_22, qn, q2, if_true]
  rfl
def H135_6 (h : AH) (a : Nat) : AH := stR (newC (H135_5 h a) (0, 8) 8) a 5 (some (a + 14))
theorem N135_6 {h : AH} {a : Nat} (hn : hN h = a + 1) : hN (H135_6 h a) = a + 15 := by unfold H135_6; rw [hN_stR, hN_newC, (N135_5 hn)]
theorem S135_6 {h : AH} {a : Nat} (hn : hN h = a + 1) (b : Nat) : hS (H135_6 h a) b = if b = a + 14 then some (0, 8) else hS (H135_5 h a) b := by unfold H135_6; rw [hS_stR, hS_newC, (N135_5 hn)]
theorem R135_6 {h : AH} {a : Nat} (hn : hN h = a + 1) (b j : Nat) : hR (H135_6 h a) b j = if b = a ∧ j = 5 then some (a + 14) else if b = a + 14 then none else hR (H135_5 h a) b j := by unfold H135_6; rw [hR_stR, hR_newC, (N135_5 hn)]
theorem I135_6 {h : AH} {a : Nat} (hn : hN h = a + 1) (b j : Nat) : hI (H135_6 h a) b j = if b = a + 14 then 0 else hI (H135_5 h a) b j := by unfold H135_6; rw [hI_stR, hI_newC, (N135_5 hn)]
theorem L135_6 {h : AH} {a : Nat} (hn : hN h = a + 1) (b j : Nat) : hL (H135_6 h a) b j = if b = a + 14 then 0 else hL (H135_5 h a) b j := by unfold H135_6; rw [hL_stR, hL_newC, (N135_5 hn)]
theorem T135_6 {h : AH} {a : Nat} (hn : hN h = a + 1) (hs : hS h a = some (105, 0)) : hS (H135_6 h a) a = some (105, 0) := by rw [S135_6 hn, if_neg (by omega)]; rw [T135_5 hn hs]
theorem E135_6 (d : Nat) {h : AH} {a : Nat} (hn : hN h = a + 1) (hs : hS h a = some (105, 0)) : E d 135 23 [some (.ref a)] [] (H135_5 h a) = E d 135 27 [some (.ref a)] [] (H135_6 h a) := by
  have q : hS (H135_5 h a) a = some (105, 0) := T135_5 hn hs
  have qn : hN (H135_5 h a) = a + 14 := N135_5 hn
  have q2 : hS (newC (H135_5 h a) (0, 8) 8) a = some (105, 0) := by rw [hS_newC, if_neg (show ¬ a = hN (H135_5 h a) by omega)]; exact q
  have g2 : (8 : Int32).toNatClampNeg = 8 := nI_clamp (n := 8) (by omega)
  have g : (¬ (8 : Int32) < 0 ∧ 8 ≤ 67108864) := ⟨nI_pos (show 8 < 2 ^ 31 by omega), by omega⟩
  simp only [s135_23, s135_24, s135_25, g2]
  rw [if_pos g]
  simp only [s135_26, qn, q2, if_true]
  rfl
def H135_7 (h : AH) (a : Nat) : AH := stR (newC (H135_6 h a) (0, 250) 250) a 6 (some (a + 15))
theorem N135_7 {h : AH} {a : Nat} (hn : hN h = a + 1) : hN (H135_7 h a) = a + 16 := by unfold H135_7; rw [hN_stR, hN_newC, (N135_6 hn)]
theorem S135_7 {h : AH} {a : Nat} (hn : hN h = a + 1) (b : Nat) : hS (H135_7 h a) b = if b = a + 15 then some (0, 250) else hS (H135_6 h a) b := by unfold H135_7; rw [hS_stR, hS_newC, (N135_6 hn)]
theorem R135_7 {h : AH} {a : Nat} (hn : hN h = a + 1) (b j : Nat) : hR (H135_7 h a) b j = if b = a ∧ j = 6 then some (a + 15) else if b = a + 15 then none else hR (H135_6 h a) b j := by unfold H135_7; rw [hR_stR, hR_newC, (N135_6 hn)]
theorem I135_7 {h : AH} {a : Nat} (hn : hN h = a + 1) (b j : Nat) : hI (H135_7 h a) b j = if b = a + 15 then 0 else hI (H135_6 h a) b j := by unfold H135_7; rw [hI_stR, hI_newC, (N135_6 hn)]
theorem L135_7 {h : AH} {a : Nat} (hn : hN h = a + 1) (b j : Nat) : hL (H135_7 h a) b j = if b = a + 15 then 0 else hL (H135_6 h a) b j := by unfold H135_7; rw [hL_stR, hL_newC, (N135_6 hn)]
theorem T135_7 {h : AH} {a : Nat} (hn : hN h = a + 1) (hs : hS h a = some (105, 0)) : hS (H135_7 h a) a = some (105, 0) := by rw [S135_7 hn, if_neg (by omega)]; rw [T135_6 hn hs]
theorem E135_7 (d : Nat) {h : AH} {a : Nat} (hn : hN h = a + 1) (hs : hS h a = some (105, 0)) : E d 135 27 [some (.ref a)] [] (H135_6 h a) = E d 135 31 [some (.ref a)] [] (H135_7 h a) := by
  have q : hS (H135_6 h a) a = some (105, 0) := T135_6 hn hs
  have qn : hN (H135_6 h a) = a + 15 := N135_6 hn
  have q2 : hS (newC (H135_6 h a) (0, 250) 250) a = some (105, 0) := by rw [hS_newC, if_neg (show ¬ a = hN (H135_6 h a) by omega)]; exact q
  have g2 : (250 : Int32).toNatClampNeg = 250 := nI_clamp (n := 250) (by omega)
  have g : (¬ (250 : Int32) < 0 ∧ 250 ≤ 67108864) := ⟨nI_pos (show 250 < 2 ^ 31 by omega), by omega⟩
  simp only [s135_27, s135_28, s135_29, g2]
  rw [if_pos g]
  simp only [s135_30, qn, q2, if_true]
  rfl
def H135_8 (h : AH) (a : Nat) : AH := stR (newC (H135_7 h a) (0, 8) 8) a 8 (some (a + 16))
theorem N135_8 {h : AH} {a : Nat} (hn : hN h = a + 1) : hN (H135_8 h a) = a + 17 := by unfold H135_8; rw [hN_stR, hN_newC, (N135_7 hn)]
theorem S135_8 {h : AH} {a : Nat} (hn : hN h = a + 1) (b : Nat) : hS (H135_8 h a) b = if b = a + 16 then some (0, 8) else hS (H135_7 h a) b := by unfold H135_8; rw [hS_stR, hS_newC, (N135_7 hn)]
theorem R135_8 {h : AH} {a : Nat} (hn : hN h = a + 1) (b j : Nat) : hR (H135_8 h a) b j = if b = a ∧ j = 8 then some (a + 16) else if b = a + 16 then none else hR (H135_7 h a) b j := by unfold H135_8; rw [hR_stR, hR_newC, (N135_7 hn)]
theorem I135_8 {h : AH} {a : Nat} (hn : hN h = a + 1) (b j : Nat) : hI (H135_8 h a) b j = if b = a + 16 then 0 else hI (H135_7 h a) b j := by unfold H135_8; rw [hI_stR, hI_newC, (N135_7 hn)]
theorem L135_8 {h : AH} {a : Nat} (hn : hN h = a + 1) (b j : Nat) : hL (H135_8 h a) b j = if b = a + 16 then 0 else hL (H135_7 h a) b j := by unfold H135_8; rw [hL_stR, hL_newC, (N135_7 hn)]
theorem T135_8 {h : AH} {a : Nat} (hn : hN h = a + 1) (hs : hS h a = some (105, 0)) : hS (H135_8 h a) a = some (105, 0) := by rw [S135_8 hn, if_neg (by omega)]; rw [T135_7 hn hs]
theorem E135_8 (d : Nat) {h : AH} {a : Nat} (hn : hN h = a + 1) (hs : hS h a = some (105, 0)) : E d 135 31 [some (.ref a)] [] (H135_7 h a) = E d 135 35 [some (.ref a)] [] (H135_8 h a) := by
  have q : hS (H135_7 h a) a = some (105, 0) := T135_7 hn hs
  have qn : hN (H135_7 h a) = a + 16 := N135_7 hn
  have q2 : hS (newC (H135_7 h a) (0, 8) 8) a = some (105, 0) := by rw [hS_newC, if_neg (show ¬ a = hN (H135_7 h a) by omega)]; exact q
  have g2 : (8 : Int32).toNatClampNeg = 8 := nI_clamp (n := 8) (by omega)
  have g : (¬ (8 : Int32) < 0 ∧ 8 ≤ 67108864) := ⟨nI_pos (show 8 < 2 ^ 31 by omega), by omega⟩
  simp only [s135_31, s135_32, s135_33, g2]
  rw [if_pos g]
  simp only [s135_34, qn, q2, if_true]
  rfl
def H135_9 (h : AH) (a : Nat) : AH := stI (H135_8 h a) a 9 (nI 3)
theorem N135_9 {h : AH} {a : Nat} (hn : hN h = a + 1) : hN (H135_9 h a) = a + 17 := by unfold H135_9; rw [hN_stI, (N135_8 hn)]
theorem S135_9 {h : AH} {a : Nat} (hn : hN h = a + 1) (b : Nat) : hS (H135_9 h a) b = hS (H135_8 h a) b := by unfold H135_9; rw [hS_stI]
theorem R135_9 {h : AH} {a : Nat} (hn : hN h = a + 1) (b j : Nat) : hR (H135_9 h a) b j = hR (H135_8 h a) b j := by unfold H135_9; rw [hR_stI]
theorem I135_9 {h : AH} {a : Nat} (hn : hN h = a + 1) (b j : Nat) : hI (H135_9 h a) b j = if b = a ∧ j = 9 then (nI 3) else hI (H135_8 h a) b j := by unfold H135_9; rw [hI_stI]
theorem L135_9 {h : AH} {a : Nat} (hn : hN h = a + 1) (b j : Nat) : hL (H135_9 h a) b j = hL (H135_8 h a) b j := by unfold H135_9; rw [hL_stI]
theorem T135_9 {h : AH} {a : Nat} (hn : hN h = a + 1) (hs : hS h a = some (105, 0)) : hS (H135_9 h a) a = some (105, 0) := by rw [S135_9 hn]; rw [T135_8 hn hs]
theorem E135_9 (d : Nat) {h : AH} {a : Nat} (hn : hN h = a + 1) (hs : hS h a = some (105, 0)) : E d 135 35 [some (.ref a)] [] (H135_8 h a) = E d 135 38 [some (.ref a)] [] (H135_9 h a) := by
  have q : hS (H135_8 h a) a = some (105, 0) := T135_8 hn hs
  simp only [s135_35, s135_36, s135_37, q, if_true, l0, l1, l2, l3, l4, l5, l6, l7, l8, l9, l10, l11, l12, l13, l14, l15, l16, l20, l31, l32, l36, l40, l48, l57, l59, l63, l64, l97, l99, l100, l101, l122, l127, l128, l250, l255, l262143, l262144, l30000, l100000, l12345, l1024, l4095]
  rfl
def H135_10 (h : AH) (a : Nat) : AH := stR (newC (H135_9 h a) (0, 6) 6) a 11 (some (a + 17))
theorem N135_10 {h : AH} {a : Nat} (hn : hN h = a + 1) : hN (H135_10 h a) = a + 18 := by unfold H135_10; rw [hN_stR, hN_newC, (N135_9 hn)]
theorem S135_10 {h : AH} {a : Nat} (hn : hN h = a + 1) (b : Nat) : hS (H135_10 h a) b = if b = a + 17 then some (0, 6) else hS (H135_9 h a) b := by unfold H135_10; rw [hS_stR, hS_newC, (N135_9 hn)]
theorem R135_10 {h : AH} {a : Nat} (hn : hN h = a + 1) (b j : Nat) : hR (H135_10 h a) b j = if b = a ∧ j = 11 then some (a + 17) else if b = a + 17 then none else hR (H135_9 h a) b j := by unfold H135_10; rw [hR_stR, hR_newC, (N135_9 hn)]
theorem I135_10 {h : AH} {a : Nat} (hn : hN h = a + 1) (b j : Nat) : hI (H135_10 h a) b j = if b = a + 17 then 0 else hI (H135_9 h a) b j := by unfold H135_10; rw [hI_stR, hI_newC, (N135_9 hn)]
theorem L135_10 {h : AH} {a : Nat} (hn : hN h = a + 1) (b j : Nat) : hL (H135_10 h a) b j = if b = a + 17 then 0 else hL (H135_9 h a) b j := by unfold H135_10; rw [hL_stR, hL_newC, (N135_9 hn)]
theorem T135_10 {h : AH} {a : Nat} (hn : hN h = a + 1) (hs : hS h a = some (105, 0)) : hS (H135_10 h a) a = some (105, 0) := by rw [S135_10 hn, if_neg (by omega)]; rw [T135_9 hn hs]
theorem E135_10 (d : Nat) {h : AH} {a : Nat} (hn : hN h = a + 1) (hs : hS h a = some (105, 0)) : E d 135 38 [some (.ref a)] [] (H135_9 h a) = E d 135 42 [some (.ref a)] [] (H135_10 h a) := by
  have q : hS (H135_9 h a) a = some (105, 0) := T135_9 hn hs
  have qn : hN (H135_9 h a) = a + 17 := N135_9 hn
  have q2 : hS (newC (H135_9 h a) (0, 6) 6) a = some (105, 0) := by rw [hS_newC, if_neg (show ¬ a = hN (H135_9 h a) by omega)]; exact q
  have g2 : (6 : Int32).toNatClampNeg = 6 := nI_clamp (n := 6) (by omega)
  have g : (¬ (6 : Int32) < 0 ∧ 6 ≤ 67108864) := ⟨nI_pos (show 6 < 2 ^ 31 by omega), by omega⟩
  simp only [s135_38, s135_39, s135_40, g2]
  rw [if_pos g]
  simp only [s135_41, qn, q2, if_true]
  rfl
def H135_11 (h : AH) (a : Nat) : AH := stR (newC (H135_10 h a) (0, 6) 6) a 12 (some (a + 18))
theorem N135_11 {h : AH} {a : Nat} (hn : hN h = a + 1) : hN (H135_11 h a) = a + 19 := by unfold H135_11; rw [hN_stR, hN_newC, (N135_10 hn)]
theorem S135_11 {h : AH} {a : Nat} (hn : hN h = a + 1) (b : Nat) : hS (H135_11 h a) b = if b = a + 18 then some (0, 6) else hS (H135_10 h a) b := by unfold H135_11; rw [hS_stR, hS_newC, (N135_10 hn)]
theorem R135_11 {h : AH} {a : Nat} (hn : hN h = a + 1) (b j : Nat) : hR (H135_11 h a) b j = if b = a ∧ j = 12 then some (a + 18) else if b = a + 18 then none else hR (H135_10 h a) b j := by unfold H135_11; rw [hR_stR, hR_newC, (N135_10 hn)]
theorem I135_11 {h : AH} {a : Nat} (hn : hN h = a + 1) (b j : Nat) : hI (H135_11 h a) b j = if b = a + 18 then 0 else hI (H135_10 h a) b j := by unfold H135_11; rw [hI_stR, hI_newC, (N135_10 hn)]
theorem L135_11 {h : AH} {a : Nat} (hn : hN h = a + 1) (b j : Nat) : hL (H135_11 h a) b j = if b = a + 18 then 0 else hL (H135_10 h a) b j := by unfold H135_11; rw [hL_stR, hL_newC, (N135_10 hn)]
theorem T135_11 {h : AH} {a : Nat} (hn : hN h = a + 1) (hs : hS h a = some (105, 0)) : hS (H135_11 h a) a = some (105, 0) := by rw [S135_11 hn, if_neg (by omega)]; rw [T135_10 hn hs]
theorem E135_11 (d : Nat) {h : AH} {a : Nat} (hn : hN h = a + 1) (hs : hS h a = some (105, 0)) : E d 135 42 [some (.ref a)] [] (H135_10 h a) = E d 135 46 [some (.ref a)] [] (H135_11 h a) := by
  have q : hS (H135_10 h a) a = some (105, 0) := T135_10 hn hs
  have qn : hN (H135_10 h a) = a + 18 := N135_10 hn
  have q2 : hS (newC (H135_10 h a) (0, 6) 6) a = some (105, 0) := by rw [hS_newC, if_neg (show ¬ a = hN (H135_10 h a) by omega)]; exact q
  have g2 : (6 : Int32).toNatClampNeg = 6 := nI_clamp (n := 6) (by omega)
  have g : (¬ (6 : Int32) < 0 ∧ 6 ≤ 67108864) := ⟨nI_pos (show 6 < 2 ^ 31 by omega), by omega⟩
  simp only [s135_42, s135_43, s135_44, g2]
  rw [if_pos g]
  simp only [s135_45, qn, q2, if_true]
  rfl
def H135_12 (h : AH) (a : Nat) : AH := stR (newC (H135_11 h a) (0, 6) 6) a 13 (some (a + 19))
theorem N135_12 {h : AH} {a : Nat} (hn : hN h = a + 1) : hN (H135_12 h a) = a + 20 := by unfold H135_12; rw [hN_stR, hN_newC, (N135_11 hn)]
theorem S135_12 {h : AH} {a : Nat} (hn : hN h = a + 1) (b : Nat) : hS (H135_12 h a) b = if b = a + 19 then some (0, 6) else hS (H135_11 h a) b := by unfold H135_12; rw [hS_stR, hS_newC, (N135_11 hn)]
theorem R135_12 {h : AH} {a : Nat} (hn : hN h = a + 1) (b j : Nat) : hR (H135_12 h a) b j = if b = a ∧ j = 13 then some (a + 19) else if b = a + 19 then none else hR (H135_11 h a) b j := by unfold H135_12; rw [hR_stR, hR_newC, (N135_11 hn)]
theorem I135_12 {h : AH} {a : Nat} (hn : hN h = a + 1) (b j : Nat) : hI (H135_12 h a) b j = if b = a + 19 then 0 else hI (H135_11 h a) b j := by unfold H135_12; rw [hI_stR, hI_newC, (N135_11 hn)]
theorem L135_12 {h : AH} {a : Nat} (hn : hN h = a + 1) (b j : Nat) : hL (H135_12 h a) b j = if b = a + 19 then 0 else hL (H135_11 h a) b j := by unfold H135_12; rw [hL_stR, hL_newC, (N135_11 hn)]
theorem T135_12 {h : AH} {a : Nat} (hn : hN h = a + 1) (hs : hS h a = some (105, 0)) : hS (H135_12 h a) a = some (105, 0) := by rw [S135_12 hn, if_neg (by omega)]; rw [T135_11 hn hs]
theorem E135_12 (d : Nat) {h : AH} {a : Nat} (hn : hN h = a + 1) (hs : hS h a = some (105, 0)) : E d 135 46 [some (.ref a)] [] (H135_11 h a) = E d 135 50 [some (.ref a)] [] (H135_12 h a) := by
  have q : hS (H135_11 h a) a = some (105, 0) := T135_11 hn hs
  have qn : hN (H135_11 h a) = a + 19 := N135_11 hn
  have q2 : hS (newC (H135_11 h a) (0, 6) 6) a = some (105, 0) := by rw [hS_newC, if_neg (show ¬ a = hN (H135_11 h a) by omega)]; exact q
  have g2 : (6 : Int32).toNatClampNeg = 6 := nI_clamp (n := 6) (by omega)
  have g : (¬ (6 : Int32) < 0 ∧ 6 ≤ 67108864) := ⟨nI_pos (show 6 < 2 ^ 31 by omega), by omega⟩
  simp only [s135_46, s135_47, s135_48, g2]
  rw [if_pos g]
  simp only [s135_49, qn, q2, if_true]
  rfl
def H135_13 (h : AH) (a : Nat) : AH := stR (newC (H135_12 h a) (0, 6) 6) a 14 (some (a + 20))
theorem N135_13 {h : AH} {a : Nat} (hn : hN h = a + 1) : hN (H135_13 h a) = a + 21 := by unfold H135_13; rw [hN_stR, hN_newC, (N135_12 hn)]
theorem S135_13 {h : AH} {a : Nat} (hn : hN h = a + 1) (b : Nat) : hS (H135_13 h a) b = if b = a + 20 then some (0, 6) else hS (H135_12 h a) b := by unfold H135_13; rw [hS_stR, hS_newC, (N135_12 hn)]
theorem R135_13 {h : AH} {a : Nat} (hn : hN h = a + 1) (b j : Nat) : hR (H135_13 h a) b j = if b = a ∧ j = 14 then some (a + 20) else if b = a + 20 then none else hR (H135_12 h a) b j := by unfold H135_13; rw [hR_stR, hR_newC, (N135_12 hn)]
theorem I135_13 {h : AH} {a : Nat} (hn : hN h = a + 1) (b j : Nat) : hI (H135_13 h a) b j = if b = a + 20 then 0 else hI (H135_12 h a) b j := by unfold H135_13; rw [hI_stR, hI_newC, (N135_12 hn)]
theorem L135_13 {h : AH} {a : Nat} (hn : hN h = a + 1) (b j : Nat) : hL (H135_13 h a) b j = if b = a + 20 then 0 else hL (H135_12 h a) b j := by unfold H135_13; rw [hL_stR, hL_newC, (N135_12 hn)]
theorem T135_13 {h : AH} {a : Nat} (hn : hN h = a + 1) (hs : hS h a = some (105, 0)) : hS (H135_13 h a) a = some (105, 0) := by rw [S135_13 hn, if_neg (by omega)]; rw [T135_12 hn hs]
theorem E135_13 (d : Nat) {h : AH} {a : Nat} (hn : hN h = a + 1) (hs : hS h a = some (105, 0)) : E d 135 50 [some (.ref a)] [] (H135_12 h a) = E d 135 54 [some (.ref a)] [] (H135_13 h a) := by
  have q : hS (H135_12 h a) a = some (105, 0) := T135_12 hn hs
  have qn : hN (H135_12 h a) = a + 20 := N135_12 hn
  have q2 : hS (newC (H135_12 h a) (0, 6) 6) a = some (105, 0) := by rw [hS_newC, if_neg (show ¬ a = hN (H135_12 h a) by omega)]; exact q
  have g2 : (6 : Int32).toNatClampNeg = 6 := nI_clamp (n := 6) (by omega)
  have g : (¬ (6 : Int32) < 0 ∧ 6 ≤ 67108864) := ⟨nI_pos (show 6 < 2 ^ 31 by omega), by omega⟩
  simp only [s135_50, s135_51, s135_52, g2]
  rw [if_pos g]
  simp only [s135_53, qn, q2, if_true]
  rfl
def H135_14 (h : AH) (a : Nat) : AH := stR (newC (H135_13 h a) (0, 6) 6) a 15 (some (a + 21))
theorem N135_14 {h : AH} {a : Nat} (hn : hN h = a + 1) : hN (H135_14 h a) = a + 22 := by unfold H135_14; rw [hN_stR, hN_newC, (N135_13 hn)]
theorem S135_14 {h : AH} {a : Nat} (hn : hN h = a + 1) (b : Nat) : hS (H135_14 h a) b = if b = a + 21 then some (0, 6) else hS (H135_13 h a) b := by unfold H135_14; rw [hS_stR, hS_newC, (N135_13 hn)]
theorem R135_14 {h : AH} {a : Nat} (hn : hN h = a + 1) (b j : Nat) : hR (H135_14 h a) b j = if b = a ∧ j = 15 then some (a + 21) else if b = a + 21 then none else hR (H135_13 h a) b j := by unfold H135_14; rw [hR_stR, hR_newC, (N135_13 hn)]
theorem I135_14 {h : AH} {a : Nat} (hn : hN h = a + 1) (b j : Nat) : hI (H135_14 h a) b j = if b = a + 21 then 0 else hI (H135_13 h a) b j := by unfold H135_14; rw [hI_stR, hI_newC, (N135_13 hn)]
theorem L135_14 {h : AH} {a : Nat} (hn : hN h = a + 1) (b j : Nat) : hL (H135_14 h a) b j = if b = a + 21 then 0 else hL (H135_13 h a) b j := by unfold H135_14; rw [hL_stR, hL_newC, (N135_13 hn)]
theorem T135_14 {h : AH} {a : Nat} (hn : hN h = a + 1) (hs : hS h a = some (105, 0)) : hS (H135_14 h a) a = some (105, 0) := by rw [S135_14 hn, if_neg (by omega)]; rw [T135_13 hn hs]
theorem E135_14 (d : Nat) {h : AH} {a : Nat} (hn : hN h = a + 1) (hs : hS h a = some (105, 0)) : E d 135 54 [some (.ref a)] [] (H135_13 h a) = E d 135 58 [some (.ref a)] [] (H135_14 h a) := by
  have q : hS (H135_13 h a) a = some (105, 0) := T135_13 hn hs
  have qn : hN (H135_13 h a) = a + 21 := N135_13 hn
  have q2 : hS (newC (H135_13 h a) (0, 6) 6) a = some (105, 0) := by rw [hS_newC, if_neg (show ¬ a = hN (H135_13 h a) by omega)]; exact q
  have g2 : (6 : Int32).toNatClampNeg = 6 := nI_clamp (n := 6) (by omega)
  have g : (¬ (6 : Int32) < 0 ∧ 6 ≤ 67108864) := ⟨nI_pos (show 6 < 2 ^ 31 by omega), by omega⟩
  simp only [s135_54, s135_55, s135_56, g2]
  rw [if_pos g]
  simp only [s135_57, qn, q2, if_true]
  rfl
def H135_15 (h : AH) (a : Nat) : AH := stR (newC (H135_14 h a) (0, 6) 6) a 16 (some (a + 22))
theorem N135_15 {h : AH} {a : Nat} (hn : hN h = a + 1) : hN (H135_15 h a) = a + 23 := by unfold H135_15; rw [hN_stR, hN_newC, (N135_14 hn)]
theorem S135_15 {h : AH} {a : Nat} (hn : hN h = a + 1) (b : Nat) : hS (H135_15 h a) b = if b = a + 22 then some (0, 6) else hS (H135_14 h a) b := by unfold H135_15; rw [hS_stR, hS_newC, (N135_14 hn)]
theorem R135_15 {h : AH} {a : Nat} (hn : hN h = a + 1) (b j : Nat) : hR (H135_15 h a) b j = if b = a ∧ j = 16 then some (a + 22) else if b = a + 22 then none else hR (H135_14 h a) b j := by unfold H135_15; rw [hR_stR, hR_newC, (N135_14 hn)]
theorem I135_15 {h : AH} {a : Nat} (hn : hN h = a + 1) (b j : Nat) : hI (H135_15 h a) b j = if b = a + 22 then 0 else hI (H135_14 h a) b j := by unfold H135_15; rw [hI_stR, hI_newC, (N135_14 hn)]
theorem L135_15 {h : AH} {a : Nat} (hn : hN h = a + 1) (b j : Nat) : hL (H135_15 h a) b j = if b = a + 22 then 0 else hL (H135_14 h a) b j := by unfold H135_15; rw [hL_stR, hL_newC, (N135_14 hn)]
theorem T135_15 {h : AH} {a : Nat} (hn : hN h = a + 1) (hs : hS h a = some (105, 0)) : hS (H135_15 h a) a = some (105, 0) := by rw [S135_15 hn, if_neg (by omega)]; rw [T135_14 hn hs]
theorem E135_15 (d : Nat) {h : AH} {a : Nat} (hn : hN h = a + 1) (hs : hS h a = some (105, 0)) : E d 135 58 [some (.ref a)] [] (H135_14 h a) = E d 135 62 [some (.ref a)] [] (H135_15 h a) := by
  have q : hS (H135_14 h a) a = some (105, 0) := T135_14 hn hs
  have qn : hN (H135_14 h a) = a + 22 := N135_14 hn
  have q2 : hS (newC (H135_14 h a) (0, 6) 6) a = some (105, 0) := by rw [hS_newC, if_neg (show ¬ a = hN (H135_14 h a) by omega)]; exact q
  have g2 : (6 : Int32).toNatClampNeg = 6 := nI_clamp (n := 6) (by omega)
  have g : (¬ (6 : Int32) < 0 ∧ 6 ≤ 67108864) := ⟨nI_pos (show 6 < 2 ^ 31 by omega), by omega⟩
  simp only [s135_58, s135_59, s135_60, g2]
  rw [if_pos g]
  simp only [s135_61, qn, q2, if_true]
  rfl
def H135_16 (h : AH) (a : Nat) : AH := stR (newC (H135_15 h a) (0, 6) 6) a 18 (some (a + 23))
theorem N135_16 {h : AH} {a : Nat} (hn : hN h = a + 1) : hN (H135_16 h a) = a + 24 := by unfold H135_16; rw [hN_stR, hN_newC, (N135_15 hn)]
theorem S135_16 {h : AH} {a : Nat} (hn : hN h = a + 1) (b : Nat) : hS (H135_16 h a) b = if b = a + 23 then some (0, 6) else hS (H135_15 h a) b := by unfold H135_16; rw [hS_stR, hS_newC, (N135_15 hn)]
theorem R135_16 {h : AH} {a : Nat} (hn : hN h = a + 1) (b j : Nat) : hR (H135_16 h a) b j = if b = a ∧ j = 18 then some (a + 23) else if b = a + 23 then none else hR (H135_15 h a) b j := by unfold H135_16; rw [hR_stR, hR_newC, (N135_15 hn)]
theorem I135_16 {h : AH} {a : Nat} (hn : hN h = a + 1) (b j : Nat) : hI (H135_16 h a) b j = if b = a + 23 then 0 else hI (H135_15 h a) b j := by unfold H135_16; rw [hI_stR, hI_newC, (N135_15 hn)]
theorem L135_16 {h : AH} {a : Nat} (hn : hN h = a + 1) (b j : Nat) : hL (H135_16 h a) b j = if b = a + 23 then 0 else hL (H135_15 h a) b j := by unfold H135_16; rw [hL_stR, hL_newC, (N135_15 hn)]
theorem T135_16 {h : AH} {a : Nat} (hn : hN h = a + 1) (hs : hS h a = some (105, 0)) : hS (H135_16 h a) a = some (105, 0) := by rw [S135_16 hn, if_neg (by omega)]; rw [T135_15 hn hs]
theorem E135_16 (d : Nat) {h : AH} {a : Nat} (hn : hN h = a + 1) (hs : hS h a = some (105, 0)) : E d 135 62 [some (.ref a)] [] (H135_15 h a) = E d 135 66 [some (.ref a)] [] (H135_16 h a) := by
  have q : hS (H135_15 h a) a = some (105, 0) := T135_15 hn hs
  have qn : hN (H135_15 h a) = a + 23 := N135_15 hn
  have q2 : hS (newC (H135_15 h a) (0, 6) 6) a = some (105, 0) := by rw [hS_newC, if_neg (show ¬ a = hN (H135_15 h a) by omega)]; exact q
  have g2 : (6 : Int32).toNatClampNeg = 6 := nI_clamp (n := 6) (by omega)
  have g : (¬ (6 : Int32) < 0 ∧ 6 ≤ 67108864) := ⟨nI_pos (show 6 < 2 ^ 31 by omega), by omega⟩
  simp only [s135_62, s135_63, s135_64, g2]
  rw [if_pos g]
  simp only [s135_65, qn, q2, if_true]
  rfl
def H135_17 (h : AH) (a : Nat) : AH := stR (newC (H135_16 h a) (0, 6) 6) a 19 (some (a + 24))
theorem N135_17 {h : AH} {a : Nat} (hn : hN h = a + 1) : hN (H135_17 h a) = a + 25 := by unfold H135_17; rw [hN_stR, hN_newC, (N135_16 hn)]
theorem S135_17 {h : AH} {a : Nat} (hn : hN h = a + 1) (b : Nat) : hS (H135_17 h a) b = if b = a + 24 then some (0, 6) else hS (H135_16 h a) b := by unfold H135_17; rw [hS_stR, hS_newC, (N135_16 hn)]
theorem R135_17 {h : AH} {a : Nat} (hn : hN h = a + 1) (b j : Nat) : hR (H135_17 h a) b j = if b = a ∧ j = 19 then some (a + 24) else if b = a + 24 then none else hR (H135_16 h a) b j := by unfold H135_17; rw [hR_stR, hR_newC, (N135_16 hn)]
theorem I135_17 {h : AH} {a : Nat} (hn : hN h = a + 1) (b j : Nat) : hI (H135_17 h a) b j = if b = a + 24 then 0 else hI (H135_16 h a) b j := by unfold H135_17; rw [hI_stR, hI_newC, (N135_16 hn)]
theorem L135_17 {h : AH} {a : Nat} (hn : hN h = a + 1) (b j : Nat) : hL (H135_17 h a) b j = if b = a + 24 then 0 else hL (H135_16 h a) b j := by unfold H135_17; rw [hL_stR, hL_newC, (N135_16 hn)]
theorem T135_17 {h : AH} {a : Nat} (hn : hN h = a + 1) (hs : hS h a = some (105, 0)) : hS (H135_17 h a) a = some (105, 0) := by rw [S135_17 hn, if_neg (by omega)]; rw [T135_16 hn hs]
theorem E135_17 (d : Nat) {h : AH} {a : Nat} (hn : hN h = a + 1) (hs : hS h a = some (105, 0)) : E d 135 66 [some (.ref a)] [] (H135_16 h a) = E d 135 70 [some (.ref a)] [] (H135_17 h a) := by
  have q : hS (H135_16 h a) a = some (105, 0) := T135_16 hn hs
  have qn : hN (H135_16 h a) = a + 24 := N135_16 hn
  have q2 : hS (newC (H135_16 h a) (0, 6) 6) a = some (105, 0) := by rw [hS_newC, if_neg (show ¬ a = hN (H135_16 h a) by omega)]; exact q
  have g2 : (6 : Int32).toNatClampNeg = 6 := nI_clamp (n := 6) (by omega)
  have g : (¬ (6 : Int32) < 0 ∧ 6 ≤ 67108864) := ⟨nI_pos (show 6 < 2 ^ 31 by omega), by omega⟩
  simp only [s135_66, s135_67, s135_68, g2]
  rw [if_pos g]
  simp only [s135_69, qn, q2, if_true]
  rfl
def H135_18 (h : AH) (a : Nat) : AH := stI (H135_17 h a) a 21 (nI 1)
theorem N135_18 {h : AH} {a : Nat} (hn : hN h = a + 1) : hN (H135_18 h a) = a + 25 := by unfold H135_18; rw [hN_stI, (N135_17 hn)]
theorem S135_18 {h : AH} {a : Nat} (hn : hN h = a + 1) (b : Nat) : hS (H135_18 h a) b = hS (H135_17 h a) b := by unfold H135_18; rw [hS_stI]
theorem R135_18 {h : AH} {a : Nat} (hn : hN h = a + 1) (b j : Nat) : hR (H135_18 h a) b j = hR (H135_17 h a) b j := by unfold H135_18; rw [hR_stI]
theorem I135_18 {h : AH} {a : Nat} (hn : hN h = a + 1) (b j : Nat) : hI (H135_18 h a) b j = if b = a ∧ j = 21 then (nI 1) else hI (H135_17 h a) b j := by unfold H135_18; rw [hI_stI]
theorem L135_18 {h : AH} {a : Nat} (hn : hN h = a + 1) (b j : Nat) : hL (H135_18 h a) b j = hL (H135_17 h a) b j := by unfold H135_18; rw [hL_stI]
theorem T135_18 {h : AH} {a : Nat} (hn : hN h = a + 1) (hs : hS h a = some (105, 0)) : hS (H135_18 h a) a = some (105, 0) := by rw [S135_18 hn]; rw [T135_17 hn hs]
theorem E135_18 (d : Nat) {h : AH} {a : Nat} (hn : hN h = a + 1) (hs : hS h a = some (105, 0)) : E d 135 70 [some (.ref a)] [] (H135_17 h a) = E d 135 73 [some (.ref a)] [] (H135_18 h a) := by
  have q : hS (H135_17 h a) a = some (105, 0) := T135_17 hn hs
  simp only [s135_70, s135_71, s135_72, q, if_true, l0, l1, l2, l3, l4, l5, l6, l7, l8, l9, l10, l11, l12, l13, l14, l15, l16, l20, l31, l32, l36, l40, l48, l57, l59, l63, l64, l97, l99, l100, l101, l122, l127, l128, l250, l255, l262143, l262144, l30000, l100000, l12345, l1024, l4095]
  rfl
def H135_19 (h : AH) (a : Nat) : AH := stR (newC (H135_18 h a) (0, 2) 2) a 29 (some (a + 25))
theorem N135_19 {h : AH} {a : Nat} (hn : hN h = a + 1) : hN (H135_19 h a) = a + 26 := by unfold H135_19; rw [hN_stR, hN_newC, (N135_18 hn)]
theorem S135_19 {h : AH} {a : Nat} (hn : hN h = a + 1) (b : Nat) : hS (H135_19 h a) b = if b = a + 25 then some (0, 2) else hS (H135_18 h a) b := by unfold H135_19; rw [hS_stR, hS_newC, (N135_18 hn)]
theorem R135_19 {h : AH} {a : Nat} (hn : hN h = a + 1) (b j : Nat) : hR (H135_19 h a) b j = if b = a ∧ j = 29 then some (a + 25) else if b = a + 25 then none else hR (H135_18 h a) b j := by unfold H135_19; rw [hR_stR, hR_newC, (N135_18 hn)]
theorem I135_19 {h : AH} {a : Nat} (hn : hN h = a + 1) (b j : Nat) : hI (H135_19 h a) b j = if b = a + 25 then 0 else hI (H135_18 h a) b j := by unfold H135_19; rw [hI_stR, hI_newC, (N135_18 hn)]
theorem L135_19 {h : AH} {a : Nat} (hn : hN h = a + 1) (b j : Nat) : hL (H135_19 h a) b j = if b = a + 25 then 0 else hL (H135_18 h a) b j := by unfold H135_19; rw [hL_stR, hL_newC, (N135_18 hn)]
theorem T135_19 {h : AH} {a : Nat} (hn : hN h = a + 1) (hs : hS h a = some (105, 0)) : hS (H135_19 h a) a = some (105, 0) := by rw [S135_19 hn, if_neg (by omega)]; rw [T135_18 hn hs]
theorem E135_19 (d : Nat) {h : AH} {a : Nat} (hn : hN h = a + 1) (hs : hS h a = some (105, 0)) : E d 135 73 [some (.ref a)] [] (H135_18 h a) = E d 135 77 [some (.ref a)] [] (H135_19 h a) := by
  have q : hS (H135_18 h a) a = some (105, 0) := T135_18 hn hs
  have qn : hN (H135_18 h a) = a + 25 := N135_18 hn
  have q2 : hS (newC (H135_18 h a) (0, 2) 2) a = some (105, 0) := by rw [hS_newC, if_neg (show ¬ a = hN (H135_18 h a) by omega)]; exact q
  have g2 : (2 : Int32).toNatClampNeg = 2 := nI_clamp (n := 2) (by omega)
  have g : (¬ (2 : Int32) < 0 ∧ 2 ≤ 67108864) := ⟨nI_pos (show 2 < 2 ^ 31 by omega), by omega⟩
  simp only [s135_73, s135_74, s135_75, g2]
  rw [if_pos g]
  simp only [s135_76, qn, q2, if_true]
  rfl
def H135_20 (h : AH) (a : Nat) : AH := stR (newC (H135_19 h a) (2, 0) 0) a 31 (some (a + 26))
theorem N135_20 {h : AH} {a : Nat} (hn : hN h = a + 1) : hN (H135_20 h a) = a + 27 := by unfold H135_20; rw [hN_stR, hN_newC, (N135_19 hn)]
theorem S135_20 {h : AH} {a : Nat} (hn : hN h = a + 1) (b : Nat) : hS (H135_20 h a) b = if b = a + 26 then some (2, 0) else hS (H135_19 h a) b := by unfold H135_20; rw [hS_stR, hS_newC, (N135_19 hn)]
theorem R135_20 {h : AH} {a : Nat} (hn : hN h = a + 1) (b j : Nat) : hR (H135_20 h a) b j = if b = a ∧ j = 31 then some (a + 26) else if b = a + 26 then none else hR (H135_19 h a) b j := by unfold H135_20; rw [hR_stR, hR_newC, (N135_19 hn)]
theorem I135_20 {h : AH} {a : Nat} (hn : hN h = a + 1) (b j : Nat) : hI (H135_20 h a) b j = if b = a + 26 then 0 else hI (H135_19 h a) b j := by unfold H135_20; rw [hI_stR, hI_newC, (N135_19 hn)]
theorem L135_20 {h : AH} {a : Nat} (hn : hN h = a + 1) (b j : Nat) : hL (H135_20 h a) b j = if b = a + 26 then 0 else hL (H135_19 h a) b j := by unfold H135_20; rw [hL_stR, hL_newC, (N135_19 hn)]
theorem T135_20 {h : AH} {a : Nat} (hn : hN h = a + 1) (hs : hS h a = some (105, 0)) : hS (H135_20 h a) a = some (105, 0) := by rw [S135_20 hn, if_neg (by omega)]; rw [T135_19 hn hs]
theorem E135_20 (d : Nat) {h : AH} {a : Nat} (hn : hN h = a + 1) (hs : hS h a = some (105, 0)) : E d 135 77 [some (.ref a)] [] (H135_19 h a) = E d 135 81 [some (.ref a)] [] (H135_20 h a) := by
  have q : hS (H135_19 h a) a = some (105, 0) := T135_19 hn hs
  have qn : hN (H135_19 h a) = a + 26 := N135_19 hn
  have q2 : hS (newC (H135_19 h a) (2, 0) 0) a = some (105, 0) := by rw [hS_newC, if_neg (show ¬ a = hN (H135_19 h a) by omega)]; exact q
  have g2 : (0 : Int32).toNatClampNeg = 0 := nI_clamp (n := 0) (by omega)
  have g : (¬ (0 : Int32) < 0 ∧ 0 ≤ 67108864) := ⟨nI_pos (show 0 < 2 ^ 31 by omega), by omega⟩
  simp only [s135_77, s135_78, s135_79, g2]
  rw [if_pos g]
  simp only [s135_80, qn, q2, if_true]
  rfl
def H135_21 (h : AH) (a : Nat) : AH := stR (newC (H135_20 h a) (0, 0) 0) a 32 (some (a + 27))
theorem N135_21 {h : AH} {a : Nat} (hn : hN h = a + 1) : hN (H135_21 h a) = a + 28 := by unfold H135_21; rw [hN_stR, hN_newC, (N135_20 hn)]
theorem S135_21 {h : AH} {a : Nat} (hn : hN h = a + 1) (b : Nat) : hS (H135_21 h a) b = if b = a + 27 then some (0, 0) else hS (H135_20 h a) b := by unfold H135_21; rw [hS_stR, hS_newC, (N135_20 hn)]
theorem R135_21 {h : AH} {a : Nat} (hn : hN h = a + 1) (b j : Nat) : hR (H135_21 h a) b j = if b = a ∧ j = 32 then some (a + 27) else if b = a + 27 then none else hR (H135_20 h a) b j := by unfold H135_21; rw [hR_stR, hR_newC, (N135_20 hn)]
theorem I135_21 {h : AH} {a : Nat} (hn : hN h = a + 1) (b j : Nat) : hI (H135_21 h a) b j = if b = a + 27 then 0 else hI (H135_20 h a) b j := by unfold H135_21; rw [hI_stR, hI_newC, (N135_20 hn)]
theorem L135_21 {h : AH} {a : Nat} (hn : hN h = a + 1) (b j : Nat) : hL (H135_21 h a) b j = if b = a + 27 then 0 else hL (H135_20 h a) b j := by unfold H135_21; rw [hL_stR, hL_newC, (N135_20 hn)]
theorem T135_21 {h : AH} {a : Nat} (hn : hN h = a + 1) (hs : hS h a = some (105, 0)) : hS (H135_21 h a) a = some (105, 0) := by rw [S135_21 hn, if_neg (by omega)]; rw [T135_20 hn hs]
theorem E135_21 (d : Nat) {h : AH} {a : Nat} (hn : hN h = a + 1) (hs : hS h a = some (105, 0)) : E d 135 81 [some (.ref a)] [] (H135_20 h a) = E d 135 85 [some (.ref a)] [] (H135_21 h a) := by
  have q : hS (H135_20 h a) a = some (105, 0) := T135_20 hn hs
  have qn : hN (H135_20 h a) = a + 27 := N135_20 hn
  have q2 : hS (newC (H135_20 h a) (0, 0) 0) a = some (105, 0) := by rw [hS_newC, if_neg (show ¬ a = hN (H135_20 h a) by omega)]; exact q
  have g2 : (0 : Int32).toNatClampNeg = 0 := nI_clamp (n := 0) (by omega)
  have g : (¬ (0 : Int32) < 0 ∧ 0 ≤ 67108864) := ⟨nI_pos (show 0 < 2 ^ 31 by omega), by omega⟩
  simp only [s135_81, s135_82, s135_83, g2]
  rw [if_pos g]
  simp only [s135_84, qn, q2, if_true]
  rfl
def H135_22 (h : AH) (a : Nat) : AH := stR (newC (H135_21 h a) (0, 16) 16) a 34 (some (a + 28))
theorem N135_22 {h : AH} {a : Nat} (hn : hN h = a + 1) : hN (H135_22 h a) = a + 29 := by unfold H135_22; rw [hN_stR, hN_newC, (N135_21 hn)]
theorem S135_22 {h : AH} {a : Nat} (hn : hN h = a + 1) (b : Nat) : hS (H135_22 h a) b = if b = a + 28 then some (0, 16) else hS (H135_21 h a) b := by unfold H135_22; rw [hS_stR, hS_newC, (N135_21 hn)]
theorem R135_22 {h : AH} {a : Nat} (hn : hN h = a + 1) (b j : Nat) : hR (H135_22 h a) b j = if b = a ∧ j = 34 then some (a + 28) else if b = a + 28 then none else hR (H135_21 h a) b j := by unfold H135_22; rw [hR_stR, hR_newC, (N135_21 hn)]
theorem I135_22 {h : AH} {a : Nat} (hn : hN h = a + 1) (b j : Nat) : hI (H135_22 h a) b j = if b = a + 28 then 0 else hI (H135_21 h a) b j := by unfold H135_22; rw [hI_stR, hI_newC, (N135_21 hn)]
theorem L135_22 {h : AH} {a : Nat} (hn : hN h = a + 1) (b j : Nat) : hL (H135_22 h a) b j = if b = a + 28 then 0 else hL (H135_21 h a) b j := by unfold H135_22; rw [hL_stR, hL_newC, (N135_21 hn)]
theorem T135_22 {h : AH} {a : Nat} (hn : hN h = a + 1) (hs : hS h a = some (105, 0)) : hS (H135_22 h a) a = some (105, 0) := by rw [S135_22 hn, if_neg (by omega)]; rw [T135_21 hn hs]
theorem E135_22 (d : Nat) {h : AH} {a : Nat} (hn : hN h = a + 1) (hs : hS h a = some (105, 0)) : E d 135 85 [some (.ref a)] [] (H135_21 h a) = E d 135 89 [some (.ref a)] [] (H135_22 h a) := by
  have q : hS (H135_21 h a) a = some (105, 0) := T135_21 hn hs
  have qn : hN (H135_21 h a) = a + 28 := N135_21 hn
  have q2 : hS (newC (H135_21 h a) (0, 16) 16) a = some (105, 0) := by rw [hS_newC, if_neg (show ¬ a = hN (H135_21 h a) by omega)]; exact q
  have g2 : (16 : Int32).toNatClampNeg = 16 := nI_clamp (n := 16) (by omega)
  have g : (¬ (16 : Int32) < 0 ∧ 16 ≤ 67108864) := ⟨nI_pos (show 16 < 2 ^ 31 by omega), by omega⟩
  simp only [s135_85, s135_86, s135_87, g2]
  rw [if_pos g]
  simp only [s135_88, qn, q2, if_true]
  rfl
def H135_23 (h : AH) (a : Nat) : AH := stR (newM (H135_22 h a) 6 0 7 4) a 35 (some (a + 29))
theorem N135_23 {h : AH} {a : Nat} (hn : hN h = a + 1) : hN (H135_23 h a) = a + 37 := by unfold H135_23; rw [hN_stR, hN_newM, (N135_22 hn)]
theorem S135_23 {h : AH} {a : Nat} (hn : hN h = a + 1) (b : Nat) : hS (H135_23 h a) b = if b = a + 29 then some (6, 7) else if a + 29 < b ∧ b < a + 37 then some (0, 4) else hS (H135_22 h a) b := by unfold H135_23; rw [hS_stR, hS_newM, (N135_22 hn)]
theorem R135_23 {h : AH} {a : Nat} (hn : hN h = a + 1) (b j : Nat) : hR (H135_23 h a) b j = if b = a ∧ j = 35 then some (a + 29) else if b = a + 29 then (if j < 7 then some (a + 29 + 1 + j) else none) else if a + 29 < b ∧ b < a + 37 then none else hR (H135_22 h a) b j := by unfold H135_23; rw [hR_stR, hR_newM, (N135_22 hn)]
theorem I135_23 {h : AH} {a : Nat} (hn : hN h = a + 1) (b j : Nat) : hI (H135_23 h a) b j = if a + 29 ≤ b ∧ b < a + 37 then 0 else hI (H135_22 h a) b j := by unfold H135_23; rw [hI_stR, hI_newM, (N135_22 hn)]
theorem L135_23 {h : AH} {a : Nat} (hn : hN h = a + 1) (b j : Nat) : hL (H135_23 h a) b j = if a + 29 ≤ b ∧ b < a + 37 then 0 else hL (H135_22 h a) b j := by unfold H135_23; rw [hL_stR, hL_newM, (N135_22 hn)]
theorem T135_23 {h : AH} {a : Nat} (hn : hN h = a + 1) (hs : hS h a = some (105, 0)) : hS (H135_23 h a) a = some (105, 0) := by rw [S135_23 hn, if_neg (by omega), if_neg (by omega)]; rw [T135_22 hn hs]
theorem E135_23 (d : Nat) {h : AH} {a : Nat} (hn : hN h = a + 1) (hs : hS h a = some (105, 0)) : E d 135 89 [some (.ref a)] [] (H135_22 h a) = E d 135 94 [some (.ref a)] [] (H135_23 h a) := by
  have q : hS (H135_22 h a) a = some (105, 0) := T135_22 hn hs
  have qn : hN (H135_22 h a) = a + 29 := N135_22 hn
  have q2 : hS (newM (H135_22 h a) 6 0 7 4) a = some (105, 0) := by rw [hS_newM, if_neg (show ¬ a = hN (H135_22 h a) by omega), if_neg (show ¬ (hN (H135_22 h a) < a ∧ a < hN (H135_22 h a) + 1 + 7) by omega)]; exact q
  have g2 : (7 : Int32).toNatClampNeg = 7 := nI_clamp (n := 7) (by omega)
  have g3 : (4 : Int32).toNatClampNeg = 4 := nI_clamp (n := 4) (by omega)
  have g : (¬ (7 : Int32) < 0 ∧ ¬ (4 : Int32) < 0 ∧ 7 ≤ 67108864 ∧ 4 ≤ 67108864) := ⟨nI_pos (show 7 < 2 ^ 31 by omega), nI_pos (show 4 < 2 ^ 31 by omega), by omega, by omega⟩
  simp only [s135_89, s135_90, s135_91, s135_92, g2, g3]
  rw [if_pos g]
  simp only [s135_93, qn, q2, if_true]
  rfl
def H135_24 (h : AH) (a : Nat) : AH := stR (newM (H135_23 h a) 6 0 7 4) a 36 (some (a + 37))
theorem N135_24 {h : AH} {a : Nat} (hn : hN h = a + 1) : hN (H135_24 h a) = a + 45 := by unfold H135_24; rw [hN_stR, hN_newM, (N135_23 hn)]
theorem S135_24 {h : AH} {a : Nat} (hn : hN h = a + 1) (b : Nat) : hS (H135_24 h a) b = if b = a + 37 then some (6, 7) else if a + 37 < b ∧ b < a + 45 then some (0, 4) else hS (H135_23 h a) b := by unfold H135_24; rw [hS_stR, hS_newM, (N135_23 hn)]
theorem R135_24 {h : AH} {a : Nat} (hn : hN h = a + 1) (b j : Nat) : hR (H135_24 h a) b j = if b = a ∧ j = 36 then some (a + 37) else if b = a + 37 then (if j < 7 then some (a + 37 + 1 + j) else none) else if a + 37 < b ∧ b < a + 45 then none else hR (H135_23 h a) b j := by unfold H135_24; rw [hR_stR, hR_newM, (N135_23 hn)]
theorem I135_24 {h : AH} {a : Nat} (hn : hN h = a + 1) (b j : Nat) : hI (H135_24 h a) b j = if a + 37 ≤ b ∧ b < a + 45 then 0 else hI (H135_23 h a) b j := by unfold H135_24; rw [hI_stR, hI_newM, (N135_23 hn)]
theorem L135_24 {h : AH} {a : Nat} (hn : hN h = a + 1) (b j : Nat) : hL (H135_24 h a) b j = if a + 37 ≤ b ∧ b < a + 45 then 0 else hL (H135_23 h a) b j := by unfold H135_24; rw [hL_stR, hL_newM, (N135_23 hn)]
theorem T135_24 {h : AH} {a : Nat} (hn : hN h = a + 1) (hs : hS h a = some (105, 0)) : hS (H135_24 h a) a = some (105, 0) := by rw [S135_24 hn, if_neg (by omega), if_neg (by omega)]; rw [T135_23 hn hs]
theorem E135_24 (d : Nat) {h : AH} {a : Nat} (hn : hN h = a + 1) (hs : hS h a = some (105, 0)) : E d 135 94 [some (.ref a)] [] (H135_23 h a) = E d 135 99 [some (.ref a)] [] (H135_24 h a) := by
  have q : hS (H135_23 h a) a = some (105, 0) := T135_23 hn hs
  have qn : hN (H135_23 h a) = a + 37 := N135_23 hn
  have q2 : hS (newM (H135_23 h a) 6 0 7 4) a = some (105, 0) := by rw [hS_newM, if_neg (show ¬ a = hN (H135_23 h a) by omega), if_neg (show ¬ (hN (H135_23 h a) < a ∧ a < hN (H135_23 h a) + 1 + 7) by omega)]; exact q
  have g2 : (7 : Int32).toNatClampNeg = 7 := nI_clamp (n := 7) (by omega)
  have g3 : (4 : Int32).toNatClampNeg = 4 := nI_clamp (n := 4) (by omega)
  have g : (¬ (7 : Int32) < 0 ∧ ¬ (4 : Int32) < 0 ∧ 7 ≤ 67108864 ∧ 4 ≤ 67108864) := ⟨nI_pos (show 7 < 2 ^ 31 by omega), nI_pos (show 4 < 2 ^ 31 by omega), by omega, by omega⟩
  simp only [s135_94, s135_95, s135_96, s135_97, g2, g3]
  rw [if_pos g]
  simp only [s135_98, qn, q2, if_true]
  rfl
def H135_25 (h : AH) (a : Nat) : AH := stR (newM (H135_24 h a) 7 3 7 4) a 37 (some (a + 45))
theorem N135_25 {h : AH} {a : Nat} (hn : hN h = a + 1) : hN (H135_25 h a) = a + 53 := by unfold H135_25; rw [hN_stR, hN_newM, (N135_24 hn)]
theorem S135_25 {h : AH} {a : Nat} (hn : hN h = a + 1) (b : Nat) : hS (H135_25 h a) b = if b = a + 45 then some (7, 7) else if a + 45 < b ∧ b < a + 53 then some (3, 4) else hS (H135_24 h a) b := by unfold H135_25; rw [hS_stR, hS_newM, (N135_24 hn)]
theorem R135_25 {h : AH} {a : Nat} (hn : hN h = a + 1) (b j : Nat) : hR (H135_25 h a) b j = if b = a ∧ j = 37 then some (a + 45) else if b = a + 45 then (if j < 7 then some (a + 45 + 1 + j) else none) else if a + 45 < b ∧ b < a + 53 then none else hR (H135_24 h a) b j := by unfold H135_25; rw [hR_stR, hR_newM, (N135_24 hn)]
theorem I135_25 {h : AH} {a : Nat} (hn : hN h = a + 1) (b j : Nat) : hI (H135_25 h a) b j = if a + 45 ≤ b ∧ b < a + 53 then 0 else hI (H135_24 h a) b j := by unfold H135_25; rw [hI_stR, hI_newM, (N135_24 hn)]
theorem L135_25 {h : AH} {a : Nat} (hn : hN h = a + 1) (b j : Nat) : hL (H135_25 h a) b j = if a + 45 ≤ b ∧ b < a + 53 then 0 else hL (H135_24 h a) b j := by unfold H135_25; rw [hL_stR, hL_newM, (N135_24 hn)]
theorem T135_25 {h : AH} {a : Nat} (hn : hN h = a + 1) (hs : hS h a = some (105, 0)) : hS (H135_25 h a) a = some (105, 0) := by rw [S135_25 hn, if_neg (by omega), if_neg (by omega)]; rw [T135_24 hn hs]
theorem E135_25 (d : Nat) {h : AH} {a : Nat} (hn : hN h = a + 1) (hs : hS h a = some (105, 0)) : E d 135 99 [some (.ref a)] [] (H135_24 h a) = E d 135 104 [some (.ref a)] [] (H135_25 h a) := by
  have q : hS (H135_24 h a) a = some (105, 0) := T135_24 hn hs
  have qn : hN (H135_24 h a) = a + 45 := N135_24 hn
  have q2 : hS (newM (H135_24 h a) 7 3 7 4) a = some (105, 0) := by rw [hS_newM, if_neg (show ¬ a = hN (H135_24 h a) by omega), if_neg (show ¬ (hN (H135_24 h a) < a ∧ a < hN (H135_24 h a) + 1 + 7) by omega)]; exact q
  have g2 : (7 : Int32).toNatClampNeg = 7 := nI_clamp (n := 7) (by omega)
  have g3 : (4 : Int32).toNatClampNeg = 4 := nI_clamp (n := 4) (by omega)
  have g : (¬ (7 : Int32) < 0 ∧ ¬ (4 : Int32) < 0 ∧ 7 ≤ 67108864 ∧ 4 ≤ 67108864) := ⟨nI_pos (show 7 < 2 ^ 31 by omega), nI_pos (show 4 < 2 ^ 31 by omega), by omega, by omega⟩
  simp only [s135_99, s135_100, s135_101, s135_102, g2, g3]
  rw [if_pos g]
  simp only [s135_103, qn, q2, if_true]
  rfl
theorem E135 (d : Nat) {h : AH} {a : Nat} (hn : hN h = a + 1) (hs : hS h a = some (105, 0)) : E d 135 0 [some (.ref a)] [] h = some (none, H135_25 h a) := by
  rw [s135_0, s135_1]
  show E d 135 2 [some (.ref a)] [] (H135_0 h a) = _
  rw [E135_1 d hn hs, E135_2 d hn hs, E135_3 d hn hs, E135_4 d hn hs, E135_5 d hn hs, E135_6 d hn hs, E135_7 d hn hs, E135_8 d hn hs, E135_9 d hn hs, E135_10 d hn hs, E135_11 d hn hs, E135_12 d hn hs, E135_13 d hn hs, E135_14 d hn hs, E135_15 d hn hs, E135_16 d hn hs, E135_17 d hn hs, E135_18 d hn hs, E135_19 d hn hs, E135_20 d hn hs, E135_21 d hn hs, E135_22 d hn hs, E135_23 d hn hs, E135_24 d hn hs, E135_25 d hn hs, s135_104]
theorem U135 {h : AH} {a : Nat} : hU (H135_25 h a) = hU h + 829 := by simp only [H135_0, H135_1, H135_2, H135_3, H135_4, H135_5, H135_6, H135_7, H135_8, H135_9, H135_10, H135_11, H135_12, H135_13, H135_14, H135_15, H135_16, H135_17, H135_18, H135_19, H135_20, H135_21, H135_22, H135_23, H135_24, H135_25, hU_stR, hU_stI, hU_newC, hU_newM]
-- 135 ends at a + 53
