/-! CONSTRUCTORS that only make arrays and set ints, by wip/whole/genctor.py -/
theorem hU_stR (h : AH) (a k : Nat) (v : Option Nat) : hU (stR h a k v) = hU h := rfl
theorem hU_stI (h : AH) (a k : Nat) (v : Int32) : hU (stI h a k v) = hU h := rfl
theorem hU_newC (h : AH) (sh : Nat × Nat) (u : Nat) : hU (newC h sh u) = hU h + u := rfl
theorem hU_newM (h : AH) (t t1 n k : Nat) : hU (newM h t t1 n k) = hU h + n + n * k := rfl
theorem hN_stR (h : AH) (a k : Nat) (v : Option Nat) : hN (stR h a k v) = hN h := rfl
theorem hN_stI (h : AH) (a k : Nat) (v : Int32) : hN (stI h a k v) = hN h := rfl
theorem hN_newC (h : AH) (sh : Nat × Nat) (u : Nat) : hN (newC h sh u) = hN h + 1 := rfl
theorem hN_newM (h : AH) (t t1 n k : Nat) : hN (newM h t t1 n k) = hN h + 1 + n := rfl
theorem hS_stR (h : AH) (a k : Nat) (v : Option Nat) : hS (stR h a k v) = hS h := rfl
theorem hI_stR (h : AH) (a k : Nat) (v : Option Nat) : hI (stR h a k v) = hI h := rfl
theorem hL_stR (h : AH) (a k : Nat) (v : Option Nat) : hL (stR h a k v) = hL h := rfl
theorem hR_stR (h : AH) (a k : Nat) (v : Option Nat) (b j : Nat) : hR (stR h a k v) b j = if b = a ∧ j = k then v else hR h b j := rfl
theorem hS_newC (h : AH) (sh : Nat × Nat) (u b : Nat) : hS (newC h sh u) b = if b = hN h then some sh else hS h b := rfl
theorem hR_newC (h : AH) (sh : Nat × Nat) (u b j : Nat) : hR (newC h sh u) b j = if b = hN h then none else hR h b j := rfl
theorem hI_newC (h : AH) (sh : Nat × Nat) (u b j : Nat) : hI (newC h sh u) b j = if b = hN h then 0 else hI h b j := rfl
theorem hL_newC (h : AH) (sh : Nat × Nat) (u b j : Nat) : hL (newC h sh u) b j = if b = hN h then 0 else hL h b j := rfl
theorem hS_newM (h : AH) (t t1 n k b : Nat) : hS (newM h t t1 n k) b = if b = hN h then some (t, n) else if hN h < b ∧ b < hN h + 1 + n then some (t1, k) else hS h b := rfl
theorem hR_newM (h : AH) (t t1 n k b j : Nat) : hR (newM h t t1 n k) b j = if b = hN h then (if j < n then some (hN h + 1 + j) else none) else if hN h < b ∧ b < hN h + 1 + n then none else hR h b j := rfl
theorem hI_newM (h : AH) (t t1 n k b j : Nat) : hI (newM h t t1 n k) b j = if hN h ≤ b ∧ b < hN h + 1 + n then 0 else hI h b j := rfl
theorem hL_newM (h : AH) (t t1 n k b j : Nat) : hL (newM h t t1 n k) b j = if hN h ≤ b ∧ b < hN h + 1 + n then 0 else hL h b j := rfl
def H22_0 (h : AH) (_ : Nat) : AH := h
def H22_1 (h : AH) (a : Nat) : AH := stI (H22_0 h a) a 0 (qI 0)
theorem N22_1 {h : AH} {a : Nat} (hn : hN h = a + 1) : hN (H22_1 h a) = a + 1 := by unfold H22_1; rw [hN_stI, show hN (H22_0 h a) = hN h from rfl, hn]
theorem S22_1 {h : AH} {a : Nat} (hn : hN h = a + 1) (b : Nat) : hS (H22_1 h a) b = hS (H22_0 h a) b := by unfold H22_1; rw [hS_stI]
theorem R22_1 {h : AH} {a : Nat} (hn : hN h = a + 1) (b j : Nat) : hR (H22_1 h a) b j = hR (H22_0 h a) b j := by unfold H22_1; rw [hR_stI]
theorem I22_1 {h : AH} {a : Nat} (hn : hN h = a + 1) (b j : Nat) : hI (H22_1 h a) b j = if b = a ∧ j = 0 then (qI 0) else hI (H22_0 h a) b j := by unfold H22_1; rw [hI_stI]
theorem L22_1 {h : AH} {a : Nat} (hn : hN h = a + 1) (b j : Nat) : hL (H22_1 h a) b j = hL (H22_0 h a) b j := by unfold H22_1; rw [hL_stI]
theorem T22_1 {h : AH} {a : Nat} (hn : hN h = a + 1) (hs : hS h a = some (101, 0)) : hS (H22_1 h a) a = some (101, 0) := by rw [S22_1 hn]; exact hs 
theorem E22_1 (d : Nat) {h : AH} {a : Nat} (hn : hN h = a + 1) (hs : hS h a = some (101, 0)) : E d 22 2 [some (.ref a)] [] (H22_0 h a) = E d 22 5 [some (.ref a)] [] (H22_1 h a) := by
  have q : hS (H22_0 h a) a = some (101, 0) := hs
  simp only [s22_2, s22_3, s22_4, q, if_true, l0, l1, l2, l3, l4, l5, l6, l7, l8, l9, l10, l11, l12, l13, l14, l15, l16, l20, l31, l32, l36, l40, l48, l57, l59, l63, l64, l97, l99, l100, l101, l122, l127, l128, l250, l255, l262143, l262144, l30000, l100000, l12345, l1024, l4095]
  rfl
def H22_2 (h : AH) (a : Nat) : AH := stI (H22_1 h a) a 1 (qI 0)
theorem N22_2 {h : AH} {a : Nat} (hn : hN h = a + 1) : hN (H22_2 h a) = a + 1 := by unfold H22_2; rw [hN_stI, (N22_1 hn)]
theorem S22_2 {h : AH} {a : Nat} (hn : hN h = a + 1) (b : Nat) : hS (H22_2 h a) b = hS (H22_1 h a) b := by unfold H22_2; rw [hS_stI]
theorem R22_2 {h : AH} {a : Nat} (hn : hN h = a + 1) (b j : Nat) : hR (H22_2 h a) b j = hR (H22_1 h a) b j := by unfold H22_2; rw [hR_stI]
theorem I22_2 {h : AH} {a : Nat} (hn : hN h = a + 1) (b j : Nat) : hI (H22_2 h a) b j = if b = a ∧ j = 1 then (qI 0) else hI (H22_1 h a) b j := by unfold H22_2; rw [hI_stI]
theorem L22_2 {h : AH} {a : Nat} (hn : hN h = a + 1) (b j : Nat) : hL (H22_2 h a) b j = hL (H22_1 h a) b j := by unfold H22_2; rw [hL_stI]
theorem T22_2 {h : AH} {a : Nat} (hn : hN h = a + 1) (hs : hS h a = some (101, 0)) : hS (H22_2 h a) a = some (101, 0) := by rw [S22_2 hn]; rw [T22_1 hn hs]
theorem E22_2 (d : Nat) {h : AH} {a : Nat} (hn : hN h = a + 1) (hs : hS h a = some (101, 0)) : E d 22 5 [some (.ref a)] [] (H22_1 h a) = E d 22 8 [some (.ref a)] [] (H22_2 h a) := by
  have q : hS (H22_1 h a) a = some (101, 0) := T22_1 hn hs
  simp only [s22_5, s22_6, s22_7, q, if_true, l0, l1, l2, l3, l4, l5, l6, l7, l8, l9, l10, l11, l12, l13, l14, l15, l16, l20, l31, l32, l36, l40, l48, l57, l59, l63, l64, l97, l99, l100, l101, l122, l127, l128, l250, l255, l262143, l262144, l30000, l100000, l12345, l1024, l4095]
  rfl
def H22_3 (h : AH) (a : Nat) : AH := stI (H22_2 h a) a 2 (nI 0)
theorem N22_3 {h : AH} {a : Nat} (hn : hN h = a + 1) : hN (H22_3 h a) = a + 1 := by unfold H22_3; rw [hN_stI, (N22_2 hn)]
theorem S22_3 {h : AH} {a : Nat} (hn : hN h = a + 1) (b : Nat) : hS (H22_3 h a) b = hS (H22_2 h a) b := by unfold H22_3; rw [hS_stI]
theorem R22_3 {h : AH} {a : Nat} (hn : hN h = a + 1) (b j : Nat) : hR (H22_3 h a) b j = hR (H22_2 h a) b j := by unfold H22_3; rw [hR_stI]
theorem I22_3 {h : AH} {a : Nat} (hn : hN h = a + 1) (b j : Nat) : hI (H22_3 h a) b j = if b = a ∧ j = 2 then (nI 0) else hI (H22_2 h a) b j := by unfold H22_3; rw [hI_stI]
theorem L22_3 {h : AH} {a : Nat} (hn : hN h = a + 1) (b j : Nat) : hL (H22_3 h a) b j = hL (H22_2 h a) b j := by unfold H22_3; rw [hL_stI]
theorem T22_3 {h : AH} {a : Nat} (hn : hN h = a + 1) (hs : hS h a = some (101, 0)) : hS (H22_3 h a) a = some (101, 0) := by rw [S22_3 hn]; rw [T22_2 hn hs]
theorem E22_3 (d : Nat) {h : AH} {a : Nat} (hn : hN h = a + 1) (hs : hS h a = some (101, 0)) : E d 22 8 [some (.ref a)] [] (H22_2 h a) = E d 22 11 [some (.ref a)] [] (H22_3 h a) := by
  have q : hS (H22_2 h a) a = some (101, 0) := T22_2 hn hs
  simp only [s22_8, s22_9, s22_10, q, if_true, l0, l1, l2, l3, l4, l5, l6, l7, l8, l9, l10, l11, l12, l13, l14, l15, l16, l20, l31, l32, l36, l40, l48, l57, l59, l63, l64, l97, l99, l100, l101, l122, l127, l128, l250, l255, l262143, l262144, l30000, l100000, l12345, l1024, l4095]
  rfl
def H22_4 (h : AH) (a : Nat) : AH := stR (newC (H22_3 h a) (1, 40) 40) a 3 (some (a + 1))
theorem N22_4 {h : AH} {a : Nat} (hn : hN h = a + 1) : hN (H22_4 h a) = a + 2 := by unfold H22_4; rw [hN_stR, hN_newC, (N22_3 hn)]
theorem S22_4 {h : AH} {a : Nat} (hn : hN h = a + 1) (b : Nat) : hS (H22_4 h a) b = if b = a + 1 then some (1, 40) else hS (H22_3 h a) b := by unfold H22_4; rw [hS_stR, hS_newC, (N22_3 hn)]
theorem R22_4 {h : AH} {a : Nat} (hn : hN h = a + 1) (b j : Nat) : hR (H22_4 h a) b j = if b = a ∧ j = 3 then some (a + 1) else if b = a + 1 then none else hR (H22_3 h a) b j := by unfold H22_4; rw [hR_stR, hR_newC, (N22_3 hn)]
theorem I22_4 {h : AH} {a : Nat} (hn : hN h = a + 1) (b j : Nat) : hI (H22_4 h a) b j = if b = a + 1 then 0 else hI (H22_3 h a) b j := by unfold H22_4; rw [hI_stR, hI_newC, (N22_3 hn)]
theorem L22_4 {h : AH} {a : Nat} (hn : hN h = a + 1) (b j : Nat) : hL (H22_4 h a) b j = if b = a + 1 then 0 else hL (H22_3 h a) b j := by unfold H22_4; rw [hL_stR, hL_newC, (N22_3 hn)]
theorem T22_4 {h : AH} {a : Nat} (hn : hN h = a + 1) (hs : hS h a = some (101, 0)) : hS (H22_4 h a) a = some (101, 0) := by rw [S22_4 hn, if_neg (by omega)]; rw [T22_3 hn hs]
theorem E22_4 (d : Nat) {h : AH} {a : Nat} (hn : hN h = a + 1) (hs : hS h a = some (101, 0)) : E d 22 11 [some (.ref a)] [] (H22_3 h a) = E d 22 15 [some (.ref a)] [] (H22_4 h a) := by
  have q : hS (H22_3 h a) a = some (101, 0) := T22_3 hn hs
  have qn : hN (H22_3 h a) = a + 1 := N22_3 hn
  have q2 : hS (newC (H22_3 h a) (1, 40) 40) a = some (101, 0) := by rw [hS_newC, if_neg (show ¬ a = hN (H22_3 h a) by omega)]; exact q
  have g2 : (40 : Int32).toNatClampNeg = 40 := nI_clamp (n := 40) (by omega)
  have g : (¬ (40 : Int32) < 0 ∧ 40 ≤ 67108864) := ⟨nI_pos (show 40 < 2 ^ 31 by omega), by omega⟩
  simp only [s22_11, s22_12, s22_13, g2]
  rw [if_pos g]
  simp only [s22_14, qn, q2, if_true]
  rfl
theorem E22 (d : Nat) {h : AH} {a : Nat} (hn : hN h = a + 1) (hs : hS h a = some (101, 0)) : E d 22 0 [some (.ref a)] [] h = some (none, H22_4 h a) := by
  rw [s22_0, s22_1]
  show E d 22 2 [some (.ref a)] [] (H22_0 h a) = _
  rw [E22_1 d hn hs, E22_2 d hn hs, E22_3 d hn hs, E22_4 d hn hs, s22_15]
theorem U22 {h : AH} {a : Nat} : hU (H22_4 h a) = hU h + 40 := by simp only [H22_0, H22_1, H22_2, H22_3, H22_4, hU_stR, hU_stI, hU_newC, hU_newM]
-- 22 ends at a + 2
def H32_0 (h : AH) (_ : Nat) : AH := h
def H32_1 (h : AH) (a : Nat) : AH := stR (newC (H32_0 h a) (0, 250) 250) a 0 (some (a + 1))
theorem N32_1 {h : AH} {a : Nat} (hn : hN h = a + 1) : hN (H32_1 h a) = a + 2 := by unfold H32_1; rw [hN_stR, hN_newC, show hN (H32_0 h a) = hN h from rfl, hn]
theorem S32_1 {h : AH} {a : Nat} (hn : hN h = a + 1) (b : Nat) : hS (H32_1 h a) b = if b = a + 1 then some (0, 250) else hS (H32_0 h a) b := by unfold H32_1; rw [hS_stR, hS_newC, show hN (H32_0 h a) = hN h from rfl, hn]
theorem R32_1 {h : AH} {a : Nat} (hn : hN h = a + 1) (b j : Nat) : hR (H32_1 h a) b j = if b = a ∧ j = 0 then some (a + 1) else if b = a + 1 then none else hR (H32_0 h a) b j := by unfold H32_1; rw [hR_stR, hR_newC, show hN (H32_0 h a) = hN h from rfl, hn]
theorem I32_1 {h : AH} {a : Nat} (hn : hN h = a + 1) (b j : Nat) : hI (H32_1 h a) b j = if b = a + 1 then 0 else hI (H32_0 h a) b j := by unfold H32_1; rw [hI_stR, hI_newC, show hN (H32_0 h a) = hN h from rfl, hn]
theorem L32_1 {h : AH} {a : Nat} (hn : hN h = a + 1) (b j : Nat) : hL (H32_1 h a) b j = if b = a + 1 then 0 else hL (H32_0 h a) b j := by unfold H32_1; rw [hL_stR, hL_newC, show hN (H32_0 h a) = hN h from rfl, hn]
theorem T32_1 {h : AH} {a : Nat} (hn : hN h = a + 1) (hs : hS h a = some (102, 0)) : hS (H32_1 h a) a = some (102, 0) := by rw [S32_1 hn, if_neg (by omega)]; exact hs 
theorem E32_1 (d : Nat) {h : AH} {a : Nat} (hn : hN h = a + 1) (hs : hS h a = some (102, 0)) : E d 32 2 [some (.ref a)] [] (H32_0 h a) = E d 32 6 [some (.ref a)] [] (H32_1 h a) := by
  have q : hS (H32_0 h a) a = some (102, 0) := hs
  have qn : hN (H32_0 h a) = a + 1 := hn
  have q2 : hS (newC (H32_0 h a) (0, 250) 250) a = some (102, 0) := by rw [hS_newC, if_neg (show ¬ a = hN (H32_0 h a) by omega)]; exact q
  have g2 : (250 : Int32).toNatClampNeg = 250 := nI_clamp (n := 250) (by omega)
  have g : (¬ (250 : Int32) < 0 ∧ 250 ≤ 67108864) := ⟨nI_pos (show 250 < 2 ^ 31 by omega), by omega⟩
  simp only [s32_2, s32_3, s32_4, g2]
  rw [if_pos g]
  simp only [s32_5, qn, q2, if_true]
  rfl
def H32_2 (h : AH) (a : Nat) : AH := stI (H32_1 h a) a 1 (nI 0)
theorem N32_2 {h : AH} {a : Nat} (hn : hN h = a + 1) : hN (H32_2 h a) = a + 2 := by unfold H32_2; rw [hN_stI, (N32_1 hn)]
theorem S32_2 {h : AH} {a : Nat} (hn : hN h = a + 1) (b : Nat) : hS (H32_2 h a) b = hS (H32_1 h a) b := by unfold H32_2; rw [hS_stI]
theorem R32_2 {h : AH} {a : Nat} (hn : hN h = a + 1) (b j : Nat) : hR (H32_2 h a) b j = hR (H32_1 h a) b j := by unfold H32_2; rw [hR_stI]
theorem I32_2 {h : AH} {a : Nat} (hn : hN h = a + 1) (b j : Nat) : hI (H32_2 h a) b j = if b = a ∧ j = 1 then (nI 0) else hI (H32_1 h a) b j := by unfold H32_2; rw [hI_stI]
theorem L32_2 {h : AH} {a : Nat} (hn : hN h = a + 1) (b j : Nat) : hL (H32_2 h a) b j = hL (H32_1 h a) b j := by unfold H32_2; rw [hL_stI]
theorem T32_2 {h : AH} {a : Nat} (hn : hN h = a + 1) (hs : hS h a = some (102, 0)) : hS (H32_2 h a) a = some (102, 0) := by rw [S32_2 hn]; rw [T32_1 hn hs]
theorem E32_2 (d : Nat) {h : AH} {a : Nat} (hn : hN h = a + 1) (hs : hS h a = some (102, 0)) : E d 32 6 [some (.ref a)] [] (H32_1 h a) = E d 32 9 [some (.ref a)] [] (H32_2 h a) := by
  have q : hS (H32_1 h a) a = some (102, 0) := T32_1 hn hs
  simp only [s32_6, s32_7, s32_8, q, if_true, l0, l1, l2, l3, l4, l5, l6, l7, l8, l9, l10, l11, l12, l13, l14, l15, l16, l20, l31, l32, l36, l40, l48, l57, l59, l63, l64, l97, l99, l100, l101, l122, l127, l128, l250, l255, l262143, l262144, l30000, l100000, l12345, l1024, l4095]
  rfl
def H32_3 (h : AH) (a : Nat) : AH := stI (H32_2 h a) a 2 (nI 0)
theorem N32_3 {h : AH} {a : Nat} (hn : hN h = a + 1) : hN (H32_3 h a) = a + 2 := by unfold H32_3; rw [hN_stI, (N32_2 hn)]
theorem S32_3 {h : AH} {a : Nat} (hn : hN h = a + 1) (b : Nat) : hS (H32_3 h a) b = hS (H32_2 h a) b := by unfold H32_3; rw [hS_stI]
theorem R32_3 {h : AH} {a : Nat} (hn : hN h = a + 1) (b j : Nat) : hR (H32_3 h a) b j = hR (H32_2 h a) b j := by unfold H32_3; rw [hR_stI]
theorem I32_3 {h : AH} {a : Nat} (hn : hN h = a + 1) (b j : Nat) : hI (H32_3 h a) b j = if b = a ∧ j = 2 then (nI 0) else hI (H32_2 h a) b j := by unfold H32_3; rw [hI_stI]
theorem L32_3 {h : AH} {a : Nat} (hn : hN h = a + 1) (b j : Nat) : hL (H32_3 h a) b j = hL (H32_2 h a) b j := by unfold H32_3; rw [hL_stI]
theorem T32_3 {h : AH} {a : Nat} (hn : hN h = a + 1) (hs : hS h a = some (102, 0)) : hS (H32_3 h a) a = some (102, 0) := by rw [S32_3 hn]; rw [T32_2 hn hs]
theorem E32_3 (d : Nat) {h : AH} {a : Nat} (hn : hN h = a + 1) (hs : hS h a = some (102, 0)) : E d 32 9 [some (.ref a)] [] (H32_2 h a) = E d 32 12 [some (.ref a)] [] (H32_3 h a) := by
  have q : hS (H32_2 h a) a = some (102, 0) := T32_2 hn hs
  simp only [s32_9, s32_10, s32_11, q, if_true, l0, l1, l2, l3, l4, l5, l6, l7, l8, l9, l10, l11, l12, l13, l14, l15, l16, l20, l31, l32, l36, l40, l48, l57, l59, l63, l64, l97, l99, l100, l101, l122, l127, l128, l250, l255, l262143, l262144, l30000, l100000, l12345, l1024, l4095]
  rfl
def H32_4 (h : AH) (a : Nat) : AH := stI (H32_3 h a) a 3 (nI 0)
theorem N32_4 {h : AH} {a : Nat} (hn : hN h = a + 1) : hN (H32_4 h a) = a + 2 := by unfold H32_4; rw [hN_stI, (N32_3 hn)]
theorem S32_4 {h : AH} {a : Nat} (hn : hN h = a + 1) (b : Nat) : hS (H32_4 h a) b = hS (H32_3 h a) b := by unfold H32_4; rw [hS_stI]
theorem R32_4 {h : AH} {a : Nat} (hn : hN h = a + 1) (b j : Nat) : hR (H32_4 h a) b j = hR (H32_3 h a) b j := by unfold H32_4; rw [hR_stI]
theorem I32_4 {h : AH} {a : Nat} (hn : hN h = a + 1) (b j : Nat) : hI (H32_4 h a) b j = if b = a ∧ j = 3 then (nI 0) else hI (H32_3 h a) b j := by unfold H32_4; rw [hI_stI]
theorem L32_4 {h : AH} {a : Nat} (hn : hN h = a + 1) (b j : Nat) : hL (H32_4 h a) b j = hL (H32_3 h a) b j := by unfold H32_4; rw [hL_stI]
theorem T32_4 {h : AH} {a : Nat} (hn : hN h = a + 1) (hs : hS h a = some (102, 0)) : hS (H32_4 h a) a = some (102, 0) := by rw [S32_4 hn]; rw [T32_3 hn hs]
theorem E32_4 (d : Nat) {h : AH} {a : Nat} (hn : hN h = a + 1) (hs : hS h a = some (102, 0)) : E d 32 12 [some (.ref a)] [] (H32_3 h a) = E d 32 15 [some (.ref a)] [] (H32_4 h a) := by
  have q : hS (H32_3 h a) a = some (102, 0) := T32_3 hn hs
  simp only [s32_12, s32_13, s32_14, q, if_true, l0, l1, l2, l3, l4, l5, l6, l7, l8, l9, l10, l11, l12, l13, l14, l15, l16, l20, l31, l32, l36, l40, l48, l57, l59, l63, l64, l97, l99, l100, l101, l122, l127, l128, l250, l255, l262143, l262144, l30000, l100000, l12345, l1024, l4095]
  rfl
def H32_5 (h : AH) (a : Nat) : AH := stI (H32_4 h a) a 4 (nI 0)
theorem N32_5 {h : AH} {a : Nat} (hn : hN h = a + 1) : hN (H32_5 h a) = a + 2 := by unfold H32_5; rw [hN_stI, (N32_4 hn)]
theorem S32_5 {h : AH} {a : Nat} (hn : hN h = a + 1) (b : Nat) : hS (H32_5 h a) b = hS (H32_4 h a) b := by unfold H32_5; rw [hS_stI]
theorem R32_5 {h : AH} {a : Nat} (hn : hN h = a + 1) (b j : Nat) : hR (H32_5 h a) b j = hR (H32_4 h a) b j := by unfold H32_5; rw [hR_stI]
theorem I32_5 {h : AH} {a : Nat} (hn : hN h = a + 1) (b j : Nat) : hI (H32_5 h a) b j = if b = a ∧ j = 4 then (nI 0) else hI (H32_4 h a) b j := by unfold H32_5; rw [hI_stI]
theorem L32_5 {h : AH} {a : Nat} (hn : hN h = a + 1) (b j : Nat) : hL (H32_5 h a) b j = hL (H32_4 h a) b j := by unfold H32_5; rw [hL_stI]
theorem T32_5 {h : AH} {a : Nat} (hn : hN h = a + 1) (hs : hS h a = some (102, 0)) : hS (H32_5 h a) a = some (102, 0) := by rw [S32_5 hn]; rw [T32_4 hn hs]
theorem E32_5 (d : Nat) {h : AH} {a : Nat} (hn : hN h = a + 1) (hs : hS h a = some (102, 0)) : E d 32 15 [some (.ref a)] [] (H32_4 h a) = E d 32 18 [some (.ref a)] [] (H32_5 h a) := by
  have q : hS (H32_4 h a) a = some (102, 0) := T32_4 hn hs
  simp only [s32_15, s32_16, s32_17, q, if_true, l0, l1, l2, l3, l4, l5, l6, l7, l8, l9, l10, l11, l12, l13, l14, l15, l16, l20, l31, l32, l36, l40, l48, l57, l59, l63, l64, l97, l99, l100, l101, l122, l127, l128, l250, l255, l262143, l262144, l30000, l100000, l12345, l1024, l4095]
  rfl
theorem E32 (d : Nat) {h : AH} {a : Nat} (hn : hN h = a + 1) (hs : hS h a = some (102, 0)) : E d 32 0 [some (.ref a)] [] h = some (none, H32_5 h a) := by
  rw [s32_0, s32_1]
  show E d 32 2 [some (.ref a)] [] (H32_0 h a) = _
  rw [E32_1 d hn hs, E32_2 d hn hs, E32_3 d hn hs, E32_4 d hn hs, E32_5 d hn hs, s32_18]
theorem U32 {h : AH} {a : Nat} : hU (H32_5 h a) = hU h + 250 := by simp only [H32_0, H32_1, H32_2, H32_3, H32_4, H32_5, hU_stR, hU_stI, hU_newC, hU_newM]
-- 32 ends at a + 2
