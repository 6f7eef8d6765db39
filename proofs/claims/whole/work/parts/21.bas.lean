/-! THE BASE OF THE CONTRACTS: ints as numbers -/
theorem l0 : (0 : Int32) = nI 0 := rfl
theorem l1 : (1 : Int32) = nI 1 := rfl
theorem l2 : (2 : Int32) = nI 2 := rfl
theorem l3 : (3 : Int32) = nI 3 := rfl
theorem l4 : (4 : Int32) = nI 4 := rfl
theorem l5 : (5 : Int32) = nI 5 := rfl
theorem l6 : (6 : Int32) = nI 6 := rfl
theorem l7 : (7 : Int32) = nI 7 := rfl
theorem l8 : (8 : Int32) = nI 8 := rfl
theorem l9 : (9 : Int32) = nI 9 := rfl
theorem l10 : (10 : Int32) = nI 10 := rfl
theorem l11 : (11 : Int32) = nI 11 := rfl
theorem l12 : (12 : Int32) = nI 12 := rfl
theorem l13 : (13 : Int32) = nI 13 := rfl
theorem l14 : (14 : Int32) = nI 14 := rfl
theorem l15 : (15 : Int32) = nI 15 := rfl
theorem l16 : (16 : Int32) = nI 16 := rfl
theorem l20 : (20 : Int32) = nI 20 := rfl
theorem l31 : (31 : Int32) = nI 31 := rfl
theorem l32 : (32 : Int32) = nI 32 := rfl
theorem l36 : (36 : Int32) = nI 36 := rfl
theorem l40 : (40 : Int32) = nI 40 := rfl
theorem l48 : (48 : Int32) = nI 48 := rfl
theorem l57 : (57 : Int32) = nI 57 := rfl
theorem l59 : (59 : Int32) = nI 59 := rfl
theorem l63 : (63 : Int32) = nI 63 := rfl
theorem l64 : (64 : Int32) = nI 64 := rfl
theorem l97 : (97 : Int32) = nI 97 := rfl
theorem l99 : (99 : Int32) = nI 99 := rfl
theorem l100 : (100 : Int32) = nI 100 := rfl
theorem l101 : (101 : Int32) = nI 101 := rfl
theorem l122 : (122 : Int32) = nI 122 := rfl
theorem l127 : (127 : Int32) = nI 127 := rfl
theorem l128 : (128 : Int32) = nI 128 := rfl
theorem l250 : (250 : Int32) = nI 250 := rfl
theorem l255 : (255 : Int32) = nI 255 := rfl
theorem l262143 : (262143 : Int32) = nI 262143 := rfl
theorem l262144 : (262144 : Int32) = nI 262144 := rfl
theorem l30000 : (30000 : Int32) = nI 30000 := rfl
theorem l100000 : (100000 : Int32) = nI 100000 := rfl
theorem l12345 : (12345 : Int32) = nI 12345 := rfl
theorem l1024 : (1024 : Int32) = nI 1024 := rfl
theorem l4095 : (4095 : Int32) = nI 4095 := rfl
theorem j0 : (0 : Int64) = lN 0 := rfl
theorem j1 : (1 : Int64) = lN 1 := rfl
theorem j2 : (2 : Int64) = lN 2 := rfl
theorem j3 : (3 : Int64) = lN 3 := rfl
theorem j4 : (4 : Int64) = lN 4 := rfl
theorem j5 : (5 : Int64) = lN 5 := rfl
theorem j6 : (6 : Int64) = lN 6 := rfl
theorem j7 : (7 : Int64) = lN 7 := rfl
theorem j20 : (20 : Int64) = lN 20 := rfl
theorem j32 : (32 : Int64) = lN 32 := rfl
theorem j40 : (40 : Int64) = lN 40 := rfl
theorem j63 : (63 : Int64) = lN 63 := rfl
theorem j255 : (255 : Int64) = lN 255 := rfl
theorem j250 : (250 : Int64) = lN 250 := rfl
theorem j30000 : (30000 : Int64) = lN 30000 := rfl
def bI (b : Bool) : Int32 := nI b.toNat
theorem bI_t : bI true = nI 1 := rfl
theorem bI_f : bI false = nI 0 := rfl
theorem bI_z (b : Bool) : (bI b = nI 0) = (b = false) := by cases b <;> decide
theorem bI_o (b : Bool) : (bI b = nI 1) = (b = true) := by cases b <;> decide
theorem bI_01 (b : Bool) : (bI b = nI 0 ∨ bI b = nI 1) = True := by cases b <;> decide
theorem n01 : (nI 0 = nI 0 ∨ nI 0 = nI 1) = True := by decide
theorem n11 : (nI 1 = nI 0 ∨ nI 1 = nI 1) = True := by decide
/-- first and second: a number less one -/
def qI (n : Nat) : Int32 := nI n - nI 1
theorem qI_def (n : Nat) : nI n - nI 1 = qI n := rfl
theorem qI_toInt {n : Nat} (h : n < 2 ^ 31) : (qI n).toInt = (n : Int) - 1 := by
  unfold qI
  rw [Int32.toInt_sub, nI_toInt h, nI_toInt (by decide)]
  rw [Int.bmod_def]; omega
theorem m1 : (-1 : Int32) = qI 0 := rfl
theorem qI_s (n : Nat) : qI (n + 1) = nI n := by
  unfold qI
  rw [← nI_add, Int32.add_sub_cancel]
theorem qI_add (n : Nat) : qI n + nI 1 = nI n := by
  unfold qI
  rw [Int32.sub_add_cancel]
theorem qI_eq {a b : Nat} (ha : a < 2 ^ 31) (hb : b < 2 ^ 31) : (qI a = qI b) = (a = b) := by
  rw [← Int32.toInt_inj, qI_toInt ha, qI_toInt hb]; apply propext; omega
theorem qI_eqn {a b : Nat} (ha : a < 2 ^ 31) (hb : b < 2 ^ 31) : (qI a = nI b) = (a = b + 1) := by
  rw [← Int32.toInt_inj, qI_toInt ha, nI_toInt hb]; apply propext; omega
theorem nI_eqq {a b : Nat} (ha : a < 2 ^ 31) (hb : b < 2 ^ 31) : (nI a = qI b) = (a + 1 = b) := by
  rw [← Int32.toInt_inj, qI_toInt hb, nI_toInt ha]; apply propext; omega
theorem nI_eqs {a b : Nat} (ha : a < 2 ^ 31) (hb : b < 2 ^ 31) : (nI a = nI b) = (a = b) := propext (nI_eq ha hb)
theorem nI_les {a b : Nat} (ha : a < 2 ^ 31) (hb : b < 2 ^ 31) : (nI a ≤ nI b) = (a ≤ b) := propext (nI_leI ha hb)
theorem nI_lts {a b : Nat} (ha : a < 2 ^ 31) (hb : b < 2 ^ 31) : (nI a < nI b) = (a < b) := propext (nI_ltI ha hb)
theorem qI_lts {a b : Nat} (ha : a < 2 ^ 31) (hb : b < 2 ^ 31) : (qI a < nI b) = (a < b + 1) := by
  apply propext; rw [Int32.lt_iff_toInt_lt, qI_toInt ha, nI_toInt hb]; omega
theorem nI_ltp {a b : Nat} (ha : a < 2 ^ 31) (hb : b < 2 ^ 31) : (nI a < qI b) = (a + 1 < b) := by
  apply propext; rw [Int32.lt_iff_toInt_lt, qI_toInt hb, nI_toInt ha]; omega
theorem nI_lep {a b : Nat} (ha : a < 2 ^ 31) (hb : b < 2 ^ 31) : (nI a ≤ qI b) = (a + 1 ≤ b) := by
  apply propext; rw [Int32.le_iff_toInt_le, qI_toInt hb, nI_toInt ha]; omega
theorem qI_les {a b : Nat} (ha : a < 2 ^ 31) (hb : b < 2 ^ 31) : (qI a ≤ nI b) = (a ≤ b + 1) := by
  apply propext; rw [Int32.le_iff_toInt_le, qI_toInt ha, nI_toInt hb]; omega
theorem nI_mul (a b : Nat) : nI a * nI b = nI (a * b) := (Int32.ofNat_mul a b).symm
theorem nI_sub {a b : Nat} (h : b ≤ a) : nI a - nI b = nI (a - b) := by
  have : nI a = nI (a - b) + nI b := by rw [nI_add, Nat.sub_add_cancel h]
  rw [this, Int32.add_sub_cancel]
theorem nI_clamps {n : Nat} (h : n < 2 ^ 31) : (nI n).toNatClampNeg = n := nI_clamp h
theorem nI_div {a b : Nat} (ha : a < 2 ^ 31) (hb : b < 2 ^ 31) : nI a / nI b = nI (a / b) := by
  apply Int32.toInt_inj.mp
  have hd : a / b ≤ a := Nat.div_le_self a b
  rw [Int32.toInt_div_of_ne_right, nI_toInt ha, nI_toInt hb, nI_toInt (by omega)]
  · rfl
  · intro q
    have := congrArg Int32.toInt q
    rw [nI_toInt hb] at this
    have e : (-1 : Int32).toInt = -1 := by decide
    rw [e] at this; omega
theorem nI_rem {a b : Nat} (ha : a < 2 ^ 31) (hb : b < 2 ^ 31) : nI a - nI a / nI b * nI b = nI (a % b) := by
  rw [nI_div ha hb, nI_mul, nI_sub (Nat.div_mul_le_self a b)]
  congr 1
  have := Nat.div_add_mod a b
  rw [Nat.mul_comm] at this
  omega
theorem nI_and (a b : Nat) : nI a &&& nI b = nI (a &&& b) := by
  apply Int32.toBitVec_inj.mp
  simp [nI, Int32.toBitVec_ofNat', BitVec.ofNat_and]
theorem nI_or (a b : Nat) : nI a ||| nI b = nI (a ||| b) := by
  apply Int32.toBitVec_inj.mp
  simp [nI, Int32.toBitVec_ofNat', BitVec.ofNat_or]
/-- in a range from 0 on -/
def inR (x : Int32) (n : Nat) : Bool := decide (0 ≤ x) && decide (x < nI n)
theorem inR_iff {x : Int32} {n : Nat} (hn : n < 2 ^ 31) : inR x n = true ↔ 0 ≤ x.toInt ∧ x.toInt < n := by
  have h0 : (0 : Int32).toInt = 0 := by decide
  unfold inR
  rw [Bool.and_eq_true, decide_eq_true_iff, decide_eq_true_iff, Int32.le_iff_toInt_le, Int32.lt_iff_toInt_lt, nI_toInt hn, h0]
theorem inR_nI {g n : Nat} (hg : g < 2 ^ 31) (hn : n < 2 ^ 31) : inR (nI g) n = decide (g < n) := by
  rw [Bool.eq_iff_iff, inR_iff hn, nI_toInt hg, decide_eq_true_iff]; omega
theorem inR_of {x : Int32} {n : Nat} (hn : n < 2 ^ 31) (h : inR x n = true) : ∃ g, g < n ∧ x = nI g := by
  obtain ⟨h1, h2⟩ := (inR_iff hn).mp h
  refine ⟨x.toInt.toNat, by omega, Int32.toInt_inj.mp ?_⟩
  rw [nI_toInt (by omega)]; omega
theorem inb_nI {i n : Nat} (hi : i < n) (hn : n < 2 ^ 31) : inb (nI i) n = true := decide_eq_true (nI_in hi hn)
theorem alen_of {h : AH} {a t n : Nat} (hs : hS h a = some (t, n)) : alen h a t = n := by unfold alen; rw [hs]; exact if_pos rfl
/-- guards of array instructions -/
theorem gI {h : AH} {a n : Nat} (hs : hS h a = some (0, n)) {i : Nat} (hi : i < n) (hn : n < 2 ^ 31) : (inb (nI i) (alen h a 0) = true ∨ inb (nI i) (alen h a 8) = true) = True := by
  rw [alen_of hs, inb_nI hi hn]; simp
theorem gS {h : AH} {a n : Nat} (hs : hS h a = some (8, n)) {i : Nat} (hi : i < n) (hn : n < 2 ^ 31) : (inb (nI i) (alen h a 0) = true ∨ inb (nI i) (alen h a 8) = true) = True := by
  rw [alen_of hs, inb_nI hi hn]; simp
theorem gA {h : AH} {a n t : Nat} (hs : hS h a = some (t, n)) {i : Nat} (hi : i < n) (hn : n < 2 ^ 31) : (inb (nI i) (alen h a t) = true) = True := by
  rw [alen_of hs, inb_nI hi hn]; simp
theorem gR {h : AH} {a n t : Nat} (hs : hS h a = some (t, n)) (ht : t = 4 ∨ t = 5 ∨ t = 6 ∨ t = 7) {i : Nat} (hi : i < n) (hn : n < 2 ^ 31) : (inb (nI i) (alen h a 4) = true ∨ inb (nI i) (alen h a 5) = true ∨ inb (nI i) (alen h a 6) = true ∨ inb (nI i) (alen h a 7) = true) = True := by
  have := inb_nI hi hn
  rcases ht with rfl | rfl | rfl | rfl <;> rw [alen_of hs, this] <;> simp
theorem rf_some (a : Nat) : va_rf (some a) = .ref a := rfl
theorem rf_none : va_rf none = .null := rfl
theorem not_eqt (a b : Bool) : (¬ a = b) = (a = !b) := by cases a <;> cases b <;> decide
/-! shifts -/
theorem sh31 {k : Nat} (h : k < 32) : (nI k &&& nI 31) = nI k := by
  rw [nI_and]; congr 1
  rw [show (31 : Nat) = 2 ^ 5 - 1 from rfl, Nat.and_two_pow_sub_one_eq_mod]; exact Nat.mod_eq_of_lt h
theorem nI_shl {a k : Nat} (h : k < 32) : nI a <<< (nI k &&& nI 31) = nI (a * 2 ^ k) := by
  rw [sh31 h]
  apply Int32.toBitVec_inj.mp
  rw [Int32.toBitVec_shiftLeft]
  have e : (nI k).toBitVec.smod 32 = BitVec.ofNat 32 k := by
    revert k; decide
  rw [e]
  apply BitVec.eq_of_toNat_eq
  simp [nI, Nat.shiftLeft_eq, Nat.mod_eq_of_lt (show k < 4294967296 by omega), Int32.toBitVec_ofNat']
theorem nI_shr {a k : Nat} (ha : a < 2 ^ 31) (h : k < 32) : nI a >>> (nI k &&& nI 31) = nI (a / 2 ^ k) := by
  rw [sh31 h]
  apply Int32.toInt_inj.mp
  have hd : a / 2 ^ k ≤ a := Nat.div_le_self _ _
  have e : (nI k).toBitVec.smod 32 = BitVec.ofNat 32 k := by
    clear ha hd a; revert k; decide
  have q : (nI a >>> nI k).toInt = (nI a).toInt >>> k := by
    show (nI a >>> nI k).toBitVec.toInt = _
    rw [Int32.toBitVec_shiftRight, e]
    rw [BitVec.sshiftRight_eq', BitVec.toInt_sshiftRight]
    rw [BitVec.toNat_ofNat, Nat.mod_eq_of_lt (show k < 2 ^ 32 by omega)]
    rfl
  rw [q, nI_toInt ha, nI_toInt (by omega)]
  rw [Int.shiftRight_eq_div_pow]; rfl
