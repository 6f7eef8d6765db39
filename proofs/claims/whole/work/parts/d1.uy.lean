/-! THE START: the machine's own state holds the abstract one -/
def txK (k : Nat) : List Nat := ([wCo, wGa, kn, wCa, atw, wSh, wFo, wCo, wGa, kn, wCa, atw, wSh, wFo] : List (List Nat)).getD k []
def rwK (k : Nat) : Nat × Nat × String × Nat := strs.getD k (0, 0, "", 0)
def tmK (k : Nat) : Term := .string (cnm (rwK k).1) (rwK k).2.1
def cdK (k : Nat) : List Cond := [.exactly (tmK k) "java/lang/String", .eq (.field (tmK k) "java/lang/String" "coder" "B") (.int 0), .arrayOf (.field (tmK k) "java/lang/String" "value" "[B") .byte, .eq (.length (.field (tmK k) "java/lang/String" "value" "[B")) (.int (Int32.ofNat (txK k).length))] ++ (List.range (txK k).length).map fun j => .eq (.elem (.field (tmK k) "java/lang/String" "value" "[B") (.int (Int32.ofNat j))) (.int (nI ((txK k).getD j 0)))
theorem cdK_ok : (List.range 14).all (fun k => (cdK k).all fun w => (flatC (Jvm.Cond.and given_1 narrow_1)).any fun c => decide (c = w)) = true := by decide +kernel
theorem srf_ok : strs.all (fun r => decide (lw_tbl[r.2.2.2]? = some (.stringRef (cnm r.1) r.2.1 r.2.2.1))) = true := by decide +kernel
theorem txK_ok : (List.range 14).all (fun k => decide ((txK k).length ≤ 10) && (txK k).all (fun x => decide (x < 256 ∧ nI x &&& 255 = nI x))) = true := by decide +kernel
theorem sta_ok : (flatC (Jvm.Cond.and given_1 narrow_1)).any (fun c => decide (c = .eq (.static "java/lang/String" "COMPACT_STRINGS" "Z") (.int 1))) = true ∧ (flatC (Jvm.Cond.and given_1 narrow_1)).any (fun c => decide (c = .isRef (.static "jdk/internal/util/Preconditions" "SIOOBE_FORMATTER" "Ljava/util/function/BiFunction;"))) = true ∧ lw_tbl[519]? = some (.laysStatic "java/lang/String" "COMPACT_STRINGS" "Z") ∧ lw_tbl[535]? = some (.laysStatic "jdk/internal/util/Preconditions" "SIOOBE_FORMATTER" "Ljava/util/function/BiFunction;") := by
  refine ⟨by decide +kernel, by decide +kernel, by decide +kernel, by decide +kernel⟩
theorem any_mem {l : List Cond} {w : Cond} (h : l.any (fun c => decide (c = w)) = true) : w ∈ l := by
  obtain ⟨c, h1, h2⟩ := List.any_eq_true.mp h
  rw [← of_decide_eq_true h2]
  exact h1
theorem cdK_at {k : Nat} (hk : k < 14) {w : Cond} (hw : w ∈ cdK k) : w ∈ flatC (Jvm.Cond.and given_1 narrow_1) := any_mem (List.all_eq_true.mp (List.all_eq_true.mp cdK_ok k (List.mem_range.mpr hk)) w hw)
theorem txK_at {k : Nat} (hk : k < 14) : (txK k).length ≤ 10 ∧ ∀ x ∈ txK k, x < 256 ∧ nI x &&& 255 = nI x := by
  have q := List.all_eq_true.mp txK_ok k (List.mem_range.mpr hk)
  rw [Bool.and_eq_true] at q
  exact ⟨of_decide_eq_true q.1, fun x hx => of_decide_eq_true (List.all_eq_true.mp q.2 x hx)⟩
theorem map_gD {l : List Nat} {j : Nat} (h : j < l.length) : (l.map nI).getD j 0 = nI (l.getD j 0) := by
  rw [List.getD_eq_getElem?_getD, List.getD_eq_getElem?_getD, List.getElem?_map, List.getElem?_eq_getElem h]
  rfl
theorem strKA {s : State} {b : Addr} (hgv : (Jvm.Cond.and given_1 narrow_1).before #[Value.ref b] s = true) {k : Nat} (hk : k < 14) : ∃ a : Nat, (tmK k).eval #[Value.ref b] s none [] s = some (.ref a) ∧ strAt s.heap a ((txK k).map nI) s := by
  have hs := flat_of_before _ hgv
  have hc : ∀ w ∈ cdK k, w.before #[Value.ref b] s = true := fun w hw => hs w (cdK_at hk hw)
  obtain ⟨hlen, hby⟩ := txK_at hk
  have z0 : ∀ i : Nat, i < 1 → i = 0 := fun i h => by omega
  obtain ⟨adK, adV, hV, he⟩ := vk_Sof (args := #[Value.ref b]) (s := s) (N := 1) (tm := fun _ => tmK k) (len := [(txK k).length]) (byt := [(txK k).map nI]) (A := fun q : Nat => s.heap.size ≤ q)
    (fun i hi => by rw [z0 i hi]; show (txK k).length < 2 ^ 31; omega)
    (fun i hi => hc _ (by unfold cdK; exact List.mem_append_left _ (List.mem_of_getElem? (i := 0) rfl)))
    (fun i hi => hc _ (by unfold cdK; exact List.mem_append_left _ (List.mem_of_getElem? (i := 1) rfl)))
    (fun i hi => hc _ (by unfold cdK; exact List.mem_append_left _ (List.mem_of_getElem? (i := 2) rfl)))
    (fun i hi => by rw [z0 i hi]; exact hc _ (by unfold cdK; exact List.mem_append_left _ (List.mem_of_getElem? (i := 3) rfl)))
    (fun i hi j hj => by
      rw [z0 i hi] at hj ⊢
      have hj' : j < (txK k).length := hj
      show (Cond.eq (.elem (.field (tmK k) "java/lang/String" "value" "[B") (.int (Int32.ofNat j))) (.int (((txK k).map nI).getD j 0))).before _ s = true
      rw [map_gD hj']
      exact hc _ (by unfold cdK; exact List.mem_append_right _ (List.mem_map.mpr ⟨j, List.mem_range.mpr hj', rfl⟩)))
    (fun i j hi hj hij => absurd ((z0 i hi).trans (z0 j hj).symm) hij)
    (fun a ha q => Nat.lt_irrefl _ (Nat.lt_of_lt_of_le ha q))
  obtain ⟨v1, v2, v3, v4⟩ := hV.1 0 (by decide)
  refine ⟨adK 0, he 0 (by decide), adV 0, v1, v2, v3, ?_, ?_, ?_⟩
  · rw [List.length_map]; exact v4
  · rw [List.length_map]; omega
  · intro x hx
    obtain ⟨y, hy, rfl⟩ := List.mem_map.mp hx
    exact (hby y hy).2
theorem OF_one {o n d : String} {v v' : Value} {t : Nat} {A : Nat → Prop} {U : State} {H : Heap} (h : va_OF o n d v t A U H) (h' : va_OF o n d v' t A U H) : v = v' := by
  obtain ⟨cf, k, fi, f, cell, h1, -, h3, -, h5, -⟩ := h
  obtain ⟨cf', k', fi', f', cell', g1, -, g3, -, g5, -⟩ := h'
  rw [h1] at g1
  cases g1
  rw [h3] at g3
  cases g3
  rw [h5] at g5
  exact Option.some.inj g5
theorem ofN_one {a b : Nat} (ha : a < 2 ^ 31) (hb : b < 2 ^ 31) (h : Int32.ofNat a = Int32.ofNat b) : a = b := by
  have h1 : a ≤ b := (Int32.ofNat_le_ofNat ha hb).mp (by rw [h]; exact Int32.le_refl _)
  have h2 : b ≤ a := (Int32.ofNat_le_ofNat hb ha).mp (by rw [h]; exact Int32.le_refl _)
  omega
theorem strAt_one {HB : Heap} {a : Nat} {t t' : List Int32} {U : State} (h : strAt HB a t U) (h' : strAt HB a t' U) : t = t' := by
  obtain ⟨v, -, -, h3, h4, h5, -⟩ := h
  obtain ⟨v', -, -, g3, g4, g5, -⟩ := h'
  cases OF_one h3 g3
  obtain ⟨cell, c1, -, -, -, c5, c6, -⟩ := h4
  obtain ⟨cell', d1, -, -, -, d5, d6, -⟩ := g4
  rw [c1] at d1
  cases d1
  have el : t.length = t'.length := ofN_one h5 g5 (c5.symm.trans d5)
  refine List.ext_getElem el fun j hj hj' => ?_
  have q1 := c6 j hj
  rw [d6 j hj'] at q1
  have q2 : t'.getD j 0 = t.getD j 0 := Value.int.inj (Option.some.inj q1)
  rw [List.getD_eq_getElem?_getD, List.getD_eq_getElem?_getD, List.getElem?_eq_getElem hj, List.getElem?_eq_getElem hj'] at q2
  exact q2.symm
/-- the addresses of the texts, and the texts -/
def fX (K : Nat → Nat) (a : Nat) : Option (List Int32) := ((List.range 14).find? fun k => decide (K k = a)).map fun k => (txK k).map nI
theorem fX_mem {K : Nat → Nat} {a : Nat} {t : List Int32} (h : fX K a = some t) : ∃ k, k < 14 ∧ K k = a ∧ t = (txK k).map nI := by
  unfold fX at h
  cases hf : (List.range 14).find? (fun k => decide (K k = a)) with
  | none => rw [hf] at h; cases h
  | some k =>
    rw [hf] at h
    cases h
    exact ⟨k, List.mem_range.mp (List.mem_of_find?_eq_some hf), (by have q := List.find?_some hf; exact of_decide_eq_true q), rfl⟩
theorem fX_at {K : Nat → Nat} {HB : Heap} {U : State} (hK : ∀ k, k < 14 → strAt HB (K k) ((txK k).map nI) U) {k : Nat} (hk : k < 14) : fX K (K k) = some ((txK k).map nI) := by
  cases hf : fX K (K k) with
  | none =>
    unfold fX at hf
    rw [Option.map_eq_none_iff, List.find?_eq_none] at hf
    exact absurd (decide_eq_true rfl) (hf k (List.mem_range.mpr hk))
  | some t =>
    obtain ⟨k', h1, h2, h3⟩ := fX_mem hf
    have q := hK k' h1
    rw [h2, ← h3] at q
    rw [strAt_one q (hK k hk)]
theorem known {s : State} {args : Array Value} (hts : ∀ w ∈ lw_tbl, w.before args s = true) {ci : Nat} (h : ci < 6) : ∃ (cC : ClassId) (iS : Nat → Nat), u_Kn s (clNm ci) (clT ci) (clNr ci) cC iS := by
  have q := List.all_eq_true.mp cls_ok ci (List.mem_range.mpr h)
  rw [Bool.and_eq_true, Bool.and_eq_true] at q
  refine u_known (ws := lw_tbl) (n := clNr ci) hts (fun w hw => ?_) (hts _ (List.mem_of_getElem? (of_decide_eq_true q.1.1)))
  obtain ⟨k, hk, rfl⟩ := List.mem_map.mp hw
  have q2 := List.all_eq_true.mp q.2 k hk
  simp only [Bool.and_eq_true] at q2
  exact List.mem_of_getElem? (of_decide_eq_true q2.1.1.1.1.1.1.1)
theorem known_all {s : State} {args : Array Value} (hts : ∀ w ∈ lw_tbl, w.before args s = true) : ∃ D : va_G, va_K D classes [] s := by
  have h0 : ∀ ci : Nat, ∃ q : ClassId × (Nat → Nat), ci < 6 → u_Kn s (clNm ci) (clT ci) (clNr ci) q.1 q.2 := by
    intro ci
    by_cases h : ci < 6
    · obtain ⟨cC, iS, hk⟩ := known hts h
      exact ⟨(cC, iS), fun _ => hk⟩
    · obtain ⟨cC, iS, -⟩ := known hts (show 0 < 6 by decide)
      exact ⟨(cC, iS), fun q => absurd q h⟩
  obtain ⟨f, hf⟩ := Classical.axiomOfChoice h0
  refine ⟨(fun k => (f k).1, fun k => (f k).2), fun k q hq => ?_, fun k q h => by simp at h⟩
  have hk : k < 6 := (List.getElem?_eq_some_iff.mp hq).1
  rw [cls_at k hk] at hq
  cases hq
  exact hf k hk
/-- the texts of the String constants, by their addresses -/
theorem str_all {s : State} {b : Addr} (hts : ∀ w ∈ lw_tbl, w.before #[Value.ref b] s = true) (hgv : (Jvm.Cond.and given_1 narrow_1).before #[Value.ref b] s = true) : ∃ K0 : Nat → Nat, STR s.heap K0 (fX K0) s ∧ ∀ k, k < 14 → fX K0 (K0 k) = some ((txK k).map nI) := by
  have h0 : ∀ k : Nat, ∃ a : Nat, k < 14 → (tmK k).eval #[Value.ref b] s none [] s = some (.ref a) ∧ strAt s.heap a ((txK k).map nI) s := by
    intro k
    by_cases hk : k < 14
    · obtain ⟨a, h1, h2⟩ := strKA hgv hk
      exact ⟨a, fun _ => ⟨h1, h2⟩⟩
    · exact ⟨0, fun h => absurd h hk⟩
  obtain ⟨K0, hK⟩ := Classical.axiomOfChoice h0
  have hA : ∀ a : Nat, a < s.heap.size → ¬ (fun q : Nat => s.heap.size ≤ q) a := fun a ha q => Nat.lt_irrefl _ (Nat.lt_of_lt_of_le ha q)
  have hs := flat_of_before _ hgv
  obtain ⟨a1, a2, a3, a4⟩ := sta_ok
  refine ⟨K0, ⟨fun k r hr => ?_, fun a t ht => ?_, ?_, ?_⟩, fun k hk => fX_at (fun k hk => (hK k hk).2) hk⟩
  · have hk : k < 14 := (List.getElem?_eq_some_iff.mp hr).1
    have e : rwK k = r := by unfold rwK; rw [List.getD_eq_getElem?_getD, hr]; rfl
    have h1 := of_decide_eq_true (List.all_eq_true.mp srf_ok r (List.mem_of_getElem? hr))
    have h2 := (hK k hk).1
    unfold tmK at h2
    rw [e] at h2
    exact vk_R.of (hts _ (List.mem_of_getElem? h1)) h2
  · obtain ⟨k, h1, rfl, rfl⟩ := fX_mem ht
    exact (hK k h1).2
  · exact va_Zof (hts _ (List.mem_of_getElem? a3)) (hts _ (List.mem_of_getElem? jw_118)) (va_eqt (hs _ (any_mem a1))) hA
  · exact va_Zqof (hts _ (List.mem_of_getElem? a4)) (hts _ (List.mem_of_getElem? jw_120)) (hs _ (any_mem a2)) hA
theorem HX_of {h : AH} {k : Nat} (hk : k < 14) (hX0 : hX h (hK h k) = some ((txK k).map nI)) : HX h (hK h k) (txK k) := by
  obtain ⟨h1, h2⟩ := txK_at hk
  refine ⟨hX0, h1, fun i => ?_⟩
  by_cases hi : i < (txK k).length
  · rw [List.getD_eq_getElem?_getD, List.getElem?_eq_getElem hi]
    exact (h2 _ (List.getElem_mem hi)).1
  · rw [List.getD_eq_getElem?_getD, List.getElem?_eq_none (by omega)]
    decide
