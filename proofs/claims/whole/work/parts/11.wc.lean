/-! arraycopy, calls -/
section WC
variable {p : Program} {l : Launch} {e : Env} {R : Room} {s : State} {m : MethodId} {args : Array Value} {below : List Frame} {meth : Method} {c : Code} {H : Heap} {locs : List Loc} {cells slots : Nat} {Q : State → Prop}
variable {cc : ByteArray} {pc : Nat} {ls : Array Slot} {rest : List Value} {D : va_G} {HB : Heap} {h : AH}
theorem cat_le (v : Value) : v.category ≤ 2 := by cases v <;> simp [Value.category]
theorem sum_le : ∀ {rest : List Value}, (rest.map fun v => v.category).sum ≤ 2 * rest.length := by
  intro rest
  induction rest with
  | nil => simp
  | cons v r ih => have := cat_le v; simp; omega
theorem nn32 (z : Int32) (hz : ¬ z < 0) : z.toInt = (z.toNatClampNeg : Int) := by
  have hz0 : (0 : Int) ≤ z.toInt := by
    have := Int32.not_lt.mp hz
    simpa using Int32.le_iff_toInt_le.mp this
  show z.toInt = ((z.toInt.toNat : Nat) : Int)
  omega
theorem alen_pos {h : AH} {a t k : Nat} (hk : k ≤ alen h a t) (h0 : 0 < k) : ∃ n, hS h a = some (t, n) ∧ alen h a t = n := by
  cases hs : hS h a with
  | none =>
    have e : alen h a t = 0 := by unfold alen; rw [hs]
    omega
  | some q =>
    obtain ⟨t', n⟩ := q
    by_cases e : t' = t
    · subst e
      exact ⟨n, rfl, by unfold alen; rw [hs]; dsimp only; rw [if_pos rfl]⟩
    · have e2 : alen h a t = 0 := by unfold alen; rw [hs]; dsimp only; rw [if_neg e]
      omega
theorem ac_loc {rest : List Value} {x : Nat} (h4 : rest.length ≤ 4) (h6 : 640 ≤ x) : 2 * 0 + (rest.map fun v => v.category).sum + (nativeFrameWords "java/lang/System" "arraycopy" 5 + 11) ≤ x := by
  have := sum_le (rest := rest)
  have e9 : nativeFrameWords "java/lang/System" "arraycopy" 5 + 11 ≤ 500 := by first | exact Nat.le_of_ble_eq_true rfl | decide +kernel
  omega
theorem acW (hW : WRD s) (A : Array Value) : (Cond.native arraycopyName).before A s = true ∧ (Cond.static arraycopyName).before A s = true ∧ (Cond.initialized "java/lang/System").before A s = true :=
  ⟨hW.at acp_ok.1 rfl A, hW.at acp_ok.2.1 rfl A, hW.at acp_ok.2.2 rfl A⟩
theorem wc_cpI (hexec : p.tables.exec = Jvm.exec) (hb : c.code = cc) (hml : c.maxLocals = ls.size) (hW : WRD s) {own : String} {index : Nat} (hown : s.vm.findClass own = some m.cls) (hlink : (Cond.methodLink own index arraycopyName).before args s = true) (q : Rep D HB h s H) {a0 a n0 n1 : Nat} (hs0 : hS h a0 = some (0, n0)) (hs1 : hS h a = some (0, n1))
    {sp dp n : Int32} (h1 : ¬ sp < 0) (h2 : ¬ dp < 0) (h3 : ¬ n < 0) (h4 : sp.toNatClampNeg + n.toNatClampNeg ≤ n0) (h5 : dp.toNatClampNeg + n.toNatClampNeg ≤ n1)
    (hframes : 1 ≤ R.frames) (hlocals : 640 ≤ R.locals) (hr4 : rest.length ≤ 4) (hdg : decode cc pc = .ok (.invokestatic index, 3))
    (kk : ∀ (H1 : Heap) (locs1 : List Loc), Rep D HB (cpI h a0 sp.toNatClampNeg a dp.toNatClampNeg n.toNatClampNeg) s H1 → (∀ x ∈ locs1, x ∈ locs ∨ x.base = a) → HB.size ≤ a → W p l e R s m args below meth c H1 locs1 cells slots Q (F0 m (pc + 3) ls rest)) : W p l e R s m args below meth c H locs cells slots Q (F0 m pc ls (.int n :: .int dp :: .ref a :: .int sp :: .ref a0 :: rest)) := by
  obtain ⟨⟨c0, b1, b2, hc0⟩, -⟩ := cell_arr q hs0 (by decide)
  obtain ⟨⟨c1, d1, d2, hc1⟩, hB⟩ := cell_arr q hs1 (by decide)
  obtain ⟨hnat, hstat, hini⟩ := acW hW args
  intro T hT X
  obtain ⟨-, k0, hk0, cm0, hkk0⟩ := b1 n0 (fun j => .int (hI h a0 j))
  obtain ⟨-, k1, hk1, cm1, hkk1⟩ := d1 n1 (fun j => .int (hI h a j))
  obtain ⟨vm', X', step⟩ := X.arraycopy hexec hown hlink hnat hstat hini (src := a0) (dst := a) (cs := vp_cell c0 (n0, .inl (hI h a0))) (cd := vp_cell c1 (n1, .inl (hI h a))) (srcPos := sp) (destPos := dp) (n := n) (by rw [hT]; exact hc0) (by rw [hT]; exact hc1)
    (fun _ h => by cases h) (fun _ h => by cases h) (fun h => by cases h) (fun h => by cases h) hk0 hk1 hkk0 hkk1 (by simp [refKind, tyB]) h1 h2 h3
    (by rw [nn32 sp h1, nn32 n h3]; show ¬ _ > ((arrV c0 n0 (fun j => .int (hI h a0 j))).slots.size : Int); rw [arrV_size]; omega)
    (by rw [nn32 dp h2, nn32 n h3]; show ¬ _ > ((arrV c1 n1 (fun j => .int (hI h a j))).slots.size : Int); rw [arrV_size]; omega)
    (fun vm₁ _ i hi => by
      have e : (vp_cell c0 (n0, .inl (hI h a0))).slots.getD (sp.toNatClampNeg + i) .null = .int (hI h a0 (sp.toNatClampNeg + i)) := by
        show (arrV c0 n0 (fun j => .int (hI h a0 j))).slots.getD _ _ = _
        rw [Array.getD_eq_getD_getElem?, arrV_read _ _ (by omega)]
        rfl
      refine ⟨?_, ?_⟩
      · rw [e]; rfl
      · rw [e]; exact trivial)
    (g := F0 m pc ls (.int n :: .int dp :: .ref a :: .int sp :: .ref a0 :: rest)) rfl (by rw [hml]) (rest := rest) rfl (by rw [hb]; exact hdg) hframes (ac_loc hr4 hlocals)
  have e1 : copied (vp_cell c0 (n0, .inl (hI h a0))) (vp_cell c1 (n1, .inl (hI h a))) sp dp n = vp_cell c1 (n1, .inl (va_cpy (hI h a0) (hI h a) sp.toNatClampNeg dp.toNatClampNeg n.toNatClampNeg)) := va_copied (fun z => .int z) c0 c1 (hI h a0) (hI h a) h4
  rw [e1] at X' step
  have hl : a < H.size := (Array.getElem?_eq_some_iff.mp hc1).1
  have hheap : ((T.setVm vm').setCell a (vp_cell c1 (n1, .inl (va_cpy (hI h a0) (hI h a) sp.toNatClampNeg dp.toNatClampNeg n.toNatClampNeg)))).heap = H.setIfInBounds a (vp_cell c1 (n1, .inl (va_cpy (hI h a0) (hI h a) sp.toNatClampNeg dp.toNatClampNeg n.toNatClampNeg))) := by rw [← hT]; rfl
  have oq : ∀ q : Nat, q ≠ a → (H.setIfInBounds a (vp_cell c1 (n1, .inl (va_cpy (hI h a0) (hI h a) sp.toNatClampNeg dp.toNatClampNeg n.toNatClampNeg))))[q]? = H[q]? := fun q hq => by simp [Array.getElem?_setIfInBounds, Ne.symm hq]
  have ea : hI (cpI h a0 sp.toNatClampNeg a dp.toNatClampNeg n.toNatClampNeg) a = va_cpy (hI h a0) (hI h a) sp.toNatClampNeg dp.toNatClampNeg n.toNatClampNeg := funext fun j => if_pos rfl
  have hrep : Rep D HB (cpI h a0 sp.toNatClampNeg a dp.toNatClampNeg n.toNatClampNeg) s (H.setIfInBounds a (vp_cell c1 (n1, .inl (va_cpy (hI h a0) (hI h a) sp.toNatClampNeg dp.toNatClampNeg n.toNatClampNeg)))) := by
    refine q.set hs1 (show ¬ (0 : Nat) = 8 by decide) rfl rfl (fun b hb9 => ⟨funext fun j => if_neg hb9, rfl, rfl⟩) (by simp) oq (Or.inl ⟨show (0 : Nat) < 8 by decide, c1, d1, d2, ?_⟩)
    show (H.setIfInBounds a _)[a]? = some (vp_cell c1 (n1, .inl (hI (cpI h a0 sp.toNatClampNeg a dp.toNatClampNeg n.toNatClampNeg) a)))
    rw [ea]
    simp [Array.getElem?_setIfInBounds, hl]
  obtain ⟨t, a1, b1⟩ := kk _ _ hrep (fun x hx => by
      rcases List.mem_append.mp hx with h | h
      · exact Or.inl h
      · obtain ⟨z, -, hz⟩ := List.mem_map.mp h
        exact Or.inr (by rw [← hz])) hB _ hheap X'
  exact ⟨t, step t a1, b1⟩
theorem wc_cpL (hexec : p.tables.exec = Jvm.exec) (hb : c.code = cc) (hml : c.maxLocals = ls.size) (hW : WRD s) {own : String} {index : Nat} (hown : s.vm.findClass own = some m.cls) (hlink : (Cond.methodLink own index arraycopyName).before args s = true) (q : Rep D HB h s H) {a0 a n0 n1 : Nat} (hs0 : hS h a0 = some (1, n0)) (hs1 : hS h a = some (1, n1))
    {sp dp n : Int32} (h1 : ¬ sp < 0) (h2 : ¬ dp < 0) (h3 : ¬ n < 0) (h4 : sp.toNatClampNeg + n.toNatClampNeg ≤ n0) (h5 : dp.toNatClampNeg + n.toNatClampNeg ≤ n1)
    (hframes : 1 ≤ R.frames) (hlocals : 640 ≤ R.locals) (hr4 : rest.length ≤ 4) (hdg : decode cc pc = .ok (.invokestatic index, 3))
    (kk : ∀ (H1 : Heap) (locs1 : List Loc), Rep D HB (cpL h a0 sp.toNatClampNeg a dp.toNatClampNeg n.toNatClampNeg) s H1 → (∀ x ∈ locs1, x ∈ locs ∨ x.base = a) → HB.size ≤ a → W p l e R s m args below meth c H1 locs1 cells slots Q (F0 m (pc + 3) ls rest)) : W p l e R s m args below meth c H locs cells slots Q (F0 m pc ls (.int n :: .int dp :: .ref a :: .int sp :: .ref a0 :: rest)) := by
  obtain ⟨⟨c0, b1, b2, hc0⟩, -⟩ := cell_arr q hs0 (by decide)
  obtain ⟨⟨c1, d1, d2, hc1⟩, hB⟩ := cell_arr q hs1 (by decide)
  obtain ⟨hnat, hstat, hini⟩ := acW hW args
  intro T hT X
  obtain ⟨-, k0, hk0, cm0, hkk0⟩ := b1 n0 (fun j => .long (hL h a0 j))
  obtain ⟨-, k1, hk1, cm1, hkk1⟩ := d1 n1 (fun j => .long (hL h a j))
  obtain ⟨vm', X', step⟩ := X.arraycopy hexec hown hlink hnat hstat hini (src := a0) (dst := a) (cs := vp_cell c0 (n0, .inr (.inl (hL h a0)))) (cd := vp_cell c1 (n1, .inr (.inl (hL h a)))) (srcPos := sp) (destPos := dp) (n := n) (by rw [hT]; exact hc0) (by rw [hT]; exact hc1)
    (fun _ h => by cases h) (fun _ h => by cases h) (fun h => by cases h) (fun h => by cases h) hk0 hk1 hkk0 hkk1 (by simp [refKind, tyB]) h1 h2 h3
    (by rw [nn32 sp h1, nn32 n h3]; show ¬ _ > ((arrV c0 n0 (fun j => .long (hL h a0 j))).slots.size : Int); rw [arrV_size]; omega)
    (by rw [nn32 dp h2, nn32 n h3]; show ¬ _ > ((arrV c1 n1 (fun j => .long (hL h a j))).slots.size : Int); rw [arrV_size]; omega)
    (fun vm₁ _ i hi => by
      have e : (vp_cell c0 (n0, .inr (.inl (hL h a0)))).slots.getD (sp.toNatClampNeg + i) .null = .long (hL h a0 (sp.toNatClampNeg + i)) := by
        show (arrV c0 n0 (fun j => .long (hL h a0 j))).slots.getD _ _ = _
        rw [Array.getD_eq_getD_getElem?, arrV_read _ _ (by omega)]
        rfl
      refine ⟨?_, ?_⟩
      · rw [e]; rfl
      · rw [e]; exact trivial)
    (g := F0 m pc ls (.int n :: .int dp :: .ref a :: .int sp :: .ref a0 :: rest)) rfl (by rw [hml]) (rest := rest) rfl (by rw [hb]; exact hdg) hframes (ac_loc hr4 hlocals)
  have e1 : copied (vp_cell c0 (n0, .inr (.inl (hL h a0)))) (vp_cell c1 (n1, .inr (.inl (hL h a)))) sp dp n = vp_cell c1 (n1, .inr (.inl (va_cpy (hL h a0) (hL h a) sp.toNatClampNeg dp.toNatClampNeg n.toNatClampNeg))) := va_copied (fun z => .long z) c0 c1 (hL h a0) (hL h a) h4
  rw [e1] at X' step
  have hl : a < H.size := (Array.getElem?_eq_some_iff.mp hc1).1
  have hheap : ((T.setVm vm').setCell a (vp_cell c1 (n1, .inr (.inl (va_cpy (hL h a0) (hL h a) sp.toNatClampNeg dp.toNatClampNeg n.toNatClampNeg))))).heap = H.setIfInBounds a (vp_cell c1 (n1, .inr (.inl (va_cpy (hL h a0) (hL h a) sp.toNatClampNeg dp.toNatClampNeg n.toNatClampNeg)))) := by rw [← hT]; rfl
  have oq : ∀ q : Nat, q ≠ a → (H.setIfInBounds a (vp_cell c1 (n1, .inr (.inl (va_cpy (hL h a0) (hL h a) sp.toNatClampNeg dp.toNatClampNeg n.toNatClampNeg)))))[q]? = H[q]? := fun q hq => by simp [Array.getElem?_setIfInBounds, Ne.symm hq]
  have ea : hL (cpL h a0 sp.toNatClampNeg a dp.toNatClampNeg n.toNatClampNeg) a = va_cpy (hL h a0) (hL h a) sp.toNatClampNeg dp.toNatClampNeg n.toNatClampNeg := funext fun j => if_pos rfl
  have hrep : Rep D HB (cpL h a0 sp.toNatClampNeg a dp.toNatClampNeg n.toNatClampNeg) s (H.setIfInBounds a (vp_cell c1 (n1, .inr (.inl (va_cpy (hL h a0) (hL h a) sp.toNatClampNeg dp.toNatClampNeg n.toNatClampNeg))))) := by
    refine q.set hs1 (show ¬ (1 : Nat) = 8 by decide) rfl rfl (fun b hb9 => ⟨rfl, funext fun j => if_neg hb9, rfl⟩) (by simp) oq (Or.inl ⟨show (1 : Nat) < 8 by decide, c1, d1, d2, ?_⟩)
    show (H.setIfInBounds a _)[a]? = some (vp_cell c1 (n1, .inr (.inl (hL (cpL h a0 sp.toNatClampNeg a dp.toNatClampNeg n.toNatClampNeg) a))))
    rw [ea]
    simp [Array.getElem?_setIfInBounds, hl]
  obtain ⟨t, a1, b1⟩ := kk _ _ hrep (fun x hx => by
      rcases List.mem_append.mp hx with h | h
      · exact Or.inl h
      · obtain ⟨z, -, hz⟩ := List.mem_map.mp h
        exact Or.inr (by rw [← hz])) hB _ hheap X'
  exact ⟨t, step t a1, b1⟩
/-- behind a call -/
theorem W_run {mc ms : Nat} {st0 : List Value} {Qa : State → Outcome → State → Prop} {free : Addr → Prop} (hr : va_Run p l e R s m args below meth c H locs cells slots mc ms (F0 m pc ls st0) rest Qa free)
    (kk : ∀ (v : Option Value) (st₀ t : State) (locs1 : List Loc), Qa st₀ (.returned v) t → s.vm.Alike t.vm → (∀ x ∈ locs1, x ∈ locs ∨ free x.base) → W p l e R s m args below meth c t.heap locs1 (cells + mc) (slots + ms) Q (F0 m (pc + 3) ls (v.toList ++ rest))) : W p l e R s m args below meth c H locs cells slots Q (F0 m pc ls st0) := by
  intro T hT X
  obtain ⟨v, st₀, t, T', L, h0, X', hL, e1, e2, hq, st⟩ := hr T hT X
  obtain ⟨t2, a1, b1⟩ := kk v st₀ t (locs ++ L) hq (by rw [← e2]; exact X'.warmed.alike) (fun x hx => (List.mem_append.mp hx).imp id (hL x)) T' e1 X'
  exact ⟨t2, st t2 a1, b1⟩
end WC
