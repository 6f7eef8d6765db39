/-! EACH KIND OF INSTRUCTION: where the abstract machine goes on, the real one does -/
/-- a method of the program runs here, with room for calls d deep -/
def FC (p : Program) (R : Room) (s : State) (m : MethodId) (meth : Method) (c : Code) (D : va_G) (HB : Heap) (K0 : Nat → Nat) (X0 : Nat → Option (List Int32)) (y d : Nat) : Prop :=
  p.tables.exec = Jvm.exec ∧ c.code = (md y).2.2.2.1 ∧ meth.sig.returnType = (md y).2.2.2.2.2.1 ∧ c.maxLocals = (md y).2.2.2.2.1 ∧ s.vm.findClass (cnm (md y).1) = some m.cls ∧ meth.locks = false ∧ meth.name = (md y).2.1 ∧ ENV D HB K0 X0 s ∧ d + 8 ≤ R.frames ∧ 64 * d + 640 ≤ R.locals
/-- the real state stands over the abstract heap h -/
def AT (s : State) (D : va_G) (HB : Heap) (K0 : Nat → Nat) (X0 : Nat → Option (List Int32)) (hb ub : Nat) (h : AH) (H : Heap) (locs : List Loc) (cells slots : Nat) : Prop :=
  Rep D HB h s H ∧ hK h = K0 ∧ hX h = X0 ∧ (∀ q ∈ locs, HB.size ≤ q.base) ∧ cells + hb = hN h ∧ slots + ub = hU h
def SimAt (p : Program) (l : Launch) (e : Env) (R : Room) (s : State) (m : MethodId) (args : Array Value) (below : List Frame) (meth : Method) (c : Code) (Q : State → Prop) (D : va_G) (HB : Heap) (K0 : Nat → Nat) (X0 : Nat → Option (List Int32)) (hb ub y ix : Nat) (L : LL) (st : List Value) (h : AH) : Prop :=
  ∀ ls H locs cells slots, lrel y ls L → AT s D HB K0 X0 hb ub h H locs cells slots → W p l e R s m args below meth c H locs cells slots Q (F0 m (pcOf y ix) ls st)
/-- what the table says of a row -/
def okP (y ix : Nat) (q : AI) : Prop := decode (md y).2.2.2.1 q.1 = .ok (q.2.1, ilen q.2.1 q.2.2.1) ∧ (falls q.2.1 = true → pcOf y (ix + 1) = q.1 + ilen q.2.1 q.2.2.1) ∧ okK y ix q.1 q.2.1 q.2.2.1 q.2.2.2.1 q.2.2.2.2.1 q.2.2.2.2.2 = true
def wsZ (z : Nat) : List Cond := [.code (yM z) (md z).2.2.2.1 (md z).2.2.2.2.1 (md z).2.2.2.2.2.1]
def rmZ (d : Nat) (h h' : AH) : Room := { frames := d + 8, cells := hN h' - hN h, slots := hU h' - hU h, locals := 64 * d + 640 }
def PcZ (D : va_G) (HB : Heap) (K0 : Nat → Nat) (X0 : Nat → Option (List Int32)) (as : List Value) (h : AH) : Array Value → State → Prop := fun a U => a = as.toArray ∧ Rep D HB h U U.heap ∧ ENV D HB K0 X0 U
def QcZ (D : va_G) (HB : Heap) (r : RR) : Array Value → State → Outcome → State → Prop := fun _ _ oc t => oc = .returned r.1 ∧ Rep D HB r.2 t t.heap
/-- a call's contract -/
def CM (l : Launch) (D : va_G) (HB : Heap) (K0 : Nat → Nat) (X0 : Nat → Option (List Int32)) (z d : Nat) (as : List Value) (h : AH) (r : RR) : Prop :=
  Met l (yM z) (wsZ z) (rmZ d h r.2) (PcZ D HB K0 X0 as h) (QcZ D HB r) (hN r.2 - hN h) (hU r.2 - hU h) (fun q => HB.size ≤ q)
/-- the end: what stands at a return -/
def FinAt (p : Program) (l : Launch) (e : Env) (R : Room) (s : State) (m : MethodId) (args : Array Value) (below : List Frame) (meth : Method) (c : Code) (Q : State → Prop) (D : va_G) (HB : Heap) (K0 : Nat → Nat) (X0 : Nat → Option (List Int32)) (hb ub y : Nat) (r : RR) : Prop :=
  ∀ pc ls st H locs cells slots, AT s D HB K0 X0 hb ub r.2 H locs cells slots → (∀ i, decode (md y).2.2.2.1 pc = .ok (i, 1) → retA y i st r.2 = some (.inr (.inr r)) → W p l e R s m args below meth c H locs cells slots Q (F0 m pc ls st))
def ActOK (p : Program) (l : Launch) (e : Env) (R : Room) (s : State) (m : MethodId) (args : Array Value) (below : List Frame) (meth : Method) (c : Code) (Q : State → Prop) (D : va_G) (HB : Heap) (K0 : Nat → Nat) (X0 : Nat → Option (List Int32)) (hb ub y d : Nat) (L : LL) (h : AH) (a : (Nat × LL × List Value × AH) ⊕ ((Nat × List Value × LL × Nat × List Value) ⊕ RR)) : Prop := match a with
  | .inl q => SimAt p l e R s m args below meth c Q D HB K0 X0 hb ub y q.1 q.2.1 q.2.2.1 q.2.2.2 ∧ hN q.2.2.2 ≤ R.cells + hb ∧ hU q.2.2.2 ≤ R.slots + ub
  | .inr (.inl q) => ∃ d' r, d = d' + 1 ∧ CM l D HB K0 X0 q.1 d' q.2.1 h r ∧ ext h r.2 ∧ hN r.2 ≤ R.cells + hb ∧ hU r.2 ≤ R.slots + ub ∧ SimAt p l e R s m args below meth c Q D HB K0 X0 hb ub y q.2.2.2.1 L (r.1.toList ++ q.2.2.2.2) r.2
  | .inr (.inr r) => FinAt p l e R s m args below meth c Q D HB K0 X0 hb ub y r
theorem AT.same {s : State} {D : va_G} {HB : Heap} {K0 : Nat → Nat} {X0 : Nat → Option (List Int32)} {hb ub : Nat} {h h' : AH} {H H' : Heap} {locs locs' : List Loc} {cells slots : Nat} (q : AT s D HB K0 X0 hb ub h H locs cells slots) (hr : Rep D HB h' s H') (hl : ∀ x ∈ locs', HB.size ≤ x.base) (e1 : hK h' = hK h) (e2 : hX h' = hX h) (e3 : hN h' = hN h) (e4 : hU h' = hU h) : AT s D HB K0 X0 hb ub h' H' locs' cells slots :=
  ⟨hr, e1.trans q.2.1, e2.trans q.2.2.1, hl, by rw [e3]; exact q.2.2.2.2.1, by rw [e4]; exact q.2.2.2.2.2⟩
theorem locs_put {HB : Heap} {locs : List Loc} {o i : Nat} (hl : ∀ x ∈ locs, HB.size ≤ x.base) (ho : HB.size ≤ o) : ∀ x ∈ locs ++ [(⟨o, i⟩ : Loc)], HB.size ≤ x.base := by
  intro x hx
  rcases List.mem_append.mp hx with q | q
  · exact hl x q
  · rw [List.mem_singleton.mp q]; exact ho
theorem AT.fresh {s : State} {D : va_G} {HB : Heap} {K0 : Nat → Nat} {X0 : Nat → Option (List Int32)} {hb ub : Nat} {h h' : AH} {H H' : Heap} {locs : List Loc} {cells slots n u : Nat} (q : AT s D HB K0 X0 hb ub h H locs cells slots) (hr : Rep D HB h' s H') (e1 : hK h' = hK h) (e2 : hX h' = hX h) (e3 : hN h' = hN h + n) (e4 : hU h' = hU h + u) : AT s D HB K0 X0 hb ub h' H' locs (cells + n) (slots + u) :=
  ⟨hr, e1.trans q.2.1, e2.trans q.2.2.1, q.2.2.2.1, by rw [e3, ← q.2.2.2.2.1]; omega, by rw [e4, ← q.2.2.2.2.2]; omega⟩
section OPS
variable {p : Program} {l : Launch} {e : Env} {R : Room} {s : State} {m : MethodId} {args : Array Value} {below : List Frame} {meth : Method} {c : Code} {Q : State → Prop} {D : va_G} {HB : Heap} {K0 : Nat → Nat} {X0 : Nat → Option (List Int32)} {hb ub y d ix : Nat} {q : AI} {L : LL} {st : List Value} {h : AH} {a : (Nat × LL × List Value × AH) ⊕ ((Nat × List Value × LL × Nat × List Value) ⊕ RR)}
theorem pc_at (hp : prog y ix = some q) : pcOf y ix = q.1 := by unfold pcOf; rw [hp]
theorem sim_bin (F : FC p R s m meth c D HB K0 X0 y d) (hp : prog y ix = some q) (ok : okP y ix q) (ha : binA ix q.2.1 L st h = some a) (hk : ActOK p l e R s m args below meth c Q D HB K0 X0 hb ub y d L h a) : SimAt p l e R s m args below meth c Q D HB K0 X0 hb ub y ix L st h := by
  obtain ⟨pc, i, a1, b1, c1, ts⟩ := q
  intro ls H locs cells slots hl hA
  rw [pc_at hp]
  obtain ⟨dg, fl, okk⟩ := ok
  dsimp only at ha dg fl okk ⊢
  have hx := F.1
  have hcb := F.2.1
  unfold binA at ha
  split at ha
  · replace ha := pI_inv ha; obtain ⟨_, _, rfl, ha⟩ := ha; replace ha := pI_inv ha; obtain ⟨_, _, rfl, ha⟩ := ha; cases ha; exact lv_iadd hx hcb dg (by have k9 := hk.1 ls H locs cells slots hl hA; rw [fl rfl] at k9; exact k9)
  · replace ha := pI_inv ha; obtain ⟨_, _, rfl, ha⟩ := ha; replace ha := pI_inv ha; obtain ⟨_, _, rfl, ha⟩ := ha; cases ha; exact lv_isub hx hcb dg (by have k9 := hk.1 ls H locs cells slots hl hA; rw [fl rfl] at k9; exact k9)
  · replace ha := pI_inv ha; obtain ⟨_, _, rfl, ha⟩ := ha; replace ha := pI_inv ha; obtain ⟨_, _, rfl, ha⟩ := ha; cases ha; exact lv_imul hx hcb dg (by have k9 := hk.1 ls H locs cells slots hl hA; rw [fl rfl] at k9; exact k9)
  · replace ha := pI_inv ha; obtain ⟨_, _, rfl, ha⟩ := ha; replace ha := pI_inv ha; obtain ⟨_, _, rfl, ha⟩ := ha; obtain ⟨hne, ha⟩ := gd_inv ha; cases ha; exact lv_idiv hx hcb dg hne (by have k9 := hk.1 ls H locs cells slots hl hA; rw [fl rfl] at k9; exact k9)
  · replace ha := pI_inv ha; obtain ⟨_, _, rfl, ha⟩ := ha; replace ha := pI_inv ha; obtain ⟨_, _, rfl, ha⟩ := ha; obtain ⟨hne, ha⟩ := gd_inv ha; cases ha; exact lv_irem hx hcb dg hne (by have k9 := hk.1 ls H locs cells slots hl hA; rw [fl rfl] at k9; exact k9)
  · replace ha := pI_inv ha; obtain ⟨_, _, rfl, ha⟩ := ha; replace ha := pI_inv ha; obtain ⟨_, _, rfl, ha⟩ := ha; cases ha; exact lv_iand hx hcb dg (by have k9 := hk.1 ls H locs cells slots hl hA; rw [fl rfl] at k9; exact k9)
  · replace ha := pI_inv ha; obtain ⟨_, _, rfl, ha⟩ := ha; replace ha := pI_inv ha; obtain ⟨_, _, rfl, ha⟩ := ha; cases ha; exact lv_ior hx hcb dg (by have k9 := hk.1 ls H locs cells slots hl hA; rw [fl rfl] at k9; exact k9)
  · replace ha := pI_inv ha; obtain ⟨_, _, rfl, ha⟩ := ha; replace ha := pI_inv ha; obtain ⟨_, _, rfl, ha⟩ := ha; cases ha; exact lv_ixor hx hcb dg (by have k9 := hk.1 ls H locs cells slots hl hA; rw [fl rfl] at k9; exact k9)
  · replace ha := pI_inv ha; obtain ⟨_, _, rfl, ha⟩ := ha; replace ha := pI_inv ha; obtain ⟨_, _, rfl, ha⟩ := ha; cases ha; exact lv_ishl hx hcb dg (by have k9 := hk.1 ls H locs cells slots hl hA; rw [fl rfl] at k9; exact k9)
  · replace ha := pI_inv ha; obtain ⟨_, _, rfl, ha⟩ := ha; replace ha := pI_inv ha; obtain ⟨_, _, rfl, ha⟩ := ha; cases ha; exact lv_ishr hx hcb dg (by have k9 := hk.1 ls H locs cells slots hl hA; rw [fl rfl] at k9; exact k9)
  · replace ha := pI_inv ha; obtain ⟨_, _, rfl, ha⟩ := ha; replace ha := pI_inv ha; obtain ⟨_, _, rfl, ha⟩ := ha; cases ha; exact lv_iushr hx hcb dg rfl (by have k9 := hk.1 ls H locs cells slots hl hA; rw [fl rfl] at k9; exact k9)
  · replace ha := pI_inv ha; obtain ⟨_, _, rfl, ha⟩ := ha; cases ha; exact lv_ineg hx hcb dg (by have k9 := hk.1 ls H locs cells slots hl hA; rw [fl rfl] at k9; exact k9)
  · replace ha := pI_inv ha; obtain ⟨_, _, rfl, ha⟩ := ha; cases ha; exact lv_i2l hx hcb dg rfl (by have k9 := hk.1 ls H locs cells slots hl hA; rw [fl rfl] at k9; exact k9)
  · replace ha := pJ_inv ha; obtain ⟨_, _, rfl, ha⟩ := ha; cases ha; exact lv_l2i hx hcb dg rfl (by have k9 := hk.1 ls H locs cells slots hl hA; rw [fl rfl] at k9; exact k9)
  · replace ha := pI_inv ha; obtain ⟨_, _, rfl, ha⟩ := ha; cases ha; exact lv_i2b hx hcb dg rfl (by have k9 := hk.1 ls H locs cells slots hl hA; rw [fl rfl] at k9; exact k9)
  · replace ha := pI_inv ha; obtain ⟨_, _, rfl, ha⟩ := ha; cases ha; exact lv_i2s hx hcb dg rfl (by have k9 := hk.1 ls H locs cells slots hl hA; rw [fl rfl] at k9; exact k9)
  · replace ha := pJ_inv ha; obtain ⟨_, _, rfl, ha⟩ := ha; replace ha := pJ_inv ha; obtain ⟨_, _, rfl, ha⟩ := ha; cases ha; exact lv_land hx hcb dg (by have k9 := hk.1 ls H locs cells slots hl hA; rw [fl rfl] at k9; exact k9)
  · replace ha := pJ_inv ha; obtain ⟨_, _, rfl, ha⟩ := ha; replace ha := pJ_inv ha; obtain ⟨_, _, rfl, ha⟩ := ha; cases ha; exact lv_lor hx hcb dg (by have k9 := hk.1 ls H locs cells slots hl hA; rw [fl rfl] at k9; exact k9)
  · replace ha := pJ_inv ha; obtain ⟨_, _, rfl, ha⟩ := ha; replace ha := pJ_inv ha; obtain ⟨_, _, rfl, ha⟩ := ha; cases ha; exact lv_lmul hx hcb dg (by have k9 := hk.1 ls H locs cells slots hl hA; rw [fl rfl] at k9; exact k9)
  · replace ha := pJ_inv ha; obtain ⟨_, _, rfl, ha⟩ := ha; replace ha := pJ_inv ha; obtain ⟨_, _, rfl, ha⟩ := ha; obtain ⟨hne, ha⟩ := gd_inv ha; cases ha; exact lv_ldiv hx hcb dg hne (by have k9 := hk.1 ls H locs cells slots hl hA; rw [fl rfl] at k9; exact k9)
  · replace ha := pJ_inv ha; obtain ⟨_, _, rfl, ha⟩ := ha; replace ha := pJ_inv ha; obtain ⟨_, _, rfl, ha⟩ := ha; obtain ⟨hne, ha⟩ := gd_inv ha; cases ha; exact lv_lrem hx hcb dg hne (by have k9 := hk.1 ls H locs cells slots hl hA; rw [fl rfl] at k9; exact k9)
  · replace ha := pI_inv ha; obtain ⟨_, _, rfl, ha⟩ := ha; replace ha := pJ_inv ha; obtain ⟨_, _, rfl, ha⟩ := ha; cases ha; exact lv_lshl hx hcb dg rfl (by have k9 := hk.1 ls H locs cells slots hl hA; rw [fl rfl] at k9; exact k9)
  · replace ha := pI_inv ha; obtain ⟨_, _, rfl, ha⟩ := ha; replace ha := pJ_inv ha; obtain ⟨_, _, rfl, ha⟩ := ha; cases ha; exact lv_lshr hx hcb dg rfl (by have k9 := hk.1 ls H locs cells slots hl hA; rw [fl rfl] at k9; exact k9)
  · replace ha := pJ_inv ha; obtain ⟨_, _, rfl, ha⟩ := ha; replace ha := pJ_inv ha; obtain ⟨_, _, rfl, ha⟩ := ha; cases ha; exact W.lcmp hx hcb dg (by have k9 := hk.1 ls H locs cells slots hl hA; rw [fl rfl] at k9; exact k9)
  · cases ha
theorem sim_stk (F : FC p R s m meth c D HB K0 X0 y d) (hp : prog y ix = some q) (ok : okP y ix q) (ha : stkA ix q.2.2.1 q.2.2.2.1 q.2.1 L st h = some a) (hk : ActOK p l e R s m args below meth c Q D HB K0 X0 hb ub y d L h a) : SimAt p l e R s m args below meth c Q D HB K0 X0 hb ub y ix L st h := by
  obtain ⟨pc, i, a1, b1, c1, ts⟩ := q
  intro ls H locs cells slots hl hA
  rw [pc_at hp]
  obtain ⟨dg, fl, okk⟩ := ok
  dsimp only at ha dg fl okk ⊢
  have hx := F.1
  have hcb := F.2.1
  unfold stkA at ha
  split at ha
  · cases ha; exact lv_iconst hx hcb dg rfl (by have k9 := hk.1 ls H locs cells slots hl hA; rw [fl rfl] at k9; exact k9)
  · cases ha; exact lv_bipush hx hcb dg rfl (by have k9 := hk.1 ls H locs cells slots hl hA; rw [fl rfl] at k9; exact k9)
  · cases ha; exact lv_sipush hx hcb dg rfl (by have k9 := hk.1 ls H locs cells slots hl hA; rw [fl rfl] at k9; exact k9)
  · cases ha; exact lv_lconst hx hcb dg rfl (by have k9 := hk.1 ls H locs cells slots hl hA; rw [fl rfl] at k9; exact k9)
  · split at ha
    · rename_i h0
      subst h0
      cases ha
      unfold okK at okk
      dsimp only at okk
      rw [if_pos rfl] at okk
      exact lv_ldc hx hcb F.2.2.2.2.1 (F.2.2.2.2.2.2.2.1.1.at (of_decide_eq_true okk) rfl args) dg (by have k9 := hk.1 ls H locs cells slots hl hA; rw [fl rfl] at k9; exact k9)
    · rename_i h0
      cases ha
      unfold okK at okk
      dsimp only at okk
      rw [if_neg h0] at okk
      have o1 := of_decide_eq_true okk
      cases hs : strs[b1]? with
      | none => rw [hs] at o1; cases o1
      | some r =>
        rw [hs] at o1
        have o2 := Option.some.inj o1
        have e1 : r.1 = (md y).1 := congrArg Prod.fst o2
        have e2 := congrArg Prod.snd o2
        dsimp only at e2
        have hz := F.2.2.2.2.2.2.2.1.2.2.1 b1 r hs
        rw [e1, e2] at hz
        refine va_ldcS hx hcb F.2.2.2.2.1 hz dg ?_
        have k9 := hk.1 ls H locs cells slots hl hA
        rw [fl rfl] at k9
        rw [← hA.2.1]
        exact k9
  · cases ha
    unfold okK at okk
    exact lv_ldcw hx hcb F.2.2.2.2.1 (F.2.2.2.2.2.2.2.1.1.at (of_decide_eq_true okk) rfl args) dg (by have k9 := hk.1 ls H locs cells slots hl hA; rw [fl rfl] at k9; exact k9)
  · cases ha
    unfold okK at okk
    exact lv_ldc2 hx hcb F.2.2.2.2.1 (F.2.2.2.2.2.2.2.1.1.at (of_decide_eq_true okk) rfl args) dg (by have k9 := hk.1 ls H locs cells slots hl hA; rw [fl rfl] at k9; exact k9)
  · replace ha := pV_inv ha; obtain ⟨_, _, rfl, h1, ha⟩ := ha; cases ha; exact lv_dup hx hcb dg h1 (by have k9 := hk.1 ls H locs cells slots hl hA; rw [fl rfl] at k9; exact k9)
  · replace ha := pV_inv ha; obtain ⟨_, _, rfl, h1, ha⟩ := ha; cases ha; exact lv_pop hx hcb dg h1 (by have k9 := hk.1 ls H locs cells slots hl hA; rw [fl rfl] at k9; exact k9)
  · replace ha := pV_inv ha; obtain ⟨_, _, rfl, h1, ha⟩ := ha; replace ha := pV_inv ha; obtain ⟨_, _, rfl, h2, ha⟩ := ha; cases ha; exact lv_dup_x1 hx hcb dg h1 h2 (by have k9 := hk.1 ls H locs cells slots hl hA; rw [fl rfl] at k9; exact k9)
  · replace ha := pV_inv ha; obtain ⟨_, _, rfl, h1, ha⟩ := ha; replace ha := pV_inv ha; obtain ⟨_, _, rfl, h2, ha⟩ := ha; cases ha; exact lv_dup2_11 hx hcb dg h1 h2 (by have k9 := hk.1 ls H locs cells slots hl hA; rw [fl rfl] at k9; exact k9)
  · cases ha
theorem sim_loc (F : FC p R s m meth c D HB K0 X0 y d) (hp : prog y ix = some q) (ok : okP y ix q) (ha : locA y ix q.2.1 L st h = some a) (hk : ActOK p l e R s m args below meth c Q D HB K0 X0 hb ub y d L h a) : SimAt p l e R s m args below meth c Q D HB K0 X0 hb ub y ix L st h := by
  obtain ⟨pc, i, a1, b1, c1, ts⟩ := q
  intro ls H locs cells slots hl hA
  rw [pc_at hp]
  obtain ⟨dg, fl, okk⟩ := ok
  dsimp only at ha dg fl okk ⊢
  have hx := F.1
  have hcb := F.2.1
  unfold locA at ha
  split at ha
  · obtain ⟨v, h1, ha⟩ := g2_inv ha; cases ha; exact lv_iload hx hcb dg (hl.2.2.2.1 _ _ (ldI_inv h1)) (by have k9 := hk.1 ls H locs cells slots hl hA; rw [fl rfl] at k9; exact k9)
  · obtain ⟨v, h1, ha⟩ := g2_inv ha; cases ha; exact lv_iload_n hx hcb dg rfl (hl.2.2.2.1 _ _ (ldI_inv h1)) (by have k9 := hk.1 ls H locs cells slots hl hA; rw [fl rfl] at k9; exact k9)
  · obtain ⟨v, h1, ha⟩ := g2_inv ha; cases ha; exact lv_lload hx hcb dg (hl.2.2.2.1 _ _ (ldJ_inv h1)) (by have k9 := hk.1 ls H locs cells slots hl hA; rw [fl rfl] at k9; exact k9)
  · obtain ⟨v, h1, ha⟩ := g2_inv ha; cases ha; exact lv_lload_n hx hcb dg rfl (hl.2.2.2.1 _ _ (ldJ_inv h1)) (by have k9 := hk.1 ls H locs cells slots hl hA; rw [fl rfl] at k9; exact k9)
  · obtain ⟨v, h1, ha⟩ := g2_inv ha; cases ha; exact lv_aload hx hcb dg (hl.2.2.2.1 _ _ (ldR_inv h1)) (by have k9 := hk.1 ls H locs cells slots hl hA; rw [fl rfl] at k9; exact k9)
  · obtain ⟨v, h1, ha⟩ := g2_inv ha; cases ha; exact lv_aload_n hx hcb dg rfl (hl.2.2.2.1 _ _ (ldR_inv h1)) (by have k9 := hk.1 ls H locs cells slots hl hA; rw [fl rfl] at k9; exact k9)
  · replace ha := pI_inv ha; obtain ⟨v, r, rfl, ha⟩ := ha; obtain ⟨hj, ha⟩ := gd_inv ha; cases ha; exact lv_istore hx hcb dg hl.has hj rfl (fun ls1 h9 => by have k9 := hk.1 ls1 H locs cells slots (lrel_st1 hl hj rfl h9) hA; rw [fl rfl] at k9; exact k9)
  · replace ha := pI_inv ha; obtain ⟨v, r, rfl, ha⟩ := ha; obtain ⟨hj, ha⟩ := gd_inv ha; cases ha; exact lv_istore_n hx hcb dg rfl hl.has hj rfl (fun ls1 h9 => by have k9 := hk.1 ls1 H locs cells slots (lrel_st1 hl hj rfl h9) hA; rw [fl rfl] at k9; exact k9)
  · replace ha := pR_inv ha; obtain ⟨v, r, rfl, ha⟩ := ha; obtain ⟨hj, ha⟩ := gd_inv ha; cases ha; exact lv_astore hx hcb dg hl.has hj rfl (fun ls1 h9 => by have k9 := hk.1 ls1 H locs cells slots (lrel_st1 hl hj rfl h9) hA; rw [fl rfl] at k9; exact k9)
  · replace ha := pR_inv ha; obtain ⟨v, r, rfl, ha⟩ := ha; obtain ⟨hj, ha⟩ := gd_inv ha; cases ha; exact lv_astore_n hx hcb dg rfl hl.has hj rfl (fun ls1 h9 => by have k9 := hk.1 ls1 H locs cells slots (lrel_st1 hl hj rfl h9) hA; rw [fl rfl] at k9; exact k9)
  · replace ha := pJ_inv ha; obtain ⟨v, r, rfl, ha⟩ := ha; obtain ⟨⟨hj, hc2⟩, ha⟩ := gd_inv ha; cases ha; exact lv_lstore hx hcb dg hl.has hj rfl (fun ls1 h9 => by have k9 := hk.1 ls1 H locs cells slots (lrel_st2 hl hj hc2 h9) hA; rw [fl rfl] at k9; exact k9)
  · replace ha := pJ_inv ha; obtain ⟨v, r, rfl, ha⟩ := ha; obtain ⟨⟨hj, hc2⟩, ha⟩ := gd_inv ha; cases ha; exact lv_lstore_n hx hcb dg rfl hl.has hj rfl (fun ls1 h9 => by have k9 := hk.1 ls1 H locs cells slots (lrel_st2 hl hj hc2 h9) hA; rw [fl rfl] at k9; exact k9)
  · obtain ⟨v, h1, ha⟩ := g2_inv ha; obtain ⟨hj, ha⟩ := gd_inv ha; cases ha
    obtain ⟨k, hk0⟩ := List.getElem?_of_mem (prs_mem (q := (_, Value.int v)).mpr (ldI_inv h1))
    exact lv_iinc hx hcb dg hl.has hk0 rfl hj rfl (fun ls1 h9 => by have k9 := hk.1 ls1 H locs cells slots (lrel_st1 hl hj rfl h9) hA; rw [fl rfl] at k9; exact k9)
  · cases ha
theorem sim_jmp (F : FC p R s m meth c D HB K0 X0 y d) (hp : prog y ix = some q) (ok : okP y ix q) (ha : jmpA ix q.2.2.1 q.2.2.2.2.2 q.2.1 L st h = some a) (hk : ActOK p l e R s m args below meth c Q D HB K0 X0 hb ub y d L h a) : SimAt p l e R s m args below meth c Q D HB K0 X0 hb ub y ix L st h := by
  obtain ⟨pc, i, a1, b1, c1, ts⟩ := q
  intro ls H locs cells slots hl hA
  rw [pc_at hp]
  obtain ⟨dg, fl, okk⟩ := ok
  dsimp only at ha dg fl okk ⊢
  have hx := F.1
  have hcb := F.2.1
  unfold jmpA at ha
  split at ha
  · cases ha
    unfold okK at okk
    have ht := of_decide_eq_true okk
    exact lv_goto hx hcb dg ht.symm (hk.1 ls H locs cells slots hl hA)
  · rename_i cn off
    replace ha := pI_inv ha; obtain ⟨x1, r1, rfl, ha⟩ := ha
    unfold okK at okk
    have ht := of_decide_eq_true okk
    have k9 : SimAt p l e R s m args below meth c Q D HB K0 X0 hb ub y (if icc cn x1 0 = true then a1 else ix + 1) L r1 h := by cases ha; exact hk.1
    have kt : icc cn x1 0 = true → W p l e R s m args below meth c H locs cells slots Q (F0 m (pcOf y a1) ls _) := fun hc => by
      rw [if_pos hc] at k9
      exact k9 ls H locs cells slots hl hA
    have kf : ¬ icc cn x1 0 = true → W p l e R s m args below meth c H locs cells slots Q (F0 m (pc + 3) ls _) := fun hc => by
      rw [if_neg hc] at k9
      have k8 := k9 ls H locs cells slots hl hA
      rw [fl rfl] at k8
      exact k8
    cases cn
    · exact lv_if_eq hx hcb dg ht.symm (fun h => kt (decide_eq_true h)) (fun h => kf (fun g => h (of_decide_eq_true g)))
    · exact lv_if_ne hx hcb dg ht.symm (fun h => kt (decide_eq_true h)) (fun h => kf (fun g => (of_decide_eq_true g) h))
    · exact lv_if_lt hx hcb dg ht.symm (fun h => kt (decide_eq_true h)) (fun h => kf (fun g => h (of_decide_eq_true g)))
    · exact lv_if_ge hx hcb dg ht.symm (fun h => kt (decide_eq_true h)) (fun h => kf (fun g => h (of_decide_eq_true g)))
    · exact lv_if_gt hx hcb dg ht.symm (fun h => kt (decide_eq_true h)) (fun h => kf (fun g => h (of_decide_eq_true g)))
    · exact lv_if_le hx hcb dg ht.symm (fun h => kt (decide_eq_true h)) (fun h => kf (fun g => h (of_decide_eq_true g)))
  · rename_i cn off
    replace ha := pI_inv ha; obtain ⟨x1, r1, rfl, ha⟩ := ha
    replace ha := pI_inv ha; obtain ⟨x2, r2, rfl, ha⟩ := ha
    unfold okK at okk
    have ht := of_decide_eq_true okk
    have k9 : SimAt p l e R s m args below meth c Q D HB K0 X0 hb ub y (if icc cn x2 x1 = true then a1 else ix + 1) L r2 h := by cases ha; exact hk.1
    have kt : icc cn x2 x1 = true → W p l e R s m args below meth c H locs cells slots Q (F0 m (pcOf y a1) ls _) := fun hc => by
      rw [if_pos hc] at k9
      exact k9 ls H locs cells slots hl hA
    have kf : ¬ icc cn x2 x1 = true → W p l e R s m args below meth c H locs cells slots Q (F0 m (pc + 3) ls _) := fun hc => by
      rw [if_neg hc] at k9
      have k8 := k9 ls H locs cells slots hl hA
      rw [fl rfl] at k8
      exact k8
    cases cn
    · exact lv_icmp_eq hx hcb dg ht.symm (fun h => kt (decide_eq_true h)) (fun h => kf (fun g => h (of_decide_eq_true g)))
    · exact lv_icmp_ne hx hcb dg ht.symm (fun h => kt (decide_eq_true h)) (fun h => kf (fun g => (of_decide_eq_true g) h))
    · exact lv_icmp_lt hx hcb dg ht.symm (fun h => kt (decide_eq_true h)) (fun h => kf (fun g => h (of_decide_eq_true g)))
    · exact lv_icmp_ge hx hcb dg ht.symm (fun h => kt (decide_eq_true h)) (fun h => kf (fun g => h (of_decide_eq_true g)))
    · exact lv_icmp_gt hx hcb dg ht.symm (fun h => kt (decide_eq_true h)) (fun h => kf (fun g => h (of_decide_eq_true g)))
    · exact lv_icmp_le hx hcb dg ht.symm (fun h => kt (decide_eq_true h)) (fun h => kf (fun g => h (of_decide_eq_true g)))
  · unfold okK at okk
    have ht := of_decide_eq_true okk
    split at ha
    · cases ha
      exact lv_ifnonnull hx hcb dg ht.symm (hk.1 ls H locs cells slots hl hA)
    · cases ha
      exact lv_ifnonnullN hx hcb dg (by have k9 := hk.1 ls H locs cells slots hl hA; rw [fl rfl] at k9; exact k9)
    · cases ha
  · rename_i dflt lo hi offs
    replace ha := pI_inv ha; obtain ⟨x1, r1, rfl, ha⟩ := ha
    unfold okK at okk
    simp only [Bool.and_eq_true, decide_eq_true_eq] at okk
    obtain ⟨⟨t0, t1⟩, t2, t3, t4⟩ := okk
    cases ha
    have k9 := hk.1 ls H locs cells slots hl hA
    dsimp only at k9
    rcases swT_at (y := y) (pc := pc) t1 t2 (by omega) x1 (ts.getD 0 0) with ⟨n, hn1, hn2, hn3⟩ | ⟨hn1, hn2⟩
    · exact lv_tableIn hx hcb dg (by omega) (by omega) (by rw [show (x1.toInt - lo).toNat = n by omega, ← Array.getElem?_toList]; exact hn3) (by omega) k9
    · rw [hn2] at k9
      exact lv_tableOut hx hcb dg (by omega) (of_decide_eq_true t0).symm k9
  · rename_i dflt ps
    replace ha := pI_inv ha; obtain ⟨x1, r1, rfl, ha⟩ := ha
    unfold okK at okk
    simp only [Bool.and_eq_true] at okk
    obtain ⟨⟨⟨t0, t1⟩, t2⟩, t3⟩ := okk
    cases ha
    have k9 := hk.1 ls H locs cells slots hl hA
    dsimp only at k9
    exact lv_lookup hx hcb dg t2 rfl (swL_at x1 (of_decide_eq_true t0) t1 t3).symm k9
  · cases ha
theorem sim_fld (F : FC p R s m meth c D HB K0 X0 y d) (hp : prog y ix = some q) (ok : okP y ix q) (ha : fldA ix q.2.2.1 q.2.2.2.1 q.2.1 L st h = some a) (hk : ActOK p l e R s m args below meth c Q D HB K0 X0 hb ub y d L h a) : SimAt p l e R s m args below meth c Q D HB K0 X0 hb ub y ix L st h := by
  obtain ⟨pc, i, a1, b1, c1, ts⟩ := q
  intro ls H locs cells slots hl hA
  rw [pc_at hp]
  obtain ⟨dg, fl, okk⟩ := ok
  dsimp only at ha dg fl okk ⊢
  have hx := F.1
  have hcb := F.2.1
  have hW := F.2.2.2.2.2.2.2.1.1
  have hK := F.2.2.2.2.2.2.2.1.2.1
  unfold fldA at ha
  split at ha
  · rename_i idx hf
    replace ha := pR_inv ha; obtain ⟨o1, r1, rfl, ha⟩ := ha
    obtain ⟨hs, ha⟩ := gd_inv ha
    cases ha
    unfold okK at okk
    cases hr : FL[c1]? with
    | none => rw [hr] at okk; cases okk
    | some r =>
      rw [hr] at okk
      obtain ⟨e1, e2, e3, e4⟩ := of_decide_eq_true okk
      subst e2 e3 e4
      refine wl_get hx hcb hW hK (List.mem_of_getElem? hr) (by rw [e1]; exact F.2.2.2.2.1) hA.1 hs (by rw [hf] <;> rfl) dg ?_
      have k9 := hk.1 ls H locs cells slots hl hA
      rw [fl rfl] at k9
      exact k9
  · rename_i idx hf
    replace ha := pR_inv ha; obtain ⟨o1, r1, rfl, ha⟩ := ha
    obtain ⟨hs, ha⟩ := gd_inv ha
    cases ha
    unfold okK at okk
    cases hr : FL[c1]? with
    | none => rw [hr] at okk; cases okk
    | some r =>
      rw [hr] at okk
      obtain ⟨e1, e2, e3, e4⟩ := of_decide_eq_true okk
      subst e2 e3 e4
      refine wl_get hx hcb hW hK (List.mem_of_getElem? hr) (by rw [e1]; exact F.2.2.2.2.1) hA.1 hs (by rw [hf] <;> rfl) dg ?_
      have k9 := hk.1 ls H locs cells slots hl hA
      rw [fl rfl] at k9
      exact k9
  · rename_i idx hf
    replace ha := pR_inv ha; obtain ⟨o1, r1, rfl, ha⟩ := ha
    obtain ⟨hs, ha⟩ := gd_inv ha
    cases ha
    unfold okK at okk
    cases hr : FL[c1]? with
    | none => rw [hr] at okk; cases okk
    | some r =>
      rw [hr] at okk
      obtain ⟨e1, e2, e3, e4⟩ := of_decide_eq_true okk
      subst e2 e3 e4
      refine wl_get hx hcb hW hK (List.mem_of_getElem? hr) (by rw [e1]; exact F.2.2.2.2.1) hA.1 hs (by rw [hf] <;> rfl) dg ?_
      have k9 := hk.1 ls H locs cells slots hl hA
      rw [fl rfl] at k9
      exact k9
  · rename_i idx hf
    replace ha := pI_inv ha; obtain ⟨v1, r0, rfl, ha⟩ := ha
    replace ha := pR_inv ha; obtain ⟨o1, r1, rfl, ha⟩ := ha
    obtain ⟨hs, ha⟩ := gd_inv ha
    cases ha
    unfold okK at okk
    cases hr : FL[c1]? with
    | none => rw [hr] at okk; cases okk
    | some r =>
      rw [hr] at okk
      simp only [Bool.and_eq_true, decide_eq_true_eq, Bool.or_eq_true, Bool.not_eq_true'] at okk
      obtain ⟨⟨⟨⟨⟨e1, e2, e3, e4⟩, e5⟩, e5b⟩, e6⟩, e7⟩ := okk
      subst e2 e3 e4
      have fo := List.all_eq_true.mp fl_ok r (List.mem_of_getElem? hr)
      simp only [Bool.and_eq_true, decide_eq_true_eq] at fo
      obtain ⟨-, hci, hkk⟩ := fo
      have e5r := ((clsF hci).2.2 _ hkk).2.2.2.2.2.1
      skip
      refine wl_put hx hcb hW hK (List.mem_of_getElem? hr) (by rw [e1]; exact F.2.2.2.2.1) hA.1 hs ?_ (by rw [e7 hf]; rfl) (by rw [e7 hf]; rfl) dg fun H1 i1 z1 oq hob => ?_
      · rcases e5 with g | ⟨⟨g1, g2⟩, g3⟩
        · exact Or.inl g
        · exact Or.inr ⟨F.2.2.2.2.2.2.1.trans g1, by rw [e1]; exact g2, g3⟩
      · have hB := (cell_obj hA.1 hs).2.2
        have hrep : Rep D HB (stI h o1 r.2.2.2.2.1 v1) s H1 := hA.1.set hs (by dsimp only; omega) rfl rfl (fun b hb9 => ⟨up2_row hb9, rfl, rfl⟩) z1 oq (Or.inr (Or.inr ⟨_, hci, rfl, hob.to (upd_fs hkk (fun j hj => up2_ne fun q => hj q.2) (fun j hj => rfl) (by rw [hf]; exact congrArg Value.int up2_at))⟩))
        have k9 := hk.1 ls H1 (locs ++ [⟨o1, i1⟩]) cells slots hl (hA.same hrep (locs_put hA.2.2.2.1 hB) rfl rfl rfl rfl)
        rw [fl rfl] at k9
        exact k9
  · rename_i idx hf
    replace ha := pI_inv ha; obtain ⟨v1, r0, rfl, ha⟩ := ha
    replace ha := pR_inv ha; obtain ⟨o1, r1, rfl, ha⟩ := ha
    obtain ⟨⟨hs, hv01⟩, ha⟩ := gd_inv ha
    cases ha
    unfold okK at okk
    cases hr : FL[c1]? with
    | none => rw [hr] at okk; cases okk
    | some r =>
      rw [hr] at okk
      simp only [Bool.and_eq_true, decide_eq_true_eq, Bool.or_eq_true, Bool.not_eq_true'] at okk
      obtain ⟨⟨⟨⟨⟨e1, e2, e3, e4⟩, e5⟩, e5b⟩, e6⟩, e7⟩ := okk
      subst e2 e3 e4
      have fo := List.all_eq_true.mp fl_ok r (List.mem_of_getElem? hr)
      simp only [Bool.and_eq_true, decide_eq_true_eq] at fo
      obtain ⟨-, hci, hkk⟩ := fo
      have e5r := ((clsF hci).2.2 _ hkk).2.2.2.2.2.1
      skip
      refine wl_put hx hcb hW hK (List.mem_of_getElem? hr) (by rw [e1]; exact F.2.2.2.2.1) hA.1 hs ?_ (by rw [e6 hf]; rcases hv01 with z | z <;> rw [z] <;> decide) (by rw [e6 hf]; rcases hv01 with z | z <;> rw [z] <;> decide) dg fun H1 i1 z1 oq hob => ?_
      · rcases e5 with g | ⟨⟨g1, g2⟩, g3⟩
        · exact Or.inl g
        · exact Or.inr ⟨F.2.2.2.2.2.2.1.trans g1, by rw [e1]; exact g2, g3⟩
      · have hB := (cell_obj hA.1 hs).2.2
        have hrep : Rep D HB (stI h o1 r.2.2.2.2.1 v1) s H1 := hA.1.set hs (by dsimp only; omega) rfl rfl (fun b hb9 => ⟨up2_row hb9, rfl, rfl⟩) z1 oq (Or.inr (Or.inr ⟨_, hci, rfl, hob.to (upd_fs hkk (fun j hj => up2_ne fun q => hj q.2) (fun j hj => rfl) (by rw [hf]; exact congrArg Value.int up2_at))⟩))
        have k9 := hk.1 ls H1 (locs ++ [⟨o1, i1⟩]) cells slots hl (hA.same hrep (locs_put hA.2.2.2.1 hB) rfl rfl rfl rfl)
        rw [fl rfl] at k9
        exact k9
  · rename_i idx hf
    replace ha := pR_inv ha; obtain ⟨v1, r0, rfl, ha⟩ := ha
    replace ha := pR_inv ha; obtain ⟨o1, r1, rfl, ha⟩ := ha
    obtain ⟨hs, ha⟩ := gd_inv ha
    cases ha
    unfold okK at okk
    cases hr : FL[c1]? with
    | none => rw [hr] at okk; cases okk
    | some r =>
      rw [hr] at okk
      simp only [Bool.and_eq_true, decide_eq_true_eq, Bool.or_eq_true, Bool.not_eq_true'] at okk
      obtain ⟨⟨⟨⟨⟨e1, e2, e3, e4⟩, e5⟩, e5b⟩, e6⟩, e7⟩ := okk
      subst e2 e3 e4
      have fo := List.all_eq_true.mp fl_ok r (List.mem_of_getElem? hr)
      simp only [Bool.and_eq_true, decide_eq_true_eq] at fo
      obtain ⟨-, hci, hkk⟩ := fo
      have e5r := ((clsF hci).2.2 _ hkk).2.2.2.2.2.1
      have e5r := e5r hf
      refine wl_put hx hcb hW hK (List.mem_of_getElem? hr) (by rw [e1]; exact F.2.2.2.2.1) hA.1 hs ?_ (by cases hty : clty r.2.2.2.1 r.2.2.2.2.1 <;> first | rfl | (rw [hty] at e5r; cases e5r)) (by cases hty : clty r.2.2.2.1 r.2.2.2.2.1 <;> first | rfl | (rw [hty] at e5r; cases e5r)) dg fun H1 i1 z1 oq hob => ?_
      · rcases e5 with g | ⟨⟨g1, g2⟩, g3⟩
        · exact Or.inl g
        · exact Or.inr ⟨F.2.2.2.2.2.2.1.trans g1, by rw [e1]; exact g2, g3⟩
      · have hB := (cell_obj hA.1 hs).2.2
        have hrep : Rep D HB (stR h o1 r.2.2.2.2.1 (some v1)) s H1 := hA.1.set hs (by dsimp only; omega) rfl rfl (fun b hb9 => ⟨rfl, rfl, up2_row hb9⟩) z1 oq (Or.inr (Or.inr ⟨_, hci, rfl, hob.to (upd_fs hkk (fun j hj => rfl) (fun j hj => up2_ne fun q => hj q.2) (by rw [if_pos hf]; exact congrArg va_rf up2_at))⟩))
        have k9 := hk.1 ls H1 (locs ++ [⟨o1, i1⟩]) cells slots hl (hA.same hrep (locs_put hA.2.2.2.1 hB) rfl rfl rfl rfl)
        rw [fl rfl] at k9
        exact k9
  · cases ha
theorem sim_arr (F : FC p R s m meth c D HB K0 X0 y d) (hp : prog y ix = some q) (ok : okP y ix q) (ha : arrA ix q.2.1 L st h = some a) (hk : ActOK p l e R s m args below meth c Q D HB K0 X0 hb ub y d L h a) : SimAt p l e R s m args below meth c Q D HB K0 X0 hb ub y ix L st h := by
  obtain ⟨pc, i, a1, b1, c1, ts⟩ := q
  intro ls H locs cells slots hl hA
  rw [pc_at hp]
  obtain ⟨dg, fl, okk⟩ := ok
  dsimp only at ha dg fl okk ⊢
  have hx := F.1
  have hcb := F.2.1
  have hK := F.2.2.2.2.2.2.2.1.2.1
  unfold arrA at ha
  split at ha
  · replace ha := pI_inv ha; obtain ⟨_, _, rfl, ha⟩ := ha; replace ha := pR_inv ha; obtain ⟨_, _, rfl, ha⟩ := ha; obtain ⟨hi, ha⟩ := gd_inv ha; cases ha; exact wa_iald hx hcb hA.1 hi dg (by have k9 := hk.1 ls H locs cells slots hl hA; rw [fl rfl] at k9; exact k9)
  · replace ha := pI_inv ha; obtain ⟨_, _, rfl, ha⟩ := ha; replace ha := pR_inv ha; obtain ⟨_, _, rfl, ha⟩ := ha; obtain ⟨hi, ha⟩ := gd_inv ha; cases ha; exact wa_lald hx hcb hA.1 hi dg (by have k9 := hk.1 ls H locs cells slots hl hA; rw [fl rfl] at k9; exact k9)
  · replace ha := pI_inv ha; obtain ⟨_, _, rfl, ha⟩ := ha; replace ha := pR_inv ha; obtain ⟨_, _, rfl, ha⟩ := ha; obtain ⟨hi, ha⟩ := gd_inv ha; cases ha; exact wa_sald hx hcb hA.1 hi dg (by have k9 := hk.1 ls H locs cells slots hl hA; rw [fl rfl] at k9; exact k9)
  · replace ha := pI_inv ha; obtain ⟨_, _, rfl, ha⟩ := ha; replace ha := pR_inv ha; obtain ⟨_, _, rfl, ha⟩ := ha; obtain ⟨hi, ha⟩ := gd_inv ha; cases ha; exact wa_zald hx hcb hA.1 hi dg (by have k9 := hk.1 ls H locs cells slots hl hA; rw [fl rfl] at k9; exact k9)
  · replace ha := pI_inv ha; obtain ⟨_, _, rfl, ha⟩ := ha; replace ha := pR_inv ha; obtain ⟨_, _, rfl, ha⟩ := ha; obtain ⟨hi, ha⟩ := gd_inv ha; cases ha; exact wa_aald hx hcb hA.1 hi dg (by have k9 := hk.1 ls H locs cells slots hl hA; rw [fl rfl] at k9; exact k9)
  · replace ha := pI_inv ha; obtain ⟨_, _, rfl, ha⟩ := ha; replace ha := pI_inv ha; obtain ⟨_, _, rfl, ha⟩ := ha; replace ha := pR_inv ha; obtain ⟨_, _, rfl, ha⟩ := ha; obtain ⟨hi, ha⟩ := gd_inv ha; cases ha; exact wa_iast hx hcb hA.1 hi dg (fun H1 hr hB => by have k9 := fun lo => hk.1 ls H1 lo cells slots hl; rw [fl rfl] at k9; exact k9 _ (hA.same hr (locs_put hA.2.2.2.1 hB) rfl rfl rfl rfl))
  · replace ha := pJ_inv ha; obtain ⟨_, _, rfl, ha⟩ := ha; replace ha := pI_inv ha; obtain ⟨_, _, rfl, ha⟩ := ha; replace ha := pR_inv ha; obtain ⟨_, _, rfl, ha⟩ := ha; obtain ⟨hi, ha⟩ := gd_inv ha; cases ha; exact wa_last hx hcb hA.1 hi dg (fun H1 hr hB => by have k9 := fun lo => hk.1 ls H1 lo cells slots hl; rw [fl rfl] at k9; exact k9 _ (hA.same hr (locs_put hA.2.2.2.1 hB) rfl rfl rfl rfl))
  · replace ha := pI_inv ha; obtain ⟨_, _, rfl, ha⟩ := ha; replace ha := pI_inv ha; obtain ⟨_, _, rfl, ha⟩ := ha; replace ha := pR_inv ha; obtain ⟨_, _, rfl, ha⟩ := ha; obtain ⟨hi, ha⟩ := gd_inv ha; cases ha; exact wa_sast hx hcb hA.1 hi dg (fun H1 hr hB => by have k9 := fun lo => hk.1 ls H1 lo cells slots hl; rw [fl rfl] at k9; exact k9 _ (hA.same hr (locs_put hA.2.2.2.1 hB) rfl rfl rfl rfl))
  · replace ha := pI_inv ha; obtain ⟨_, _, rfl, ha⟩ := ha; replace ha := pI_inv ha; obtain ⟨_, _, rfl, ha⟩ := ha; replace ha := pR_inv ha; obtain ⟨_, _, rfl, ha⟩ := ha; obtain ⟨hi, ha⟩ := gd_inv ha; cases ha; exact wa_zast hx hcb hA.1 hi dg (fun H1 hr hB => by have k9 := fun lo => hk.1 ls H1 lo cells slots hl; rw [fl rfl] at k9; exact k9 _ (hA.same hr (locs_put hA.2.2.2.1 hB) rfl rfl rfl rfl))
  · replace ha := pR_inv ha; obtain ⟨_, _, rfl, ha⟩ := ha; replace ha := pI_inv ha; obtain ⟨_, _, rfl, ha⟩ := ha; replace ha := pR_inv ha; obtain ⟨_, _, rfl, ha⟩ := ha; obtain ⟨⟨hi, hv⟩, ha⟩ := gd_inv ha; cases ha; exact wa_aast hx hcb hK hA.1 hi hv dg (fun H1 hr hB => by have k9 := fun lo => hk.1 ls H1 lo cells slots hl; rw [fl rfl] at k9; exact k9 _ (hA.same hr (locs_put hA.2.2.2.1 hB) rfl rfl rfl rfl))
  · replace ha := pR_inv ha; obtain ⟨_, _, rfl, ha⟩ := ha; obtain ⟨_, hn, ha⟩ := g2_inv ha; cases ha; exact wa_alen hx hcb hA.1 hn dg (by have k9 := hk.1 ls H locs cells slots hl hA; rw [fl rfl] at k9; exact k9)
  · cases ha
theorem sim_new (F : FC p R s m meth c D HB K0 X0 y d) (hp : prog y ix = some q) (ok : okP y ix q) (ha : newA ix q.2.2.1 q.2.2.2.1 q.2.1 L st h = some a) (hk : ActOK p l e R s m args below meth c Q D HB K0 X0 hb ub y d L h a) : SimAt p l e R s m args below meth c Q D HB K0 X0 hb ub y ix L st h := by
  obtain ⟨pc, i, a1, b1, c1, ts⟩ := q
  intro ls H locs cells slots hl hA
  rw [pc_at hp]
  obtain ⟨dg, fl, okk⟩ := ok
  dsimp only at ha dg fl okk ⊢
  have hx := F.1
  have hcb := F.2.1
  have hW := F.2.2.2.2.2.2.2.1.1
  have hK := F.2.2.2.2.2.2.2.1.2.1
  have hown := F.2.2.2.2.1
  have hc0 := hA.2.2.2.2.1
  have hs0 := hA.2.2.2.2.2
  unfold newA at ha
  split at ha
  · cases ha
    unfold okK at okk
    simp only [Bool.and_eq_true, decide_eq_true_eq] at okk
    obtain ⟨o1, o2, o3⟩ := okk
    subst o3
    exact wa_new hx hcb hW hK hown o2 (hW.at o1 rfl args) hA.1 (by have q9 := hk.2.1; have q8 : hN h + 1 ≤ R.cells + hb := q9; omega) (by have q9 := hk.2.2; have q8 : hU h + clNr a1 ≤ R.slots + ub := q9; omega) dg (fun H1 hr => by have k9 := hk.1 ls H1 locs _ _ hl (hA.fresh hr rfl rfl rfl rfl); rw [fl rfl] at k9; exact k9)
  · rename_i t9
    replace ha := pI_inv ha; obtain ⟨n, _, rfl, ha⟩ := ha; obtain ⟨⟨h1, h2⟩, ha⟩ := gd_inv ha; cases ha
    unfold okK at okk
    obtain ⟨o1, o2⟩ := of_decide_eq_true okk
    subst o1
    exact wa_newa hx hcb hW o2 hA.1 h1 h2 (by have q9 := hk.2.1; have q8 : hN h + 1 ≤ R.cells + hb := q9; omega) (by have q9 := hk.2.2; have q8 : hU h + n.toNatClampNeg ≤ R.slots + ub := q9; omega) dg (fun H1 hr => by have k9 := hk.1 ls H1 locs _ _ hl (hA.fresh hr rfl rfl rfl rfl); rw [fl rfl] at k9; exact k9)
  · replace ha := pI_inv ha; obtain ⟨n, _, rfl, ha⟩ := ha; obtain ⟨⟨h1, h2⟩, ha⟩ := gd_inv ha; cases ha
    unfold okK at okk
    obtain ⟨o1, o2⟩ := of_decide_eq_true okk
    exact wa_newq hx hcb hW hown (hW.at o2 rfl args) hA.1 h1 h2 (by have q9 := hk.2.1; have q8 : hN h + 1 ≤ R.cells + hb := q9; omega) (by have q9 := hk.2.2; have q8 : hU h + n.toNatClampNeg ≤ R.slots + ub := q9; omega) dg (fun H1 hr => by have k9 := hk.1 ls H1 locs _ _ hl (hA.fresh hr rfl rfl rfl rfl); rw [fl rfl] at k9; exact k9)
  · replace ha := pI_inv ha; obtain ⟨k, _, rfl, ha⟩ := ha; replace ha := pI_inv ha; obtain ⟨n, _, rfl, ha⟩ := ha; obtain ⟨⟨h1, h2, h3, h4⟩, ha⟩ := gd_inv ha; cases ha
    unfold okK at okk
    obtain ⟨o1, o2, o3⟩ := of_decide_eq_true okk
    subst o1
    have q8 : hN h + 1 + n.toNatClampNeg ≤ R.cells + hb := hk.2.1
    have q7 : hU h + n.toNatClampNeg + n.toNatClampNeg * k.toNatClampNeg ≤ R.slots + ub := hk.2.2
    refine wa_newm hx hcb hW hown o2 (hW.at o3 rfl args) hA.1 h1 h2 h3 h4 (by omega) (by omega) dg fun H1 hr => ?_
    have k9 := hk.1 ls H1 locs _ _ hl (hA.fresh (n := 1 + n.toNatClampNeg) (u := n.toNatClampNeg + n.toNatClampNeg * k.toNatClampNeg) hr rfl rfl (Nat.add_assoc _ _ _) (Nat.add_assoc _ _ _))
    rw [fl rfl] at k9
    exact k9
  · cases ha
theorem sim_ret (F : FC p R s m meth c D HB K0 X0 y d) (hp : prog y ix = some q) (ok : okP y ix q) (ha : retA y q.2.1 st h = some a) (hk : ActOK p l e R s m args below meth c Q D HB K0 X0 hb ub y d L h a) : SimAt p l e R s m args below meth c Q D HB K0 X0 hb ub y ix L st h := by
  obtain ⟨pc, i, a1, b1, c1, ts⟩ := q
  intro ls H locs cells slots hl hA
  rw [pc_at hp]
  obtain ⟨dg, fl, okk⟩ := ok
  dsimp only at ha dg fl okk ⊢
  have ha2 := ha
  unfold retA at ha
  split at ha
  · cases ha; exact hk pc ls _ H locs cells slots hA _ dg ha2
  · obtain ⟨-, ha⟩ := gd_inv ha; cases ha; exact hk pc ls _ H locs cells slots hA _ dg ha2
  · cases ha; exact hk pc ls _ H locs cells slots hA _ dg ha2
  · cases ha; exact hk pc ls _ H locs cells slots hA _ dg ha2
  · cases ha; exact hk pc ls _ H locs cells slots hA _ dg ha2
  · cases ha
end OPS
