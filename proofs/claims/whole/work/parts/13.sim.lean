/-! CALLS, AND THE WHOLE: a run of the abstract machine is a run of the real one -/
theorem nonest : ML.all (fun r => !r.2.2.1 || decide (r.2.2.2.2.2 = 0)) = true := by decide +kernel
def vnoB (q : AI) : Bool := match q.2.1, q.2.2.2.2.2 with
  | .invokevirtual _, [0] => decide (¬ (md q.2.2.1).2.1 = "<init>")
  | _, _ => true
theorem vno : progs.all (fun pg => pg.all vnoB) = true := by decide +kernel
theorem prog_mem {y ix : Nat} {q : AI} (hp : prog y ix = some q) : ∃ pg ∈ progs, q ∈ pg := by
  unfold prog at hp
  have h1 := List.mem_of_getElem? hp
  rw [List.getD_eq_getElem?_getD] at h1
  cases hg : progs[y]? with
  | none => rw [hg] at h1; cases h1
  | some pg => rw [hg] at h1; exact ⟨pg, List.mem_of_getElem? hg, h1⟩
theorem prog_lt {y ix : Nat} {q : AI} (hp : prog y ix = some q) : y < 233 := by
  unfold prog at hp
  rw [List.getD_eq_getElem?_getD] at hp
  cases hg : progs[y]? with
  | none => rw [hg] at hp; cases hp
  | some pg => exact (List.getElem?_eq_some_iff.mp hg).1
theorem virt_ne {y ix idx : Nat} {q : AI} (hp : prog y ix = some q) (hi : q.2.1 = .invokevirtual idx) (ht : q.2.2.2.2.2 = [0]) : ¬ (md q.2.2.1).2.1 = "<init>" := by
  obtain ⟨pg, h1, h2⟩ := prog_mem hp
  have h3 := List.all_eq_true.mp (List.all_eq_true.mp vno pg h1) q h2
  unfold vnoB at h3
  rw [hi, ht] at h3
  exact of_decide_eq_true h3
theorem ivoid : (List.range 232).all (fun z => !decide ((md z).2.1 = "<init>") || (decide ((md z).2.2.2.2.2.1 = none) && !(md z).2.2.2.2.2.2.1)) = true := by decide +kernel
theorem init_void {z : Nat} (hz : z < 232) (hn : (md z).2.1 = "<init>") : (md z).2.2.2.2.2.1 = none ∧ (md z).2.2.2.2.2.2.1 = false := by
  have q := List.all_eq_true.mp ivoid z (List.mem_range.mpr hz)
  simp only [hn, decide_true, Bool.not_true, Bool.false_or, Bool.and_eq_true, decide_eq_true_eq, Bool.not_eq_true'] at q
  exact q
theorem pc0 : (List.range 233).all (fun z => decide (pcOf z 0 = 0)) = true := by decide +kernel
theorem own_names : ∀ k, k < 11 → ciOf k < 6 → clNm (ciOf k) = cnm k := by decide +kernel
theorem yF {z : Nat} (hz : z < 233) : (md z).1 < 11 ∧ plainName (cnm (md z).1) = true ∧ (cnm (md z).1 ≠ "java/lang/invoke/MethodHandle" ∧ cnm (md z).1 ≠ "java/lang/invoke/VarHandle") ∧ (parseMethodDescriptor (md z).2.2.1).map (fun q => q.parameters.length) = some (md z).2.2.2.2.2.2.2.1 ∧ (md z).2.2.2.2.1 ≤ 40 := by
  have q := List.all_eq_true.mp own_ok z (List.mem_range.mpr hz)
  simp only [Bool.and_eq_true, decide_eq_true_eq] at q
  exact ⟨q.1.1.1.1, q.1.1.1.2, q.1.1.2, q.1.2, q.2⟩
theorem ini_at {U : State} (hW : WRD U) {z : Nat} (hz : z < 233) (A : Array Value) : (Cond.initialized (yM z).cls).before A U = true := by
  have q := List.all_eq_true.mp ini_ok (md z).1 (List.mem_range.mpr (yF hz).1)
  exact hW.at (of_decide_eq_true q) rfl A
theorem code_at {U : State} (hW : WRD U) {z : Nat} (hz : z < 232) (A : Array Value) : (Cond.code (yM z) (md z).2.2.2.1 (md z).2.2.2.2.1 (md z).2.2.2.2.2.1).before A U = true := hW.at (cdr_232 z hz) rfl A
theorem inst_at {U : State} (hW : WRD U) {z : Nat} (hz : z < 232) (hs : (md z).2.2.2.2.2.2.1 = false) (A : Array Value) : (Cond.instanceMethod (yM z)).before A U = true := by
  have q := of_decide_eq_true (List.all_eq_true.mp inst_ok z (List.mem_range.mpr hz))
  rw [if_neg (by rw [hs]; decide)] at q
  exact hW.at q rfl A
theorem stat_at {U : State} (hW : WRD U) {z : Nat} (hz : z < 232) (hs : (md z).2.2.2.2.2.2.1 = true) (A : Array Value) : (Cond.static (yM z)).before A U = true := by
  have q := of_decide_eq_true (List.all_eq_true.mp inst_ok z (List.mem_range.mpr hz))
  rw [if_pos hs] at q
  exact hW.at q rfl A
theorem sel_at {U : State} (hW : WRD U) {z : Nat} (hz : z < 232) (hs : (md z).2.2.2.2.2.2.1 = false) (hn : ¬ (md z).2.1 = "<init>") (A : Array Value) : (Cond.selects (cnm (md z).1) (yM z) (yM z)).before A U = true := by
  have q := List.all_eq_true.mp sel_ok z (List.mem_range.mpr hz)
  simp only [Bool.or_eq_true, decide_eq_true_eq] at q
  rcases q with (q | q) | q
  · rw [hs] at q; cases q
  · exact absurd q hn
  · exact hW.at q rfl A
set_option maxRecDepth 20000 in
theorem room_ok {ml d r : Nat} (h : ml ≤ 40) (hlo : 64 * (d + 1) + 640 ≤ r) : 8 + (ml + 11) + (64 * d + 640) ≤ r := by omega
theorem cbZ {R : Room} {s : State} {args : Array Value} {z d : Nat} {h h' : AH} (hW : WRD s) (hz : z < 232) (hf : d + 1 + 8 ≤ R.frames) (hlo : 64 * (d + 1) + 640 ≤ R.locals) {n : Nat} (hn : n = (md z).2.2.2.2.2.2.2.1) :
    ((rmZ d h h').cells = hN h' - hN h ∧ (rmZ d h h').slots = hU h' - hU h ∧ (rmZ d h h').frames + 1 ≤ R.frames ∧ 8 + ((md z).2.2.2.2.1 + 11) + (rmZ d h h').locals ≤ R.locals ∧ (∀ w ∈ wsZ z, ∀ (a' : Array Value) (U : State), s.WarmedH U.vm → w.before a' U = true) ∧ Cond.code (yM z) (md z).2.2.2.1 (md z).2.2.2.2.1 (md z).2.2.2.2.2.1 ∈ wsZ z) ∧
    (Cond.code (yM z) (md z).2.2.2.1 (md z).2.2.2.2.1 (md z).2.2.2.2.2.1).before args s = true ∧ (Cond.initialized (yM z).cls).before args s = true ∧ ((yM z).cls ≠ "java/lang/invoke/MethodHandle" ∧ (yM z).cls ≠ "java/lang/invoke/VarHandle") ∧ (∀ sig, parseMethodDescriptor (yM z).desc = some sig → n = sig.parameters.length) := by
  obtain ⟨y1, y2, y3, y4, y5⟩ := yF (Nat.lt_succ_of_lt hz)
  refine ⟨⟨rfl, rfl, by show d + 8 + 1 ≤ R.frames; omega, ?_, fun w hw a' U hU => ?_, List.mem_cons_self⟩, code_at hW hz args, ini_at hW (Nat.lt_succ_of_lt hz) args, y3, fun sig hsg => ?_⟩
  · exact room_ok y5 hlo
  · rw [List.mem_singleton.mp hw]
    exact code_at (hW.moved hU) hz a'
  · have y4 : (parseMethodDescriptor (yM z).desc).map (fun q => q.parameters.length) = some (md z).2.2.2.2.2.2.2.1 := y4
    rw [hsg] at y4
    rw [hn]
    exact (Option.some.inj y4).symm
theorem PcZ_blind {D : va_G} {HB : Heap} {K0 : Nat → Nat} {X0 : Nat → Option (List Int32)} {as : List Value} {h : AH} : FrameBlind (PcZ D HB K0 X0 as h) := by
  intro a U g mk ⟨h1, h2, h3⟩
  exact ⟨h1, Rep.moved (s := U) (U := U.calling g mk a) (Vm.Alike.refl U.vm) h2, ENV.moved (s := U) (U := U.calling g mk a) (State.WarmedH.refl U) h3⟩
/-- the two members of String that the program calls -/
def StrOps (l : Launch) : Prop := ∀ {p : Program} {e : Env} {R : Room} {s : State} {m : MethodId} {args : Array Value} {below : List Frame} {meth : Method} {c : Code} {H : Heap} {locs : List Loc} {cells slots : Nat} {Q : State → Prop} {cc : ByteArray} {pc : Nat} {ls : Array Slot} {rest : List Value} {D : va_G} {HB : Heap} {K0 : Nat → Nat} {X0 : Nat → Option (List Int32)} {own : String} {idx o : Nat} {t : List Int32},
  p.tables.exec = Jvm.exec → c.code = cc → c.maxLocals = ls.size → s.vm.findClass own = some m.cls → ENV D HB K0 X0 s → (∀ q : Nat, q < HB.size → H[q]? = HB[q]?) → X0 o = some t → 8 ≤ R.frames → 640 ≤ R.locals → cells ≤ R.cells → slots ≤ R.slots → rest.length ≤ 4 →
  (((Cond.methodLink own idx ⟨"java/lang/String", "length", "()I"⟩).before args s = true → decode cc pc = .ok (.invokevirtual idx, 3) → W p l e R s m args below meth c H locs cells slots Q (F0 m (pc + 3) ls (.int (nI t.length) :: rest)) → W p l e R s m args below meth c H locs cells slots Q (F0 m pc ls (.ref o :: rest))) ∧
   (∀ j : Int32, inb j t.length = true → (Cond.methodLink own idx ⟨"java/lang/String", "charAt", "(I)C"⟩).before args s = true → decode cc pc = .ok (.invokevirtual idx, 3) → W p l e R s m args below meth c H locs cells slots Q (F0 m (pc + 3) ls (.int (t.getD j.toNatClampNeg 0) :: rest)) → W p l e R s m args below meth c H locs cells slots Q (F0 m pc ls (.int j :: .ref o :: rest))))
section SIM
variable {p : Program} {l : Launch} {e : Env} {R : Room} {s : State} {m : MethodId} {args : Array Value} {below : List Frame} {meth : Method} {c : Code} {Q : State → Prop} {D : va_G} {HB : Heap} {K0 : Nat → Nat} {X0 : Nat → Option (List Int32)} {hb ub y d ix : Nat} {q : AI} {L : LL} {st : List Value} {h : AH} {a : (Nat × LL × List Value × AH) ⊕ ((Nat × List Value × LL × Nat × List Value) ⊕ RR)}
theorem sim_inv (SO : StrOps l) (F : FC p R s m meth c D HB K0 X0 y d) (hp : prog y ix = some q) (ok : okP y ix q) (ha : invA y ix q.2.2.1 q.2.2.2.1 q.2.2.2.2.2 q.2.1 L st h = some a) (hk : ActOK p l e R s m args below meth c Q D HB K0 X0 hb ub y d L h a) (hroom : hN h ≤ R.cells + hb ∧ hU h ≤ R.slots + ub) : SimAt p l e R s m args below meth c Q D HB K0 X0 hb ub y ix L st h := by
  obtain ⟨pc, i, a1, b1, c1, ts⟩ := q
  intro ls H locs cells slots hl hA
  rw [pc_at hp]
  obtain ⟨dg, fl, okk⟩ := ok
  dsimp only at ha dg fl okk ⊢
  have hx := F.1
  have hcb := F.2.1
  have hown := F.2.2.2.2.1
  have hENV := F.2.2.2.2.2.2.2.1
  have hW := hENV.1
  have hKc := hENV.2.1
  have hfr := F.2.2.2.2.2.2.2.2.1
  have hlo := F.2.2.2.2.2.2.2.2.2
  have hc0 := hA.2.2.2.2.1
  have hs0 := hA.2.2.2.2.2
  have hsz : ls.size = (md y).2.2.2.2.1 := by rw [hl.2.1, hl.1]
  have hml : c.maxLocals = ls.size := by rw [hsz]; exact F.2.2.2.1
  -- the link
  have mlk : ∀ idx, (i = .invokestatic idx ∨ i = .invokevirtual idx ∨ i = .invokespecial idx) → ∃ r, ML[c1]? = some r ∧ r.1 = (md y).1 ∧ r.2.1 = idx ∧ r.2.2.2.1 = a1 ∧ ts = [r.2.2.2.2.2] ∧ (r.2.2.2.2.2 = 0 → b1 = (md a1).2.2.2.2.2.2.2.1 ∧ a1 < 232) ∧ lw_tbl[r.2.2.2.2.1]? = some (mlW r) := by
    intro idx hi
    have okk : (match ML[c1]? with
      | some r => decide (r.1 = (md y).1 ∧ r.2.1 = idx ∧ r.2.2.2.1 = a1 ∧ ts = [r.2.2.2.2.2]) && decide (r.2.2.2.2.2 = 0 → b1 = (md a1).2.2.2.2.2.2.2.1 ∧ a1 < 232)
      | none => false) = true := by
      rcases hi with rfl | rfl | rfl <;> exact okk
    cases hr : ML[c1]? with
    | none => rw [hr] at okk; cases okk
    | some r =>
      rw [hr] at okk
      simp only [Bool.and_eq_true, decide_eq_true_eq] at okk
      obtain ⟨⟨e1, e2, e3, e4⟩, e5⟩ := okk
      exact ⟨r, rfl, e1, e2, e3, e4, e5, of_decide_eq_true (List.all_eq_true.mp ml_ok r (List.mem_of_getElem? hr))⟩
  have cont : ∀ {mc ms : Nat} {st0 rest : List Value} {r1 : RR} {ix' : Nat} {d' : Nat} {as : List Value} {a2 : Array Value}, pcOf y ix' = pc + 3 → ext h r1.2 → SimAt p l e R s m args below meth c Q D HB K0 X0 hb ub y ix' L (r1.1.toList ++ rest) r1.2 → mc = hN r1.2 - hN h → ms = hU r1.2 - hU h →
      va_Run p l e R s m args below meth c H locs cells slots mc ms (F0 m pc ls st0) rest (QcZ D HB r1 a2) (fun q => HB.size ≤ q) → W p l e R s m args below meth c H locs cells slots Q (F0 m pc ls st0) := by
    intro mc ms st0 rest r1 ix' d' as a2 hpc he hk3 em es hrun
    refine W_run hrun fun v st₀ t locs1 hq hvm hl1 => ?_
    obtain ⟨e1, e2⟩ := hq
    cases e1
    have k9 := hk3 ls t.heap locs1 (cells + mc) (slots + ms) hl ⟨e2.moved hvm.symm, he.2.2.1.trans hA.2.1, he.2.2.2.trans hA.2.2.1, fun x hx9 => (hl1 x hx9).elim (hA.2.2.2.1 x) id, by have := he.1; omega, by have := he.2.1; omega⟩
    rw [hpc] at k9
    exact k9
  unfold invA at ha
  split at ha
  · -- static
    rename_i idx
    obtain ⟨⟨g1, g2⟩, ha⟩ := gd_inv ha
    obtain ⟨⟨g3, g4, g5, g6⟩, ha⟩ := gd_inv ha
    cases ha
    obtain ⟨d', r1, rfl, hM, he, q1, q2, hk3⟩ := hk
    obtain ⟨r, -, e1, e2, e3, e4, e5, e6⟩ := mlk idx (Or.inl rfl)
    have e0 : r.2.2.2.2.2 = 0 := by simpa using e4.symm
    obtain ⟨f1, f2⟩ := e5 e0
    obtain ⟨⟨w1, w2, w3, w4, w5, w6⟩, w7, w8, w9, w10⟩ := cbZ (R := R) (args := args) (h := h) (h' := r1.2) (d := d') hW f2 (by omega) (by omega) f1
    have hY : mlY r = yM a1 := by unfold mlY; rw [e0]; show yM r.2.2.2.1 = yM a1; rw [e3]
    have hpc := fl rfl
    have hst : st = ((st.take b1).reverse).reverse ++ st.drop b1 := by rw [List.reverse_reverse, List.take_append_drop]
    have hPre : PreS s H (PcZ D HB K0 X0 (st.take b1).reverse h) (st.take b1).reverse := ⟨PcZ_blind, fun U hU hWU => ⟨rfl, by rw [hU]; exact hA.1.moved hWU.alike, hENV.moved hWU⟩⟩
    have hroom2 : cells + (hN r1.2 - hN h) ≤ R.cells ∧ slots + (hU r1.2 - hU h) ≤ R.slots := by have := he.1; have := he.2.1; omega
    have hw8 : 2 * (F0 m pc ls st).monitorRoom + ((st.drop b1).map fun v => v.category).sum ≤ 8 := lv_room (by have := sum_le (rest := st.drop b1); omega)
    unfold mlW at e6
    by_cases hn : r.2.2.1 = true
    · rw [if_pos hn, e1, e2, hY] at e6
      exact cont (d' := d') (as := []) hpc he hk3 rfl rfl (va_runSN (Ts := []) (ws := wsZ a1) (rm := rmZ d' h r1.2) (maxL := (md a1).2.2.2.2.1) (ret := (md a1).2.2.2.2.2.1) (bytes := (md a1).2.2.2.1) (n := b1) ⟨hx, hcb, hml, hown, fun _ h9 => absurd h9 List.not_mem_nil⟩ hM ⟨⟨⟨w1, w2, w3, w4, w5, w6⟩, w7, w8, w9, w10, hW.at e6 rfl args⟩, stat_at hW f2 g1 args, trivial⟩ hPre rfl g3 rfl hst hw8 dg hroom2)
    · rw [if_neg hn, e1, e2, hY] at e6
      exact cont (d' := d') (as := []) hpc he hk3 rfl rfl (va_runS (Ts := []) (ws := wsZ a1) (rm := rmZ d' h r1.2) (maxL := (md a1).2.2.2.2.1) (ret := (md a1).2.2.2.2.2.1) (bytes := (md a1).2.2.2.1) (n := b1) ⟨hx, hcb, hml, hown, fun _ h9 => absurd h9 List.not_mem_nil⟩ hM ⟨⟨w1, w2, w3, w4, w5, w6, w7, w8, w9, w10, hW.at e6 rfl args⟩, stat_at hW f2 g1 args⟩ hPre rfl g3 rfl hst hw8 dg hroom2)
  · -- arraycopy
    rename_i idx
    replace ha := acp_inv ha; obtain ⟨s9, sp, d9, dp, n, r9, rfl, ha⟩ := ha
    obtain ⟨⟨g1, g2⟩, ha⟩ := gd_inv ha
    obtain ⟨r, hrr, e1, e2, e3, e4, e5, e6⟩ := mlk idx (Or.inl rfl)
    have e0 : r.2.2.2.2.2 = 4 := by simpa using e4.symm
    have hY : mlY r = arraycopyName := by unfold mlY; rw [e0] <;> rfl
    unfold pos3 at g1
    simp only [Bool.and_eq_true, decide_eq_true_eq] at g1
    obtain ⟨⟨p1, p2⟩, p3⟩ := g1
    have hpc := fl rfl
    have hlink : (Cond.methodLink (cnm (md y).1) idx arraycopyName).before args s = true := by
      unfold mlW at e6
      rw [e1, e2, hY] at e6
      by_cases hn : r.2.2.1 = true
      · exact absurd (List.all_eq_true.mp nonest r (List.mem_of_getElem? hrr)) (by simp [hn, e0])
      · rw [if_neg hn] at e6
        exact hW.at e6 rfl args
    have kn : ∀ {b t : Nat}, knd h b = t → t < 8 → ∃ n, hS h b = some (t, n) ∧ alen h b t = n := by
      intro b t hk9 ht
      unfold knd at hk9
      cases hs : hS h b with
      | none => rw [hs] at hk9; dsimp only at hk9; omega
      | some q =>
        rw [hs] at hk9
        obtain ⟨t', n⟩ := q
        dsimp only at hk9
        subst hk9
        exact ⟨n, rfl, by unfold alen; rw [hs]; dsimp only; rw [if_pos rfl]⟩
    split at ha
    · rename_i hkk
      obtain ⟨⟨b2, b3⟩, ha⟩ := gd_inv ha
      cases ha
      obtain ⟨n0, hs9, ea⟩ := kn hkk.1 (by decide)
      obtain ⟨n1, hd9, eb⟩ := kn hkk.2 (by decide)
      rw [ea] at b2
      rw [eb] at b3
      refine wc_cpI hx hcb hml hW hown hlink hA.1 hs9 hd9 p1 p2 p3 b2 b3 (by omega) (by omega) g2 dg fun H1 locs1 hr h1 hB => ?_
      have k9 := hk.1 ls H1 locs1 cells slots hl (hA.same hr (fun x hx9 => (h1 x hx9).elim (hA.2.2.2.1 x) (fun z => by rw [z]; exact hB)) rfl rfl rfl rfl)
      rw [hpc] at k9
      exact k9
    · obtain ⟨⟨b0, b1, b2, b3⟩, ha⟩ := gd_inv ha
      cases ha
      obtain ⟨n0, hs9, ea⟩ := kn b0 (by decide)
      obtain ⟨n1, hd9, eb⟩ := kn b1 (by decide)
      rw [ea] at b2
      rw [eb] at b3
      refine wc_cpL hx hcb hml hW hown hlink hA.1 hs9 hd9 p1 p2 p3 b2 b3 (by omega) (by omega) g2 dg fun H1 locs1 hr h1 hB => ?_
      have k9 := hk.1 ls H1 locs1 cells slots hl (hA.same hr (fun x hx9 => (h1 x hx9).elim (hA.2.2.2.1 x) (fun z => by rw [z]; exact hB)) rfl rfl rfl rfl)
      rw [hpc] at k9
      exact k9
  · -- Math.min
    rename_i idx
    replace ha := pI_inv ha; obtain ⟨v2, r8, rfl, ha⟩ := ha
    replace ha := pI_inv ha; obtain ⟨v1, r9, rfl, ha⟩ := ha
    obtain ⟨g1, ha⟩ := gd_inv ha
    cases ha
    obtain ⟨r, hrr, e1, e2, e3, e4, e5, e6⟩ := mlk idx (Or.inl rfl)
    have e0 : r.2.2.2.2.2 = 5 := by simpa using e4.symm
    have hY : mlY r = Jvm.Lib.Math.min.name := by unfold mlY; rw [e0] <;> rfl
    have hn : ¬ r.2.2.1 = true := fun hn => absurd (List.all_eq_true.mp nonest r (List.mem_of_getElem? hrr)) (by simp [hn, e0])
    unfold mlW at e6
    rw [if_neg hn, e1, e2, hY] at e6
    have k9 := hk.1 ls H locs cells slots hl hA
    rw [fl rfl] at k9
    exact va_mmin hx hcb hml hown (hW.at e6 rfl args) (hW.at min_ok.1 rfl args) (hW.at min_ok.2.1 rfl args) (hW.at min_ok.2.2 rfl args) (by omega) (by have := sum_le (rest := r9); omega) (by omega) (by omega) dg k9
  · -- virtual
    rename_i idx
    obtain ⟨⟨g1, g2⟩, ha⟩ := gd_inv ha
    obtain ⟨o1, r9, hd9, ha⟩ := pR_inv ha
    obtain ⟨hso, ha⟩ := gd_inv ha
    obtain ⟨⟨g3, g4, g5, g6⟩, ha⟩ := gd_inv ha
    cases ha
    obtain ⟨d', r1, rfl, hM, he, q1, q2, hk3⟩ := hk
    obtain ⟨r, hrr, e1, e2, e3, e4, e5, e6⟩ := mlk idx (Or.inr (Or.inl rfl))
    have e0 : r.2.2.2.2.2 = 0 := by simpa using e4.symm
    obtain ⟨f1, f2⟩ := e5 e0
    obtain ⟨⟨w1, w2, w3, w4, w5, w6⟩, w7, w8, w9, w10⟩ := cbZ (R := R) (args := args) (h := h) (h' := r1.2) (d := d') hW f2 (by omega) (by omega) f1
    have hY : mlY r = yM a1 := by unfold mlY; rw [e0]; show yM r.2.2.2.1 = yM a1; rw [e3]
    have hpc := fl rfl
    have hst : st = ((st.take b1).reverse).reverse ++ .ref o1 :: r9 := by rw [List.reverse_reverse, ← hd9, List.take_append_drop]
    obtain ⟨hci, ⟨cell, c2, c3, c4, c5⟩, -⟩ := cell_obj hA.1 hso
    have hnm := own_names (md a1).1 (yF (Nat.lt_succ_of_lt f2)).1 hci
    have hcl : s.vm.findClass (cnm (md a1).1) = some cell.cls := by rw [← hnm, c3]; exact (hKc.1 _ _ (cls_at _ hci)).2.1
    have hPre : PreV s H (cnm (md a1).1) o1 (PcZ D HB K0 X0 (.ref o1 :: (st.take b1).reverse) h) (st.take b1).reverse := ⟨PcZ_blind, ⟨cell, c2, by rw [c4]; rfl, hcl⟩, fun U hU hWU => ⟨rfl, by rw [hU]; exact hA.1.moved hWU.alike, hENV.moved hWU⟩⟩
    have hroom2 : cells + (hN r1.2 - hN h) ≤ R.cells ∧ slots + (hU r1.2 - hU h) ≤ R.slots := by have := he.1; have := he.2.1; omega
    have hw8 : 2 * (F0 m pc ls st).monitorRoom + (r9.map fun v => v.category).sum ≤ 8 := lv_room (by have := sum_le (rest := r9); omega)
    have hlen : (st.take b1).reverse.length = b1 := by rw [List.length_reverse, List.length_take]; omega
    have hni : ¬ (md a1).2.1 = "<init>" := virt_ne hp rfl rfl
    unfold mlW at e6
    by_cases hn : r.2.2.1 = true
    · rw [if_pos hn, e1, e2, hY] at e6
      exact cont (d' := d') (as := []) hpc he hk3 rfl rfl (va_runVN (Ts := []) (C := cnm (md a1).1) (ws := wsZ a1) (rm := rmZ d' h r1.2) (maxL := (md a1).2.2.2.2.1) (ret := (md a1).2.2.2.2.2.1) (bytes := (md a1).2.2.2.1) (n := b1) ⟨hx, hcb, hml, hown, fun _ h9 => absurd h9 List.not_mem_nil⟩ hM ⟨⟨⟨w1, w2, w3, w4, w5, w6⟩, w7, w8, w9, w10, hW.at e6 rfl args⟩, inst_at hW f2 g1 args, sel_at hW f2 g1 hni args⟩ hPre rfl hlen rfl hst hw8 dg hroom2)
    · rw [if_neg hn, e1, e2, hY] at e6
      exact cont (d' := d') (as := []) hpc he hk3 rfl rfl (va_runV (Ts := []) (C := cnm (md a1).1) (ws := wsZ a1) (rm := rmZ d' h r1.2) (maxL := (md a1).2.2.2.2.1) (ret := (md a1).2.2.2.2.2.1) (bytes := (md a1).2.2.2.1) (n := b1) ⟨hx, hcb, hml, hown, fun _ h9 => absurd h9 List.not_mem_nil⟩ hM ⟨⟨w1, w2, w3, w4, w5, w6, w7, w8, w9, w10, hW.at e6 rfl args⟩, inst_at hW f2 g1 args, sel_at hW f2 g1 hni args⟩ hPre rfl hlen rfl hst hw8 dg hroom2)
  · -- String.length
    rename_i idx
    replace ha := pR_inv ha; obtain ⟨o1, r9, rfl, ha⟩ := ha
    obtain ⟨g1, ha⟩ := gd_inv ha
    obtain ⟨t, ht, ha⟩ := g2_inv ha
    cases ha
    obtain ⟨r, hrr, e1, e2, e3, e4, e5, e6⟩ := mlk idx (Or.inr (Or.inl rfl))
    have e0 : r.2.2.2.2.2 = 2 := by simpa using e4.symm
    have hY : mlY r = ⟨"java/lang/String", "length", "()I"⟩ := by unfold mlY; rw [e0] <;> rfl
    have hn : ¬ r.2.2.1 = true := fun hn => absurd (List.all_eq_true.mp nonest r (List.mem_of_getElem? hrr)) (by simp [hn, e0])
    unfold mlW at e6
    rw [if_neg hn, e1, e2, hY] at e6
    have k9 := hk.1 ls H locs cells slots hl hA
    rw [fl rfl] at k9
    exact (SO (cc := (md y).2.2.2.1) hx hcb hml hown hENV hA.1.2.2.1 (by rw [← hA.2.2.1]; exact ht) (by omega) (by omega) (by omega) (by omega) g1).1 (hW.at e6 rfl args) dg k9
  · -- String.charAt
    rename_i idx
    replace ha := pI_inv ha; obtain ⟨j, r8, rfl, ha⟩ := ha
    replace ha := pR_inv ha; obtain ⟨o1, r9, rfl, ha⟩ := ha
    obtain ⟨g1, ha⟩ := gd_inv ha
    obtain ⟨t, ht, ha⟩ := g2_inv ha
    obtain ⟨hj, ha⟩ := gd_inv ha
    cases ha
    obtain ⟨r, hrr, e1, e2, e3, e4, e5, e6⟩ := mlk idx (Or.inr (Or.inl rfl))
    have e0 : r.2.2.2.2.2 = 3 := by simpa using e4.symm
    have hY : mlY r = ⟨"java/lang/String", "charAt", "(I)C"⟩ := by unfold mlY; rw [e0] <;> rfl
    have hn : ¬ r.2.2.1 = true := fun hn => absurd (List.all_eq_true.mp nonest r (List.mem_of_getElem? hrr)) (by simp [hn, e0])
    unfold mlW at e6
    rw [if_neg hn, e1, e2, hY] at e6
    have k9 := hk.1 ls H locs cells slots hl hA
    rw [fl rfl] at k9
    exact (SO (cc := (md y).2.2.2.1) hx hcb hml hown hENV hA.1.2.2.1 (by rw [← hA.2.2.1]; exact ht) (by omega) (by omega) (by omega) (by omega) g1).2 j hj (hW.at e6 rfl args) dg k9
  · -- <init>
    rename_i idx
    obtain ⟨⟨g1, g2⟩, ha⟩ := gd_inv ha
    obtain ⟨o1, r9, hd9, ha⟩ := pR_inv ha
    obtain ⟨⟨g3, g4, g5, g6⟩, ha⟩ := gd_inv ha
    cases ha
    obtain ⟨d', r1, rfl, hM, he, q1, q2, hk3⟩ := hk
    obtain ⟨r, hrr, e1, e2, e3, e4, e5, e6⟩ := mlk idx (Or.inr (Or.inr rfl))
    have e0 : r.2.2.2.2.2 = 0 := by simpa using e4.symm
    obtain ⟨f1, f2⟩ := e5 e0
    obtain ⟨⟨w1, w2, w3, w4, w5, w6⟩, w7, w8, w9, w10⟩ := cbZ (R := R) (args := args) (h := h) (h' := r1.2) (d := d') hW f2 (by omega) (by omega) f1
    have hY : mlY r = yM a1 := by unfold mlY; rw [e0]; show yM r.2.2.2.1 = yM a1; rw [e3]
    have hpc := fl rfl
    have hst : st = ((st.take b1).reverse).reverse ++ .ref o1 :: r9 := by rw [List.reverse_reverse, ← hd9, List.take_append_drop]
    have hPre : PreS s H (PcZ D HB K0 X0 (.ref o1 :: (st.take b1).reverse) h) (.ref o1 :: (st.take b1).reverse) := ⟨PcZ_blind, fun U hU hWU => ⟨rfl, by rw [hU]; exact hA.1.moved hWU.alike, hENV.moved hWU⟩⟩
    have hroom2 : cells + (hN r1.2 - hN h) ≤ R.cells ∧ slots + (hU r1.2 - hU h) ≤ R.slots := by have := he.1; have := he.2.1; omega
    have hw8 : 2 * (F0 m pc ls st).monitorRoom + (r9.map fun v => v.category).sum ≤ 8 := lv_room (by have := sum_le (rest := r9); omega)
    have hlen : (st.take b1).reverse.length = b1 := by rw [List.length_reverse, List.length_take]; omega
    obtain ⟨hvoid, hnst⟩ := init_void f2 g1
    rw [hvoid] at w6 w7
    unfold mlW at e6
    by_cases hn : r.2.2.1 = true
    · rw [if_pos hn, e1, e2, hY] at e6
      exact cont (d' := d') (as := []) hpc he hk3 rfl rfl (va_runIN (Ts := []) (ws := wsZ a1) (rm := rmZ d' h r1.2) (maxL := (md a1).2.2.2.2.1) (bytes := (md a1).2.2.2.1) (n := b1) ⟨hx, hcb, hml, hown, fun _ h9 => absurd h9 List.not_mem_nil⟩ hM ⟨⟨⟨w1, w2, w3, w4, w5, w6⟩, w7, w8, w9, w10, hW.at e6 rfl args⟩, g1, inst_at hW f2 hnst args⟩ hPre rfl hlen rfl hst hw8 dg hroom2)
    · rw [if_neg hn, e1, e2, hY] at e6
      exact cont (d' := d') (as := []) hpc he hk3 rfl rfl (va_runI (Ts := []) (ws := wsZ a1) (rm := rmZ d' h r1.2) (maxL := (md a1).2.2.2.2.1) (bytes := (md a1).2.2.2.1) (n := b1) ⟨hx, hcb, hml, hown, fun _ h9 => absurd h9 List.not_mem_nil⟩ hM ⟨⟨w1, w2, w3, w4, w5, w6, w7, w8, w9, w10, hW.at e6 rfl args⟩, g1, inst_at hW f2 hnst args⟩ hPre rfl hlen rfl hst hw8 dg hroom2)
  · -- Object's <init>
    rename_i idx
    replace ha := pR_inv ha; obtain ⟨o1, r9, rfl, ha⟩ := ha
    obtain ⟨g1, ha⟩ := gd_inv ha
    cases ha
    obtain ⟨r, hrr, e1, e2, e3, e4, e5, e6⟩ := mlk idx (Or.inr (Or.inr rfl))
    have e0 : r.2.2.2.2.2 = 1 := by simpa using e4.symm
    have hY : mlY r = Jvm.Lib.objectInit := by unfold mlY; rw [e0] <;> rfl
    have hn : ¬ r.2.2.1 = true := fun hn => absurd (List.all_eq_true.mp nonest r (List.mem_of_getElem? hrr)) (by simp [hn, e0])
    unfold mlW at e6
    rw [if_neg hn, e1, e2, hY] at e6
    have k9 := hk.1 ls H locs cells slots hl hA
    rw [fl rfl] at k9
    exact W.objInit hx hcb hown (hW.at e6 rfl args) (hW.at obj_ok.1 rfl args) (hW.at obj_ok.2 rfl args) rfl hml.symm rfl dg (by omega) (by have := sum_le (rest := r9); show 2 * 0 + _ + 12 ≤ _; omega) k9
  · cases ha
theorem sim_step (SO : StrOps l) (F : FC p R s m meth c D HB K0 X0 y d) (ok : ∀ q, prog y ix = some q → okP y ix q) (ha : stepA y ix L st h = some a) (hk : ActOK p l e R s m args below meth c Q D HB K0 X0 hb ub y d L h a) (hroom : hN h ≤ R.cells + hb ∧ hU h ≤ R.slots + ub) : SimAt p l e R s m args below meth c Q D HB K0 X0 hb ub y ix L st h := by
  unfold stepA at ha
  split at ha
  · rename_i q hp
    have ok := ok q hp
    unfold opA at ha
    split at ha
    · exact sim_inv SO F hp ok ha hk hroom
    · exact sim_ret F hp ok ha hk
    · exact sim_fld F hp ok ha hk
    · exact sim_arr F hp ok ha hk
    · exact sim_new F hp ok ha hk
    · exact sim_loc F hp ok ha hk
    · exact sim_stk F hp ok ha hk
    · exact sim_jmp F hp ok ha hk
    · exact sim_bin F hp ok ha hk
  · cases ha
end SIM
theorem okR_at {a b : Nat} (h : okR a b = true) {y : Nat} (h1 : a ≤ y) (h2 : y < b) : okM y = true := by
  have q := List.all_eq_true.mp h (y - a) (List.mem_range.mpr (by omega))
  have e : a + (y - a) = y := by omega
  rw [e] at q
  exact q
theorem okE_P {y ix : Nat} {q : AI} (hp : prog y ix = some q) (h : okE y ix = true) : okP y ix q := by
  unfold okE at h
  rw [hp] at h
  simp only [Bool.and_eq_true, decide_eq_true_eq, Bool.or_eq_true, Bool.not_eq_true'] at h
  refine ⟨h.1.1, fun hf => ?_, h.2⟩
  rcases h.1.2 with g | g
  · rw [hf] at g; cases g
  · exact g
theorem okM_at {y ix : Nat} {q : AI} (hp : prog y ix = some q) (h : okM y = true) : okP y ix q := by
  have hl : ix < (progs.getD y []).length := (List.getElem?_eq_some_iff.mp hp).1
  exact okE_P hp (List.all_eq_true.mp h ix (List.mem_range.mpr hl))
theorem okS_at {a n ix : Nat} (h : okS a n = true) (h1 : a ≤ ix) (h2 : ix < a + n) : okE 232 ix = true := by
  have q := List.all_eq_true.mp h (ix - a) (List.mem_range.mpr (by omega))
  have e : a + (ix - a) = ix := by omega
  rw [e] at q
  exact q
theorem len232 : (progs.getD 232 []).length = 1072 := by decide +kernel
theorem ok_all {y ix : Nat} {q : AI} (hp : prog y ix = some q) : okP y ix q := by
  have hy := prog_lt hp
  have hM : y < 232 → okM y = true := by
    intro hy2
    by_cases h40 : y < 40
    · exact okR_at ok_0 (by omega) h40
    by_cases h60 : y < 60
    · exact okR_at ok_40 (by omega) h60
    by_cases h81 : y < 81
    · exact okR_at ok_60 (by omega) h81
    by_cases h95 : y < 95
    · exact okR_at ok_81 (by omega) h95
    by_cases h110 : y < 110
    · exact okR_at ok_95 (by omega) h110
    by_cases h123 : y < 123
    · exact okR_at ok_110 (by omega) h123
    by_cases h136 : y < 136
    · exact okR_at ok_123 (by omega) h136
    by_cases h158 : y < 158
    · exact okR_at ok_136 (by omega) h158
    by_cases h180 : y < 180
    · exact okR_at ok_158 (by omega) h180
    by_cases h190 : y < 190
    · exact okR_at ok_180 (by omega) h190
    by_cases h200 : y < 200
    · exact okR_at ok_190 (by omega) h200
    by_cases h215 : y < 215
    · exact okR_at ok_200 (by omega) h215
    by_cases h232 : y < 232
    · exact okR_at ok_215 (by omega) h232
    omega
  by_cases hy2 : y < 232
  · exact okM_at hp (hM hy2)
  · have hy3 : y = 232 := by omega
    subst hy3
    refine okE_P hp ?_
    have hl : ix < 1072 := len232 ▸ (List.getElem?_eq_some_iff.mp hp).1
    by_cases g0 : ix < 90
    · exact okS_at okS_0 (by omega) g0
    by_cases g90 : ix < 180
    · exact okS_at okS_90 (by omega) g90
    by_cases g180 : ix < 270
    · exact okS_at okS_180 (by omega) g180
    by_cases g270 : ix < 360
    · exact okS_at okS_270 (by omega) g270
    by_cases g360 : ix < 450
    · exact okS_at okS_360 (by omega) g360
    by_cases g450 : ix < 540
    · exact okS_at okS_450 (by omega) g450
    by_cases g540 : ix < 630
    · exact okS_at okS_540 (by omega) g540
    by_cases g630 : ix < 720
    · exact okS_at okS_630 (by omega) g630
    by_cases g720 : ix < 810
    · exact okS_at okS_720 (by omega) g720
    by_cases g810 : ix < 900
    · exact okS_at okS_810 (by omega) g810
    by_cases g900 : ix < 990
    · exact okS_at okS_900 (by omega) g900
    by_cases g990 : ix < 1072
    · exact okS_at okS_990 (by omega) g990
    omega
theorem enL_len {mx : Nat} {as : List Value} (h : (as.flatMap lay1).length ≤ mx) : (enL mx as).length = mx := by
  unfold enL
  rw [List.length_append, List.length_replicate]
  omega
theorem lg_len (as : List Value) : (lg_sl as).length = (as.flatMap lay1).length := by
  unfold lg_sl
  induction as with
  | nil => rfl
  | cons v r ih =>
    rw [List.flatMap_cons, List.flatMap_cons, List.length_append, List.length_append, ih]
    unfold lay1
    split <;> rfl
theorem ldV_cons_z {o : Option Value} {L : LL} : ldV (o :: L) 0 = o := by cases o <;> rfl
theorem ldV_cons_s {o : Option Value} {L : LL} {i : Nat} : ldV (o :: L) (i + 1) = ldV L i := rfl
theorem ldV_rep {n i : Nat} : ldV (List.replicate n none) i = none := by
  unfold ldV
  rw [List.getElem?_replicate]
  split
  · rename_i h; split at h <;> cases h
  · rfl
theorem ldV_en {n : Nat} : ∀ {as : List Value} {i k : Nat} {v : Value}, ldV (as.flatMap lay1 ++ List.replicate n none) i = some v → (i + k, v) ∈ lv_args k as := by
  intro as
  induction as with
  | nil =>
    intro i k v h
    rw [List.flatMap_nil, List.nil_append, ldV_rep] at h
    cases h
  | cons w r ih =>
    intro i k v h
    rw [List.flatMap_cons] at h
    unfold lv_args
    by_cases hc : w.category = 2
    · have e : lay1 w = [some w, none] := if_pos hc
      rw [e] at h
      rw [if_pos hc]
      match i, h with
      | 0, h =>
        cases h
        rw [Nat.zero_add]
        exact List.mem_cons_self
      | 1, h => cases h
      | i + 2, h =>
        have := ih (k := k + 2) h
        rw [show i + 2 + k = i + (k + 2) by omega]
        exact List.mem_cons_of_mem _ this
    · have e : lay1 w = [some w] := if_neg hc
      rw [e] at h
      rw [if_neg hc]
      match i, h with
      | 0, h =>
        cases h
        rw [Nat.zero_add]
        exact List.mem_cons_self
      | i + 1, h =>
        have := ih (k := k + 1) h
        rw [show i + 1 + k = i + (k + 1) by omega]
        exact List.mem_cons_of_mem _ this
theorem enOK_at {z : Nat} : ∀ {L : LL} {k i : Nat} {v : Value}, enOK z L k = true → ldV L i = some v → v.category = 2 → c2 z (i + k) = true := by
  intro L
  induction L with
  | nil => intro k i v _ h _; cases h
  | cons o r ih =>
    intro k i v h hv hc
    unfold enOK at h
    match i with
    | 0 =>
      rw [ldV_cons_z] at hv
      subst hv
      simp only [hc, beq_self_eq_true, Bool.not_true, Bool.false_or, Bool.and_eq_true] at h
      rw [Nat.zero_add]
      exact h.1
    | i + 1 =>
      rw [ldV_cons_s] at hv
      have h2 : enOK z r (k + 1) = true := by
        cases o with
        | none => exact h
        | some w => simp only [Bool.and_eq_true] at h; exact h.2
      rw [show i + 1 + k = i + (k + 1) by omega]
      exact ih h2 hv hc
theorem lrel_en {z : Nat} {as : List Value} (h : (as.flatMap lay1).length ≤ (md z).2.2.2.2.1) (he : enOK z (enL (md z).2.2.2.2.1 as) 0 = true) : lrel z ((lg_sl as ++ List.replicate ((md z).2.2.2.2.1 - (lg_sl as).length) Slot.unset).toArray) (enL (md z).2.2.2.2.1 as) := by
  have hl := lv_entry as (n := (md z).2.2.2.2.1) (by rw [lg_len]; exact h)
  refine ⟨enL_len h, by rw [enL_len h]; exact hl.1, hl.2.1, fun i v hv => ?_, fun i v hv hc => ?_⟩
  · have := ldV_en (k := 0) hv
    exact hl.2.2 _ this
  · exact enOK_at he hv hc
/-- what a call hands over -/
theorem call_args {y ix : Nat} {L : LL} {st : List Value} {h : AH} {q : Nat × List Value × LL × Nat × List Value} (ha : stepA y ix L st h = some (.inr (.inl q))) : q.1 < 232 ∧ q.2.2.1 = enL (md q.1).2.2.2.2.1 q.2.1 ∧ (q.2.1.flatMap lay1).length ≤ (md q.1).2.2.2.2.1 ∧ enOK q.1 (enL (md q.1).2.2.2.2.1 q.2.1) 0 = true := by
  unfold stepA at ha
  split at ha
  · rename_i r hp
    have ok := ok_all hp
    have key : ∀ {np : Nat} {as rest : List Value}, r.2.2.1 < 232 → callA r.2.2.1 (ix + 1) np as rest = some (.inr (.inl q)) → q.1 < 232 ∧ q.2.2.1 = enL (md q.1).2.2.2.2.1 q.2.1 ∧ (q.2.1.flatMap lay1).length ≤ (md q.1).2.2.2.2.1 ∧ enOK q.1 (enL (md q.1).2.2.2.2.1 q.2.1) 0 = true := by
      intro np as rest hz hc
      unfold callA at hc
      obtain ⟨⟨-, -, g1, g2⟩, hc⟩ := gd_inv hc
      cases hc
      exact ⟨hz, rfl, g1, g2⟩
    unfold opA at ha
    split at ha
    · have lt : ∀ idx, (r.2.1 = .invokestatic idx ∨ r.2.1 = .invokevirtual idx ∨ r.2.1 = .invokespecial idx) → r.2.2.2.2.2 = [0] → r.2.2.1 < 232 := by
        intro idx hi ht
        have okk := ok.2.2
        have okk : (match ML[r.2.2.2.2.1]? with
          | some r9 => decide (r9.1 = (md y).1 ∧ r9.2.1 = idx ∧ r9.2.2.2.1 = r.2.2.1 ∧ r.2.2.2.2.2 = [r9.2.2.2.2.2]) && decide (r9.2.2.2.2.2 = 0 → r.2.2.2.1 = (md r.2.2.1).2.2.2.2.2.2.2.1 ∧ r.2.2.1 < 232)
          | none => false) = true := by
          rcases hi with hi | hi | hi <;> rw [hi] at okk <;> exact okk
        cases hr : ML[r.2.2.2.2.1]? with
        | none => rw [hr] at okk; cases okk
        | some r9 =>
          rw [hr] at okk
          simp only [Bool.and_eq_true, decide_eq_true_eq] at okk
          refine (okk.2 ?_).2
          have := okk.1.2.2.2
          rw [ht] at this
          simpa using this.symm
      unfold invA at ha
      split at ha
      · rename_i e1 e2
        obtain ⟨-, ha⟩ := gd_inv ha
        exact key (lt _ (Or.inl (by assumption)) (by assumption)) ha
      · obtain ⟨_, _, _, _, _, _, -, ha⟩ := acp_inv ha
        obtain ⟨-, ha⟩ := gd_inv ha
        split at ha
        · obtain ⟨-, ha⟩ := gd_inv ha; cases ha
        · obtain ⟨-, ha⟩ := gd_inv ha; cases ha
      · obtain ⟨_, _, -, ha⟩ := pI_inv ha
        obtain ⟨_, _, -, ha⟩ := pI_inv ha
        obtain ⟨-, ha⟩ := gd_inv ha
        cases ha
      · obtain ⟨-, ha⟩ := gd_inv ha
        obtain ⟨_, _, -, ha⟩ := pR_inv ha
        obtain ⟨-, ha⟩ := gd_inv ha
        exact key (lt _ (Or.inr (Or.inl (by assumption))) (by assumption)) ha
      · obtain ⟨_, _, -, ha⟩ := pR_inv ha
        obtain ⟨-, ha⟩ := gd_inv ha
        obtain ⟨_, -, ha⟩ := g2_inv ha
        cases ha
      · obtain ⟨_, _, -, ha⟩ := pI_inv ha
        obtain ⟨_, _, -, ha⟩ := pR_inv ha
        obtain ⟨-, ha⟩ := gd_inv ha
        obtain ⟨_, -, ha⟩ := g2_inv ha
        obtain ⟨-, ha⟩ := gd_inv ha
        cases ha
      · obtain ⟨-, ha⟩ := gd_inv ha
        obtain ⟨_, _, -, ha⟩ := pR_inv ha
        exact key (lt _ (Or.inr (Or.inr (by assumption))) (by assumption)) ha
      · obtain ⟨_, _, -, ha⟩ := pR_inv ha
        obtain ⟨-, ha⟩ := gd_inv ha
        cases ha
      · cases ha
    · unfold retA at ha
      split at ha
      all_goals first
        | (cases ha; done)
        | (obtain ⟨-, ha⟩ := gd_inv ha; cases ha; done)
        | (obtain ⟨_, _, -, ha⟩ := pI_inv ha; cases ha; done)
        | (obtain ⟨_, _, -, ha⟩ := pJ_inv ha; cases ha; done)
        | (obtain ⟨_, _, -, -, ha⟩ := pV_inv ha; cases ha; done)
        | (obtain ⟨_, -, ha⟩ := g2_inv ha; cases ha; done)
        | (split at ha <;> cases ha; done)
        | (obtain ⟨_, -, ha⟩ := g2_inv ha; obtain ⟨-, ha⟩ := gd_inv ha; cases ha; done)
        | (obtain ⟨_, _, -, ha⟩ := pI_inv ha; obtain ⟨-, ha⟩ := gd_inv ha; cases ha; done)
        | (obtain ⟨_, _, -, ha⟩ := pJ_inv ha; obtain ⟨-, ha⟩ := gd_inv ha; cases ha; done)
        | (obtain ⟨_, _, -, ha⟩ := pR_inv ha; obtain ⟨-, ha⟩ := gd_inv ha; cases ha; done)
        | (obtain ⟨_, _, -, ha⟩ := pR_inv ha; obtain ⟨_, -, ha⟩ := g2_inv ha; cases ha; done)
        | (obtain ⟨_, _, -, -, ha⟩ := pV_inv ha; obtain ⟨_, _, -, -, ha⟩ := pV_inv ha; cases ha; done)
        | (obtain ⟨_, _, -, ha⟩ := pI_inv ha; obtain ⟨_, _, -, ha⟩ := pI_inv ha; cases ha; done)
        | (obtain ⟨_, _, -, ha⟩ := pI_inv ha; obtain ⟨_, _, -, ha⟩ := pJ_inv ha; cases ha; done)
        | (obtain ⟨_, _, -, ha⟩ := pJ_inv ha; obtain ⟨_, _, -, ha⟩ := pJ_inv ha; cases ha; done)
        | (obtain ⟨_, _, -, ha⟩ := pI_inv ha; obtain ⟨_, _, -, ha⟩ := pI_inv ha; obtain ⟨-, ha⟩ := gd_inv ha; cases ha; done)
        | (obtain ⟨_, _, -, ha⟩ := pJ_inv ha; obtain ⟨_, _, -, ha⟩ := pJ_inv ha; obtain ⟨-, ha⟩ := gd_inv ha; cases ha; done)
        | (obtain ⟨_, _, -, ha⟩ := pI_inv ha; obtain ⟨_, _, -, ha⟩ := pR_inv ha; obtain ⟨-, ha⟩ := gd_inv ha; cases ha; done)
        | (obtain ⟨_, _, -, ha⟩ := pR_inv ha; obtain ⟨_, _, -, ha⟩ := pR_inv ha; obtain ⟨-, ha⟩ := gd_inv ha; cases ha; done)
        | (obtain ⟨_, _, -, ha⟩ := pI_inv ha; obtain ⟨_, _, -, ha⟩ := pI_inv ha; obtain ⟨_, _, -, ha⟩ := pR_inv ha; obtain ⟨-, ha⟩ := gd_inv ha; cases ha; done)
        | (obtain ⟨_, _, -, ha⟩ := pJ_inv ha; obtain ⟨_, _, -, ha⟩ := pI_inv ha; obtain ⟨_, _, -, ha⟩ := pR_inv ha; obtain ⟨-, ha⟩ := gd_inv ha; cases ha; done)
        | (obtain ⟨_, _, -, ha⟩ := pR_inv ha; obtain ⟨_, _, -, ha⟩ := pI_inv ha; obtain ⟨_, _, -, ha⟩ := pR_inv ha; obtain ⟨-, ha⟩ := gd_inv ha; cases ha; done)
    · unfold fldA at ha
      split at ha
      all_goals first
        | (cases ha; done)
        | (obtain ⟨-, ha⟩ := gd_inv ha; cases ha; done)
        | (obtain ⟨_, _, -, ha⟩ := pI_inv ha; cases ha; done)
        | (obtain ⟨_, _, -, ha⟩ := pJ_inv ha; cases ha; done)
        | (obtain ⟨_, _, -, -, ha⟩ := pV_inv ha; cases ha; done)
        | (obtain ⟨_, -, ha⟩ := g2_inv ha; cases ha; done)
        | (split at ha <;> cases ha; done)
        | (obtain ⟨_, -, ha⟩ := g2_inv ha; obtain ⟨-, ha⟩ := gd_inv ha; cases ha; done)
        | (obtain ⟨_, _, -, ha⟩ := pI_inv ha; obtain ⟨-, ha⟩ := gd_inv ha; cases ha; done)
        | (obtain ⟨_, _, -, ha⟩ := pJ_inv ha; obtain ⟨-, ha⟩ := gd_inv ha; cases ha; done)
        | (obtain ⟨_, _, -, ha⟩ := pR_inv ha; obtain ⟨-, ha⟩ := gd_inv ha; cases ha; done)
        | (obtain ⟨_, _, -, ha⟩ := pR_inv ha; obtain ⟨_, -, ha⟩ := g2_inv ha; cases ha; done)
        | (obtain ⟨_, _, -, -, ha⟩ := pV_inv ha; obtain ⟨_, _, -, -, ha⟩ := pV_inv ha; cases ha; done)
        | (obtain ⟨_, _, -, ha⟩ := pI_inv ha; obtain ⟨_, _, -, ha⟩ := pI_inv ha; cases ha; done)
        | (obtain ⟨_, _, -, ha⟩ := pI_inv ha; obtain ⟨_, _, -, ha⟩ := pJ_inv ha; cases ha; done)
        | (obtain ⟨_, _, -, ha⟩ := pJ_inv ha; obtain ⟨_, _, -, ha⟩ := pJ_inv ha; cases ha; done)
        | (obtain ⟨_, _, -, ha⟩ := pI_inv ha; obtain ⟨_, _, -, ha⟩ := pI_inv ha; obtain ⟨-, ha⟩ := gd_inv ha; cases ha; done)
        | (obtain ⟨_, _, -, ha⟩ := pJ_inv ha; obtain ⟨_, _, -, ha⟩ := pJ_inv ha; obtain ⟨-, ha⟩ := gd_inv ha; cases ha; done)
        | (obtain ⟨_, _, -, ha⟩ := pI_inv ha; obtain ⟨_, _, -, ha⟩ := pR_inv ha; obtain ⟨-, ha⟩ := gd_inv ha; cases ha; done)
        | (obtain ⟨_, _, -, ha⟩ := pR_inv ha; obtain ⟨_, _, -, ha⟩ := pR_inv ha; obtain ⟨-, ha⟩ := gd_inv ha; cases ha; done)
        | (obtain ⟨_, _, -, ha⟩ := pI_inv ha; obtain ⟨_, _, -, ha⟩ := pI_inv ha; obtain ⟨_, _, -, ha⟩ := pR_inv ha; obtain ⟨-, ha⟩ := gd_inv ha; cases ha; done)
        | (obtain ⟨_, _, -, ha⟩ := pJ_inv ha; obtain ⟨_, _, -, ha⟩ := pI_inv ha; obtain ⟨_, _, -, ha⟩ := pR_inv ha; obtain ⟨-, ha⟩ := gd_inv ha; cases ha; done)
        | (obtain ⟨_, _, -, ha⟩ := pR_inv ha; obtain ⟨_, _, -, ha⟩ := pI_inv ha; obtain ⟨_, _, -, ha⟩ := pR_inv ha; obtain ⟨-, ha⟩ := gd_inv ha; cases ha; done)
    · unfold arrA at ha
      split at ha
      all_goals first
        | (cases ha; done)
        | (obtain ⟨-, ha⟩ := gd_inv ha; cases ha; done)
        | (obtain ⟨_, _, -, ha⟩ := pI_inv ha; cases ha; done)
        | (obtain ⟨_, _, -, ha⟩ := pJ_inv ha; cases ha; done)
        | (obtain ⟨_, _, -, -, ha⟩ := pV_inv ha; cases ha; done)
        | (obtain ⟨_, -, ha⟩ := g2_inv ha; cases ha; done)
        | (split at ha <;> cases ha; done)
        | (obtain ⟨_, -, ha⟩ := g2_inv ha; obtain ⟨-, ha⟩ := gd_inv ha; cases ha; done)
        | (obtain ⟨_, _, -, ha⟩ := pI_inv ha; obtain ⟨-, ha⟩ := gd_inv ha; cases ha; done)
        | (obtain ⟨_, _, -, ha⟩ := pJ_inv ha; obtain ⟨-, ha⟩ := gd_inv ha; cases ha; done)
        | (obtain ⟨_, _, -, ha⟩ := pR_inv ha; obtain ⟨-, ha⟩ := gd_inv ha; cases ha; done)
        | (obtain ⟨_, _, -, ha⟩ := pR_inv ha; obtain ⟨_, -, ha⟩ := g2_inv ha; cases ha; done)
        | (obtain ⟨_, _, -, -, ha⟩ := pV_inv ha; obtain ⟨_, _, -, -, ha⟩ := pV_inv ha; cases ha; done)
        | (obtain ⟨_, _, -, ha⟩ := pI_inv ha; obtain ⟨_, _, -, ha⟩ := pI_inv ha; cases ha; done)
        | (obtain ⟨_, _, -, ha⟩ := pI_inv ha; obtain ⟨_, _, -, ha⟩ := pJ_inv ha; cases ha; done)
        | (obtain ⟨_, _, -, ha⟩ := pJ_inv ha; obtain ⟨_, _, -, ha⟩ := pJ_inv ha; cases ha; done)
        | (obtain ⟨_, _, -, ha⟩ := pI_inv ha; obtain ⟨_, _, -, ha⟩ := pI_inv ha; obtain ⟨-, ha⟩ := gd_inv ha; cases ha; done)
        | (obtain ⟨_, _, -, ha⟩ := pJ_inv ha; obtain ⟨_, _, -, ha⟩ := pJ_inv ha; obtain ⟨-, ha⟩ := gd_inv ha; cases ha; done)
        | (obtain ⟨_, _, -, ha⟩ := pI_inv ha; obtain ⟨_, _, -, ha⟩ := pR_inv ha; obtain ⟨-, ha⟩ := gd_inv ha; cases ha; done)
        | (obtain ⟨_, _, -, ha⟩ := pR_inv ha; obtain ⟨_, _, -, ha⟩ := pR_inv ha; obtain ⟨-, ha⟩ := gd_inv ha; cases ha; done)
        | (obtain ⟨_, _, -, ha⟩ := pI_inv ha; obtain ⟨_, _, -, ha⟩ := pI_inv ha; obtain ⟨_, _, -, ha⟩ := pR_inv ha; obtain ⟨-, ha⟩ := gd_inv ha; cases ha; done)
        | (obtain ⟨_, _, -, ha⟩ := pJ_inv ha; obtain ⟨_, _, -, ha⟩ := pI_inv ha; obtain ⟨_, _, -, ha⟩ := pR_inv ha; obtain ⟨-, ha⟩ := gd_inv ha; cases ha; done)
        | (obtain ⟨_, _, -, ha⟩ := pR_inv ha; obtain ⟨_, _, -, ha⟩ := pI_inv ha; obtain ⟨_, _, -, ha⟩ := pR_inv ha; obtain ⟨-, ha⟩ := gd_inv ha; cases ha; done)
    · unfold newA at ha
      split at ha
      all_goals first
        | (cases ha; done)
        | (obtain ⟨-, ha⟩ := gd_inv ha; cases ha; done)
        | (obtain ⟨_, _, -, ha⟩ := pI_inv ha; cases ha; done)
        | (obtain ⟨_, _, -, ha⟩ := pJ_inv ha; cases ha; done)
        | (obtain ⟨_, _, -, -, ha⟩ := pV_inv ha; cases ha; done)
        | (obtain ⟨_, -, ha⟩ := g2_inv ha; cases ha; done)
        | (split at ha <;> cases ha; done)
        | (obtain ⟨_, -, ha⟩ := g2_inv ha; obtain ⟨-, ha⟩ := gd_inv ha; cases ha; done)
        | (obtain ⟨_, _, -, ha⟩ := pI_inv ha; obtain ⟨-, ha⟩ := gd_inv ha; cases ha; done)
        | (obtain ⟨_, _, -, ha⟩ := pJ_inv ha; obtain ⟨-, ha⟩ := gd_inv ha; cases ha; done)
        | (obtain ⟨_, _, -, ha⟩ := pR_inv ha; obtain ⟨-, ha⟩ := gd_inv ha; cases ha; done)
        | (obtain ⟨_, _, -, ha⟩ := pR_inv ha; obtain ⟨_, -, ha⟩ := g2_inv ha; cases ha; done)
        | (obtain ⟨_, _, -, -, ha⟩ := pV_inv ha; obtain ⟨_, _, -, -, ha⟩ := pV_inv ha; cases ha; done)
        | (obtain ⟨_, _, -, ha⟩ := pI_inv ha; obtain ⟨_, _, -, ha⟩ := pI_inv ha; cases ha; done)
        | (obtain ⟨_, _, -, ha⟩ := pI_inv ha; obtain ⟨_, _, -, ha⟩ := pJ_inv ha; cases ha; done)
        | (obtain ⟨_, _, -, ha⟩ := pJ_inv ha; obtain ⟨_, _, -, ha⟩ := pJ_inv ha; cases ha; done)
        | (obtain ⟨_, _, -, ha⟩ := pI_inv ha; obtain ⟨_, _, -, ha⟩ := pI_inv ha; obtain ⟨-, ha⟩ := gd_inv ha; cases ha; done)
        | (obtain ⟨_, _, -, ha⟩ := pJ_inv ha; obtain ⟨_, _, -, ha⟩ := pJ_inv ha; obtain ⟨-, ha⟩ := gd_inv ha; cases ha; done)
        | (obtain ⟨_, _, -, ha⟩ := pI_inv ha; obtain ⟨_, _, -, ha⟩ := pR_inv ha; obtain ⟨-, ha⟩ := gd_inv ha; cases ha; done)
        | (obtain ⟨_, _, -, ha⟩ := pR_inv ha; obtain ⟨_, _, -, ha⟩ := pR_inv ha; obtain ⟨-, ha⟩ := gd_inv ha; cases ha; done)
        | (obtain ⟨_, _, -, ha⟩ := pI_inv ha; obtain ⟨_, _, -, ha⟩ := pI_inv ha; obtain ⟨_, _, -, ha⟩ := pR_inv ha; obtain ⟨-, ha⟩ := gd_inv ha; cases ha; done)
        | (obtain ⟨_, _, -, ha⟩ := pJ_inv ha; obtain ⟨_, _, -, ha⟩ := pI_inv ha; obtain ⟨_, _, -, ha⟩ := pR_inv ha; obtain ⟨-, ha⟩ := gd_inv ha; cases ha; done)
        | (obtain ⟨_, _, -, ha⟩ := pR_inv ha; obtain ⟨_, _, -, ha⟩ := pI_inv ha; obtain ⟨_, _, -, ha⟩ := pR_inv ha; obtain ⟨-, ha⟩ := gd_inv ha; cases ha; done)
    · unfold locA at ha
      split at ha
      all_goals first
        | (cases ha; done)
        | (obtain ⟨-, ha⟩ := gd_inv ha; cases ha; done)
        | (obtain ⟨_, _, -, ha⟩ := pI_inv ha; cases ha; done)
        | (obtain ⟨_, _, -, ha⟩ := pJ_inv ha; cases ha; done)
        | (obtain ⟨_, _, -, -, ha⟩ := pV_inv ha; cases ha; done)
        | (obtain ⟨_, -, ha⟩ := g2_inv ha; cases ha; done)
        | (split at ha <;> cases ha; done)
        | (obtain ⟨_, -, ha⟩ := g2_inv ha; obtain ⟨-, ha⟩ := gd_inv ha; cases ha; done)
        | (obtain ⟨_, _, -, ha⟩ := pI_inv ha; obtain ⟨-, ha⟩ := gd_inv ha; cases ha; done)
        | (obtain ⟨_, _, -, ha⟩ := pJ_inv ha; obtain ⟨-, ha⟩ := gd_inv ha; cases ha; done)
        | (obtain ⟨_, _, -, ha⟩ := pR_inv ha; obtain ⟨-, ha⟩ := gd_inv ha; cases ha; done)
        | (obtain ⟨_, _, -, ha⟩ := pR_inv ha; obtain ⟨_, -, ha⟩ := g2_inv ha; cases ha; done)
        | (obtain ⟨_, _, -, -, ha⟩ := pV_inv ha; obtain ⟨_, _, -, -, ha⟩ := pV_inv ha; cases ha; done)
        | (obtain ⟨_, _, -, ha⟩ := pI_inv ha; obtain ⟨_, _, -, ha⟩ := pI_inv ha; cases ha; done)
        | (obtain ⟨_, _, -, ha⟩ := pI_inv ha; obtain ⟨_, _, -, ha⟩ := pJ_inv ha; cases ha; done)
        | (obtain ⟨_, _, -, ha⟩ := pJ_inv ha; obtain ⟨_, _, -, ha⟩ := pJ_inv ha; cases ha; done)
        | (obtain ⟨_, _, -, ha⟩ := pI_inv ha; obtain ⟨_, _, -, ha⟩ := pI_inv ha; obtain ⟨-, ha⟩ := gd_inv ha; cases ha; done)
        | (obtain ⟨_, _, -, ha⟩ := pJ_inv ha; obtain ⟨_, _, -, ha⟩ := pJ_inv ha; obtain ⟨-, ha⟩ := gd_inv ha; cases ha; done)
        | (obtain ⟨_, _, -, ha⟩ := pI_inv ha; obtain ⟨_, _, -, ha⟩ := pR_inv ha; obtain ⟨-, ha⟩ := gd_inv ha; cases ha; done)
        | (obtain ⟨_, _, -, ha⟩ := pR_inv ha; obtain ⟨_, _, -, ha⟩ := pR_inv ha; obtain ⟨-, ha⟩ := gd_inv ha; cases ha; done)
        | (obtain ⟨_, _, -, ha⟩ := pI_inv ha; obtain ⟨_, _, -, ha⟩ := pI_inv ha; obtain ⟨_, _, -, ha⟩ := pR_inv ha; obtain ⟨-, ha⟩ := gd_inv ha; cases ha; done)
        | (obtain ⟨_, _, -, ha⟩ := pJ_inv ha; obtain ⟨_, _, -, ha⟩ := pI_inv ha; obtain ⟨_, _, -, ha⟩ := pR_inv ha; obtain ⟨-, ha⟩ := gd_inv ha; cases ha; done)
        | (obtain ⟨_, _, -, ha⟩ := pR_inv ha; obtain ⟨_, _, -, ha⟩ := pI_inv ha; obtain ⟨_, _, -, ha⟩ := pR_inv ha; obtain ⟨-, ha⟩ := gd_inv ha; cases ha; done)
    · unfold stkA at ha
      split at ha
      all_goals first
        | (cases ha; done)
        | (obtain ⟨-, ha⟩ := gd_inv ha; cases ha; done)
        | (obtain ⟨_, _, -, ha⟩ := pI_inv ha; cases ha; done)
        | (obtain ⟨_, _, -, ha⟩ := pJ_inv ha; cases ha; done)
        | (obtain ⟨_, _, -, -, ha⟩ := pV_inv ha; cases ha; done)
        | (obtain ⟨_, -, ha⟩ := g2_inv ha; cases ha; done)
        | (split at ha <;> cases ha; done)
        | (obtain ⟨_, -, ha⟩ := g2_inv ha; obtain ⟨-, ha⟩ := gd_inv ha; cases ha; done)
        | (obtain ⟨_, _, -, ha⟩ := pI_inv ha; obtain ⟨-, ha⟩ := gd_inv ha; cases ha; done)
        | (obtain ⟨_, _, -, ha⟩ := pJ_inv ha; obtain ⟨-, ha⟩ := gd_inv ha; cases ha; done)
        | (obtain ⟨_, _, -, ha⟩ := pR_inv ha; obtain ⟨-, ha⟩ := gd_inv ha; cases ha; done)
        | (obtain ⟨_, _, -, ha⟩ := pR_inv ha; obtain ⟨_, -, ha⟩ := g2_inv ha; cases ha; done)
        | (obtain ⟨_, _, -, -, ha⟩ := pV_inv ha; obtain ⟨_, _, -, -, ha⟩ := pV_inv ha; cases ha; done)
        | (obtain ⟨_, _, -, ha⟩ := pI_inv ha; obtain ⟨_, _, -, ha⟩ := pI_inv ha; cases ha; done)
        | (obtain ⟨_, _, -, ha⟩ := pI_inv ha; obtain ⟨_, _, -, ha⟩ := pJ_inv ha; cases ha; done)
        | (obtain ⟨_, _, -, ha⟩ := pJ_inv ha; obtain ⟨_, _, -, ha⟩ := pJ_inv ha; cases ha; done)
        | (obtain ⟨_, _, -, ha⟩ := pI_inv ha; obtain ⟨_, _, -, ha⟩ := pI_inv ha; obtain ⟨-, ha⟩ := gd_inv ha; cases ha; done)
        | (obtain ⟨_, _, -, ha⟩ := pJ_inv ha; obtain ⟨_, _, -, ha⟩ := pJ_inv ha; obtain ⟨-, ha⟩ := gd_inv ha; cases ha; done)
        | (obtain ⟨_, _, -, ha⟩ := pI_inv ha; obtain ⟨_, _, -, ha⟩ := pR_inv ha; obtain ⟨-, ha⟩ := gd_inv ha; cases ha; done)
        | (obtain ⟨_, _, -, ha⟩ := pR_inv ha; obtain ⟨_, _, -, ha⟩ := pR_inv ha; obtain ⟨-, ha⟩ := gd_inv ha; cases ha; done)
        | (obtain ⟨_, _, -, ha⟩ := pI_inv ha; obtain ⟨_, _, -, ha⟩ := pI_inv ha; obtain ⟨_, _, -, ha⟩ := pR_inv ha; obtain ⟨-, ha⟩ := gd_inv ha; cases ha; done)
        | (obtain ⟨_, _, -, ha⟩ := pJ_inv ha; obtain ⟨_, _, -, ha⟩ := pI_inv ha; obtain ⟨_, _, -, ha⟩ := pR_inv ha; obtain ⟨-, ha⟩ := gd_inv ha; cases ha; done)
        | (obtain ⟨_, _, -, ha⟩ := pR_inv ha; obtain ⟨_, _, -, ha⟩ := pI_inv ha; obtain ⟨_, _, -, ha⟩ := pR_inv ha; obtain ⟨-, ha⟩ := gd_inv ha; cases ha; done)
    · unfold jmpA at ha
      split at ha
      all_goals first
        | (cases ha; done)
        | (obtain ⟨-, ha⟩ := gd_inv ha; cases ha; done)
        | (obtain ⟨_, _, -, ha⟩ := pI_inv ha; cases ha; done)
        | (obtain ⟨_, _, -, ha⟩ := pJ_inv ha; cases ha; done)
        | (obtain ⟨_, _, -, -, ha⟩ := pV_inv ha; cases ha; done)
        | (obtain ⟨_, -, ha⟩ := g2_inv ha; cases ha; done)
        | (split at ha <;> cases ha; done)
        | (obtain ⟨_, -, ha⟩ := g2_inv ha; obtain ⟨-, ha⟩ := gd_inv ha; cases ha; done)
        | (obtain ⟨_, _, -, ha⟩ := pI_inv ha; obtain ⟨-, ha⟩ := gd_inv ha; cases ha; done)
        | (obtain ⟨_, _, -, ha⟩ := pJ_inv ha; obtain ⟨-, ha⟩ := gd_inv ha; cases ha; done)
        | (obtain ⟨_, _, -, ha⟩ := pR_inv ha; obtain ⟨-, ha⟩ := gd_inv ha; cases ha; done)
        | (obtain ⟨_, _, -, ha⟩ := pR_inv ha; obtain ⟨_, -, ha⟩ := g2_inv ha; cases ha; done)
        | (obtain ⟨_, _, -, -, ha⟩ := pV_inv ha; obtain ⟨_, _, -, -, ha⟩ := pV_inv ha; cases ha; done)
        | (obtain ⟨_, _, -, ha⟩ := pI_inv ha; obtain ⟨_, _, -, ha⟩ := pI_inv ha; cases ha; done)
        | (obtain ⟨_, _, -, ha⟩ := pI_inv ha; obtain ⟨_, _, -, ha⟩ := pJ_inv ha; cases ha; done)
        | (obtain ⟨_, _, -, ha⟩ := pJ_inv ha; obtain ⟨_, _, -, ha⟩ := pJ_inv ha; cases ha; done)
        | (obtain ⟨_, _, -, ha⟩ := pI_inv ha; obtain ⟨_, _, -, ha⟩ := pI_inv ha; obtain ⟨-, ha⟩ := gd_inv ha; cases ha; done)
        | (obtain ⟨_, _, -, ha⟩ := pJ_inv ha; obtain ⟨_, _, -, ha⟩ := pJ_inv ha; obtain ⟨-, ha⟩ := gd_inv ha; cases ha; done)
        | (obtain ⟨_, _, -, ha⟩ := pI_inv ha; obtain ⟨_, _, -, ha⟩ := pR_inv ha; obtain ⟨-, ha⟩ := gd_inv ha; cases ha; done)
        | (obtain ⟨_, _, -, ha⟩ := pR_inv ha; obtain ⟨_, _, -, ha⟩ := pR_inv ha; obtain ⟨-, ha⟩ := gd_inv ha; cases ha; done)
        | (obtain ⟨_, _, -, ha⟩ := pI_inv ha; obtain ⟨_, _, -, ha⟩ := pI_inv ha; obtain ⟨_, _, -, ha⟩ := pR_inv ha; obtain ⟨-, ha⟩ := gd_inv ha; cases ha; done)
        | (obtain ⟨_, _, -, ha⟩ := pJ_inv ha; obtain ⟨_, _, -, ha⟩ := pI_inv ha; obtain ⟨_, _, -, ha⟩ := pR_inv ha; obtain ⟨-, ha⟩ := gd_inv ha; cases ha; done)
        | (obtain ⟨_, _, -, ha⟩ := pR_inv ha; obtain ⟨_, _, -, ha⟩ := pI_inv ha; obtain ⟨_, _, -, ha⟩ := pR_inv ha; obtain ⟨-, ha⟩ := gd_inv ha; cases ha; done)
    · unfold binA at ha
      split at ha
      all_goals first
        | (cases ha; done)
        | (obtain ⟨-, ha⟩ := gd_inv ha; cases ha; done)
        | (obtain ⟨_, _, -, ha⟩ := pI_inv ha; cases ha; done)
        | (obtain ⟨_, _, -, ha⟩ := pJ_inv ha; cases ha; done)
        | (obtain ⟨_, _, -, -, ha⟩ := pV_inv ha; cases ha; done)
        | (obtain ⟨_, -, ha⟩ := g2_inv ha; cases ha; done)
        | (split at ha <;> cases ha; done)
        | (obtain ⟨_, -, ha⟩ := g2_inv ha; obtain ⟨-, ha⟩ := gd_inv ha; cases ha; done)
        | (obtain ⟨_, _, -, ha⟩ := pI_inv ha; obtain ⟨-, ha⟩ := gd_inv ha; cases ha; done)
        | (obtain ⟨_, _, -, ha⟩ := pJ_inv ha; obtain ⟨-, ha⟩ := gd_inv ha; cases ha; done)
        | (obtain ⟨_, _, -, ha⟩ := pR_inv ha; obtain ⟨-, ha⟩ := gd_inv ha; cases ha; done)
        | (obtain ⟨_, _, -, ha⟩ := pR_inv ha; obtain ⟨_, -, ha⟩ := g2_inv ha; cases ha; done)
        | (obtain ⟨_, _, -, -, ha⟩ := pV_inv ha; obtain ⟨_, _, -, -, ha⟩ := pV_inv ha; cases ha; done)
        | (obtain ⟨_, _, -, ha⟩ := pI_inv ha; obtain ⟨_, _, -, ha⟩ := pI_inv ha; cases ha; done)
        | (obtain ⟨_, _, -, ha⟩ := pI_inv ha; obtain ⟨_, _, -, ha⟩ := pJ_inv ha; cases ha; done)
        | (obtain ⟨_, _, -, ha⟩ := pJ_inv ha; obtain ⟨_, _, -, ha⟩ := pJ_inv ha; cases ha; done)
        | (obtain ⟨_, _, -, ha⟩ := pI_inv ha; obtain ⟨_, _, -, ha⟩ := pI_inv ha; obtain ⟨-, ha⟩ := gd_inv ha; cases ha; done)
        | (obtain ⟨_, _, -, ha⟩ := pJ_inv ha; obtain ⟨_, _, -, ha⟩ := pJ_inv ha; obtain ⟨-, ha⟩ := gd_inv ha; cases ha; done)
        | (obtain ⟨_, _, -, ha⟩ := pI_inv ha; obtain ⟨_, _, -, ha⟩ := pR_inv ha; obtain ⟨-, ha⟩ := gd_inv ha; cases ha; done)
        | (obtain ⟨_, _, -, ha⟩ := pR_inv ha; obtain ⟨_, _, -, ha⟩ := pR_inv ha; obtain ⟨-, ha⟩ := gd_inv ha; cases ha; done)
        | (obtain ⟨_, _, -, ha⟩ := pI_inv ha; obtain ⟨_, _, -, ha⟩ := pI_inv ha; obtain ⟨_, _, -, ha⟩ := pR_inv ha; obtain ⟨-, ha⟩ := gd_inv ha; cases ha; done)
        | (obtain ⟨_, _, -, ha⟩ := pJ_inv ha; obtain ⟨_, _, -, ha⟩ := pI_inv ha; obtain ⟨_, _, -, ha⟩ := pR_inv ha; obtain ⟨-, ha⟩ := gd_inv ha; cases ha; done)
        | (obtain ⟨_, _, -, ha⟩ := pR_inv ha; obtain ⟨_, _, -, ha⟩ := pI_inv ha; obtain ⟨_, _, -, ha⟩ := pR_inv ha; obtain ⟨-, ha⟩ := gd_inv ha; cases ha; done)
  · cases ha
/-- a method meets its contract, where the walk of its body does -/
theorem met_of {l : Launch} {D : va_G} {HB : Heap} {K0 : Nat → Nat} {X0 : Nat → Option (List Int32)} {z d : Nat} {as : List Value} {h : AH} {r : RR} (hz : z < 232) (ha1 : (as.flatMap lay1).length ≤ (md z).2.2.2.2.1) (ha2 : enOK z (enL (md z).2.2.2.2.1 as) 0 = true) (hK0 : hK h = K0) (hX0 : hX h = X0) (hext : ext h r.2)
    (IH : ∀ {p : Program} {e : Env} {R : Room} {s : State} {m : MethodId} {args : Array Value} {below : List Frame} {meth : Method} {c : Code} {Q : State → Prop} {hb ub : Nat}, FC p R s m meth c D HB K0 X0 z d → hN r.2 ≤ R.cells + hb → hU r.2 ≤ R.slots + ub → FinAt p l e R s m args below meth c Q D HB K0 X0 hb ub z r → SimAt p l e R s m args below meth c Q D HB K0 X0 hb ub z 0 (enL (md z).2.2.2.2.1 as) [] h) : CM l D HB K0 X0 z d as h r := by
  refine Met.ofW (cc := (md z).2.2.2.1) (maxL := (md z).2.2.2.2.1) (ret := (md z).2.2.2.2.2.1) (yF (Nat.lt_succ_of_lt hz)).2.1 rfl ?_
  intro p e s m args below meth c s₁ B hml hv
  obtain ⟨rfl, hR, hE⟩ := hv
  have F : FC p (rmZ d h r.2) s m meth c D HB K0 X0 z d := ⟨B.exec, B.bytes, B.returns, hml, findClass_of_methodNamed B.named, B.notSynchronized, (name_of_methodNamed B.named B.method).1, hE, Nat.le_refl _, Nat.le_refl _⟩
  rw [lg_entry_eq]
  have hp0 : pcOf z 0 = 0 := of_decide_eq_true (List.all_eq_true.mp pc0 z (List.mem_range.mpr (Nat.lt_succ_of_lt hz)))
  have k := IH (R := rmZ d h r.2) (e := e) (below := below) (args := as.toArray) (Q := MQ below (QcZ D HB r) as.toArray s (hN r.2 - hN h) (hU r.2 - hU h) (fun q => HB.size ≤ q)) (hb := hN h) (ub := hU h) F (by show hN r.2 ≤ hN r.2 - hN h + hN h; have := hext.1; omega) (by show hU r.2 ≤ hU r.2 - hU h + hU h; have := hext.2.1; omega) ?_ _ s.heap [] 0 0 (lrel_en ha1 ha2) ⟨hR, hK0, hX0, (fun x hx => absurd hx List.not_mem_nil), Nat.zero_add _, Nat.zero_add _⟩
  · rw [hp0] at k
    exact k
  · intro pc ls st H locs cells slots hA i dg hret
    have ec : cells = hN r.2 - hN h := by have := hA.2.2.2.2.1; omega
    have es : slots = hU r.2 - hU h := by have := hA.2.2.2.2.2; omega
    subst ec es
    have hq : ∀ t : State, t.heap = H → s.WarmedH t.vm → QcZ D HB r as.toArray s (.returned r.1) t := fun t ht hW => ⟨rfl, by rw [ht]; exact hA.1.moved hW.alike⟩
    obtain ⟨rv, rh⟩ := r
    dsimp only at hret
    unfold retA at hret
    split at hret
    · rename_i v e1
      cases hret
      exact W.iret F.1 F.2.1 (F.2.2.1.trans e1) hq hA.2.2.2.1 dg F.2.2.2.2.2.1
    · rename_i v e1
      obtain ⟨h01, hret⟩ := gd_inv hret
      cases hret
      exact W.zret F.1 F.2.1 (F.2.2.1.trans e1) (by rcases h01 with z | z <;> rw [z] <;> decide) hq hA.2.2.2.1 dg F.2.2.2.2.2.1
    · rename_i v e1
      cases hret
      exact W.lret F.1 F.2.1 (F.2.2.1.trans e1) hq hA.2.2.2.1 dg F.2.2.2.2.2.1
    · rename_i n v e1
      cases hret
      exact W.aret F.1 F.2.1 (F.2.2.1.trans e1) (Or.inl ⟨_, rfl⟩) (Or.inr ⟨_, rfl⟩) hq hA.2.2.2.1 dg F.2.2.2.2.2.1
    · rename_i e1
      cases hret
      exact W.vret F.1 F.2.1 (F.2.2.1.trans e1) hq hA.2.2.2.1 dg F.2.2.2.2.2.1
    · cases hret
/-- THE WHOLE: what the abstract machine comes to, the real one comes to -/
theorem sim_all {l : Launch} {D : va_G} {HB : Heap} {K0 : Nat → Nat} {X0 : Nat → Option (List Int32)} (SO : StrOps l) : ∀ (n d y ix : Nat) (L : LL) (st : List Value) (h : AH) (r : RR), run n d y ix L st h = some r → hK h = K0 → hX h = X0 → ∀ {p : Program} {e : Env} {R : Room} {s : State} {m : MethodId} {args : Array Value} {below : List Frame} {meth : Method} {c : Code} {Q : State → Prop} {hb ub : Nat}, FC p R s m meth c D HB K0 X0 y d → hN r.2 ≤ R.cells + hb → hU r.2 ≤ R.slots + ub → FinAt p l e R s m args below meth c Q D HB K0 X0 hb ub y r → SimAt p l e R s m args below meth c Q D HB K0 X0 hb ub y ix L st h := by
  intro n
  induction n with
  | zero => intro d y ix L st h r hr; cases hr
  | succ n ih =>
    intro d y ix L st h r hr hK0 hX0 p e R s m args below meth c Q hb ub F hc hs hfin
    have hx := run_ext hr
    have hroom : hN h ≤ R.cells + hb ∧ hU h ≤ R.slots + ub := ⟨Nat.le_trans hx.1 hc, Nat.le_trans hx.2.1 hs⟩
    have hr : stepE (run n) d y ix L st h = some r := hr
    unfold stepE at hr
    split at hr
    · cases hr
    · rename_i q hq
      have h1 := stepA_ext hq
      have h2 := run_ext hr
      exact sim_step SO F (fun _ => ok_all) hq ⟨ih _ _ _ _ _ _ _ hr (h1.2.2.1.trans hK0) (h1.2.2.2.trans hX0) F hc hs hfin, Nat.le_trans h2.1 hc, Nat.le_trans h2.2.1 hs⟩ hroom
    · rename_i q hq
      split at hr
      · cases hr
      · rename_i d' _
        obtain ⟨r1, h1, h2⟩ := Option.bind_eq_some_iff.mp hr
        obtain ⟨c1, c2, c3, c4⟩ := call_args hq
        have x1 := run_ext h1
        have x2 := run_ext h2
        rw [c2] at h1
        refine sim_step SO F (fun _ => ok_all) hq ⟨d', r1, rfl, met_of c1 c3 c4 hK0 hX0 x1 (fun F2 => ih _ _ _ _ _ _ _ h1 hK0 hX0 F2), x1, Nat.le_trans x2.1 hc, Nat.le_trans x2.2.1 hs, ih _ _ _ _ _ _ _ h2 (x1.2.2.1.trans hK0) (x1.2.2.2.trans hX0) F hc hs hfin⟩ hroom
    · rename_i q hq
      cases hr
      exact sim_step SO F (fun _ => ok_all) hq hfin hroom

