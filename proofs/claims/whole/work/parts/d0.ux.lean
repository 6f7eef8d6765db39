/-! STRING'S length AND charAt, from their bytecode -/
abbrev yj_len : MethodName := ⟨"java/lang/String", "length", "()I"⟩
abbrev yj_coder : MethodName := ⟨"java/lang/String", "coder", "()B"⟩
abbrev yj_chr : MethodName := ⟨"java/lang/String", "charAt", "(I)C"⟩
abbrev yj_lat : MethodName := ⟨"java/lang/String", "isLatin1", "()Z"⟩
abbrev yj_l1c : MethodName := ⟨"java/lang/StringLatin1", "charAt", "([BI)C"⟩
abbrev yj_chk : MethodName := ⟨"java/lang/String", "checkIndex", "(II)V"⟩
abbrev yj_pre : MethodName := ⟨"jdk/internal/util/Preconditions", "checkIndex", "(IILjava/util/function/BiFunction;)I"⟩
theorem jw_118 : lw_tbl[118]? = some (.initialized "java/lang/String") := by decide +kernel
theorem jw_119 : lw_tbl[119]? = some (.initialized "java/lang/StringLatin1") := by decide +kernel
theorem jw_120 : lw_tbl[120]? = some (.initialized "jdk/internal/util/Preconditions") := by decide +kernel
theorem jw_510 : lw_tbl[511]? = some (.instanceMethod yj_len) := by decide +kernel
theorem jw_511 : lw_tbl[512]? = some (.selects "java/lang/String" yj_len yj_len) := by decide +kernel
theorem jw_512 : lw_tbl[513]? = some (.code yj_len prog_13_method_54_code 1 (some .int)) := by decide +kernel
theorem jw_513 : lw_tbl[514]? = some (.methodLink "java/lang/String" 335 yj_coder) := by decide +kernel
theorem jw_514 : lw_tbl[515]? = some (.instanceMethod yj_coder) := by decide +kernel
theorem jw_515 : lw_tbl[516]? = some (.selects "java/lang/String" yj_coder yj_coder) := by decide +kernel
theorem jw_516 : lw_tbl[517]? = some (.code yj_coder prog_13_method_152_code 1 (some .byte)) := by decide +kernel
theorem jw_517 : lw_tbl[518]? = some (.fieldLink "java/lang/String" 38 "java/lang/String" "COMPACT_STRINGS" "Z") := by decide +kernel
theorem jw_520 : lw_tbl[521]? = some (.instanceMethod yj_chr) := by decide +kernel
theorem jw_521 : lw_tbl[522]? = some (.selects "java/lang/String" yj_chr yj_chr) := by decide +kernel
theorem jw_522 : lw_tbl[523]? = some (.code yj_chr prog_13_method_56_code 2 (some .char)) := by decide +kernel
theorem jw_523 : lw_tbl[524]? = some (.methodLink "java/lang/String" 492 yj_lat) := by decide +kernel
theorem jw_524 : lw_tbl[525]? = some (.instanceMethod yj_lat) := by decide +kernel
theorem jw_525 : lw_tbl[526]? = some (.selects "java/lang/String" yj_lat yj_lat) := by decide +kernel
theorem jw_526 : lw_tbl[527]? = some (.code yj_lat prog_13_method_154_code 1 (some .boolean)) := by decide +kernel
theorem jw_527 : lw_tbl[528]? = some (.methodLink "java/lang/String" 495 yj_l1c) := by decide +kernel
theorem jw_528 : lw_tbl[529]? = some (.static yj_l1c) := by decide +kernel
theorem jw_529 : lw_tbl[530]? = some (.code yj_l1c prog_14_method_2_code 2 (some .char)) := by decide +kernel
theorem jw_530 : lw_tbl[531]? = some (.methodLink "java/lang/StringLatin1" 9 yj_chk) := by decide +kernel
theorem jw_531 : lw_tbl[532]? = some (.static yj_chk) := by decide +kernel
theorem jw_532 : lw_tbl[533]? = some (.code yj_chk prog_13_method_155_code 2 none) := by decide +kernel
theorem jw_533 : lw_tbl[534]? = some (.fieldLink "java/lang/String" 1053 "jdk/internal/util/Preconditions" "SIOOBE_FORMATTER" "Ljava/util/function/BiFunction;") := by decide +kernel
theorem jw_535 : lw_tbl[536]? = some (.methodLink "java/lang/String" 1059 yj_pre) := by decide +kernel
theorem jw_536 : lw_tbl[537]? = some (.static yj_pre) := by decide +kernel
theorem jw_537 : lw_tbl[538]? = some (.code yj_pre prog_17_method_11_code 3 (some .int)) := by decide +kernel
theorem jw_1435 : lw_tbl[1439]? = some (.fieldLink "java/lang/String" 9 "java/lang/String" "value" "[B") := by decide +kernel
theorem jw_1436 : lw_tbl[1440]? = some (.fieldLink "java/lang/String" 15 "java/lang/String" "coder" "B") := by decide +kernel
theorem dj_coder_0 : decode prog_13_method_152_code 0 = .ok (.getstatic 38, 3) := by decide +kernel
theorem dj_coder_3 : decode prog_13_method_152_code 3 = .ok (.ifCond .eq 10, 3) := by decide +kernel
theorem dj_coder_6 : decode prog_13_method_152_code 6 = .ok (.aload_n 0, 1) := by decide +kernel
theorem dj_coder_7 : decode prog_13_method_152_code 7 = .ok (.getfield 15, 3) := by decide +kernel
theorem dj_coder_10 : decode prog_13_method_152_code 10 = .ok (.goto 4, 3) := by decide +kernel
theorem dj_coder_14 : decode prog_13_method_152_code 14 = .ok (.ireturn, 1) := by decide +kernel
theorem dj_len_0 : decode prog_13_method_54_code 0 = .ok (.aload_n 0, 1) := by decide +kernel
theorem dj_len_1 : decode prog_13_method_54_code 1 = .ok (.getfield 9, 3) := by decide +kernel
theorem dj_len_4 : decode prog_13_method_54_code 4 = .ok (.arraylength, 1) := by decide +kernel
theorem dj_len_5 : decode prog_13_method_54_code 5 = .ok (.aload_n 0, 1) := by decide +kernel
theorem dj_len_6 : decode prog_13_method_54_code 6 = .ok (.invokevirtual 335, 3) := by decide +kernel
theorem dj_len_9 : decode prog_13_method_54_code 9 = .ok (.ishr, 1) := by decide +kernel
theorem dj_len_10 : decode prog_13_method_54_code 10 = .ok (.ireturn, 1) := by decide +kernel
theorem dj_lat_0 : decode prog_13_method_154_code 0 = .ok (.getstatic 38, 3) := by decide +kernel
theorem dj_lat_3 : decode prog_13_method_154_code 3 = .ok (.ifCond .eq 14, 3) := by decide +kernel
theorem dj_lat_6 : decode prog_13_method_154_code 6 = .ok (.aload_n 0, 1) := by decide +kernel
theorem dj_lat_7 : decode prog_13_method_154_code 7 = .ok (.getfield 15, 3) := by decide +kernel
theorem dj_lat_10 : decode prog_13_method_154_code 10 = .ok (.ifCond .ne 7, 3) := by decide +kernel
theorem dj_lat_13 : decode prog_13_method_154_code 13 = .ok (.iconst 1, 1) := by decide +kernel
theorem dj_lat_14 : decode prog_13_method_154_code 14 = .ok (.goto 4, 3) := by decide +kernel
theorem dj_lat_18 : decode prog_13_method_154_code 18 = .ok (.ireturn, 1) := by decide +kernel
theorem dj_pre_0 : decode prog_17_method_11_code 0 = .ok (.iload_n 0, 1) := by decide +kernel
theorem dj_pre_1 : decode prog_17_method_11_code 1 = .ok (.ifCond .lt 8, 3) := by decide +kernel
theorem dj_pre_4 : decode prog_17_method_11_code 4 = .ok (.iload_n 0, 1) := by decide +kernel
theorem dj_pre_5 : decode prog_17_method_11_code 5 = .ok (.iload_n 1, 1) := by decide +kernel
theorem dj_pre_6 : decode prog_17_method_11_code 6 = .ok (.if_icmp .lt 10, 3) := by decide +kernel
theorem dj_pre_16 : decode prog_17_method_11_code 16 = .ok (.iload_n 0, 1) := by decide +kernel
theorem dj_pre_17 : decode prog_17_method_11_code 17 = .ok (.ireturn, 1) := by decide +kernel
theorem dj_chk_0 : decode prog_13_method_155_code 0 = .ok (.iload_n 0, 1) := by decide +kernel
theorem dj_chk_1 : decode prog_13_method_155_code 1 = .ok (.iload_n 1, 1) := by decide +kernel
theorem dj_chk_2 : decode prog_13_method_155_code 2 = .ok (.getstatic 1053, 3) := by decide +kernel
theorem dj_chk_5 : decode prog_13_method_155_code 5 = .ok (.invokestatic 1059, 3) := by decide +kernel
theorem dj_chk_8 : decode prog_13_method_155_code 8 = .ok (.pop, 1) := by decide +kernel
theorem dj_chk_9 : decode prog_13_method_155_code 9 = .ok (.return_, 1) := by decide +kernel
theorem dj_l1c_0 : decode prog_14_method_2_code 0 = .ok (.iload_n 1, 1) := by decide +kernel
theorem dj_l1c_1 : decode prog_14_method_2_code 1 = .ok (.aload_n 0, 1) := by decide +kernel
theorem dj_l1c_2 : decode prog_14_method_2_code 2 = .ok (.arraylength, 1) := by decide +kernel
theorem dj_l1c_3 : decode prog_14_method_2_code 3 = .ok (.invokestatic 9, 3) := by decide +kernel
theorem dj_l1c_6 : decode prog_14_method_2_code 6 = .ok (.aload_n 0, 1) := by decide +kernel
theorem dj_l1c_7 : decode prog_14_method_2_code 7 = .ok (.iload_n 1, 1) := by decide +kernel
theorem dj_l1c_8 : decode prog_14_method_2_code 8 = .ok (.baload, 1) := by decide +kernel
theorem dj_l1c_9 : decode prog_14_method_2_code 9 = .ok (.sipush 255, 3) := by decide +kernel
theorem dj_l1c_12 : decode prog_14_method_2_code 12 = .ok (.iand, 1) := by decide +kernel
theorem dj_l1c_13 : decode prog_14_method_2_code 13 = .ok (.i2c, 1) := by decide +kernel
theorem dj_l1c_14 : decode prog_14_method_2_code 14 = .ok (.ireturn, 1) := by decide +kernel
theorem dj_chr_0 : decode prog_13_method_56_code 0 = .ok (.aload_n 0, 1) := by decide +kernel
theorem dj_chr_1 : decode prog_13_method_56_code 1 = .ok (.invokevirtual 492, 3) := by decide +kernel
theorem dj_chr_4 : decode prog_13_method_56_code 4 = .ok (.ifCond .eq 12, 3) := by decide +kernel
theorem dj_chr_7 : decode prog_13_method_56_code 7 = .ok (.aload_n 0, 1) := by decide +kernel
theorem dj_chr_8 : decode prog_13_method_56_code 8 = .ok (.getfield 9, 3) := by decide +kernel
theorem dj_chr_11 : decode prog_13_method_56_code 11 = .ok (.iload_n 1, 1) := by decide +kernel
theorem dj_chr_12 : decode prog_13_method_56_code 12 = .ok (.invokestatic 495, 3) := by decide +kernel
theorem dj_chr_15 : decode prog_13_method_56_code 15 = .ok (.ireturn, 1) := by decide +kernel
def PcJ (HB : Heap) (K0 : Nat → Nat) (X0 : Nat → Option (List Int32)) (E : State → Prop) (as : List Value) : Array Value → State → Prop := fun a U => a = as.toArray ∧ (∀ q : Nat, q < HB.size → U.heap[q]? = HB[q]?) ∧ WRD U ∧ STR HB K0 X0 U ∧ E U
def QcJ (v : Option Value) : Array Value → State → Outcome → State → Prop := fun _ s oc t => oc = .returned v ∧ t.heap = s.heap
abbrev jws (y : MethodName) (c : ByteArray) (n : Nat) (r : Option FieldType) : List Cond := [.code y c n r]
def jrm (d : Nat) : Room := { frames := d, cells := 0, slots := 0, locals := 40 * d }
abbrev JM (l : Launch) (HB : Heap) (K0 : Nat → Nat) (X0 : Nat → Option (List Int32)) (E : State → Prop) (y : MethodName) (c : ByteArray) (n : Nat) (r : Option FieldType) (d : Nat) (as : List Value) (v : Option Value) : Prop := Met l y (jws y c n r) (jrm d) (PcJ HB K0 X0 E as) (QcJ v) 0 0 (fun _ => False)
/-- what a state says, told of the machine alone -/
def Mvd (E : State → Prop) : Prop := ∀ s U : State, s.WarmedH U.vm → E s → E U
theorem PcJ_blind {HB : Heap} {K0 : Nat → Nat} {X0 : Nat → Option (List Int32)} {E : State → Prop} (hE : Mvd E) {as : List Value} : FrameBlind (PcJ HB K0 X0 E as) := by
  intro a U g mk ⟨h1, h2, h3, h4, h5⟩
  exact ⟨h1, h2, WRD.moved (s := U) (U := U.calling g mk a) (State.WarmedH.refl U) h3, STR.moved (s := U) (U := U.calling g mk a) (State.WarmedH.refl U) h4, hE U (U.calling g mk a) (State.WarmedH.refl U) h5⟩
theorem Mvd.tt : Mvd (fun _ => True) := fun _ _ _ _ => trivial
theorem jpar {y : MethodName} {k : Nat} (h : (parseMethodDescriptor y.desc).map (fun q => q.parameters.length) = some k) : ∀ sig, parseMethodDescriptor y.desc = some sig → k = sig.parameters.length := by
  intro sig hs
  rw [hs] at h
  exact (Option.some.inj h).symm
section JRUN
variable {p : Program} {l : Launch} {e : Env} {R : Room} {s : State} {m : MethodId} {args : Array Value} {below : List Frame} {meth : Method} {c : Code} {H : Heap} {locs : List Loc} {cells slots : Nat} {Q : State → Prop}
variable {HB : Heap} {K0 : Nat → Nat} {X0 : Nat → Option (List Int32)} {E : State → Prop} {cc bytes : ByteArray} {pc : Nat} {ls : Array Slot} {rest : List Value} {own : String} {index d n k : Nat} {y : MethodName} {r : Option FieldType} {v : Option Value}
theorem W_run0 {st0 : List Value} {a : Array Value} (hr : va_Run p l e R s m args below meth c H locs cells slots 0 0 (F0 m pc ls st0) rest (QcJ v a) (fun _ => False)) (kk : W p l e R s m args below meth c H locs cells slots Q (F0 m (pc + 3) ls (v.toList ++ rest))) : W p l e R s m args below meth c H locs cells slots Q (F0 m pc ls st0) := by
  intro T hT X
  obtain ⟨v', st₀, t, T', L, h0, X', hL, e1, e2, hq, st⟩ := hr T hT X
  obtain ⟨q1, q2⟩ := hq
  cases q1
  have hLn : L = [] := List.eq_nil_iff_forall_not_mem.mpr fun x hx => hL x hx
  subst hLn
  rw [List.append_nil] at X'
  obtain ⟨t2, a1, b1⟩ := kk T' (by rw [e1, q2, h0]) X'
  exact ⟨t2, st t2 a1, b1⟩
theorem jcB (hW : WRD s) {pl pcd pi : Nat} (h1 : lw_tbl[pl]? = some (.methodLink own index y)) (h2 : lw_tbl[pcd]? = some (.code y bytes n r)) (h3 : lw_tbl[pi]? = some (.initialized y.cls)) (h4 : y.cls ≠ "java/lang/invoke/MethodHandle" ∧ y.cls ≠ "java/lang/invoke/VarHandle") (h5 : (parseMethodDescriptor y.desc).map (fun q => q.parameters.length) = some k) (hn : n ≤ 3) (hf : d + 1 ≤ R.frames) (hlo : 40 * (d + 1) ≤ R.locals) : CallB R s args own index y bytes n r (jws y bytes n r) (jrm d) 0 0 k := by
  refine ⟨rfl, rfl, hf, ?_, fun w hw a' U hU => ?_, List.mem_cons_self, hW.at h2 rfl args, hW.at h3 rfl args, h4, jpar h5, hW.at h1 rfl args⟩
  · show 8 + (n + 11) + 40 * d ≤ R.locals; omega
  · rw [List.mem_singleton.mp hw]
    exact (hW.moved hU).at h2 rfl a'
/-- a static method of the JDK's, called -/
theorem jS (hx : p.tables.exec = Jvm.exec) (hb : c.code = cc) (hml : c.maxLocals = ls.size) (hown : s.vm.findClass own = some m.cls) (hW : WRD s) (hSt : STR HB K0 X0 s) (hH : ∀ q : Nat, q < HB.size → H[q]? = HB[q]?) (hE : Mvd E) (hE0 : E s) {As st0 : List Value} (hM : JM l HB K0 X0 E y bytes n r d As v) (cw : CallB R s args own index y bytes n r (jws y bytes n r) (jrm d) 0 0 k) {ps : Nat} (hst : lw_tbl[ps]? = some (.static y)) (hn : As.length = k) (hs0 : st0 = As.reverse ++ rest) (hrl : rest.length ≤ 4) (hdg : decode cc pc = .ok (.invokestatic index, 3)) (hce : cells ≤ R.cells) (hsl : slots ≤ R.slots) (kk : W p l e R s m args below meth c H locs cells slots Q (F0 m (pc + 3) ls (v.toList ++ rest))) : W p l e R s m args below meth c H locs cells slots Q (F0 m pc ls st0) := by
  refine W_run0 (va_runS (Ts := []) (ws := jws y bytes n r) (rm := jrm d) (maxL := n) (ret := r) (bytes := bytes) (n := k) (mc := 0) (ms := 0) (nL := ls.size) ⟨hx, hb, hml, hown, fun _ h9 => absurd h9 List.not_mem_nil⟩ hM ⟨cw, hW.at hst rfl args⟩ ⟨PcJ_blind hE, fun U hU hWU => ⟨rfl, by rw [hU]; exact hH, hW.moved hWU, hSt.moved hWU, hE s U hWU hE0⟩⟩ rfl hn rfl hs0 (lv_room (by have := sum_le (rest := rest); omega)) hdg ⟨hce, hsl⟩) kk
/-- an instance method of String, called -/
theorem jV (hx : p.tables.exec = Jvm.exec) (hb : c.code = cc) (hml : c.maxLocals = ls.size) (hown : s.vm.findClass own = some m.cls) (hW : WRD s) (hSt : STR HB K0 X0 s) (hH : ∀ q : Nat, q < HB.size → H[q]? = HB[q]?) (hE : Mvd E) (hE0 : E s) {a : Nat} {t : List Int32} (ht : X0 a = some t) {As st0 : List Value} (hM : JM l HB K0 X0 E y bytes n r d (.ref a :: As) v) (cw : CallB R s args own index y bytes n r (jws y bytes n r) (jrm d) 0 0 k) {ps pv : Nat} (hst : lw_tbl[ps]? = some (.instanceMethod y)) (hse : lw_tbl[pv]? = some (.selects "java/lang/String" y y)) (hn : As.length = k) (hs0 : st0 = As.reverse ++ .ref a :: rest) (hrl : rest.length ≤ 4) (hdg : decode cc pc = .ok (.invokevirtual index, 3)) (hce : cells ≤ R.cells) (hsl : slots ≤ R.slots) (kk : W p l e R s m args below meth c H locs cells slots Q (F0 m (pc + 3) ls (v.toList ++ rest))) : W p l e R s m args below meth c H locs cells slots Q (F0 m pc ls st0) := by
  obtain ⟨vv, h1, -⟩ := hSt.2.1 a t ht
  obtain ⟨cell, c1, c2, c3, -⟩ := va_O.kept h1 (H1 := H) (fun q hq _ => hH q hq)
  refine W_run0 (va_runV (Ts := []) (C := "java/lang/String") (ws := jws y bytes n r) (rm := jrm d) (maxL := n) (ret := r) (bytes := bytes) (n := k) (mc := 0) (ms := 0) (nL := ls.size) ⟨hx, hb, hml, hown, fun _ h9 => absurd h9 List.not_mem_nil⟩ hM ⟨cw, hW.at hst rfl args, hW.at hse rfl args⟩ ⟨PcJ_blind hE, ⟨cell, c1, c2, c3⟩, fun U hU hWU => ⟨rfl, by rw [hU]; exact hH, hW.moved hWU, hSt.moved hWU, hE s U hWU hE0⟩⟩ rfl hn rfl hs0 (lv_room (by have := sum_le (rest := rest); omega)) hdg ⟨hce, hsl⟩) kk
end JRUN
theorem sh0 (x : Int32) : x >>> ((0 : Int32) &&& 31) = x := by
  rw [show ((0 : Int32) &&& 31) = 0 from rfl]
  apply Int32.toBitVec_inj.mp
  rw [Int32.toBitVec_shiftRight]
  show x.toBitVec.sshiftRight' (BitVec.smod (0 : BitVec 32) 32) = _
  rw [show BitVec.smod (0 : BitVec 32) 32 = 0 from by decide]
  simp [BitVec.sshiftRight']
theorem b255 {x : Int32} (h : x &&& 255 = x) : (x.toUInt32 % 65536).toInt32 = x := by
  have h1 : x.toUInt32.toNat ≤ 255 := by
    have h2 : x.toBitVec &&& (255 : Int32).toBitVec = x.toBitVec := by rw [← Int32.toBitVec_and, h]
    have h3 : (x.toBitVec &&& (255 : Int32).toBitVec).toNat = x.toBitVec.toNat := by rw [h2]
    rw [BitVec.toNat_and] at h3
    have h4 : x.toBitVec.toNat &&& (255 : Int32).toBitVec.toNat ≤ 255 := Nat.and_le_right
    show x.toBitVec.toNat ≤ 255
    omega
  have e : x.toUInt32 % 65536 = x.toUInt32 := by
    apply UInt32.toNat_inj.mp
    rw [UInt32.toNat_mod]
    exact Nat.mod_eq_of_lt (by show x.toUInt32.toNat < 65536; omega)
  rw [e]
  rfl
section JDK
variable {l : Launch} {HB : Heap} {K0 : Nat → Nat} {X0 : Nat → Option (List Int32)}
theorem j_coder {a : Nat} {t : List Int32} (ht : X0 a = some t) : JM l HB K0 X0 (fun _ => True) yj_coder prog_13_method_152_code 1 (some .byte) 0 [.ref a] (some (.int 0)) := by
  refine Met.ofW (cc := prog_13_method_152_code) (maxL := 1) (ret := (some .byte)) (by decide) rfl ?_
  intro p e s m args below meth c s₁ B hml hv
  obtain ⟨rfl, hH, hWd, hSt, hE0⟩ := hv
  have hown : s.vm.findClass "java/lang/String" = some m.cls := findClass_of_methodNamed B.named
  have hx := B.exec
  have hb : c.code = prog_13_method_152_code := B.bytes
  have hr := B.returns
  have hlk := B.notSynchronized
  have kp : ∀ q : Nat, q < HB.size → ¬ (fun q : Nat => HB.size ≤ q) q → s.heap[q]? = HB[q]? := fun q hq _ => hH q hq
  have hl := lv_entry ([.ref a]) (n := 1) (Nat.le_of_ble_eq_true rfl)
  rw [lg_entry_eq]
  generalize (lg_sl ([.ref a]) ++ List.replicate (1 - (lg_sl ([.ref a])).length) Slot.unset).toArray = ls at hl ⊢
  have hl : lv_has ls 1 [(0, .ref a)] := hl
  have hms : c.maxLocals = ls.size := hml.trans hl.1.symm
  obtain ⟨v, h1, h2, h3, h4, h5, h6⟩ := hSt.2.1 a t ht
  refine va_gets hx hb (va_Z.kept hSt.2.2.1 kp) va_S.rf hown (hWd.at jw_517 rfl _) (fun _ h => h) dj_coder_0 ?_
  refine lv_if_eq (tgt := 13) hx hb dj_coder_3 rfl (fun h => absurd h (by decide)) (fun _ => ?_)
  refine lv_aload_n hx hb dj_coder_6 rfl (lv_at hl 0 rfl) ?_
  refine vk_getf hx hb (va_OF.kept h2 kp) va_S.rf hown (hWd.at jw_1436 rfl _) (fun _ h => h) dj_coder_7 ?_
  refine lv_goto (tgt := 14) hx hb dj_coder_10 rfl ?_
  exact W.zret hx hb hr rfl (fun t hT hW => ⟨rfl, hT⟩) (fun _ h => absurd h List.not_mem_nil) dj_coder_14 hlk
theorem j_lat {a : Nat} {t : List Int32} (ht : X0 a = some t) : JM l HB K0 X0 (fun _ => True) yj_lat prog_13_method_154_code 1 (some .boolean) 0 [.ref a] (some (.int 1)) := by
  refine Met.ofW (cc := prog_13_method_154_code) (maxL := 1) (ret := (some .boolean)) (by decide) rfl ?_
  intro p e s m args below meth c s₁ B hml hv
  obtain ⟨rfl, hH, hWd, hSt, hE0⟩ := hv
  have hown : s.vm.findClass "java/lang/String" = some m.cls := findClass_of_methodNamed B.named
  have hx := B.exec
  have hb : c.code = prog_13_method_154_code := B.bytes
  have hr := B.returns
  have hlk := B.notSynchronized
  have kp : ∀ q : Nat, q < HB.size → ¬ (fun q : Nat => HB.size ≤ q) q → s.heap[q]? = HB[q]? := fun q hq _ => hH q hq
  have hl := lv_entry ([.ref a]) (n := 1) (Nat.le_of_ble_eq_true rfl)
  rw [lg_entry_eq]
  generalize (lg_sl ([.ref a]) ++ List.replicate (1 - (lg_sl ([.ref a])).length) Slot.unset).toArray = ls at hl ⊢
  have hl : lv_has ls 1 [(0, .ref a)] := hl
  have hms : c.maxLocals = ls.size := hml.trans hl.1.symm
  obtain ⟨v, h1, h2, h3, h4, h5, h6⟩ := hSt.2.1 a t ht
  refine va_gets hx hb (va_Z.kept hSt.2.2.1 kp) va_S.rf hown (hWd.at jw_517 rfl _) (fun _ h => h) dj_lat_0 ?_
  refine lv_if_eq (tgt := 17) hx hb dj_lat_3 rfl (fun h => absurd h (by decide)) (fun _ => ?_)
  refine lv_aload_n hx hb dj_lat_6 rfl (lv_at hl 0 rfl) ?_
  refine vk_getf hx hb (va_OF.kept h2 kp) va_S.rf hown (hWd.at jw_1436 rfl _) (fun _ h => h) dj_lat_7 ?_
  refine lv_if_ne (tgt := 17) hx hb dj_lat_10 rfl (fun h => absurd rfl h) (fun _ => ?_)
  refine lv_iconst (v := 1) hx hb dj_lat_13 (by decide) ?_
  refine lv_goto (tgt := 18) hx hb dj_lat_14 rfl ?_
  exact W.zret hx hb hr rfl (fun t hT hW => ⟨rfl, hT⟩) (fun _ h => absurd h List.not_mem_nil) dj_lat_18 hlk
theorem j_len {a : Nat} {t : List Int32} (ht : X0 a = some t) : JM l HB K0 X0 (fun _ => True) yj_len prog_13_method_54_code 1 (some .int) 1 [.ref a] (some (.int (nI t.length))) := by
  refine Met.ofW (cc := prog_13_method_54_code) (maxL := 1) (ret := (some .int)) (by decide) rfl ?_
  intro p e s m args below meth c s₁ B hml hv
  obtain ⟨rfl, hH, hWd, hSt, hE0⟩ := hv
  have hown : s.vm.findClass "java/lang/String" = some m.cls := findClass_of_methodNamed B.named
  have hx := B.exec
  have hb : c.code = prog_13_method_54_code := B.bytes
  have hr := B.returns
  have hlk := B.notSynchronized
  have kp : ∀ q : Nat, q < HB.size → ¬ (fun q : Nat => HB.size ≤ q) q → s.heap[q]? = HB[q]? := fun q hq _ => hH q hq
  have hl := lv_entry ([.ref a]) (n := 1) (Nat.le_of_ble_eq_true rfl)
  rw [lg_entry_eq]
  generalize (lg_sl ([.ref a]) ++ List.replicate (1 - (lg_sl ([.ref a])).length) Slot.unset).toArray = ls at hl ⊢
  have hl : lv_has ls 1 [(0, .ref a)] := hl
  have hms : c.maxLocals = ls.size := hml.trans hl.1.symm
  obtain ⟨v, h1, h2, h3, h4, h5, h6⟩ := hSt.2.1 a t ht
  refine lv_aload_n hx hb dj_len_0 rfl (lv_at hl 0 rfl) ?_
  refine vk_getf hx hb (va_OF.kept h3 kp) va_S.rf hown (hWd.at jw_1435 rfl _) (fun _ h => h) dj_len_1 ?_
  refine va_tlen (v := nI t.length) hx hb (va_T.kept h4 kp) va_S.rf rfl dj_len_4 ?_
  refine lv_aload_n hx hb dj_len_5 rfl (lv_at hl 0 rfl) ?_
  refine jV hx hb hms hown hWd hSt hH Mvd.tt trivial ht (As := []) (rest := [.int (nI t.length)]) (j_coder ht) (jcB (pl := 514) (pcd := 517) (pi := 118) hWd jw_513 jw_516 jw_118 (by decide) (by decide +kernel) (by decide) (Nat.le_refl _) (Nat.le_refl _)) jw_514 jw_515 rfl rfl (Nat.le_of_ble_eq_true rfl) dj_len_6 (Nat.le_refl _) (Nat.le_refl _) ?_
  refine lv_ishr hx hb dj_len_9 ?_
  rw [sh0]
  exact W.iret hx hb hr (fun t hT hW => ⟨rfl, hT⟩) (fun _ h => absurd h List.not_mem_nil) dj_len_10 hlk
theorem j_pre {j n : Int32} {f : Value} (hf : f = .null ∨ ∃ t, f = .ref t) (h0 : ¬ j < 0) (h1 : j < n) : JM l HB K0 X0 (fun _ => True) yj_pre prog_17_method_11_code 3 (some .int) 0 [.int j, .int n, f] (some (.int j)) := by
  rcases hf with rfl | ⟨ft, rfl⟩
  · refine Met.ofW (cc := prog_17_method_11_code) (maxL := 3) (ret := (some .int)) (by decide) rfl ?_
    intro p e s m args below meth c s₁ B hml hv
    obtain ⟨rfl, hH, hWd, hSt, hE0⟩ := hv
    have hown : s.vm.findClass "jdk/internal/util/Preconditions" = some m.cls := findClass_of_methodNamed B.named
    have hx := B.exec
    have hb : c.code = prog_17_method_11_code := B.bytes
    have hr := B.returns
    have hlk := B.notSynchronized
    have kp : ∀ q : Nat, q < HB.size → ¬ (fun q : Nat => HB.size ≤ q) q → s.heap[q]? = HB[q]? := fun q hq _ => hH q hq
    have hl := lv_entry ([.int j, .int n, .null]) (n := 3) (Nat.le_of_ble_eq_true rfl)
    rw [lg_entry_eq]
    generalize (lg_sl ([.int j, .int n, .null]) ++ List.replicate (3 - (lg_sl ([.int j, .int n, .null])).length) Slot.unset).toArray = ls at hl ⊢
    have hl : lv_has ls 3 [(0, .int j), (1, .int n), (2, .null)] := hl
    have hms : c.maxLocals = ls.size := hml.trans hl.1.symm
    refine lv_iload_n hx hb dj_pre_0 rfl (lv_at hl 0 rfl) ?_
    refine lv_if_lt (tgt := 9) hx hb dj_pre_1 rfl (fun h => absurd h h0) (fun _ => ?_)
    refine lv_iload_n hx hb dj_pre_4 rfl (lv_at hl 0 rfl) ?_
    refine lv_iload_n hx hb dj_pre_5 rfl (lv_at hl 1 rfl) ?_
    refine lv_icmp_lt (tgt := 16) hx hb dj_pre_6 rfl (fun _ => ?_) (fun h => absurd h1 h)
    refine lv_iload_n hx hb dj_pre_16 rfl (lv_at hl 0 rfl) ?_
    exact W.iret hx hb hr (fun t hT hW => ⟨rfl, hT⟩) (fun _ h => absurd h List.not_mem_nil) dj_pre_17 hlk
  · refine Met.ofW (cc := prog_17_method_11_code) (maxL := 3) (ret := (some .int)) (by decide) rfl ?_
    intro p e s m args below meth c s₁ B hml hv
    obtain ⟨rfl, hH, hWd, hSt, hE0⟩ := hv
    have hown : s.vm.findClass "jdk/internal/util/Preconditions" = some m.cls := findClass_of_methodNamed B.named
    have hx := B.exec
    have hb : c.code = prog_17_method_11_code := B.bytes
    have hr := B.returns
    have hlk := B.notSynchronized
    have kp : ∀ q : Nat, q < HB.size → ¬ (fun q : Nat => HB.size ≤ q) q → s.heap[q]? = HB[q]? := fun q hq _ => hH q hq
    have hl := lv_entry ([.int j, .int n, .ref ft]) (n := 3) (Nat.le_of_ble_eq_true rfl)
    rw [lg_entry_eq]
    generalize (lg_sl ([.int j, .int n, .ref ft]) ++ List.replicate (3 - (lg_sl ([.int j, .int n, .ref ft])).length) Slot.unset).toArray = ls at hl ⊢
    have hl : lv_has ls 3 [(0, .int j), (1, .int n), (2, .ref ft)] := hl
    have hms : c.maxLocals = ls.size := hml.trans hl.1.symm
    refine lv_iload_n hx hb dj_pre_0 rfl (lv_at hl 0 rfl) ?_
    refine lv_if_lt (tgt := 9) hx hb dj_pre_1 rfl (fun h => absurd h h0) (fun _ => ?_)
    refine lv_iload_n hx hb dj_pre_4 rfl (lv_at hl 0 rfl) ?_
    refine lv_iload_n hx hb dj_pre_5 rfl (lv_at hl 1 rfl) ?_
    refine lv_icmp_lt (tgt := 16) hx hb dj_pre_6 rfl (fun _ => ?_) (fun h => absurd h1 h)
    refine lv_iload_n hx hb dj_pre_16 rfl (lv_at hl 0 rfl) ?_
    exact W.iret hx hb hr (fun t hT hW => ⟨rfl, hT⟩) (fun _ h => absurd h List.not_mem_nil) dj_pre_17 hlk
theorem j_chk {j n : Int32} (h0 : ¬ j < 0) (h1 : j < n) : JM l HB K0 X0 (fun _ => True) yj_chk prog_13_method_155_code 2 none 1 [.int j, .int n] none := by
  refine Met.ofW (cc := prog_13_method_155_code) (maxL := 2) (ret := none) (by decide) rfl ?_
  intro p e s m args below meth c s₁ B hml hv
  obtain ⟨rfl, hH, hWd, hSt, hE0⟩ := hv
  have hown : s.vm.findClass "java/lang/String" = some m.cls := findClass_of_methodNamed B.named
  have hx := B.exec
  have hb : c.code = prog_13_method_155_code := B.bytes
  have hr := B.returns
  have hlk := B.notSynchronized
  have kp : ∀ q : Nat, q < HB.size → ¬ (fun q : Nat => HB.size ≤ q) q → s.heap[q]? = HB[q]? := fun q hq _ => hH q hq
  have hl := lv_entry ([.int j, .int n]) (n := 2) (Nat.le_of_ble_eq_true rfl)
  rw [lg_entry_eq]
  generalize (lg_sl ([.int j, .int n]) ++ List.replicate (2 - (lg_sl ([.int j, .int n])).length) Slot.unset).toArray = ls at hl ⊢
  have hl : lv_has ls 2 [(0, .int j), (1, .int n)] := hl
  have hms : c.maxLocals = ls.size := hml.trans hl.1.symm
  obtain ⟨f, hf, hZ⟩ : ∃ f : Value, (f = .null ∨ ∃ t, f = .ref t) ∧ va_Z "jdk/internal/util/Preconditions" "SIOOBE_FORMATTER" "Ljava/util/function/BiFunction;" f (fun q => HB.size ≤ q) s HB := by
    rcases hSt.2.2.2 with q | ⟨t, q⟩
    · exact ⟨_, Or.inl rfl, q⟩
    · exact ⟨_, Or.inr ⟨t, rfl⟩, q⟩
  refine lv_iload_n hx hb dj_chk_0 rfl (lv_at hl 0 rfl) ?_
  refine lv_iload_n hx hb dj_chk_1 rfl (lv_at hl 1 rfl) ?_
  refine va_gets hx hb (va_Z.kept hZ kp) va_S.rf hown (hWd.at jw_533 rfl _) (fun _ h => h) dj_chk_2 ?_
  refine jS hx hb hms hown hWd hSt hH Mvd.tt trivial (rest := []) (j_pre hf h0 h1) (jcB (k := 3) (pl := 536) (pcd := 538) (pi := 120) hWd jw_535 jw_537 jw_120 (by decide) (by decide +kernel) (by decide) (Nat.le_refl _) (Nat.le_refl _)) jw_536 rfl rfl (by decide) dj_chk_5 (Nat.le_refl _) (Nat.le_refl _) ?_
  refine lv_pop hx hb dj_chk_8 rfl ?_
  exact W.vret hx hb hr (fun t hT hW => ⟨rfl, hT⟩) (fun _ h => absurd h List.not_mem_nil) dj_chk_9 hlk
/-- the bytes of a text -/
def ByT (HB : Heap) (v : Nat) (t : List Int32) : State → Prop := fun U => va_T .byte v t.length (fun j => .int (t.getD j 0)) (fun q => HB.size ≤ q) U HB
theorem ByT.mv {v : Nat} {t : List Int32} : Mvd (ByT HB v t) := fun _ _ hW h => va_T.moved hW.alike h
theorem getD_mem {t : List Int32} {k : Nat} (h : k < t.length) : t.getD k 0 ∈ t := by
  rw [List.getD_eq_getElem?_getD, List.getElem?_eq_getElem h]
  exact List.getElem_mem h
theorem inb_vp {j : Int32} {N : Nat} (h : inb j N = true) : vp_in j N := by
  unfold inb at h
  show ¬ (j < 0 ∨ N ≤ j.toNatClampNeg)
  exact of_decide_eq_true h
theorem inb_ok {j : Int32} {N : Nat} (hN : N < 2 ^ 31) (h : inb j N = true) : ¬ j < 0 ∧ j.toNatClampNeg < N ∧ j < nI N := by
  have h1 := of_decide_eq_true h
  have h2 : ¬ j < 0 := fun q => h1 (Or.inl q)
  have h3 : j.toNatClampNeg < N := Nat.lt_of_not_le fun q => h1 (Or.inr q)
  refine ⟨h2, h3, ?_⟩
  have e : j = nI j.toNatClampNeg := (Int32.ofNat_toNatClampNeg j (Int32.not_lt.mp h2)).symm
  rw [e]
  exact (Int32.ofNat_lt_ofNat (by omega) hN).mpr h3
theorem j_l1c {v : Nat} {t : List Int32} {j : Int32} (hlt : t.length < 2 ^ 31) (hby : ∀ b ∈ t, b &&& 255 = b) (hj : inb j t.length = true) : JM l HB K0 X0 (ByT HB v t) yj_l1c prog_14_method_2_code 2 (some .char) 2 [.ref v, .int j] (some (.int (t.getD j.toNatClampNeg 0))) := by
  refine Met.ofW (cc := prog_14_method_2_code) (maxL := 2) (ret := (some .char)) (by decide) rfl ?_
  intro p e s m args below meth c s₁ B hml hv
  obtain ⟨rfl, hH, hWd, hSt, hE0⟩ := hv
  have hown : s.vm.findClass "java/lang/StringLatin1" = some m.cls := findClass_of_methodNamed B.named
  have hx := B.exec
  have hb : c.code = prog_14_method_2_code := B.bytes
  have hr := B.returns
  have hlk := B.notSynchronized
  have kp : ∀ q : Nat, q < HB.size → ¬ (fun q : Nat => HB.size ≤ q) q → s.heap[q]? = HB[q]? := fun q hq _ => hH q hq
  have hl := lv_entry ([.ref v, .int j]) (n := 2) (Nat.le_of_ble_eq_true rfl)
  rw [lg_entry_eq]
  generalize (lg_sl ([.ref v, .int j]) ++ List.replicate (2 - (lg_sl ([.ref v, .int j])).length) Slot.unset).toArray = ls at hl ⊢
  have hl : lv_has ls 2 [(0, .ref v), (1, .int j)] := hl
  have hms : c.maxLocals = ls.size := hml.trans hl.1.symm
  obtain ⟨i1, i2, i3⟩ := inb_ok hlt hj
  have h4 : va_T .byte v t.length (fun j => .int (t.getD j 0)) (fun q => HB.size ≤ q) s HB := hE0
  have hbx := hby _ (getD_mem i2)
  refine lv_iload_n hx hb dj_l1c_0 rfl (lv_at hl 1 rfl) ?_
  refine lv_aload_n hx hb dj_l1c_1 rfl (lv_at hl 0 rfl) ?_
  refine va_tlen (v := nI t.length) hx hb (va_T.kept h4 kp) va_S.rf rfl dj_l1c_2 ?_
  refine jS hx hb hms hown hWd hSt hH Mvd.tt trivial (rest := []) (j_chk i1 i3) (jcB (k := 2) (pl := 531) (pcd := 533) (pi := 118) hWd jw_530 jw_532 jw_118 (by decide) (by decide +kernel) (by decide) (Nat.le_refl _) (Nat.le_refl _)) jw_531 rfl rfl (by decide) dj_l1c_3 (Nat.le_refl _) (Nat.le_refl _) ?_
  refine lv_aload_n hx hb dj_l1c_6 rfl (lv_at hl 0 rfl) ?_
  refine lv_iload_n hx hb dj_l1c_7 rfl (lv_at hl 1 rfl) ?_
  refine va_tb hx hb (va_T.kept h4 kp) va_S.rf (inb_vp hj) rfl dj_l1c_8 ?_
  refine lv_sipush (v := 255) hx hb dj_l1c_9 (by decide) ?_
  refine lv_iand hx hb dj_l1c_12 ?_
  rw [hbx]
  refine lv_i2c hx hb dj_l1c_13 (b255 hbx) ?_
  exact W.zret hx hb hr (congrArg Value.int (b255 hbx)) (fun t hT hW => ⟨rfl, hT⟩) (fun _ h => absurd h List.not_mem_nil) dj_l1c_14 hlk
theorem j_chr {a : Nat} {t : List Int32} {j : Int32} (ht : X0 a = some t) (hj : inb j t.length = true) : JM l HB K0 X0 (fun _ => True) yj_chr prog_13_method_56_code 2 (some .char) 3 [.ref a, .int j] (some (.int (t.getD j.toNatClampNeg 0))) := by
  refine Met.ofW (cc := prog_13_method_56_code) (maxL := 2) (ret := (some .char)) (by decide) rfl ?_
  intro p e s m args below meth c s₁ B hml hv
  obtain ⟨rfl, hH, hWd, hSt, hE0⟩ := hv
  have hown : s.vm.findClass "java/lang/String" = some m.cls := findClass_of_methodNamed B.named
  have hx := B.exec
  have hb : c.code = prog_13_method_56_code := B.bytes
  have hr := B.returns
  have hlk := B.notSynchronized
  have kp : ∀ q : Nat, q < HB.size → ¬ (fun q : Nat => HB.size ≤ q) q → s.heap[q]? = HB[q]? := fun q hq _ => hH q hq
  have hl := lv_entry ([.ref a, .int j]) (n := 2) (Nat.le_of_ble_eq_true rfl)
  rw [lg_entry_eq]
  generalize (lg_sl ([.ref a, .int j]) ++ List.replicate (2 - (lg_sl ([.ref a, .int j])).length) Slot.unset).toArray = ls at hl ⊢
  have hl : lv_has ls 2 [(0, .ref a), (1, .int j)] := hl
  have hms : c.maxLocals = ls.size := hml.trans hl.1.symm
  obtain ⟨v, h1, h2, h3, h4, h5, h6⟩ := hSt.2.1 a t ht
  obtain ⟨i1, i2, i3⟩ := inb_ok h5 hj
  have hbx := h6 _ (getD_mem i2)
  refine lv_aload_n hx hb dj_chr_0 rfl (lv_at hl 0 rfl) ?_
  refine jV hx hb hms hown hWd hSt hH Mvd.tt trivial ht (As := []) (rest := []) (j_lat ht) (jcB (pl := 524) (pcd := 527) (pi := 118) hWd jw_523 jw_526 jw_118 (by decide) (by decide +kernel) (by decide) (Nat.le_of_ble_eq_true rfl) (Nat.le_of_ble_eq_true rfl)) jw_524 jw_525 rfl rfl (by decide) dj_chr_1 (Nat.le_refl _) (Nat.le_refl _) ?_
  refine lv_if_eq (tgt := 16) hx hb dj_chr_4 rfl (fun h => absurd h (by decide)) (fun _ => ?_)
  refine lv_aload_n hx hb dj_chr_7 rfl (lv_at hl 0 rfl) ?_
  refine vk_getf hx hb (va_OF.kept h3 kp) va_S.rf hown (hWd.at jw_1435 rfl _) (fun _ h => h) dj_chr_8 ?_
  refine lv_iload_n hx hb dj_chr_11 rfl (lv_at hl 1 rfl) ?_
  refine jS hx hb hms hown hWd hSt hH (ByT.mv (v := v) (t := t)) h4 (rest := []) (j_l1c h5 h6 hj) (jcB (k := 2) (pl := 528) (pcd := 530) (pi := 119) hWd jw_527 jw_529 jw_119 (by decide) (by decide +kernel) (by decide) (Nat.le_of_ble_eq_true rfl) (Nat.le_of_ble_eq_true rfl)) jw_528 rfl rfl (by decide) dj_chr_12 (Nat.le_refl _) (Nat.le_refl _) ?_
  exact W.zret hx hb hr (congrArg Value.int (b255 hbx)) (fun t hT hW => ⟨rfl, hT⟩) (fun _ h => absurd h List.not_mem_nil) dj_chr_15 hlk
end JDK
/-- the two members of String, held -/
theorem strOps (l : Launch) : StrOps l := by
  intro p e R s m args below meth c H locs cells slots Q cc pc ls rest D HB K0 X0 own idx o t hx hb hml hown hENV hH ht hf hlo hce hsl hrl
  obtain ⟨hW, -, hSt⟩ := hENV
  refine ⟨fun hlink dg kk => ?_, fun j hj hlink dg kk => ?_⟩
  · have cw : CallB R s args own idx yj_len prog_13_method_54_code 1 (some .int) (jws yj_len prog_13_method_54_code 1 (some .int)) (jrm 1) 0 0 0 := by
      refine ⟨rfl, rfl, by show 1 + 1 ≤ _; omega, by show 8 + (1 + 11) + 40 * 1 ≤ R.locals; omega, fun w hw a' U hU => ?_, List.mem_cons_self, hW.at jw_512 rfl args, hW.at jw_118 rfl args, by decide, jpar (by decide +kernel), hlink⟩
      rw [List.mem_singleton.mp hw]
      exact (hW.moved hU).at jw_512 rfl a'
    exact jV hx hb hml hown hW hSt hH Mvd.tt trivial ht (As := []) (rest := rest) (j_len ht) cw jw_510 jw_511 rfl rfl hrl dg hce hsl kk
  · have cw : CallB R s args own idx yj_chr prog_13_method_56_code 2 (some .char) (jws yj_chr prog_13_method_56_code 2 (some .char)) (jrm 3) 0 0 1 := by
      refine ⟨rfl, rfl, by show 3 + 1 ≤ _; omega, by show 8 + (2 + 11) + 40 * 3 ≤ R.locals; omega, fun w hw a' U hU => ?_, List.mem_cons_self, hW.at jw_522 rfl args, hW.at jw_118 rfl args, by decide, jpar (by decide +kernel), hlink⟩
      rw [List.mem_singleton.mp hw]
      exact (hW.moved hU).at jw_522 rfl a'
    exact jV hx hb hml hown hW hSt hH Mvd.tt trivial ht (As := [.int j]) (rest := rest) (j_chr ht hj) cw jw_520 jw_521 rfl rfl hrl dg hce hsl kk
