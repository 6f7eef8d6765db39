/-! rows of the kit over the abstract heap: objects and arrays -/
theorem cell_obj {D : va_G} {HB : Heap} {h : AH} {U : State} {H : Heap} {a ci : Nat} (q : Rep D HB h U H) (hs : hS h a = some (100 + ci, 0)) : ci < 6 ∧ t_OB a (D.1 ci) (clNr ci) (D.2 ci) H (vp_V (fsOf h a ci (clNr ci))) ∧ HB.size ≤ a := by
  obtain ⟨hc, hB⟩ := q.2.2.2 a _ hs
  have h8 : ¬ (100 + ci) = 8 := by omega
  rcases hc with ⟨h1, -⟩ | ⟨h1, -⟩ | ⟨cj, h1, h2, h3⟩
  · exact absurd h1 (by dsimp only; omega)
  · exact absurd h1 h8
  · have e : cj = ci := by have := congrArg Prod.fst h2; dsimp only at this; omega
    subst e
    exact ⟨h1, h3, hB.resolve_left h8⟩
theorem cell_arr {D : va_G} {HB : Heap} {h : AH} {U : State} {H : Heap} {a t n : Nat} (q : Rep D HB h U H) (hs : hS h a = some (t, n)) (ht : t < 8) : (∃ cA : ClassId, ArrOfT U cA (tyB t) ∧ va_RA U cA (tyB t) ∧ H[a]? = some (vp_cell cA (arE h a t n))) ∧ HB.size ≤ a := by
  obtain ⟨hc, hB⟩ := q.2.2.2 a _ hs
  rcases hc with ⟨h1, h2⟩ | ⟨h1, -⟩ | ⟨cj, h1, h2, h3⟩
  · exact ⟨h2, hB.resolve_left (by dsimp only; omega)⟩
  · exact absurd h1 (by dsimp only; omega)
  · have := congrArg Prod.fst h2; dsimp only at this; omega
theorem alen_inv {h : AH} {a t : Nat} {j : Int32} (hi : inb j (alen h a t) = true) : ∃ n, hS h a = some (t, n) ∧ alen h a t = n ∧ vp_in j n := by
  unfold inb at hi
  have hi := of_decide_eq_true hi
  cases hs : hS h a with
  | none =>
    have e : alen h a t = 0 := by unfold alen; rw [hs]
    rw [e] at hi
    exact absurd (Or.inr (Nat.zero_le _)) hi
  | some q =>
    obtain ⟨t', n⟩ := q
    by_cases e : t' = t
    · subst e
      have e2 : alen h a t' = n := by unfold alen; rw [hs]; dsimp only; rw [if_pos rfl]
      rw [e2] at hi
      exact ⟨n, rfl, e2, hi⟩
    · have e2 : alen h a t = 0 := by unfold alen; rw [hs]; dsimp only; rw [if_neg e]
      rw [e2] at hi
      exact absurd (Or.inr (Nat.zero_le _)) hi
theorem fsOf_at {h : AH} {a ci N k : Nat} (hk : k < N) : (fsOf h a ci N)[k]? = some (if fk ci k = 2 then va_rf (hR h a k) else .int (hI h a k)) := by
  unfold fsOf
  rw [List.getElem?_map, List.getElem?_range hk]
  rfl
theorem clsF {ci : Nat} (h : ci < 6) : lw_tbl[(insP.getD ci (0, 0)).1]? = some (.instantiable (clNm ci) (clNr ci)) ∧ lw_tbl[(insP.getD ci (0, 0)).2]? = some (.initialized (clNm ci)) ∧ ∀ k, k < clNr ci → lw_tbl[(layP ci).getD k 0]? = some (u_lay (clNm ci) (clT ci) k) ∧ parseFieldDescriptor (clT ci k).2.2.1 = some (clty ci k) ∧ (clT ci k).1 = clNm ci ∧ (fk ci k = 0 → clty ci k = .int) ∧ (fk ci k = 1 → clty ci k = .boolean) ∧ (fk ci k = 2 → (clty ci k).isReference = true) ∧ fk ci k < 3 ∧ ∀ j, j < clNr ci → k ≠ j → (clT ci k).2.1 ≠ (clT ci j).2.1 := by
  have q := List.all_eq_true.mp cls_ok ci (List.mem_range.mpr h)
  simp only [Bool.and_eq_true, decide_eq_true_eq] at q
  refine ⟨q.1.1, q.1.2, fun k hk => ?_⟩
  have q2 := List.all_eq_true.mp q.2 k (List.mem_range.mpr hk)
  simp only [Bool.and_eq_true, decide_eq_true_eq] at q2
  obtain ⟨⟨⟨⟨⟨⟨⟨r1, r2⟩, r3⟩, r4⟩, r5⟩, r6⟩, r7⟩, r8⟩ := q2
  refine ⟨r1, r2, r3, r4, r5, r6, r7, fun j hj hne => ?_⟩
  have q3 := List.all_eq_true.mp r8 j (List.mem_range.mpr hj)
  simp only [Bool.or_eq_true, decide_eq_true_eq] at q3
  exact q3.resolve_left hne
theorem okW_lay {C : String} {T : u_T} {k : Nat} : okW (u_lay C T k) = true := by
  unfold u_lay
  split <;> rfl
theorem lay_hts {U : State} (hW : WRD U) {ci : Nat} (h : ci < 6) (A : Array Value) : ∀ w ∈ u_ws (clNm ci) (clT ci) (clNr ci), w.before A U = true := by
  intro w hw
  obtain ⟨k, hk, rfl⟩ := List.mem_map.mp hw
  exact hW.at ((clsF h).2.2 k (List.mem_range.mp hk)).1 okW_lay A
section WL
variable {p : Program} {l : Launch} {e : Env} {R : Room} {s : State} {m : MethodId} {args : Array Value} {below : List Frame} {meth : Method} {c : Code} {H : Heap} {locs : List Loc} {cells slots : Nat} {Q : State → Prop}
variable {cc : ByteArray} {pc : Nat} {ls : Array Slot} {rest : List Value} {D : va_G} {HB : Heap} {h : AH}
theorem wl_get (hexec : p.tables.exec = Jvm.exec) (hb : c.code = cc) (hW : WRD s) (hK : va_K D classes [] s) {r : Nat × Nat × Bool × Nat × Nat × Nat} (hr : r ∈ FL) (hown : s.vm.findClass (cnm r.1) = some m.cls) (q : Rep D HB h s H) {o : Nat} (hs : hS h o = some (100 + r.2.2.2.1, 0)) {v : Value} (hv : (if fk r.2.2.2.1 r.2.2.2.2.1 = 2 then va_rf (hR h o r.2.2.2.2.1) else .int (hI h o r.2.2.2.2.1)) = v) (hdg : decode cc pc = .ok (.getfield r.2.1, 3))
    (kk : W p l e R s m args below meth c H locs cells slots Q (F0 m (pc + 3) ls (v :: rest))) : W p l e R s m args below meth c H locs cells slots Q (F0 m pc ls (.ref o :: rest)) := by
  have fo := List.all_eq_true.mp fl_ok r hr
  simp only [Bool.and_eq_true, decide_eq_true_eq] at fo
  obtain ⟨fw, hci, hk⟩ := fo
  obtain ⟨-, hob, -⟩ := cell_obj q hs
  have hP : va_P D classes [(o, .inr (r.2.2.2.1, fsOf h o r.2.2.2.1 (clNr r.2.2.2.1)))] H := by
    intro k x hx
    have hz : k < 1 := (List.getElem?_eq_some_iff.mp hx).1
    rw [show k = 0 by omega] at hx
    cases hx
    exact ⟨_, cls_at _ hci, hob⟩
  have hts := lay_hts hW hci args
  have hf := (clsF hci).2.2 _ hk
  unfold flW at fw
  by_cases hn : r.2.2.1 = true
  · rw [if_pos hn] at fw
    exact va_getN (Ts := u_ws (clNm r.2.2.2.1) (clT r.2.2.2.1) (clNr r.2.2.2.1)) (host := "RefusedLast") hexec hb hts (fun _ h9 => h9) hown hK hP 0 rfl (cls_at _ hci) _ hk (hW.at fw rfl args) (fun x hx => by rw [hf.2.2.1] at hx; exact hx) (by rw [fsOf_at hk, hv]) hdg kk
  · rw [if_neg hn] at fw
    exact va_get (Ts := u_ws (clNm r.2.2.2.1) (clT r.2.2.2.1) (clNr r.2.2.2.1)) hexec hb hts (fun _ h9 => h9) hown hK hP 0 rfl (cls_at _ hci) _ hk (hW.at fw rfl args) (fun x hx => by rw [hf.2.2.1] at hx; exact hx) (by rw [fsOf_at hk, hv]) hdg kk
theorem wl_put (hexec : p.tables.exec = Jvm.exec) (hb : c.code = cc) (hW : WRD s) (hK : va_K D classes [] s) {r : Nat × Nat × Bool × Nat × Nat × Nat} (hr : r ∈ FL) (hown : s.vm.findClass (cnm r.1) = some m.cls) (q : Rep D HB h s H) {o : Nat} (hs : hS h o = some (100 + r.2.2.2.1, 0)) {v : Value}
    (hfin : (clT r.2.2.2.1 r.2.2.2.2.1).2.2.2 = false ∨ (meth.name = "<init>" ∧ clNm r.2.2.2.1 = cnm r.1 ∧ r.2.2.1 = false)) (hn : narrow (clty r.2.2.2.1 r.2.2.2.2.1) v = v) (hfit : fits (clty r.2.2.2.1 r.2.2.2.2.1) v = true) (hdg : decode cc pc = .ok (.putfield r.2.1, 3))
    (kk : ∀ (H' : Heap) (i : Nat), H'.size = H.size → (∀ b : Nat, b ≠ o → H'[b]? = H[b]?) → t_OB o (D.1 r.2.2.2.1) (clNr r.2.2.2.1) (D.2 r.2.2.2.1) H' (updV (vp_V (fsOf h o r.2.2.2.1 (clNr r.2.2.2.1))) r.2.2.2.2.1 v) → W p l e R s m args below meth c H' (locs ++ [⟨o, i⟩]) cells slots Q (F0 m (pc + 3) ls rest)) : W p l e R s m args below meth c H locs cells slots Q (F0 m pc ls (v :: .ref o :: rest)) := by
  have fo := List.all_eq_true.mp fl_ok r hr
  simp only [Bool.and_eq_true, decide_eq_true_eq] at fo
  obtain ⟨fw, hci, hk⟩ := fo
  obtain ⟨-, ⟨cell, q1, q2, q3, q4⟩, -⟩ := cell_obj q hs
  have hts := lay_hts hW hci args
  have hf := (clsF hci).2.2 _ hk
  have hap := va_apart (own := "") (D := D) (cl := classes) (tys := []) hts (fun _ h9 => h9) (clty r.2.2.2.1) (fun k hk => ((clsF hci).2.2 k hk).2.1) (fun a ha b hb' hne => ((clsF hci).2.2 a ha).2.2.2.2.2.2.2 b hb' hne) hK (cls_at _ hci)
  obtain ⟨hS, hfc, kC, hkC, hkind⟩ := hK.1 _ _ (cls_at _ hci)
  obtain ⟨cf, kf, fi, f, hi, hsl⟩ := hS _ hk
  have hlay := hts _ (u_in_lay hk)
  have hst := (u_facts hfc hkC (u_lays hts (fun _ h9 => h9) hk) hi).1
  have hi2 := hi
  rw [hf.2.2.1] at hi2
  have hlt : f.slot < cell.slots.size := by rw [hsl]; exact k2_hasslot (q4 _ hk)
  have fin : ∀ H' : Heap, H'[o]? = some (cell.setSlot f.slot v) → t_OB o (D.1 r.2.2.2.1) (clNr r.2.2.2.1) (D.2 r.2.2.2.1) H' (updV (vp_V (fsOf h o r.2.2.2.1 (clNr r.2.2.2.1))) r.2.2.2.2.1 v) := by
    intro H' e1
    rw [hsl] at e1
    exact ⟨_, e1, q2, q3, t_set q4 hap hk v⟩
  unfold flW at fw
  by_cases hfi : (clT r.2.2.2.1 r.2.2.2.2.1).2.2.2 = true
  · obtain ⟨g1, g2, g3⟩ := hfin.resolve_left (by rw [hfi]; decide)
    rw [if_neg (by rw [g3]; decide)] at fw
    unfold u_lay at hlay
    rw [if_pos hfi] at hlay
    have hcf : m.cls = cf := by
      obtain ⟨_, _, c', _, _, _, -, -, hf', -, -, -, hown2, -⟩ := Cond.laysFinal_spec hlay
      have e1 : c' = cf := by have := hi.symm.trans hf'; simp at this; exact this.1.symm
      rw [hf.2.2.1, g2] at hown2
      rw [← e1]; exact Option.some.inj (hown.symm.trans hown2)
    have h6 := u_fits hfc hkC hkind (Or.inr hlay) hi hf.2.1 hn hfit
    exact W.putFinK hexec hb hown (hW.at fw rfl args) hi2 hst hcf g1 (by rw [q2]; exact h6) q1 q3 hlt rfl rfl hdg fun H' e1 e2 e3 => kk H' _ e2 e3 (fin H' e1)
  · rw [Bool.not_eq_true] at hfi
    unfold u_lay at hlay
    rw [if_neg (by rw [hfi]; decide)] at hlay
    have h6 := u_store hfc hkC hkind hlay hi hf.2.1 hn hfit
    by_cases hns : r.2.2.1 = true
    · rw [if_pos hns] at fw
      exact va_WputK (host := "RefusedLast") hexec hb (f := f) hown (hW.at fw rfl args) hi2 hst (by rw [q2]; exact h6) q1 q3 hlt rfl rfl hdg fun H' e1 e2 e3 => kk H' _ e2 e3 (fin H' e1)
    · rw [if_neg hns] at fw
      exact W.putK hexec hb (f := f) ⟨hown, hW.at fw rfl args, ⟨_, _, _, hi2⟩, hst⟩ (by rw [q2]; exact h6) q1 q3 hlt rfl rfl hdg fun H' e1 e2 e3 => kk H' _ e2 e3 (fin H' e1)
theorem upd_fs {h h' : AH} {o ci k : Nat} {v : Value} (hk : k < clNr ci) (hi : ∀ j, j ≠ k → hI h' o j = hI h o j) (hr : ∀ j, j ≠ k → hR h' o j = hR h o j) (hv : (if fk ci k = 2 then va_rf (hR h' o k) else .int (hI h' o k)) = v) : ∀ j, j < clNr ci → updV (vp_V (fsOf h o ci (clNr ci))) k v j = vp_V (fsOf h' o ci (clNr ci)) j := by
  intro j hj
  unfold updV vp_V
  rw [List.getD_eq_getElem?_getD, List.getD_eq_getElem?_getD, fsOf_at hj, fsOf_at hj]
  by_cases e : j = k
  · subst e
    rw [if_pos rfl, ← hv]
    rfl
  · rw [if_neg e, hi j e, hr j e]
end WL
