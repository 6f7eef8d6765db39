/-! rows over the abstract heap: arrays, new cells, copies -/
theorem cellAt.lt {D : va_G} {h : AH} {a : Nat} {sh : Nat × Nat} {U : State} {H : Heap} (q : cellAt D h a sh U H) : a < H.size := by
  rcases q with ⟨-, cA, -, -, h4⟩ | ⟨-, scr, h2, -⟩ | ⟨ci, -, -, cell, h3, -⟩
  · exact (Array.getElem?_eq_some_iff.mp h4).1
  · exact (Array.getElem?_eq_some_iff.mp h2).1
  · exact (Array.getElem?_eq_some_iff.mp h3).1
theorem Rep_new {D : va_G} {HB : Heap} {h : AH} {U : State} {H H1 : Heap} {sh : Nat × Nat} {u : Nat} (q : Rep D HB h U H) (hz : H1.size = hN h + 1) (ho : ∀ b : Nat, b < hN h → H1[b]? = H[b]?) (hc : cellAt D (newC h sh u) (hN h) sh U H1) : Rep D HB (newC h sh u) U H1 := by
  refine ⟨hz, by rw [hz, ← q.1]; exact Nat.le_succ_of_le q.2.1, fun b hb => ?_, fun b sb hb => ?_⟩
  · rw [ho b (by rw [← q.1]; exact Nat.lt_of_lt_of_le hb q.2.1)]; exact q.2.2.1 b hb
  · have hb : (if b = hN h then some sh else hS h b) = some sb := hb
    by_cases e : b = hN h
    · rw [if_pos e] at hb
      cases hb
      rw [e]
      exact ⟨hc, Or.inr (by rw [← q.1]; exact q.2.1)⟩
    · rw [if_neg e] at hb
      obtain ⟨c1, c2⟩ := q.2.2.2 b sb hb
      have hlt : b < hN h := by rw [← q.1]; exact c1.lt
      exact ⟨c1.kept (ho b hlt) (funext fun j => if_neg e) (funext fun j => if_neg e) (funext fun j => if_neg e), c2⟩
theorem newC_I {h : AH} {sh : Nat × Nat} {u j : Nat} : hI (newC h sh u) (hN h) j = 0 := if_pos rfl
theorem newC_L {h : AH} {sh : Nat × Nat} {u j : Nat} : hL (newC h sh u) (hN h) j = 0 := if_pos rfl
theorem newC_R {h : AH} {sh : Nat × Nat} {u j : Nat} : hR (newC h sh u) (hN h) j = none := if_pos rfl
theorem newM_I {h : AH} {t t' n k b j : Nat} (hb : hN h ≤ b ∧ b < hN h + 1 + n) : hI (newM h t t' n k) b j = 0 := if_pos hb
theorem newM_L {h : AH} {t t' n k b j : Nat} (hb : hN h ≤ b ∧ b < hN h + 1 + n) : hL (newM h t t' n k) b j = 0 := if_pos hb
theorem newM_R {h : AH} {t t' n k j : Nat} : hR (newM h t t' n k) (hN h) j = if j < n then some (hN h + 1 + j) else none := if_pos rfl
theorem arr_st {α : Type} (mk : α → Value) {cA : ClassId} {n k : Nat} {f g : Nat → α} {v : α} (hk : g k = v) (ho : ∀ j, j ≠ k → g j = f j) : (arrV cA n (fun j => mk (f j))).setSlot k (mk v) = arrV cA n (fun j => mk (g j)) := by
  rw [arrV_store]
  congr 1
  funext j
  unfold updV
  by_cases e : j = k
  · rw [if_pos e, e, hk]
  · rw [if_neg e, ho j e]
theorem up2_at {α : Type} {f : Nat → Nat → α} {a k : Nat} {v : α} : up2 f a k v a k = v := if_pos ⟨rfl, rfl⟩
theorem up2_ne {α : Type} {f : Nat → Nat → α} {a k b j : Nat} {v : α} (h : ¬ (b = a ∧ j = k)) : up2 f a k v b j = f b j := if_neg h
theorem up2_row {α : Type} {f : Nat → Nat → α} {a k b : Nat} {v : α} (h : b ≠ a) : up2 f a k v b = f b := funext fun _ => if_neg fun q => h q.1
section WA
variable {p : Program} {l : Launch} {e : Env} {R : Room} {s : State} {m : MethodId} {args : Array Value} {below : List Frame} {meth : Method} {c : Code} {H : Heap} {locs : List Loc} {cells slots : Nat} {Q : State → Prop}
variable {cc : ByteArray} {pc : Nat} {ls : Array Slot} {rest : List Value} {D : va_G} {HB : Heap} {h : AH}
theorem wa_iald (hexec : p.tables.exec = Jvm.exec) (hb : c.code = cc) (q : Rep D HB h s H) {o : Nat} {i : Int32} (hi : inb i (alen h o 0) = true ∨ inb i (alen h o 8) = true) (hdg : decode cc pc = .ok (.iaload, 1))
    (kk : W p l e R s m args below meth c H locs cells slots Q (F0 m (pc + 1) ls (.int (hI h o i.toNatClampNeg) :: rest))) : W p l e R s m args below meth c H locs cells slots Q (F0 m pc ls (.int i :: .ref o :: rest)) := by
  rcases hi with hi | hi
  · obtain ⟨n, hs, -, hin⟩ := alen_inv hi
    obtain ⟨⟨cA, g1, -, g3⟩, -⟩ := cell_arr q hs (by decide)
    have g3 : H[o]? = some (arrV cA n (fun j => .int (hI h o j))) := g3
    have hlt : i.toNatClampNeg < n := Nat.not_le.mp fun q => hin (Or.inr q)
    exact W.iald (v := .int (hI h o i.toNatClampNeg)) hexec hb g3 (g1 n (fun j => .int (hI h o j))) (fun q => by cases q) (by show ¬ (i < 0 ∨ (arrV _ _ _).slots.size ≤ _); rw [arrV_size]; exact hin) (by show (arrV _ _ _).slots[_]? = _; rw [arrV_read _ _ hlt]) rfl rfl hdg kk
  · obtain ⟨n, hs, -, hin⟩ := alen_inv hi
    have hlt : i.toNatClampNeg < n := Nat.not_le.mp fun q => hin (Or.inr q)
    rcases (q.2.2.2 o _ hs).1 with ⟨z, -⟩ | ⟨-, scr, h1, h2, h3, h4, h5⟩ | ⟨cj, -, z, -⟩
    · exact absurd z (show ¬ (8 : Nat) < 8 by decide)
    · exact W.iald (v := .int (hI h o i.toNatClampNeg)) hexec hb h1 h2 h3 (by rw [h4]; exact hin) (h5 _ hlt) rfl rfl hdg kk
    · have := congrArg Prod.fst z; dsimp only at this; omega
theorem wa_lald (hexec : p.tables.exec = Jvm.exec) (hb : c.code = cc) (q : Rep D HB h s H) {o : Nat} {i : Int32} (hi : inb i (alen h o 1) = true) (hdg : decode cc pc = .ok (.laload, 1))
    (kk : W p l e R s m args below meth c H locs cells slots Q (F0 m (pc + 1) ls (.long (hL h o i.toNatClampNeg) :: rest))) : W p l e R s m args below meth c H locs cells slots Q (F0 m pc ls (.int i :: .ref o :: rest)) := by
  obtain ⟨n, hs, -, hin⟩ := alen_inv hi
  obtain ⟨⟨cA, g1, -, g3⟩, -⟩ := cell_arr q hs (by decide)
  have g3 : H[o]? = some (arrV cA n (fun j => .long (hL h o j))) := g3
  have hlt : i.toNatClampNeg < n := Nat.not_le.mp fun q => hin (Or.inr q)
  exact W.lald (v := .long (hL h o i.toNatClampNeg)) hexec hb g3 (g1 n (fun j => .long (hL h o j))) (fun q => by cases q) (by show ¬ (i < 0 ∨ (arrV _ _ _).slots.size ≤ _); rw [arrV_size]; exact hin) (by show (arrV _ _ _).slots[_]? = _; rw [arrV_read _ _ hlt]) rfl rfl hdg kk
theorem wa_sald (hexec : p.tables.exec = Jvm.exec) (hb : c.code = cc) (q : Rep D HB h s H) {o : Nat} {i : Int32} (hi : inb i (alen h o 2) = true) (hdg : decode cc pc = .ok (.saload, 1))
    (kk : W p l e R s m args below meth c H locs cells slots Q (F0 m (pc + 1) ls (.int (hI h o i.toNatClampNeg) :: rest))) : W p l e R s m args below meth c H locs cells slots Q (F0 m pc ls (.int i :: .ref o :: rest)) := by
  obtain ⟨n, hs, -, hin⟩ := alen_inv hi
  obtain ⟨⟨cA, g1, -, g3⟩, -⟩ := cell_arr q hs (by decide)
  have g3 : H[o]? = some (arrV cA n (fun j => .int (hI h o j))) := g3
  have hlt : i.toNatClampNeg < n := Nat.not_le.mp fun q => hin (Or.inr q)
  exact W.sald (v := .int (hI h o i.toNatClampNeg)) hexec hb g3 (g1 n (fun j => .int (hI h o j))) (fun q => by cases q) (by show ¬ (i < 0 ∨ (arrV _ _ _).slots.size ≤ _); rw [arrV_size]; exact hin) (by show (arrV _ _ _).slots[_]? = _; rw [arrV_read _ _ hlt]) rfl rfl hdg kk
theorem wa_zald (hexec : p.tables.exec = Jvm.exec) (hb : c.code = cc) (q : Rep D HB h s H) {o : Nat} {i : Int32} (hi : inb i (alen h o 3) = true) (hdg : decode cc pc = .ok (.baload, 1))
    (kk : W p l e R s m args below meth c H locs cells slots Q (F0 m (pc + 1) ls (.int (hI h o i.toNatClampNeg) :: rest))) : W p l e R s m args below meth c H locs cells slots Q (F0 m pc ls (.int i :: .ref o :: rest)) := by
  obtain ⟨n, hs, -, hin⟩ := alen_inv hi
  obtain ⟨⟨cA, g1, -, g3⟩, -⟩ := cell_arr q hs (by decide)
  have g3 : H[o]? = some (arrV cA n (fun j => .int (hI h o j))) := g3
  have hlt : i.toNatClampNeg < n := Nat.not_le.mp fun q => hin (Or.inr q)
  exact W.zald (v := .int (hI h o i.toNatClampNeg)) hexec hb g3 (g1 n (fun j => .int (hI h o j))) (fun q => by cases q) (by show ¬ (i < 0 ∨ (arrV _ _ _).slots.size ≤ _); rw [arrV_size]; exact hin) (by show (arrV _ _ _).slots[_]? = _; rw [arrV_read _ _ hlt]) rfl rfl hdg kk
theorem wa_aald (hexec : p.tables.exec = Jvm.exec) (hb : c.code = cc) (q : Rep D HB h s H) {o : Nat} {i : Int32} (hi : inb i (alen h o 4) = true ∨ inb i (alen h o 5) = true ∨ inb i (alen h o 6) = true ∨ inb i (alen h o 7) = true) (hdg : decode cc pc = .ok (.aaload, 1))
    (kk : W p l e R s m args below meth c H locs cells slots Q (F0 m (pc + 1) ls (va_rf (hR h o i.toNatClampNeg) :: rest))) : W p l e R s m args below meth c H locs cells slots Q (F0 m pc ls (.int i :: .ref o :: rest)) := by
  have key : ∀ t n, hS h o = some (t, n) → vp_in i n → (t = 4 ∨ t = 5 ∨ t = 6 ∨ t = 7) → W p l e R s m args below meth c H locs cells slots Q (F0 m pc ls (.int i :: .ref o :: rest)) := by
    intro t n hs hin ht
    obtain ⟨⟨cA, g1, -, g3⟩, -⟩ := cell_arr q hs (by omega)
    have hlt : i.toNatClampNeg < n := Nat.not_le.mp fun q => hin (Or.inr q)
    have g3 : H[o]? = some (arrV cA n (fun j => va_rf (hR h o j))) := by rcases ht with rfl | rfl | rfl | rfl <;> exact g3
    have hr : (tyB t).isReference = true := by rcases ht with rfl | rfl | rfl | rfl <;> rfl
    exact W.aald (v := va_rf (hR h o i.toNatClampNeg)) (ty := tyB t) hexec hb g3 (g1 n (fun j => va_rf (hR h o j))) hr (fun q => by cases q) (by show ¬ (i < 0 ∨ (arrV _ _ _).slots.size ≤ _); rw [arrV_size]; exact hin) (by show (arrV _ _ _).slots[_]? = _; rw [arrV_read _ _ hlt]) rfl rfl hdg kk
  rcases hi with hi | hi | hi | hi
  · obtain ⟨n, hs, -, hin⟩ := alen_inv hi; exact key 4 n hs hin (by omega)
  · obtain ⟨n, hs, -, hin⟩ := alen_inv hi; exact key 5 n hs hin (by omega)
  · obtain ⟨n, hs, -, hin⟩ := alen_inv hi; exact key 6 n hs hin (by omega)
  · obtain ⟨n, hs, -, hin⟩ := alen_inv hi; exact key 7 n hs hin (by omega)
theorem wa_iast (hexec : p.tables.exec = Jvm.exec) (hb : c.code = cc) (q : Rep D HB h s H) {o : Nat} {i x : Int32} (hi : inb i (alen h o 0) = true) (hdg : decode cc pc = .ok (.iastore, 1))
    (kk : ∀ H', Rep D HB (stI h o i.toNatClampNeg x) s H' → HB.size ≤ o → W p l e R s m args below meth c H' (locs ++ [⟨o, i.toNatClampNeg⟩]) cells slots Q (F0 m (pc + 1) ls rest)) : W p l e R s m args below meth c H locs cells slots Q (F0 m pc ls (.int x :: .int i :: .ref o :: rest)) := by
  obtain ⟨n, hs, -, hin⟩ := alen_inv hi
  obtain ⟨⟨cA, g1, g2, g3⟩, hB⟩ := cell_arr q hs (by decide)
  have g3 : H[o]? = some (arrV cA n (fun j => .int (hI h o j))) := g3
  refine W.iast hexec hb g3 (g1 n (fun j => .int (hI h o j))) (fun q => by cases q) (by show ¬ (i < 0 ∨ (arrV _ _ _).slots.size ≤ _); rw [arrV_size]; exact hin) rfl rfl hdg fun H1 e z oq => ?_
  refine kk H1 (q.set hs (show ¬ (0 : Nat) = 8 by decide) rfl rfl (fun b hb => ⟨up2_row hb, rfl, rfl⟩) z oq (Or.inl ⟨show (0 : Nat) < 8 by decide, cA, g1, g2, ?_⟩)) hB
  rw [e]
  exact congrArg some (arr_st (fun z => Value.int z) (f := hI h o) up2_at (fun j hj => up2_ne fun q => hj q.2))
theorem wa_last (hexec : p.tables.exec = Jvm.exec) (hb : c.code = cc) (q : Rep D HB h s H) {o : Nat} {i : Int32} {x : Int64} (hi : inb i (alen h o 1) = true) (hdg : decode cc pc = .ok (.lastore, 1))
    (kk : ∀ H', Rep D HB (stL h o i.toNatClampNeg x) s H' → HB.size ≤ o → W p l e R s m args below meth c H' (locs ++ [⟨o, i.toNatClampNeg⟩]) cells slots Q (F0 m (pc + 1) ls rest)) : W p l e R s m args below meth c H locs cells slots Q (F0 m pc ls (.long x :: .int i :: .ref o :: rest)) := by
  obtain ⟨n, hs, -, hin⟩ := alen_inv hi
  obtain ⟨⟨cA, g1, g2, g3⟩, hB⟩ := cell_arr q hs (by decide)
  have g3 : H[o]? = some (arrV cA n (fun j => .long (hL h o j))) := g3
  refine W.last hexec hb g3 (g1 n (fun j => .long (hL h o j))) (fun q => by cases q) (by show ¬ (i < 0 ∨ (arrV _ _ _).slots.size ≤ _); rw [arrV_size]; exact hin) rfl rfl hdg fun H1 e z oq => ?_
  refine kk H1 (q.set hs (show ¬ (1 : Nat) = 8 by decide) rfl rfl (fun b hb => ⟨rfl, up2_row hb, rfl⟩) z oq (Or.inl ⟨show (1 : Nat) < 8 by decide, cA, g1, g2, ?_⟩)) hB
  rw [e]
  exact congrArg some (arr_st (fun z => Value.long z) (f := hL h o) up2_at (fun j hj => up2_ne fun q => hj q.2))
theorem nar_short (x : Int32) : narrow .short (.int x) = .int (vp_nar .short x) := rfl
theorem nar_bool (x : Int32) : narrow .boolean (.int x) = .int (vp_nar .boolean x) := rfl
theorem wa_sast (hexec : p.tables.exec = Jvm.exec) (hb : c.code = cc) (q : Rep D HB h s H) {o : Nat} {i x : Int32} (hi : inb i (alen h o 2) = true) (hdg : decode cc pc = .ok (.sastore, 1))
    (kk : ∀ H', Rep D HB (stI h o i.toNatClampNeg (vp_nar .short x)) s H' → HB.size ≤ o → W p l e R s m args below meth c H' (locs ++ [⟨o, i.toNatClampNeg⟩]) cells slots Q (F0 m (pc + 1) ls rest)) : W p l e R s m args below meth c H locs cells slots Q (F0 m pc ls (.int x :: .int i :: .ref o :: rest)) := by
  obtain ⟨n, hs, -, hin⟩ := alen_inv hi
  obtain ⟨⟨cA, g1, g2, g3⟩, hB⟩ := cell_arr q hs (by decide)
  have g3 : H[o]? = some (arrV cA n (fun j => .int (hI h o j))) := g3
  refine W.sast hexec hb g3 (g1 n (fun j => .int (hI h o j))) (fun q => by cases q) (by show ¬ (i < 0 ∨ (arrV _ _ _).slots.size ≤ _); rw [arrV_size]; exact hin) rfl rfl hdg fun H1 e z oq => ?_
  refine kk H1 (q.set hs (show ¬ (2 : Nat) = 8 by decide) rfl rfl (fun b hb => ⟨up2_row hb, rfl, rfl⟩) z oq (Or.inl ⟨show (2 : Nat) < 8 by decide, cA, g1, g2, ?_⟩)) hB
  rw [e, nar_short]
  exact congrArg some (arr_st (fun z => Value.int z) (f := hI h o) up2_at (fun j hj => up2_ne fun q => hj q.2))
theorem wa_zast (hexec : p.tables.exec = Jvm.exec) (hb : c.code = cc) (q : Rep D HB h s H) {o : Nat} {i x : Int32} (hi : inb i (alen h o 3) = true) (hdg : decode cc pc = .ok (.bastore, 1))
    (kk : ∀ H', Rep D HB (stI h o i.toNatClampNeg (vp_nar .boolean x)) s H' → HB.size ≤ o → W p l e R s m args below meth c H' (locs ++ [⟨o, i.toNatClampNeg⟩]) cells slots Q (F0 m (pc + 1) ls rest)) : W p l e R s m args below meth c H locs cells slots Q (F0 m pc ls (.int x :: .int i :: .ref o :: rest)) := by
  obtain ⟨n, hs, -, hin⟩ := alen_inv hi
  obtain ⟨⟨cA, g1, g2, g3⟩, hB⟩ := cell_arr q hs (by decide)
  have g3 : H[o]? = some (arrV cA n (fun j => .int (hI h o j))) := g3
  refine W.zast hexec hb g3 (g1 n (fun j => .int (hI h o j))) (fun q => by cases q) (by show ¬ (i < 0 ∨ (arrV _ _ _).slots.size ≤ _); rw [arrV_size]; exact hin) rfl rfl hdg fun H1 e z oq => ?_
  refine kk H1 (q.set hs (show ¬ (3 : Nat) = 8 by decide) rfl rfl (fun b hb => ⟨up2_row hb, rfl, rfl⟩) z oq (Or.inl ⟨show (3 : Nat) < 8 by decide, cA, g1, g2, ?_⟩)) hB
  rw [e, nar_bool]
  exact congrArg some (arr_st (fun z => Value.int z) (f := hI h o) up2_at (fun j hj => up2_ne fun q => hj q.2))
theorem wa_aast (hexec : p.tables.exec = Jvm.exec) (hb : c.code = cc) (hK : va_K D classes [] s) (q : Rep D HB h s H) {o v : Nat} {i : Int32} (hi : inb i (alen h o 5) = true) (hv : hS h v = some (101, 0)) (hdg : decode cc pc = .ok (.aastore, 1))
    (kk : ∀ H', Rep D HB (stR h o i.toNatClampNeg (some v)) s H' → HB.size ≤ o → W p l e R s m args below meth c H' (locs ++ [⟨o, i.toNatClampNeg⟩]) cells slots Q (F0 m (pc + 1) ls rest)) : W p l e R s m args below meth c H locs cells slots Q (F0 m pc ls (.ref v :: .int i :: .ref o :: rest)) := by
  obtain ⟨n, hs, -, hin⟩ := alen_inv hi
  obtain ⟨⟨cA, g1, g2, g3⟩, hB⟩ := cell_arr q hs (by decide)
  have g3 : H[o]? = some (arrV cA n (fun j => va_rf (hR h o j))) := g3
  have hlt : i.toNatClampNeg < n := Nat.not_le.mp fun q => hin (Or.inr q)
  have h0 : ¬ i < 0 := fun q => hin (Or.inl q)
  obtain ⟨-, ⟨cellV, v1, v2, v3, -⟩, -⟩ := cell_obj (ci := 1) q hv
  have hcls := (hK.1 1 _ (cls_at 1 (by decide))).2
  obtain ⟨kA, comp, k1, k2, k3, k4⟩ := g2
  have hcomp : comp = D.1 1 := Option.some.inj (k3.symm.trans hcls.1)
  subst hcomp
  obtain ⟨kC, hkC, -⟩ := hcls.2
  refine W.aast hexec hb g3 (fun q h => by cases h) (fun h => by cases h) k1 k2 rfl hkC ⟨h0, by show _ < (arrV _ _ _).slots.size; rw [arrV_size]; exact hlt⟩ v1 (fun q h => by rw [v3] at h; cases h) (by rw [v2]; exact hkC) (by rw [v2]; exact va_assign hcls) rfl rfl hdg fun H1 e z oq => ?_
  refine kk H1 (q.set hs (show ¬ (5 : Nat) = 8 by decide) rfl rfl (fun b hb => ⟨rfl, rfl, up2_row hb⟩) z oq (Or.inl ⟨show (5 : Nat) < 8 by decide, cA, g1, ⟨kA, D.1 1, k1, k2, k3, k4⟩, ?_⟩)) hB
  rw [e]
  exact congrArg some (arr_st (fun z => va_rf z) (f := hR h o) (v := some v) up2_at (fun j hj => up2_ne fun q => hj q.2))
theorem wa_alen (hexec : p.tables.exec = Jvm.exec) (hb : c.code = cc) (q : Rep D HB h s H) {o n : Nat} (hn : lenA h o = some n) (hdg : decode cc pc = .ok (.arraylength, 1))
    (kk : W p l e R s m args below meth c H locs cells slots Q (F0 m (pc + 1) ls (.int (nI n) :: rest))) : W p l e R s m args below meth c H locs cells slots Q (F0 m pc ls (.ref o :: rest)) := by
  unfold lenA at hn
  split at hn
  · rename_i t n' hs
    split at hn
    · rename_i ht
      cases hn
      rcases (q.2.2.2 o _ hs).1 with ⟨z, cA, g1, -, g3⟩ | ⟨-, scr, h1, h2, h3, h4, h5⟩ | ⟨cj, -, z, -⟩
      · have z : t < 8 := z
        have z2 : t = 0 ∨ t = 1 ∨ t = 2 ∨ t = 3 ∨ t = 4 ∨ t = 5 ∨ t = 6 ∨ t = 7 := by omega
        rcases z2 with rfl | rfl | rfl | rfl | rfl | rfl | rfl | rfl
        · have g3 : H[o]? = some (arrV cA n (fun j => .int (hI h o j))) := g3
          exact W.alen (n := Int32.ofNat n) hexec hb g3 (g1 n (fun j => .int (hI h o j))) (by rw [arrV_size] <;> rfl) rfl rfl hdg kk
        · have g3 : H[o]? = some (arrV cA n (fun j => .long (hL h o j))) := g3
          exact W.alen (n := Int32.ofNat n) hexec hb g3 (g1 n (fun j => .long (hL h o j))) (by rw [arrV_size] <;> rfl) rfl rfl hdg kk
        · have g3 : H[o]? = some (arrV cA n (fun j => .int (hI h o j))) := g3
          exact W.alen (n := Int32.ofNat n) hexec hb g3 (g1 n (fun j => .int (hI h o j))) (by rw [arrV_size] <;> rfl) rfl rfl hdg kk
        · have g3 : H[o]? = some (arrV cA n (fun j => .int (hI h o j))) := g3
          exact W.alen (n := Int32.ofNat n) hexec hb g3 (g1 n (fun j => .int (hI h o j))) (by rw [arrV_size] <;> rfl) rfl rfl hdg kk
        · have g3 : H[o]? = some (arrV cA n (fun j => va_rf (hR h o j))) := g3
          exact W.alen (n := Int32.ofNat n) hexec hb g3 (g1 n (fun j => va_rf (hR h o j))) (by rw [arrV_size] <;> rfl) rfl rfl hdg kk
        · have g3 : H[o]? = some (arrV cA n (fun j => va_rf (hR h o j))) := g3
          exact W.alen (n := Int32.ofNat n) hexec hb g3 (g1 n (fun j => va_rf (hR h o j))) (by rw [arrV_size] <;> rfl) rfl rfl hdg kk
        · have g3 : H[o]? = some (arrV cA n (fun j => va_rf (hR h o j))) := g3
          exact W.alen (n := Int32.ofNat n) hexec hb g3 (g1 n (fun j => va_rf (hR h o j))) (by rw [arrV_size] <;> rfl) rfl rfl hdg kk
        · have g3 : H[o]? = some (arrV cA n (fun j => va_rf (hR h o j))) := g3
          exact W.alen (n := Int32.ofNat n) hexec hb g3 (g1 n (fun j => va_rf (hR h o j))) (by rw [arrV_size] <;> rfl) rfl rfl hdg kk
      · exact W.alen (n := Int32.ofNat n) hexec hb h1 h2 (by rw [h4] <;> rfl) rfl rfl hdg kk
      · have := congrArg Prod.fst z; dsimp only at this; omega
    · cases hn
  · cases hn
theorem wa_new (hexec : p.tables.exec = Jvm.exec) (hb : c.code = cc) (hW : WRD s) (hK : va_K D classes [] s) {own : String} {index ci : Nat} (hown : s.vm.findClass own = some m.cls) (hci : ci < 6) (hcl : (Cond.classLink own index (clNm ci)).before args s = true) (q : Rep D HB h s H) (hcells : cells + 1 ≤ R.cells) (hslots : slots + clNr ci ≤ R.slots) (hdg : decode cc pc = .ok (.new index, 3))
    (kk : ∀ H', Rep D HB (newC h (100 + ci, 0) (clNr ci)) s H' → W p l e R s m args below meth c H' locs (cells + 1) (slots + clNr ci) Q (F0 m (pc + 3) ls (.ref (hN h) :: rest))) : W p l e R s m args below meth c H locs cells slots Q (F0 m pc ls rest) := by
  have hts := lay_hts hW hci args
  obtain ⟨w1, w2, hf⟩ := clsF hci
  have hKn := hK.1 ci _ (cls_at ci hci)
  refine W.newcK hexec hb hown hcl (hW.at w1 rfl args) (hW.at w2 rfl args) rfl hdg hcells hslots hKn.2.1 q.1 fun H1 kC hkC e1 z1 o1 => ?_
  refine kk H1 (Rep_new q z1 o1 (Or.inr (Or.inr ⟨ci, hci, rfl, ?_⟩)))
  refine (u_born (clty ci) hts (fun _ h9 => h9) hKn hkC e1 (fun k hk => (hf k hk).2.1)).to fun j hj => ?_
  obtain ⟨-, -, -, f0, f1, f2, f3, -⟩ := hf j hj
  unfold vp_V
  rw [List.getD_eq_getElem?_getD, fsOf_at hj]
  show defaultValue (clty ci j) = if fk ci j = 2 then va_rf (hR (newC h (100 + ci, 0) (clNr ci)) (hN h) j) else .int (hI (newC h (100 + ci, 0) (clNr ci)) (hN h) j)
  rw [newC_I, newC_R]
  rcases (by omega : fk ci j = 0 ∨ fk ci j = 1 ∨ fk ci j = 2) with z | z | z
  · rw [f0 z, z]; rfl
  · rw [f1 z, z]; rfl
  · rw [if_pos z]
    have := f2 z
    cases hty : clty ci j <;> rw [hty] at this <;> first | (cases this; done) | rfl
theorem wa_newa (hexec : p.tables.exec = Jvm.exec) (hb : c.code = cc) (hW : WRD s) {t : Nat} (ht : t < 4) (q : Rep D HB h s H) {n : Int32} (hn : ¬ n < 0) (hn2 : n.toNatClampNeg ≤ 67108864) (hcells : cells + 1 ≤ R.cells) (hslots : slots + n.toNatClampNeg ≤ R.slots) (hdg : decode cc pc = .ok (.newarray (atOf t), 2))
    (kk : ∀ H', Rep D HB (newC h (t, n.toNatClampNeg) n.toNatClampNeg) s H' → W p l e R s m args below meth c H' locs (cells + 1) (slots + n.toNatClampNeg) Q (F0 m (pc + 2) ls (.ref (hN h) :: rest))) : W p l e R s m args below meth c H locs cells slots Q (F0 m pc ls (.int n :: rest)) := by
  have ao := List.all_eq_true.mp arr_ok t (List.mem_range.mpr ht)
  simp only [Bool.and_eq_true, decide_eq_true_eq] at ao
  have hbt : n.toNatClampNeg * componentBytes (newarray.typeOf (atOf t)) ≤ 536870912 := by
    have : componentBytes (newarray.typeOf (atOf t)) ≤ 8 := by
      rcases (by omega : t = 0 ∨ t = 1 ∨ t = 2 ∨ t = 3) with rfl | rfl | rfl | rfl <;> exact Nat.le_of_ble_eq_true rfl
    exact Nat.le_trans (Nat.mul_le_mul hn2 this) (Nat.le_of_ble_eq_true rfl)
  refine va_newaK hexec hb (hW.at ao.1 rfl args) rfl hdg rfl hn rfl hbt hcells hslots q.1 fun H1 cA e1 z1 o1 hAr hNm => ?_
  refine kk H1 (Rep_new q z1 o1 (Or.inl ⟨by show t < 8; omega, cA, by rw [← ao.2]; exact hAr, by rw [← ao.2]; rcases (by omega : t = 0 ∨ t = 1 ∨ t = 2 ∨ t = 3) with rfl | rfl | rfl | rfl <;> exact hNm, ?_⟩))
  rw [e1]
  refine congrArg some ?_
  rcases (by omega : t = 0 ∨ t = 1 ∨ t = 2 ∨ t = 3) with rfl | rfl | rfl | rfl
  · show arrV cA n.toNatClampNeg (fun _ => Value.int 0) = arrV cA n.toNatClampNeg (fun j => Value.int (hI (newC h (0, n.toNatClampNeg) n.toNatClampNeg) (hN h) j))
    exact congrArg (arrV cA n.toNatClampNeg) (funext fun j => congrArg Value.int newC_I.symm)
  · show arrV cA n.toNatClampNeg (fun _ => Value.long 0) = arrV cA n.toNatClampNeg (fun j => Value.long (hL (newC h (1, n.toNatClampNeg) n.toNatClampNeg) (hN h) j))
    exact congrArg (arrV cA n.toNatClampNeg) (funext fun j => congrArg Value.long newC_L.symm)
  · show arrV cA n.toNatClampNeg (fun _ => Value.int 0) = arrV cA n.toNatClampNeg (fun j => Value.int (hI (newC h (2, n.toNatClampNeg) n.toNatClampNeg) (hN h) j))
    exact congrArg (arrV cA n.toNatClampNeg) (funext fun j => congrArg Value.int newC_I.symm)
  · show arrV cA n.toNatClampNeg (fun _ => Value.int 0) = arrV cA n.toNatClampNeg (fun j => Value.int (hI (newC h (3, n.toNatClampNeg) n.toNatClampNeg) (hN h) j))
    exact congrArg (arrV cA n.toNatClampNeg) (funext fun j => congrArg Value.int newC_I.symm)
theorem wa_newq (hexec : p.tables.exec = Jvm.exec) (hb : c.code = cc) (hW : WRD s) {own : String} {index : Nat} (hown : s.vm.findClass own = some m.cls) (hcl : (Cond.classLink own index "RefusedLast$Shelf").before args s = true) (q : Rep D HB h s H) {n : Int32} (hn : ¬ n < 0) (hn2 : n.toNatClampNeg ≤ 67108864) (hcells : cells + 1 ≤ R.cells) (hslots : slots + n.toNatClampNeg ≤ R.slots) (hdg : decode cc pc = .ok (.anewarray index, 3))
    (kk : ∀ H', Rep D HB (newC h (5, n.toNatClampNeg) n.toNatClampNeg) s H' → W p l e R s m args below meth c H' locs (cells + 1) (slots + n.toNatClampNeg) Q (F0 m (pc + 3) ls (.ref (hN h) :: rest))) : W p l e R s m args below meth c H locs cells slots Q (F0 m pc ls (.int n :: rest)) := by
  refine W.anew hexec hb hown hcl (hW.at over_ok.2.1 rfl args) rfl hdg rfl hn (Nat.le_trans (Nat.mul_le_mul_right 4 hn2) (Nat.le_of_ble_eq_true rfl)) hcells hslots fun cA kA comp f1 f2 f3 f4 => ?_
  rw [q.1]
  have hz := q.1
  generalize hH1 : H.push ({ cls := cA, slots := Array.replicate n.toNatClampNeg .null, vm := .none } : Cell) = H1
  have z1 : H1.size = hN h + 1 := by rw [← hH1, Array.size_push, hz]
  have e1 : H1[hN h]? = some (arrV cA n.toNatClampNeg (fun _ => .null)) := by rw [← hH1, ← hz, Array.getElem?_push_size, ← arrV_new]
  have o1 : ∀ b : Nat, b < hN h → H1[b]? = H[b]? := fun b hb => by rw [← hH1, Array.getElem?_push, if_neg (by omega)]
  refine kk H1 (Rep_new q z1 o1 (Or.inl ⟨show (5 : Nat) < 8 by decide, cA, fun N z => ⟨(fun k h => by cases h), kA, f2, comp, f3⟩, ⟨kA, comp, f2, f3, f4, f1⟩, ?_⟩))
  rw [e1]
  show some (arrV cA n.toNatClampNeg (fun _ => va_rf none)) = some (arrV cA n.toNatClampNeg (fun j => va_rf (hR (newC h (5, n.toNatClampNeg) n.toNatClampNeg) (hN h) j)))
  exact congrArg some (congrArg (arrV cA n.toNatClampNeg) (funext fun j => congrArg va_rf newC_R.symm))
end WA
section WM
variable {p : Program} {l : Launch} {e : Env} {R : Room} {s : State} {m : MethodId} {args : Array Value} {below : List Frame} {meth : Method} {c : Code} {H : Heap} {locs : List Loc} {cells slots : Nat} {Q : State → Prop}
variable {cc : ByteArray} {pc : Nat} {ls : Array Slot} {rest : List Value} {D : va_G} {HB : Heap} {h : AH}
theorem outer_eq (c : ClassId) (N h0 : Nat) : ∀ i : Nat, Jvm.Free.Multi.outerC c N h0 i = arrV c N (fun j => va_rf (if j < i then some (h0 + 1 + j) else none))
  | 0 => by
    show ({ cls := c, slots := Array.replicate N .null, vm := .none } : Cell) = _
    rw [arrV_new]
    refine congrArg (arrV c N) (funext fun j => ?_)
    simp [va_rf]
  | i + 1 => by
    show (Jvm.Free.Multi.outerC c N h0 i).setSlot i (.ref (h0 + 1 + i)) = _
    rw [outer_eq c N h0 i, arrV_store]
    refine congrArg (arrV c N) (funext fun j => ?_)
    by_cases e : j = i
    · subst e
      simp [updV, va_rf]
    · by_cases h : j < i
      · simp [updV, e, h, Nat.lt_succ_of_lt h]
      · simp [updV, e, h, show ¬ j < i + 1 by omega]
theorem wa_newm (hexec : p.tables.exec = Jvm.exec) (hb : c.code = cc) (hW : WRD s) {own : String} {index t t' : Nat} (hown : s.vm.findClass own = some m.cls) (ht : (t = 4 ∧ t' = 1) ∨ (t = 6 ∧ t' = 0) ∨ (t = 7 ∧ t' = 3)) (hcl : (Cond.classLink own index ("[" ++ (FieldType.array (mulT t)).toString)).before args s = true) (q : Rep D HB h s H) {n k : Int32} (hn : ¬ n < 0) (hk : ¬ k < 0) (hn2 : n.toNatClampNeg ≤ 67108864) (hk2 : k.toNatClampNeg ≤ 67108864) (hcells : cells + (1 + n.toNatClampNeg) ≤ R.cells) (hslots : slots + (n.toNatClampNeg + n.toNatClampNeg * k.toNatClampNeg) ≤ R.slots) (hdg : decode cc pc = .ok (.multianewarray index 2, 4))
    (kk : ∀ H', Rep D HB (newM h t t' n.toNatClampNeg k.toNatClampNeg) s H' → W p l e R s m args below meth c H' locs (cells + (1 + n.toNatClampNeg)) (slots + (n.toNatClampNeg + n.toNatClampNeg * k.toNatClampNeg)) Q (F0 m (pc + 4) ls (.ref (hN h) :: rest))) : W p l e R s m args below meth c H locs cells slots Q (F0 m pc ls (.int k :: .int n :: rest)) := by
  have hover : (Cond.arrayOver (.array (mulT t))).before args s = true := by
    rcases ht with ⟨rfl, -⟩ | ⟨rfl, -⟩ | ⟨rfl, -⟩
    · exact hW.at over_ok.1 rfl args
    · exact hW.at over_ok.2.2.1 rfl args
    · exact hW.at over_ok.2.2.2 rfl args
  have harr : (Cond.arrayClass (mulT t)).before args s = true := by
    have ao := fun t (ht : t < 4) => (Bool.and_eq_true _ _ ▸ List.all_eq_true.mp arr_ok t (List.mem_range.mpr ht) : _ ∧ _)
    rcases ht with ⟨rfl, -⟩ | ⟨rfl, -⟩ | ⟨rfl, -⟩
    · exact hW.at (of_decide_eq_true (ao 1 (by decide)).1) rfl args
    · exact hW.at (of_decide_eq_true (ao 0 (by decide)).1) rfl args
    · exact hW.at (of_decide_eq_true (ao 3 (by decide)).1) rfl args
  have hcb : componentBytes (mulT t) ≤ 8 := by rcases ht with ⟨rfl, -⟩ | ⟨rfl, -⟩ | ⟨rfl, -⟩ <;> exact Nat.le_of_ble_eq_true rfl
  have hdf : fits (mulT t) (defaultValue (mulT t)) = true := by rcases ht with ⟨rfl, -⟩ | ⟨rfl, -⟩ | ⟨rfl, -⟩ <;> rfl
  have hdd : (defaultValue (mulT t)).isDefault = true := by rcases ht with ⟨rfl, -⟩ | ⟨rfl, -⟩ | ⟨rfl, -⟩ <;> decide
  have e1 : tyB t = .array (mulT t) := by rcases ht with ⟨rfl, -⟩ | ⟨rfl, -⟩ | ⟨rfl, -⟩ <;> rfl
  have e2 : tyB t' = mulT t := by rcases ht with ⟨rfl, rfl⟩ | ⟨rfl, rfl⟩ | ⟨rfl, rfl⟩ <;> rfl
  intro T hT Xs
  obtain ⟨vm₁, cA, comp, -, fA, fC, hO, hIn, X', step⟩ := Xs.multianewarray2F hexec hown hcl hover harr (g := F0 m pc ls (.int k :: .int n :: rest)) rfl (by rw [hb]; exact hdg) rfl hn hk (Nat.le_trans (Nat.mul_le_mul_right 4 hn2) (Nat.le_of_ble_eq_true rfl)) (Nat.le_trans (Nat.mul_le_mul hk2 hcb) (Nat.le_of_ble_eq_true rfl)) (Nat.le_trans hk2 (Nat.le_of_ble_eq_true rfl)) hdf hdd hcells hslots
  generalize hF : Jvm.Free.Multi.fill (T.setVm vm₁) cA comp n.toNatClampNeg k.toNatClampNeg (defaultValue (mulT t)) n.toNatClampNeg = F at X' step
  have hTh : (T.setVm vm₁).heap = H := hT
  obtain ⟨f1, f2, -, -⟩ := Jvm.Free.Multi.fill_facts (T.setVm vm₁) cA comp n.toNatClampNeg k.toNatClampNeg (defaultValue (mulT t)) n.toNatClampNeg
  rw [hF, hTh] at f1 f2
  rw [q.1] at f1 f2
  have hold : ∀ x : Nat, x < hN h → F.heap[x]? = H[x]? := fun x hx => by
    have := Jvm.Free.Multi.fill_old (T.setVm vm₁) cA comp n.toNatClampNeg k.toNatClampNeg (defaultValue (mulT t)) (a := x) (by rw [hTh, q.1]; exact hx) n.toNatClampNeg
    rw [hF, hTh] at this
    exact this
  have hrow : ∀ j : Nat, j < n.toNatClampNeg → F.heap[hN h + 1 + j]? = some (Jvm.Free.Multi.innerC comp k.toNatClampNeg (defaultValue (mulT t))) := fun j hj => by
    have := Jvm.Free.Multi.fill_inner (T.setVm vm₁) cA comp n.toNatClampNeg k.toNatClampNeg (defaultValue (mulT t)) n.toNatClampNeg j hj
    rw [hF, hTh, q.1] at this
    exact this
  rw [outer_eq] at f2
  have hAr : ArrOfT s cA (.array (mulT t)) := fun N9 z9 => by
    obtain ⟨-, k9, hk9, cm9, hkk9⟩ := (hO 0 0 0).1
    exact ⟨(fun q hq => by cases hq), k9, hk9, cm9, hkk9⟩
  have hAc : ArrOfT s comp (mulT t) := fun N9 z9 => by
    obtain ⟨-, k9, hk9, cm9, hkk9⟩ := (hIn 0 .null).1
    exact ⟨(fun q hq => by cases hq), k9, hk9, cm9, hkk9⟩
  have hz : F.heap.size = hN h + 1 + n.toNatClampNeg := by rw [f1]; try omega
  have hrep : Rep D HB (newM h t t' n.toNatClampNeg k.toNatClampNeg) s F.heap := by
    refine ⟨hz, by rw [hz, ← q.1]; exact Nat.le_trans q.2.1 (by omega), fun b hb => ?_, fun b sb hb => ?_⟩
    · rw [hold b (by rw [← q.1]; exact Nat.lt_of_lt_of_le hb q.2.1)]; exact q.2.2.1 b hb
    · have hb : (if b = hN h then some (t, n.toNatClampNeg) else if hN h < b ∧ b < hN h + 1 + n.toNatClampNeg then some (t', k.toNatClampNeg) else hS h b) = some sb := hb
      by_cases b1 : b = hN h
      · rw [if_pos b1] at hb
        cases hb
        subst b1
        refine ⟨Or.inl ⟨by show t < 8; omega, cA, by rw [e1]; exact hAr, by rw [e1]; exact fA, ?_⟩, Or.inr (by rw [← q.1]; exact q.2.1)⟩
        rw [f2]
        refine congrArg some ?_
        have e3 : vp_cell cA (arE (newM h t t' n.toNatClampNeg k.toNatClampNeg) (hN h) t n.toNatClampNeg) = arrV cA n.toNatClampNeg (fun j => va_rf (hR (newM h t t' n.toNatClampNeg k.toNatClampNeg) (hN h) j)) := by
          rcases ht with ⟨rfl, -⟩ | ⟨rfl, -⟩ | ⟨rfl, -⟩ <;> rfl
        rw [e3]
        exact congrArg (arrV cA n.toNatClampNeg) (funext fun j => congrArg va_rf newM_R.symm)
      · rw [if_neg b1] at hb
        by_cases b2 : hN h < b ∧ b < hN h + 1 + n.toNatClampNeg
        · rw [if_pos b2] at hb
          cases hb
          obtain ⟨j, rfl⟩ : ∃ j, b = hN h + 1 + j := ⟨b - (hN h + 1), by omega⟩
          refine ⟨Or.inl ⟨by show t' < 8; omega, comp, by rw [e2]; exact hAc, by rw [e2]; rcases ht with ⟨rfl, -⟩ | ⟨rfl, -⟩ | ⟨rfl, -⟩ <;> exact fC, ?_⟩, Or.inr (by have := q.2.1; rw [q.1] at this; omega)⟩
          rw [hrow j (by omega)]
          refine congrArg some ?_
          show ({ cls := comp, slots := Array.replicate k.toNatClampNeg (defaultValue (mulT t)), vm := .none } : Cell) = _
          rw [arrV_new]
          have hin : hN h ≤ hN h + 1 + j ∧ hN h + 1 + j < hN h + 1 + n.toNatClampNeg := by omega
          rcases ht with ⟨rfl, rfl⟩ | ⟨rfl, rfl⟩ | ⟨rfl, rfl⟩
          · show arrV comp k.toNatClampNeg (fun _ => Value.long 0) = arrV comp k.toNatClampNeg (fun i => Value.long (hL (newM h 4 1 n.toNatClampNeg k.toNatClampNeg) (hN h + 1 + j) i))
            exact congrArg (arrV comp k.toNatClampNeg) (funext fun i => congrArg Value.long (newM_L hin).symm)
          · show arrV comp k.toNatClampNeg (fun _ => Value.int 0) = arrV comp k.toNatClampNeg (fun i => Value.int (hI (newM h 6 0 n.toNatClampNeg k.toNatClampNeg) (hN h + 1 + j) i))
            exact congrArg (arrV comp k.toNatClampNeg) (funext fun i => congrArg Value.int (newM_I hin).symm)
          · show arrV comp k.toNatClampNeg (fun _ => Value.int 0) = arrV comp k.toNatClampNeg (fun i => Value.int (hI (newM h 7 3 n.toNatClampNeg k.toNatClampNeg) (hN h + 1 + j) i))
            exact congrArg (arrV comp k.toNatClampNeg) (funext fun i => congrArg Value.int (newM_I hin).symm)
        · rw [if_neg b2] at hb
          obtain ⟨c1, c2⟩ := q.2.2.2 b sb hb
          have hlt : b < hN h := by rw [← q.1]; exact c1.lt
          have n1 : ¬ (hN h ≤ b ∧ b < hN h + 1 + n.toNatClampNeg) := by omega
          exact ⟨c1.kept (hold b hlt) (funext fun j => if_neg n1) (funext fun j => if_neg n1) (funext fun j => (if_neg b1).trans (if_neg b2)), c2⟩
  obtain ⟨t1, a1, b1⟩ := kk F.heap hrep F rfl (by simpa [Nat.add_assoc] using X')
  refine ⟨t1, step t1 ?_, b1⟩
  have e : T.heap.size = hN h := by rw [hT, q.1]
  rw [e]
  exact a1
end WM
