/-! THE REAL HEAP HOLDS THE ABSTRACT ONE -/
def okW (w : Cond) : Bool := goodWord w || (match w with
  | .fieldLinkNest _ _ _ _ _ _ => true
  | .methodLinkNest _ _ _ _ => true
  | .arrayOver (.object _) => true
  | .arrayOver (.array _) => true
  | _ => false)
theorem okW_moved {w : Cond} (hw : okW w = true) {A A' : Array Value} {s U : State} (hW : s.WarmedH U.vm) (h : w.before A s = true) : w.before A' U = true := by
  by_cases hg : goodWord w = true
  · exact word_at hW (good_of_word hg) h
  · unfold okW at hw
    rw [Bool.not_eq_true] at hg
    rw [hg, Bool.false_or] at hw
    split at hw
    · exact va_Nw.use rfl (va_Nw.warmF hW (va_Nw.of rfl h))
    · exact va_Nw.use rfl (va_Nw.warmM hW (va_Nw.of rfl h))
    · exact va_AO.use (va_AO.moved hW.alike (va_AO.of h))
    · exact over_moved hW.alike h
    · cases hw
/-- what a method's state must bear: the words, the classes; strings and statics by STR -/
def WRD (U : State) : Prop := ∀ w ∈ lw_tbl, okW w = true → ∀ A : Array Value, w.before A U = true
theorem WRD.moved {s U : State} (hW : s.WarmedH U.vm) (h : WRD s) : WRD U := fun w hw hk A => okW_moved (A := #[]) hk hW (h w hw hk #[])
theorem WRD.at {U : State} (h : WRD U) {p : Nat} {w : Cond} (hp : lw_tbl[p]? = some w) (hk : okW w = true) (A : Array Value) : w.before A U = true := h w (List.mem_of_getElem? hp) hk A
/-- a text at an address: a String whose bytes are t -/
def strAt (HB : Heap) (a : Nat) (t : List Int32) (U : State) : Prop := ∃ v : Nat, va_O "java/lang/String" a (fun q => HB.size ≤ q) U HB ∧ va_OF "java/lang/String" "coder" "B" (.int 0) a (fun q => HB.size ≤ q) U HB ∧ va_OF "java/lang/String" "value" "[B" (.ref v) a (fun q => HB.size ≤ q) U HB ∧ va_T .byte v t.length (fun j => .int (t.getD j 0)) (fun q => HB.size ≤ q) U HB ∧ t.length < 2 ^ 31 ∧ ∀ b ∈ t, b &&& 255 = b
def STR (HB : Heap) (K0 : Nat → Nat) (X0 : Nat → Option (List Int32)) (U : State) : Prop :=
  (∀ k r, strs[k]? = some r → vk_R (cnm r.1) r.2.1 r.2.2.1 (K0 k) U) ∧ (∀ a t, X0 a = some t → strAt HB a t U) ∧
  va_Z "java/lang/String" "COMPACT_STRINGS" "Z" (.int 1) (fun q => HB.size ≤ q) U HB ∧ va_Zq "jdk/internal/util/Preconditions" "SIOOBE_FORMATTER" "Ljava/util/function/BiFunction;" (fun q => HB.size ≤ q) U HB
theorem strAt.moved {HB : Heap} {a : Nat} {t : List Int32} {s U : State} (hvm : s.vm.Alike U.vm) (h : strAt HB a t s) : strAt HB a t U := by
  obtain ⟨v, h1, h2, h3, h4, h5⟩ := h
  exact ⟨v, va_O.moved hvm h1, va_OF.moved hvm h2, va_OF.moved hvm h3, va_T.moved hvm h4, h5⟩
theorem STR.moved {HB : Heap} {K0 : Nat → Nat} {X0 : Nat → Option (List Int32)} {s U : State} (hW : s.WarmedH U.vm) (h : STR HB K0 X0 s) : STR HB K0 X0 U := by
  refine ⟨fun k r hr => vk_R.warm hW (h.1 k r hr), fun a t ht => (h.2.1 a t ht).moved hW.alike, va_Z.moved hW.alike h.2.2.1, ?_⟩
  rcases h.2.2.2 with q | ⟨t, q⟩
  · exact Or.inl (va_Z.moved hW.alike q)
  · exact Or.inr ⟨t, va_Z.moved hW.alike q⟩
def ENV (D : va_G) (HB : Heap) (K0 : Nat → Nat) (X0 : Nat → Option (List Int32)) (U : State) : Prop := WRD U ∧ va_K D classes [] U ∧ STR HB K0 X0 U
theorem ENV.moved {D : va_G} {HB : Heap} {K0 : Nat → Nat} {X0 : Nat → Option (List Int32)} {s U : State} (hW : s.WarmedH U.vm) (h : ENV D HB K0 X0 s) : ENV D HB K0 X0 U :=
  ⟨h.1.moved hW, va_K.moved hW.alike h.2.1, h.2.2.moved hW⟩
/-- an object's fields as values -/
def fsOf (h : AH) (a ci N : Nat) : List Value := (List.range N).map fun k => if fk ci k = 2 then va_rf (hR h a k) else .int (hI h a k)
def arE (h : AH) (a t n : Nat) : vp_A := match t with
  | 0 | 2 | 3 => (n, .inl (hI h a))
  | 1 => (n, .inr (.inl (hL h a)))
  | _ => (n, .inr (.inr (.inr (.inr (hR h a)))))
def cellAt (D : va_G) (h : AH) (a : Nat) (sh : Nat × Nat) (U : State) (H : Heap) : Prop :=
  (sh.1 < 8 ∧ ∃ cA : ClassId, ArrOfT U cA (tyB sh.1) ∧ va_RA U cA (tyB sh.1) ∧ H[a]? = some (vp_cell cA (arE h a sh.1 sh.2))) ∨
  (sh.1 = 8 ∧ va_X a sh.2 (hI h a) U H) ∨
  (∃ ci, ci < 6 ∧ sh = (100 + ci, 0) ∧ t_OB a (D.1 ci) (clNr ci) (D.2 ci) H (vp_V (fsOf h a ci (clNr ci))))
def Rep (D : va_G) (HB : Heap) (h : AH) (U : State) (H : Heap) : Prop :=
  H.size = hN h ∧ HB.size ≤ H.size ∧ (∀ q : Nat, q < HB.size → H[q]? = HB[q]?) ∧ ∀ a sh, hS h a = some sh → cellAt D h a sh U H ∧ (sh.1 = 8 ∨ HB.size ≤ a)
theorem va_RA.alike {u U : State} (hvm : u.vm.Alike U.vm) {cA : ClassId} {ty : FieldType} (h : va_RA u cA ty) : va_RA U cA ty := h.moved hvm
theorem cellAt.moved {D : va_G} {h : AH} {a : Nat} {sh : Nat × Nat} {s U : State} {H : Heap} (hvm : s.vm.Alike U.vm) (q : cellAt D h a sh s H) : cellAt D h a sh U H := by
  rcases q with ⟨h1, cA, h2, h3, h4⟩ | ⟨h1, h2⟩ | q
  · exact Or.inl ⟨h1, cA, arrOfT_moved hvm h2, h3.moved hvm, h4⟩
  · exact Or.inr (Or.inl ⟨h1, va_X.moved hvm h2⟩)
  · exact Or.inr (Or.inr q)
theorem Rep.moved {D : va_G} {HB : Heap} {h : AH} {s U : State} {H : Heap} (hvm : s.vm.Alike U.vm) (q : Rep D HB h s H) : Rep D HB h U H :=
  ⟨q.1, q.2.1, q.2.2.1, fun a sh hs => ⟨(q.2.2.2 a sh hs).1.moved hvm, (q.2.2.2 a sh hs).2⟩⟩
/-- a cell stays where its place of the heap and its contents stay -/
theorem cellAt.kept {D : va_G} {h h' : AH} {a : Nat} {sh : Nat × Nat} {U : State} {H H' : Heap} (hq : H'[a]? = H[a]?) (hi : hI h' a = hI h a) (hl : hL h' a = hL h a) (hr : hR h' a = hR h a) (q : cellAt D h a sh U H) : cellAt D h' a sh U H' := by
  have e1 : ∀ t n, arE h' a t n = arE h a t n := fun t n => by unfold arE; rw [hi, hl, hr]
  have e2 : ∀ ci N, fsOf h' a ci N = fsOf h a ci N := fun ci N => by unfold fsOf; rw [hi, hr]
  rcases q with ⟨h1, cA, h2, h3, h4⟩ | ⟨h1, h2⟩ | ⟨ci, h1, h2, h3⟩
  · exact Or.inl ⟨h1, cA, h2, h3, by rw [hq, h4, e1]⟩
  · exact Or.inr (Or.inl ⟨h1, by rw [hi]; exact va_X.kept h2 hq⟩)
  · exact Or.inr (Or.inr ⟨ci, h1, h2, by rw [e2]; exact h3.kept hq⟩)
/-- one cell changed -/
theorem Rep.set {D : va_G} {HB : Heap} {h h' : AH} {U : State} {H H' : Heap} {a : Nat} {sh : Nat × Nat} (q : Rep D HB h U H) (hs : hS h a = some sh) (h8 : ¬ sh.1 = 8) (hN' : hN h' = hN h) (hS' : hS h' = hS h)
    (ho : ∀ b, b ≠ a → hI h' b = hI h b ∧ hL h' b = hL h b ∧ hR h' b = hR h b) (hz : H'.size = H.size) (hq : ∀ b : Nat, b ≠ a → H'[b]? = H[b]?) (hc : cellAt D h' a sh U H') : Rep D HB h' U H' := by
  have hBa : HB.size ≤ a := (q.2.2.2 a sh hs).2.resolve_left h8
  refine ⟨by rw [hz, hN']; exact q.1, by rw [hz]; exact q.2.1, fun b hb => ?_, fun b sb hb => ?_⟩
  · rw [hq b (by omega)]; exact q.2.2.1 b hb
  · rw [hS'] at hb
    refine ⟨?_, (q.2.2.2 b sb hb).2⟩
    by_cases e : b = a
    · subst e
      rw [hs] at hb
      cases hb
      exact hc
    · obtain ⟨o1, o2, o3⟩ := ho b e
      exact (q.2.2.2 b sb hb).1.kept (hq b e) o1 o2 o3
/-- the real locals hold the abstract ones -/
def lrel (y : Nat) (ls : Array Slot) (L : LL) : Prop := L.length = (md y).2.2.2.2.1 ∧ ls.size = L.length ∧ lv_wf ls ∧ (∀ i v, ldV L i = some v → ls[i]? = some (.val v)) ∧ ∀ i v, ldV L i = some v → v.category = 2 → c2 y i = true
def prs (L : LL) : List (Nat × Value) := (List.range L.length).filterMap fun i => (ldV L i).map fun v => (i, v)
theorem prs_mem {L : LL} {q : Nat × Value} : q ∈ prs L ↔ ldV L q.1 = some q.2 := by
  unfold prs
  rw [List.mem_filterMap]
  constructor
  · intro ⟨i, _, hi⟩
    cases hv : ldV L i with
    | none => rw [hv] at hi; cases hi
    | some v => rw [hv] at hi; cases hi; exact hv
  · intro h
    have hl : q.1 < L.length := by
      unfold ldV at h
      split at h
      · rename_i e; exact (List.getElem?_eq_some_iff.mp e).1
      · cases h
    exact ⟨q.1, List.mem_range.mpr hl, by rw [h]; rfl⟩
theorem lrel.has {y : Nat} {ls : Array Slot} {L : LL} (h : lrel y ls L) : lv_has ls L.length (prs L) := ⟨h.2.1, h.2.2.1, fun q hq => h.2.2.2.1 q.1 q.2 (prs_mem.mp hq)⟩
theorem ldV_set {L : LL} {i j : Nat} {o : Option Value} (hi : i < L.length) : ldV (L.set i o) j = if j = i then o else ldV L j := by
  unfold ldV
  by_cases e : j = i
  · subst e
    rw [if_pos rfl, List.getElem?_set_self hi]
    cases o <;> rfl
  · rw [if_neg e, List.getElem?_set_ne (Ne.symm e)]
theorem ldV_clL {y : Nat} {L : LL} {i j : Nat} {v : Value} (h : ldV (clL y L i) j = some v) : ldV L j = some v ∧ (c2 y j = true → v.category = 2 → ¬ j + 1 = i) := by
  unfold clL at h
  cases i with
  | zero => exact ⟨h, fun _ _ => by omega⟩
  | succ i =>
    dsimp only at h
    by_cases hc : c2 y i = true
    · rw [if_pos hc] at h
      cases hg : L[i]? with
      | none =>
        rw [hg] at h
        dsimp only at h
        refine ⟨h, fun _ _ e => ?_⟩
        have e : j = i := by omega
        subst e
        unfold ldV at h
        rw [hg] at h
        cases h
      | some o =>
        have hl := (List.getElem?_eq_some_iff.mp hg).1
        cases o with
        | none =>
          rw [hg] at h
          dsimp only at h
          refine ⟨h, fun _ _ e => ?_⟩
          have e : j = i := by omega
          subst e
          unfold ldV at h
          rw [hg] at h
          cases h
        | some w =>
          rw [hg] at h
          dsimp only at h
          by_cases h2 : w.category = 2
          · rw [if_pos h2, ldV_set hl] at h
            by_cases e : j = i
            · rw [if_pos e] at h; cases h
            · rw [if_neg e] at h; exact ⟨h, fun _ _ => by omega⟩
          · rw [if_neg h2] at h
            refine ⟨h, fun _ hv e => ?_⟩
            have e : j = i := by omega
            subst e
            unfold ldV at h
            rw [hg] at h
            cases h
            exact h2 hv
    · rw [if_neg hc] at h
      refine ⟨h, fun hj _ e => ?_⟩
      have e : j = i := by omega
      subst e
      exact hc hj
theorem clL_len {y : Nat} {L : LL} {i : Nat} : (clL y L i).length = L.length := by
  unfold clL
  cases i with
  | zero => rfl
  | succ i =>
    dsimp only
    split
    · split
      · split
        · exact List.length_set
        · rfl
      · rfl
    · rfl
theorem lrel_st1 {y : Nat} {ls ls' : Array Slot} {L : LL} {i : Nat} {v : Value} (h : lrel y ls L) (hi : i < L.length) (hv : v.category = 1) (h' : lv_has ls' L.length ((i, v) :: (prs L).filter (fun q => !(q.1 == i) && !(q.1 + 1 == i && q.2.category == 2)))) : lrel y ls' (st1 y L i v) := by
  have hlen : (st1 y L i v).length = L.length := by unfold st1; rw [List.length_set, clL_len]
  have key : ∀ j w, ldV (st1 y L i v) j = some w → (j = i ∧ w = v) ∨ (¬ j = i ∧ ldV L j = some w ∧ (w.category = 2 → ¬ j + 1 = i)) := by
    intro j w hw
    unfold st1 at hw
    rw [ldV_set (by rw [clL_len]; exact hi)] at hw
    by_cases e : j = i
    · rw [if_pos e] at hw; cases hw; exact Or.inl ⟨e, rfl⟩
    · rw [if_neg e] at hw
      obtain ⟨h1, h2⟩ := ldV_clL hw
      exact Or.inr ⟨e, h1, fun h3 => h2 (h.2.2.2.2 j w h1 h3) h3⟩
  refine ⟨by rw [hlen]; exact h.1, by rw [hlen]; exact h'.1, h'.2.1, fun j w hw => ?_, fun j w hw hc => ?_⟩
  · rcases key j w hw with ⟨e, e2⟩ | ⟨e, h1, h2⟩
    · rw [e, e2]; exact h'.2.2 (i, v) List.mem_cons_self
    · refine h'.2.2 (j, w) (List.mem_cons_of_mem _ (List.mem_filter.mpr ⟨prs_mem.mpr h1, ?_⟩))
      by_cases h3 : w.category = 2
      · have := h2 h3
        simp [e, this]
      · simp [e, h3]
  · rcases key j w hw with ⟨e, e2⟩ | ⟨e, h1, h2⟩
    · rw [e2, hv] at hc; omega
    · exact h.2.2.2.2 j w h1 hc
theorem lrel_st2 {y : Nat} {ls ls' : Array Slot} {L : LL} {i : Nat} {v : Value} (h : lrel y ls L) (hi : i + 1 < L.length) (hc2 : c2 y i = true) (h' : lv_has ls' L.length ((i, v) :: (prs L).filter (fun q => !(q.1 == i) && (!(q.1 == i + 1) && !(q.1 + 1 == i && q.2.category == 2))))) : lrel y ls' (st2 y L i v) := by
  have hlen : (st2 y L i v).length = L.length := by unfold st2; rw [List.length_set, List.length_set, clL_len]
  have key : ∀ j w, ldV (st2 y L i v) j = some w → (j = i ∧ w = v) ∨ (¬ j = i ∧ ¬ j = i + 1 ∧ ldV L j = some w ∧ (w.category = 2 → ¬ j + 1 = i)) := by
    intro j w hw
    unfold st2 at hw
    rw [ldV_set (by rw [List.length_set, clL_len]; exact hi)] at hw
    by_cases e1 : j = i + 1
    · rw [if_pos e1] at hw; cases hw
    · rw [if_neg e1, ldV_set (by rw [clL_len]; omega)] at hw
      by_cases e : j = i
      · rw [if_pos e] at hw; cases hw; exact Or.inl ⟨e, rfl⟩
      · rw [if_neg e] at hw
        obtain ⟨h1, h2⟩ := ldV_clL hw
        exact Or.inr ⟨e, e1, h1, fun h3 => h2 (h.2.2.2.2 j w h1 h3) h3⟩
  refine ⟨by rw [hlen]; exact h.1, by rw [hlen]; exact h'.1, h'.2.1, fun j w hw => ?_, fun j w hw hc => ?_⟩
  · rcases key j w hw with ⟨e, e2⟩ | ⟨e, e1, h1, h2⟩
    · rw [e, e2]; exact h'.2.2 (i, v) List.mem_cons_self
    · refine h'.2.2 (j, w) (List.mem_cons_of_mem _ (List.mem_filter.mpr ⟨prs_mem.mpr h1, ?_⟩))
      by_cases h3 : w.category = 2
      · have := h2 h3
        simp [e, e1, this]
      · simp [e, e1, h3]
  · rcases key j w hw with ⟨e, e2⟩ | ⟨e, e1, h1, h2⟩
    · rw [e]; exact hc2
    · exact h.2.2.2.2 j w h1 hc
