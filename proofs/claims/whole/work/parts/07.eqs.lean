/-! THE EQUATIONS OF THE MACHINE, by kinds -/
theorem E_ifc {d y ix a b : Nat} {L L' : LL} {st st' : List Value} {h h' : AH} {P : Prop} [Decidable P] (hq : stepA y ix L st h = nx (if decide P = true then a else b) L' st' h') : E d y ix L st h = if P then E d y a L' st' h' else E d y b L' st' h' := by
  rw [E_nx hq]
  by_cases hp : P
  · rw [if_pos hp, if_pos (by simpa using hp)]
  · rw [if_neg hp, if_neg (by simpa using hp)]
theorem E_g2 {α : Type} {d y ix ix' : Nat} {L L' : LL} {st : List Value} {h h' : AH} {o : Option α} {f : α → List Value} (hq : stepA y ix L st h = g2 o fun v => nx ix' L' (f v) h') : E d y ix L st h = o.bind fun v => E d y ix' L' (f v) h' := by
  cases o with
  | none => exact E_none hq
  | some v => exact E_nx hq
theorem E_g2g {α : Type} {d y ix ix' : Nat} {L L' : LL} {st : List Value} {h h' : AH} {o : Option α} {f : α → List Value} {c : α → Prop} [∀ v, Decidable (c v)] (hq : stepA y ix L st h = g2 o fun v => gd (c v) (nx ix' L' (f v) h')) : E d y ix L st h = o.bind fun v => if c v then E d y ix' L' (f v) h' else none := by
  cases o with
  | none => exact E_none hq
  | some v => exact E_gd hq
theorem E_callg {d y ix z ix' : Nat} {L L0 : LL} {st as rest : List Value} {h : AH} {c : Prop} [Decidable c] (hq : stepA y ix L st h = gd c (some (.inr (.inl (z, as, L0, ix', rest))))) : E (d + 1) y ix L st h = if c then (E d z 0 L0 [] h).bind fun r => E (d + 1) y ix' L (r.1.toList ++ rest) r.2 else none := by
  by_cases hc : c
  · rw [if_pos hc]; refine E_call (as := as) (hq.trans ?_); unfold gd; rw [if_pos hc]
  · rw [if_neg hc]; refine E_none (hq.trans ?_); unfold gd; rw [if_neg hc]
theorem E_retg {d y ix : Nat} {L : LL} {st : List Value} {h : AH} {r : RR} {c : Prop} [Decidable c] (hq : stepA y ix L st h = gd c (some (.inr (.inr r)))) : E d y ix L st h = if c then some r else none := by
  by_cases hc : c
  · rw [if_pos hc]; refine E_ret (hq.trans ?_); unfold gd; rw [if_pos hc]
  · rw [if_neg hc]; refine E_none (hq.trans ?_); unfold gd; rw [if_neg hc]
theorem E_acp {d y ix ix' : Nat} {L L' : LL} {st st' : List Value} {h h1 h2 : AH} {A B k1 c1 c2 : Prop} [Decidable A] [Decidable B] [Decidable k1] [Decidable c1] [Decidable c2] (hq : stepA y ix L st h = gd (A ∧ B) (if k1 then gd c1 (nx ix' L' st' h1) else gd c2 (nx ix' L' st' h2))) (hB : B) : E d y ix L st h = if A then (if k1 then (if c1 then E d y ix' L' st' h1 else none) else if c2 then E d y ix' L' st' h2 else none) else none := by
  by_cases hA : A
  · rw [if_pos hA]
    have e : stepA y ix L st h = if k1 then gd c1 (nx ix' L' st' h1) else gd c2 (nx ix' L' st' h2) := by rw [hq]; unfold gd; rw [if_pos ⟨hA, hB⟩]
    by_cases h1 : k1
    · rw [if_pos h1]; rw [if_pos h1] at e; exact E_gd e
    · rw [if_neg h1]; rw [if_neg h1] at e; exact E_gd e
  · rw [if_neg hA]
    refine E_none (hq.trans ?_); unfold gd; rw [if_neg (fun q => hA q.1)]
theorem E_ite {d y a b : Nat} {L : LL} {st : List Value} {h : AH} {c : Prop} [Decidable c] : E d y (if c then a else b) L st h = if c then E d y a L st h else E d y b L st h := by
  split <;> rfl
