/-! THE TABLE IS THE PROGRAM: decoded, linked, laid -/
def yM (z : Nat) : MethodName := ⟨cnm (md z).1, (md z).2.1, (md z).2.2.1⟩
def clT (ci : Nat) : u_T := match ci with
  | 0 => TC0
  | 1 => TC1
  | 2 => TC2
  | 3 => TC3
  | 4 => TC4
  | _ => TC5
def clty (ci : Nat) : Nat → FieldType := match ci with
  | 0 => tyC0
  | 1 => tyC1
  | 2 => tyC2
  | 3 => tyC3
  | 4 => tyC4
  | _ => tyC5
def clNm (ci : Nat) : String := (["RefusedLast$Search", "RefusedLast$Shelf", "RefusedLast$Tape", "RefusedLast$Yard", "RefusedLast", "RefusedLastModel"] : List String).getD ci ""
def clNr (ci : Nat) : Nat := ([5, 4, 5, 12, 8, 40] : List Nat).getD ci 0
def layP (ci : Nat) : List Nat := ([layP0, layP1, layP2, layP3, layP4, layP5] : List (List Nat)).getD ci []
/-- how many bytes -/
def ilen (i : Instr) (a : Nat) : Nat := match i with
  | .tableswitch _ _ _ _ | .lookupswitch _ _ => a
  | .bipush _ | .iload _ | .lload _ | .aload _ | .istore _ | .lstore _ | .astore _ | .ldc _ | .newarray _ => 2
  | .sipush _ | .goto _ | .ifCond _ _ | .if_icmp _ _ | .ifnonnull _ | .getfield _ | .putfield _ | .invokestatic _ | .invokevirtual _ | .invokespecial _ | .ldc_w _ | .ldc2_w _ | .new _ | .anewarray _ | .iinc _ _ => 3
  | .multianewarray _ _ => 4
  | _ => 1
def atOf (t : Nat) : ArrayType := match t with
  | 0 => .int
  | 1 => .long
  | 2 => .short
  | _ => .boolean
def mulT (t : Nat) : FieldType := match t with
  | 4 => .long
  | 6 => .int
  | _ => .boolean
def brk (y pc a : Nat) (off : Int) : Bool := decide ((pcOf y a : Int) = (pc : Int) + off)
def brks (y pc : Nat) (ts : List Nat) (offs : List Int) : Bool := decide (ts.length = offs.length) && (ts.zip offs).all fun q => brk y pc q.1 q.2
def okK (y ix pc : Nat) (i : Instr) (a b c : Nat) (ts : List Nat) : Bool := match i with
  | .ireturn | .lreturn | .areturn | .return_ => true
  | .goto off => brk y pc a off
  | .ifCond _ off => brk y pc a off
  | .if_icmp _ off => brk y pc a off
  | .ifnonnull off => brk y pc a off
  | .tableswitch dflt lo hi offs => brk y pc (ts.getD 0 0) dflt && brks y pc (ts.drop 1) offs.toList && decide (0 ≤ lo ∧ hi = lo + offs.toList.length - 1 ∧ hi < 1000)
  | .lookupswitch dflt ps => brk y pc (ts.getD 0 0) dflt && brks y pc (ts.drop 1) (ps.toList.map fun q => q.2) && (ps.toList.zip (ps.toList.drop 1)).all (fun (a, next) => a.1 < next.1) && ps.toList.all (fun q => decide (0 ≤ q.1 ∧ q.1 < 1000))
  | .getfield idx => (match FL[c]? with
    | some r => decide (r.1 = (md y).1 ∧ r.2.1 = idx ∧ r.2.2.2.1 = a ∧ r.2.2.2.2.1 = b)
    | none => false)
  | .putfield idx => (match FL[c]? with
    | some r => decide (r.1 = (md y).1 ∧ r.2.1 = idx ∧ r.2.2.2.1 = a ∧ r.2.2.2.2.1 = b) && (!(clT a b).2.2.2 || (decide ((md y).2.1 = "<init>" ∧ clNm a = cnm (md y).1) && !r.2.2.1)) && decide (fk a b = 2 → (clty a b ≠ .int ∧ clty a b ≠ .boolean)) && decide (fk a b = 1 → clty a b = .boolean) && decide (fk a b = 0 → clty a b = .int)
    | none => false)
  | .invokestatic idx | .invokevirtual idx | .invokespecial idx => (match ML[c]? with
    | some r => decide (r.1 = (md y).1 ∧ r.2.1 = idx ∧ r.2.2.2.1 = a ∧ ts = [r.2.2.2.2.2]) && decide (r.2.2.2.2.2 = 0 → b = (md a).2.2.2.2.2.2.2.1 ∧ a < 232)
    | none => false)
  | .ldc idx => if a = 0 then decide (lw_tbl[c]? = some (.constant (cnm (md y).1) idx (Int32.ofNat b))) else decide ((strs[b]?).map (fun q => (q.1, q.2.1)) = some ((md y).1, idx))
  | .ldc_w idx => decide (lw_tbl[c]? = some (.constant (cnm (md y).1) idx (Int32.ofNat b)))
  | .ldc2_w idx => decide (lw_tbl[c]? = some (.constantLong (cnm (md y).1) idx (Int64.ofNat b)))
  | .new idx => decide (lw_tbl[c]? = some (.classLink (cnm (md y).1) idx (clNm a))) && decide (a < 6 ∧ b = clNr a)
  | .newarray t => decide (t = atOf a ∧ a < 4)
  | .anewarray idx => decide (a = 5 ∧ lw_tbl[c]? = some (.classLink (cnm (md y).1) idx "RefusedLast$Shelf"))
  | .multianewarray idx n => decide (n = 2 ∧ ((a = 4 ∧ b = 1) ∨ (a = 6 ∧ b = 0) ∨ (a = 7 ∧ b = 3)) ∧ lw_tbl[c]? = some (.classLink (cnm (md y).1) idx ("[" ++ (FieldType.array (mulT a)).toString)))
  | _ => true
def falls (i : Instr) : Bool := match i with
  | .ireturn | .lreturn | .areturn | .return_ | .goto _ | .tableswitch _ _ _ _ | .lookupswitch _ _ => false
  | _ => true
def okE (y ix : Nat) : Bool := match prog y ix with
  | none => true
  | some q => decide (decode (md y).2.2.2.1 q.1 = .ok (q.2.1, ilen q.2.1 q.2.2.1)) && (!falls q.2.1 || decide (pcOf y (ix + 1) = q.1 + ilen q.2.1 q.2.2.1)) && okK y ix q.1 q.2.1 q.2.2.1 q.2.2.2.1 q.2.2.2.2.1 q.2.2.2.2.2
def okM (y : Nat) : Bool := (List.range (progs.getD y []).length).all (okE y)
def okR (a b : Nat) : Bool := (List.range (b - a)).all fun k => okM (a + k)
