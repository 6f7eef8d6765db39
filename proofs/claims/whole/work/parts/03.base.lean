/-! the table read -/
def prog (y ix : Nat) : Option AI := (progs.getD y [])[ix]?
def pcOf (y ix : Nat) : Nat := match prog y ix with
  | some q => q.1
  | none => 0
def md (y : Nat) : MDT := mds.getD y md_0
def c2 (y i : Nat) : Bool := (c2s.getD y []).contains i
def fk (ci k : Nat) : Nat := (fkt.getD ci []).getD k 0
/-- own class to class of objects, 9 where it has none -/
def ciOf (own : Nat) : Nat := ([9, 9, 0, 1, 2, 9, 3, 4, 5] : List Nat).getD own 9
