/-! THE WORDS OF THE TABLES, by their places -/
def flW (r : Nat × Nat × Bool × Nat × Nat × Nat) : Cond := if r.2.2.1 = true then .fieldLinkNest (cnm r.1) r.2.1 (clNm r.2.2.2.1) (clT r.2.2.2.1 r.2.2.2.2.1).2.1 (clT r.2.2.2.1 r.2.2.2.2.1).2.2.1 "RefusedLast" else .fieldLink (cnm r.1) r.2.1 (clNm r.2.2.2.1) (clT r.2.2.2.1 r.2.2.2.2.1).2.1 (clT r.2.2.2.1 r.2.2.2.2.1).2.2.1
def mlY (r : Nat × Nat × Bool × Nat × Nat × Nat) : MethodName := match r.2.2.2.2.2 with
  | 0 => yM r.2.2.2.1
  | 1 => Jvm.Lib.objectInit
  | 2 => ⟨"java/lang/String", "length", "()I"⟩
  | 3 => ⟨"java/lang/String", "charAt", "(I)C"⟩
  | 4 => arraycopyName
  | _ => Jvm.Lib.Math.min.name
def mlW (r : Nat × Nat × Bool × Nat × Nat × Nat) : Cond := if r.2.2.1 = true then .methodLinkNest (cnm r.1) r.2.1 (mlY r) "RefusedLast" else .methodLink (cnm r.1) r.2.1 (mlY r)
theorem fl_ok : FL.all (fun r => decide (lw_tbl[r.2.2.2.2.2]? = some (flW r)) && decide (r.2.2.2.1 < 6 ∧ r.2.2.2.2.1 < clNr r.2.2.2.1)) = true := by decide +kernel
theorem ml_ok : ML.all (fun r => decide (lw_tbl[r.2.2.2.2.1]? = some (mlW r))) = true := by decide +kernel
theorem inst_ok : (List.range 232).all (fun y => decide (lw_tbl[(md y).2.2.2.2.2.2.2.2.2.1]? = some (if (md y).2.2.2.2.2.2.1 = true then .static (yM y) else .instanceMethod (yM y)))) = true := by decide +kernel
theorem sel_ok : (List.range 232).all (fun y => (md y).2.2.2.2.2.2.1 || decide ((md y).2.1 = "<init>") || decide (lw_tbl[(md y).2.2.2.2.2.2.2.2.2.2]? = some (.selects (cnm (md y).1) (yM y) (yM y)))) = true := by decide +kernel
theorem ini_ok : (List.range 11).all (fun k => decide (lw_tbl[iniP.getD k 0]? = some (.initialized (cnm k)))) = true := by decide +kernel
theorem own_ok : (List.range 233).all (fun y => decide ((md y).1 < 11) && plainName (cnm (md y).1) && decide (cnm (md y).1 ≠ "java/lang/invoke/MethodHandle" ∧ cnm (md y).1 ≠ "java/lang/invoke/VarHandle") && decide ((parseMethodDescriptor (md y).2.2.1).map (fun q => q.parameters.length) = some (md y).2.2.2.2.2.2.2.1) && decide ((md y).2.2.2.2.1 ≤ 40)) = true := by decide +kernel
theorem cls_ok : (List.range 6).all (fun ci => decide (lw_tbl[(insP.getD ci (0, 0)).1]? = some (.instantiable (clNm ci) (clNr ci))) && decide (lw_tbl[(insP.getD ci (0, 0)).2]? = some (.initialized (clNm ci))) && (List.range (clNr ci)).all (fun k => decide (lw_tbl[(layP ci).getD k 0]? = some (u_lay (clNm ci) (clT ci) k)) && decide (parseFieldDescriptor (clT ci k).2.2.1 = some (clty ci k)) && decide ((clT ci k).1 = clNm ci) && decide (fk ci k = 0 → clty ci k = .int) && decide (fk ci k = 1 → clty ci k = .boolean) && decide (fk ci k = 2 → (clty ci k).isReference = true) && decide (fk ci k < 3) && (List.range (clNr ci)).all (fun j => decide (k = j) || decide ((clT ci k).2.1 ≠ (clT ci j).2.1)))) = true := by decide +kernel
theorem cls_at : ∀ ci, ci < 6 → classes[ci]? = some (clNm ci, clT ci, clNr ci) := fun ci h => by
  match ci, h with
  | 0, _ => rfl
  | 1, _ => rfl
  | 2, _ => rfl
  | 3, _ => rfl
  | 4, _ => rfl
  | 5, _ => rfl
  | n + 6, h => omega
/-- the kinds of arrays -/
def tyB (t : Nat) : FieldType := match t with
  | 0 => .int
  | 1 => .long
  | 2 => .short
  | 3 => .boolean
  | 4 => .array .long
  | 5 => .object "RefusedLast$Shelf"
  | 6 => .array .int
  | 7 => .array .boolean
  | _ => .int
def arrP : List Nat := [200, 248, 1039, 1040]
theorem arr_ok : (List.range 4).all (fun t => decide (lw_tbl[arrP.getD t 0]? = some (.arrayClass (newarray.typeOf (atOf t)))) && decide (newarray.typeOf (atOf t) = tyB t)) = true := by decide +kernel
theorem over_ok : lw_tbl[913]? = some (.arrayOver (.array .long)) ∧ lw_tbl[202]? = some (.arrayOver (.object "RefusedLast$Shelf")) ∧ lw_tbl[915]? = some (.arrayOver (.array .int)) ∧ lw_tbl[917]? = some (.arrayOver (.array .boolean)) := by decide +kernel
theorem acp_ok : lw_tbl[349]? = some (.native arraycopyName) ∧ lw_tbl[348]? = some (.static arraycopyName) ∧ lw_tbl[115]? = some (.initialized "java/lang/System") := by decide +kernel
theorem obj_ok : lw_tbl[131]? = some (.instanceMethod Jvm.Lib.objectInit) ∧ lw_tbl[132]? = some (.code Jvm.Lib.objectInit ⟨#[0xb1]⟩ 1 none) := by decide +kernel
theorem min_ok : lw_tbl[725]? = some (.static Jvm.Lib.Math.min.name) ∧ lw_tbl[122]? = some (.initialized "java/lang/Math") ∧ lw_tbl[726]? = some (.code Jvm.Lib.Math.min.name Jvm.Lib.Math.min.code 2 (some .int)) := by decide +kernel
