/- names of the classes, their fields, the methods; written by wip/whole/tools/names.py out of the task's own texts -/
def F_M : u_T := fun k => match k with
  | 0 => ("SessionTables$Medium", "sectors", "I", true)
  | 1 => ("SessionTables$Medium", "words", "[I", true)
  | 2 => ("SessionTables$Medium", "checks", "[I", true)
  | 3 => ("SessionTables$Medium", "written", "I", false)
  | _ => ("SessionTables$Medium", "stop", "I", false)
def fy_M : Nat → FieldType := fun k => match k with
  | 0 => .int
  | 1 => .array .int
  | 2 => .array .int
  | 3 => .int
  | _ => .int
theorem fn_M : ∀ a, a < 5 → ∀ b, b < 5 → a ≠ b → (F_M a).2.1 ≠ (F_M b).2.1 := by decide +kernel
theorem fy_M_ok : ∀ k, k < 5 → parseFieldDescriptor (F_M k).2.2.1 = some (fy_M k) := by decide +kernel
def F_N : u_T := fun k => match k with
  | 0 => ("SessionTables$Node", "list", "[I", true)
  | 1 => ("SessionTables$Node", "type", "I", false)
  | 2 => ("SessionTables$Node", "count", "I", false)
  | 3 => ("SessionTables$Node", "entry", "I", false)
  | _ => ("SessionTables$Node", "isChanged", "Z", false)
def fy_N : Nat → FieldType := fun k => match k with
  | 0 => .array .int
  | 1 => .int
  | 2 => .int
  | 3 => .int
  | _ => .boolean
theorem fn_N : ∀ a, a < 5 → ∀ b, b < 5 → a ≠ b → (F_N a).2.1 ≠ (F_N b).2.1 := by decide +kernel
theorem fy_N_ok : ∀ k, k < 5 → parseFieldDescriptor (F_N k).2.2.1 = some (fy_N k) := by decide +kernel
def F_T : u_T := fun k => match k with
  | _ => ("SessionTables$Tree", "nodes", "[LSessionTables$Node;", true)
def fy_T : Nat → FieldType := fun k => match k with
  | _ => .array (.object "SessionTables$Node")
theorem fn_T : ∀ a, a < 1 → ∀ b, b < 1 → a ≠ b → (F_T a).2.1 ≠ (F_T b).2.1 := by decide +kernel
theorem fy_T_ok : ∀ k, k < 1 → parseFieldDescriptor (F_T k).2.2.1 = some (fy_T k) := by decide +kernel
def F_S : u_T := fun k => match k with
  | 0 => ("SessionTables", "medium", "LSessionTables$Medium;", true)
  | 1 => ("SessionTables", "tree", "LSessionTables$Tree;", true)
  | _ => ("SessionTables", "past", "LSessionTables$Tree;", true)
def fy_S : Nat → FieldType := fun k => match k with
  | 0 => .object "SessionTables$Medium"
  | 1 => .object "SessionTables$Tree"
  | _ => .object "SessionTables$Tree"
theorem fn_S : ∀ a, a < 3 → ∀ b, b < 3 → a ≠ b → (F_S a).2.1 ≠ (F_S b).2.1 := by decide +kernel
theorem fy_S_ok : ∀ k, k < 3 → parseFieldDescriptor (F_S k).2.2.1 = some (fy_S k) := by decide +kernel
def F_R : u_T := fun k => match k with
  | 0 => ("SessionTablesModel", "word", "[I", true)
  | 1 => ("SessionTablesModel", "sectors", "I", false)
  | 2 => ("SessionTablesModel", "written", "I", false)
  | 3 => ("SessionTablesModel", "armed", "Z", false)
  | 4 => ("SessionTablesModel", "until", "I", false)
  | 5 => ("SessionTablesModel", "kind", "[I", true)
  | 6 => ("SessionTablesModel", "count", "[I", true)
  | 7 => ("SessionTablesModel", "items", "[I", true)
  | 8 => ("SessionTablesModel", "changed", "[Z", true)
  | 9 => ("SessionTablesModel", "entry", "[I", true)
  | 10 => ("SessionTablesModel", "seenKind", "[I", true)
  | 11 => ("SessionTablesModel", "seenCount", "[I", true)
  | 12 => ("SessionTablesModel", "seenItems", "[I", true)
  | 13 => ("SessionTablesModel", "sector", "[I", true)
  | _ => ("SessionTablesModel", "below", "[Z", true)
def fy_R : Nat → FieldType := fun k => match k with
  | 0 => .array .int
  | 1 => .int
  | 2 => .int
  | 3 => .boolean
  | 4 => .int
  | 5 => .array .int
  | 6 => .array .int
  | 7 => .array .int
  | 8 => .array .boolean
  | 9 => .array .int
  | 10 => .array .int
  | 11 => .array .int
  | 12 => .array .int
  | 13 => .array .int
  | _ => .array .boolean
theorem fn_R : ∀ a, a < 15 → ∀ b, b < 15 → a ≠ b → (F_R a).2.1 ≠ (F_R b).2.1 := by decide +kernel
theorem fy_R_ok : ∀ k, k < 15 → parseFieldDescriptor (F_R k).2.2.1 = some (fy_R k) := by decide +kernel
abbrev aw_cl : List vw_C := [("SessionTables$Medium", F_M, 5), ("SessionTables$Node", F_N, 5), ("SessionTables$Tree", F_T, 1), ("SessionTables", F_S, 3), ("SessionTablesModel", F_R, 15)]
def aw_nf (c : Nat) : Nat := match c with
  | 0 => 5
  | 1 => 5
  | 2 => 1
  | 3 => 3
  | _ => 15
def aw_rf (c k : Nat) : Bool := match c with
  | 0 => !(k == 0 || k == 3 || k == 4)
  | 1 => !(k == 1 || k == 2 || k == 3 || k == 4)
  | 2 => true
  | 3 => true
  | _ => !(k == 1 || k == 2 || k == 3 || k == 4)
def aw_Nd : String := "SessionTables$Node"
def aw_Ts : List Cond := lw_tbl.filter goodWord
theorem aw_mem {w : Cond} (h : w ∈ lw_tbl) (g : goodWord w = true) : w ∈ aw_Ts := List.mem_filter.mpr ⟨h, g⟩
theorem uw_M : ∀ w ∈ u_ws "SessionTables$Medium" F_M 5, w ∈ aw_Ts := by decide +kernel
theorem uw_N : ∀ w ∈ u_ws "SessionTables$Node" F_N 5, w ∈ aw_Ts := by decide +kernel
theorem uw_T : ∀ w ∈ u_ws "SessionTables$Tree" F_T 1, w ∈ aw_Ts := by decide +kernel
theorem uw_S : ∀ w ∈ u_ws "SessionTables" F_S 3, w ∈ aw_Ts := by decide +kernel
theorem uw_R : ∀ w ∈ u_ws "SessionTablesModel" F_R 15, w ∈ aw_Ts := by decide +kernel
/- the places: 0 the class, 1 its medium, 2 words, 3 checks, 4 tree, 5 its nodes, 6 + 2i node i, 7 + 2i its list; 22 past, 23 .. the same; 40 the reference, 41 .. its arrays.
   A place's shape: (0, n) ints, (1, n) booleans, (2, n) nodes, (c + 3, 0) an object of class c -/
def aw_sh (n p : Nat) : Nat × Nat :=
  if p = 0 then (6, 0) else if p = 1 then (3, 0) else if p = 2 then (0, n * 16) else if p = 3 then (0, n)
  else if p = 4 then (5, 0) else if p = 5 then (2, 8) else if p = 22 then (5, 0) else if p = 23 then (2, 8)
  else if p < 40 then (if p % 2 = 0 then (4, 0) else (0, 10))
  else if p = 40 then (7, 0)
  else if p = 41 then (0, 2048)
  else if p = 42 then (0, 8)
  else if p = 43 then (0, 8)
  else if p = 44 then (0, 80)
  else if p = 45 then (1, 8)
  else if p = 46 then (0, 8)
  else if p = 47 then (0, 8)
  else if p = 48 then (0, 8)
  else if p = 49 then (0, 80)
  else if p = 50 then (0, 16)
  else (1, 8)
def aw_rM (p k : Nat) : Option Nat :=
  if p = 0 then (match k with | 0 => some 1 | 1 => some 4 | _ => some 22)
  else if p = 1 then (match k with | 1 => some 2 | _ => some 3)
  else if p = 4 then some 5 else if p = 5 then some (6 + 2 * k) else if p = 22 then some 23 else if p = 23 then some (24 + 2 * k)
  else if p < 40 then some (p + 1)
  else if p = 40 then (match k with | 0 => some 41 | 5 => some 42 | 6 => some 43 | 7 => some 44 | 8 => some 45 | 9 => some 46 | 10 => some 47 | 11 => some 48 | 12 => some 49 | 13 => some 50 | 14 => some 51 | _ => none)
  else none
