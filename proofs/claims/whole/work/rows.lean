section
-- ===== PART A: goes FIRST, ahead of the names: the tables' words, and 'selects' of the private methods out of them =====
/-- a private method of a class that the tables say can be made, by its rows of tables_1 -/
def lw_okq (q : MethodName × Nat) : Prop := (q.1.cls ≠ "java/lang/invoke/MethodHandle" ∧ q.1.cls ≠ "java/lang/invoke/VarHandle") ∧ Cond.instantiable q.1.cls q.2 ∈ tables_1 ∧ Cond.privateMethod q.1 ∈ tables_1 ∧ Cond.instanceMethod q.1 ∈ tables_1
theorem lw_p0 : lw_okq (⟨"SessionTables", "isTooFull", "(II)Z"⟩, 3) := ⟨⟨by decide +kernel, by decide +kernel⟩, List.mem_of_getElem? (i := 8) (by decide +kernel), List.mem_of_getElem? (i := 141) (by decide +kernel), List.mem_of_getElem? (i := 142) (by decide +kernel)⟩
theorem lw_p1 : lw_okq (⟨"SessionTables$Medium", "checkOf", "(I)I"⟩, 5) := ⟨⟨by decide +kernel, by decide +kernel⟩, List.mem_of_getElem? (i := 16) (by decide +kernel), List.mem_of_getElem? (i := 184) (by decide +kernel), List.mem_of_getElem? (i := 185) (by decide +kernel)⟩
theorem lw_p2 : lw_okq (⟨"SessionTables", "readBack", "()V"⟩, 3) := ⟨⟨by decide +kernel, by decide +kernel⟩, List.mem_of_getElem? (i := 8) (by decide +kernel), List.mem_of_getElem? (i := 201) (by decide +kernel), List.mem_of_getElem? (i := 202) (by decide +kernel)⟩
theorem lw_p3 : lw_okq (⟨"SessionTables", "newestTable", "()I"⟩, 3) := ⟨⟨by decide +kernel, by decide +kernel⟩, List.mem_of_getElem? (i := 8) (by decide +kernel), List.mem_of_getElem? (i := 205) (by decide +kernel), List.mem_of_getElem? (i := 206) (by decide +kernel)⟩
theorem lw_p4 : lw_okq (⟨"SessionTables", "isValidTable", "(I)Z"⟩, 3) := ⟨⟨by decide +kernel, by decide +kernel⟩, List.mem_of_getElem? (i := 8) (by decide +kernel), List.mem_of_getElem? (i := 209) (by decide +kernel), List.mem_of_getElem? (i := 210) (by decide +kernel)⟩
theorem lw_p5 : lw_okq (⟨"SessionTables$Tree", "parentOf", "(I)I"⟩, 1) := ⟨⟨by decide +kernel, by decide +kernel⟩, List.mem_of_getElem? (i := 47) (by decide +kernel), List.mem_of_getElem? (i := 264) (by decide +kernel), List.mem_of_getElem? (i := 265) (by decide +kernel)⟩
theorem lw_p6 : lw_okq (⟨"SessionTables", "writeEntries", "()Z"⟩, 3) := ⟨⟨by decide +kernel, by decide +kernel⟩, List.mem_of_getElem? (i := 8) (by decide +kernel), List.mem_of_getElem? (i := 276) (by decide +kernel), List.mem_of_getElem? (i := 277) (by decide +kernel)⟩
theorem lw_p7 : lw_okq (⟨"SessionTables", "writeEntry", "(ILSessionTables$Node;)Z"⟩, 3) := ⟨⟨by decide +kernel, by decide +kernel⟩, List.mem_of_getElem? (i := 8) (by decide +kernel), List.mem_of_getElem? (i := 280) (by decide +kernel), List.mem_of_getElem? (i := 281) (by decide +kernel)⟩
theorem lw_p8 : lw_okq (⟨"SessionTables", "newestNumber", "()I"⟩, 3) := ⟨⟨by decide +kernel, by decide +kernel⟩, List.mem_of_getElem? (i := 8) (by decide +kernel), List.mem_of_getElem? (i := 284) (by decide +kernel), List.mem_of_getElem? (i := 285) (by decide +kernel)⟩
theorem lw_p9 : lw_okq (⟨"SessionTables", "writeTable", "(I)Z"⟩, 3) := ⟨⟨by decide +kernel, by decide +kernel⟩, List.mem_of_getElem? (i := 8) (by decide +kernel), List.mem_of_getElem? (i := 288) (by decide +kernel), List.mem_of_getElem? (i := 289) (by decide +kernel)⟩
theorem lw_p10 : lw_okq (⟨"SessionTables", "treeAt", "(I)LSessionTables$Tree;"⟩, 3) := ⟨⟨by decide +kernel, by decide +kernel⟩, List.mem_of_getElem? (i := 8) (by decide +kernel), List.mem_of_getElem? (i := 325) (by decide +kernel), List.mem_of_getElem? (i := 326) (by decide +kernel)⟩
theorem lw_p11 : lw_okq (⟨"SessionTables", "tablePlace", "(I)I"⟩, 3) := ⟨⟨by decide +kernel, by decide +kernel⟩, List.mem_of_getElem? (i := 8) (by decide +kernel), List.mem_of_getElem? (i := 329) (by decide +kernel), List.mem_of_getElem? (i := 330) (by decide +kernel)⟩
theorem lw_p12 : lw_okq (⟨"SessionTablesModel", "empty", "()V"⟩, 15) := ⟨⟨by decide +kernel, by decide +kernel⟩, List.mem_of_getElem? (i := 359) (by decide +kernel), List.mem_of_getElem? (i := 365) (by decide +kernel), List.mem_of_getElem? (i := 366) (by decide +kernel)⟩
theorem lw_p13 : lw_okq (⟨"SessionTablesModel", "isKind", "(II)Z"⟩, 15) := ⟨⟨by decide +kernel, by decide +kernel⟩, List.mem_of_getElem? (i := 359) (by decide +kernel), List.mem_of_getElem? (i := 420) (by decide +kernel), List.mem_of_getElem? (i := 421) (by decide +kernel)⟩
theorem lw_p14 : lw_okq (⟨"SessionTablesModel", "itemOf", "(II)I"⟩, 15) := ⟨⟨by decide +kernel, by decide +kernel⟩, List.mem_of_getElem? (i := 359) (by decide +kernel), List.mem_of_getElem? (i := 424) (by decide +kernel), List.mem_of_getElem? (i := 425) (by decide +kernel)⟩
theorem lw_p15 : lw_okq (⟨"SessionTablesModel", "changedWith", "(III)I"⟩, 15) := ⟨⟨by decide +kernel, by decide +kernel⟩, List.mem_of_getElem? (i := 359) (by decide +kernel), List.mem_of_getElem? (i := 428) (by decide +kernel), List.mem_of_getElem? (i := 429) (by decide +kernel)⟩
def lw_privs_1 : List (MethodName × Nat) := [(⟨"SessionTables", "isTooFull", "(II)Z"⟩, 3), (⟨"SessionTables$Medium", "checkOf", "(I)I"⟩, 5), (⟨"SessionTables", "readBack", "()V"⟩, 3), (⟨"SessionTables", "newestTable", "()I"⟩, 3), (⟨"SessionTables", "isValidTable", "(I)Z"⟩, 3), (⟨"SessionTables$Tree", "parentOf", "(I)I"⟩, 1), (⟨"SessionTables", "writeEntries", "()Z"⟩, 3), (⟨"SessionTables", "writeEntry", "(ILSessionTables$Node;)Z"⟩, 3), (⟨"SessionTables", "newestNumber", "()I"⟩, 3), (⟨"SessionTables", "writeTable", "(I)Z"⟩, 3), (⟨"SessionTables", "treeAt", "(I)LSessionTables$Tree;"⟩, 3), (⟨"SessionTables", "tablePlace", "(I)I"⟩, 3), (⟨"SessionTablesModel", "empty", "()V"⟩, 15), (⟨"SessionTablesModel", "isKind", "(II)Z"⟩, 15), (⟨"SessionTablesModel", "itemOf", "(II)I"⟩, 15), (⟨"SessionTablesModel", "changedWith", "(III)I"⟩, 15)]
theorem lw_r1 : ∀ q ∈ lw_privs_1, lw_okq q := List.forall_mem_cons.mpr ⟨lw_p0, List.forall_mem_cons.mpr ⟨lw_p1, List.forall_mem_cons.mpr ⟨lw_p2, List.forall_mem_cons.mpr ⟨lw_p3, List.forall_mem_cons.mpr ⟨lw_p4, List.forall_mem_cons.mpr ⟨lw_p5, List.forall_mem_cons.mpr ⟨lw_p6, List.forall_mem_cons.mpr ⟨lw_p7, List.forall_mem_cons.mpr ⟨lw_p8, List.forall_mem_cons.mpr ⟨lw_p9, List.forall_mem_cons.mpr ⟨lw_p10, List.forall_mem_cons.mpr ⟨lw_p11, List.forall_mem_cons.mpr ⟨lw_p12, List.forall_mem_cons.mpr ⟨lw_p13, List.forall_mem_cons.mpr ⟨lw_p14, List.forall_mem_cons.mpr ⟨lw_p15, fun _ h => absurd h List.not_mem_nil⟩⟩⟩⟩⟩⟩⟩⟩⟩⟩⟩⟩⟩⟩⟩⟩
theorem lw_p16 : lw_okq (⟨"SessionTablesModel", "tooFew", "(II)Z"⟩, 15) := ⟨⟨by decide +kernel, by decide +kernel⟩, List.mem_of_getElem? (i := 359) (by decide +kernel), List.mem_of_getElem? (i := 432) (by decide +kernel), List.mem_of_getElem? (i := 433) (by decide +kernel)⟩
theorem lw_p17 : lw_okq (⟨"SessionTablesModel", "add", "(II)V"⟩, 15) := ⟨⟨by decide +kernel, by decide +kernel⟩, List.mem_of_getElem? (i := 359) (by decide +kernel), List.mem_of_getElem? (i := 436) (by decide +kernel), List.mem_of_getElem? (i := 437) (by decide +kernel)⟩
theorem lw_p18 : lw_okq (⟨"SessionTablesModel", "clearSector", "(II)V"⟩, 15) := ⟨⟨by decide +kernel, by decide +kernel⟩, List.mem_of_getElem? (i := 359) (by decide +kernel), List.mem_of_getElem? (i := 445) (by decide +kernel), List.mem_of_getElem? (i := 446) (by decide +kernel)⟩
theorem lw_p19 : lw_okq (⟨"SessionTablesModel", "writeSector", "()Z"⟩, 15) := ⟨⟨by decide +kernel, by decide +kernel⟩, List.mem_of_getElem? (i := 359) (by decide +kernel), List.mem_of_getElem? (i := 449) (by decide +kernel), List.mem_of_getElem? (i := 450) (by decide +kernel)⟩
theorem lw_p20 : lw_okq (⟨"SessionTablesModel", "checkOf", "(I)I"⟩, 15) := ⟨⟨by decide +kernel, by decide +kernel⟩, List.mem_of_getElem? (i := 359) (by decide +kernel), List.mem_of_getElem? (i := 453) (by decide +kernel), List.mem_of_getElem? (i := 454) (by decide +kernel)⟩
theorem lw_p21 : lw_okq (⟨"SessionTablesModel", "readBack", "()V"⟩, 15) := ⟨⟨by decide +kernel, by decide +kernel⟩, List.mem_of_getElem? (i := 359) (by decide +kernel), List.mem_of_getElem? (i := 462) (by decide +kernel), List.mem_of_getElem? (i := 463) (by decide +kernel)⟩
theorem lw_p22 : lw_okq (⟨"SessionTablesModel", "newest", "()I"⟩, 15) := ⟨⟨by decide +kernel, by decide +kernel⟩, List.mem_of_getElem? (i := 359) (by decide +kernel), List.mem_of_getElem? (i := 466) (by decide +kernel), List.mem_of_getElem? (i := 467) (by decide +kernel)⟩
theorem lw_p23 : lw_okq (⟨"SessionTablesModel", "isValid", "(I)Z"⟩, 15) := ⟨⟨by decide +kernel, by decide +kernel⟩, List.mem_of_getElem? (i := 359) (by decide +kernel), List.mem_of_getElem? (i := 470) (by decide +kernel), List.mem_of_getElem? (i := 471) (by decide +kernel)⟩
theorem lw_p24 : lw_okq (⟨"SessionTablesModel", "isGood", "(I)Z"⟩, 15) := ⟨⟨by decide +kernel, by decide +kernel⟩, List.mem_of_getElem? (i := 359) (by decide +kernel), List.mem_of_getElem? (i := 474) (by decide +kernel), List.mem_of_getElem? (i := 475) (by decide +kernel)⟩
theorem lw_p25 : lw_okq (⟨"SessionTablesModel", "lookAtTable", "(I)V"⟩, 15) := ⟨⟨by decide +kernel, by decide +kernel⟩, List.mem_of_getElem? (i := 359) (by decide +kernel), List.mem_of_getElem? (i := 478) (by decide +kernel), List.mem_of_getElem? (i := 479) (by decide +kernel)⟩
theorem lw_p26 : lw_okq (⟨"SessionTablesModel", "take", "(II)V"⟩, 15) := ⟨⟨by decide +kernel, by decide +kernel⟩, List.mem_of_getElem? (i := 359) (by decide +kernel), List.mem_of_getElem? (i := 486) (by decide +kernel), List.mem_of_getElem? (i := 487) (by decide +kernel)⟩
theorem lw_p27 : lw_okq (⟨"SessionTablesModel", "isBelow", "(II)Z"⟩, 15) := ⟨⟨by decide +kernel, by decide +kernel⟩, List.mem_of_getElem? (i := 359) (by decide +kernel), List.mem_of_getElem? (i := 494) (by decide +kernel), List.mem_of_getElem? (i := 495) (by decide +kernel)⟩
theorem lw_p28 : lw_okq (⟨"SessionTablesModel", "writeEntry", "(I)Z"⟩, 15) := ⟨⟨by decide +kernel, by decide +kernel⟩, List.mem_of_getElem? (i := 359) (by decide +kernel), List.mem_of_getElem? (i := 502) (by decide +kernel), List.mem_of_getElem? (i := 503) (by decide +kernel)⟩
theorem lw_p29 : lw_okq (⟨"SessionTablesModel", "sees", "(III)Z"⟩, 15) := ⟨⟨by decide +kernel, by decide +kernel⟩, List.mem_of_getElem? (i := 359) (by decide +kernel), List.mem_of_getElem? (i := 534) (by decide +kernel), List.mem_of_getElem? (i := 535) (by decide +kernel)⟩
theorem lw_p30 : lw_okq (⟨"SessionTablesModel", "look", "(I)Z"⟩, 15) := ⟨⟨by decide +kernel, by decide +kernel⟩, List.mem_of_getElem? (i := 359) (by decide +kernel), List.mem_of_getElem? (i := 538) (by decide +kernel), List.mem_of_getElem? (i := 539) (by decide +kernel)⟩
theorem lw_p31 : lw_okq (⟨"SessionTablesModel", "lookAtHand", "()V"⟩, 15) := ⟨⟨by decide +kernel, by decide +kernel⟩, List.mem_of_getElem? (i := 359) (by decide +kernel), List.mem_of_getElem? (i := 542) (by decide +kernel), List.mem_of_getElem? (i := 543) (by decide +kernel)⟩
def lw_privs_2 : List (MethodName × Nat) := [(⟨"SessionTablesModel", "tooFew", "(II)Z"⟩, 15), (⟨"SessionTablesModel", "add", "(II)V"⟩, 15), (⟨"SessionTablesModel", "clearSector", "(II)V"⟩, 15), (⟨"SessionTablesModel", "writeSector", "()Z"⟩, 15), (⟨"SessionTablesModel", "checkOf", "(I)I"⟩, 15), (⟨"SessionTablesModel", "readBack", "()V"⟩, 15), (⟨"SessionTablesModel", "newest", "()I"⟩, 15), (⟨"SessionTablesModel", "isValid", "(I)Z"⟩, 15), (⟨"SessionTablesModel", "isGood", "(I)Z"⟩, 15), (⟨"SessionTablesModel", "lookAtTable", "(I)V"⟩, 15), (⟨"SessionTablesModel", "take", "(II)V"⟩, 15), (⟨"SessionTablesModel", "isBelow", "(II)Z"⟩, 15), (⟨"SessionTablesModel", "writeEntry", "(I)Z"⟩, 15), (⟨"SessionTablesModel", "sees", "(III)Z"⟩, 15), (⟨"SessionTablesModel", "look", "(I)Z"⟩, 15), (⟨"SessionTablesModel", "lookAtHand", "()V"⟩, 15)]
theorem lw_r2 : ∀ q ∈ lw_privs_2, lw_okq q := List.forall_mem_cons.mpr ⟨lw_p16, List.forall_mem_cons.mpr ⟨lw_p17, List.forall_mem_cons.mpr ⟨lw_p18, List.forall_mem_cons.mpr ⟨lw_p19, List.forall_mem_cons.mpr ⟨lw_p20, List.forall_mem_cons.mpr ⟨lw_p21, List.forall_mem_cons.mpr ⟨lw_p22, List.forall_mem_cons.mpr ⟨lw_p23, List.forall_mem_cons.mpr ⟨lw_p24, List.forall_mem_cons.mpr ⟨lw_p25, List.forall_mem_cons.mpr ⟨lw_p26, List.forall_mem_cons.mpr ⟨lw_p27, List.forall_mem_cons.mpr ⟨lw_p28, List.forall_mem_cons.mpr ⟨lw_p29, List.forall_mem_cons.mpr ⟨lw_p30, List.forall_mem_cons.mpr ⟨lw_p31, fun _ h => absurd h List.not_mem_nil⟩⟩⟩⟩⟩⟩⟩⟩⟩⟩⟩⟩⟩⟩⟩⟩
theorem lw_p32 : lw_okq (⟨"SessionTablesModel", "tableAt", "(I)I"⟩, 15) := ⟨⟨by decide +kernel, by decide +kernel⟩, List.mem_of_getElem? (i := 359) (by decide +kernel), List.mem_of_getElem? (i := 546) (by decide +kernel), List.mem_of_getElem? (i := 547) (by decide +kernel)⟩
def lw_privs_3 : List (MethodName × Nat) := [(⟨"SessionTablesModel", "tableAt", "(I)I"⟩, 15)]
theorem lw_r3 : ∀ q ∈ lw_privs_3, lw_okq q := List.forall_mem_cons.mpr ⟨lw_p32, fun _ h => absurd h List.not_mem_nil⟩
def lw_privs : List (MethodName × Nat) := lw_privs_1 ++ (lw_privs_2 ++ (lw_privs_3))
def lw_tbl : List Cond := k2_sels lw_privs ++ tables_1
theorem lw_privs_ok : ∀ q ∈ lw_privs, lw_okq q := by
  show ∀ q ∈ lw_privs_1 ++ (lw_privs_2 ++ (lw_privs_3)), lw_okq q
  exact List.forall_mem_append.mpr ⟨lw_r1, List.forall_mem_append.mpr ⟨lw_r2, lw_r3⟩⟩
end
section
/- names of the classes, their fields, the methods; written by wip/whole/tools/names.py out of the task's own texts -/
def F_M : u_T := fun k => match k with
  | 0 => ("SessionTables$Medium", "sectors", "I", true)
  | 1 => ("SessionTables$Medium", "words", "[I", true)
  | 2 => ("SessionTables$Medium", "checks", "[I", true)
  | 3 => ("SessionTables$Medium", "written", "I", false)
  | _ => ("SessionTables$Medium", "stop", "I", false)
def fy_M : Nat → FieldType := fun k => match k with
  | 0 => .int
  | 1 => .array .int
  | 2 => .array .int
  | 3 => .int
  | _ => .int
theorem fn_M : ∀ a, a < 5 → ∀ b, b < 5 → a ≠ b → (F_M a).2.1 ≠ (F_M b).2.1 := by decide +kernel
theorem fy_M_ok : ∀ k, k < 5 → parseFieldDescriptor (F_M k).2.2.1 = some (fy_M k) := by decide +kernel
def F_N : u_T := fun k => match k with
  | 0 => ("SessionTables$Node", "list", "[I", true)
  | 1 => ("SessionTables$Node", "type", "I", false)
  | 2 => ("SessionTables$Node", "count", "I", false)
  | 3 => ("SessionTables$Node", "entry", "I", false)
  | _ => ("SessionTables$Node", "isChanged", "Z", false)
def fy_N : Nat → FieldType := fun k => match k with
  | 0 => .array .int
  | 1 => .int
  | 2 => .int
  | 3 => .int
  | _ => .boolean
theorem fn_N : ∀ a, a < 5 → ∀ b, b < 5 → a ≠ b → (F_N a).2.1 ≠ (F_N b).2.1 := by decide +kernel
theorem fy_N_ok : ∀ k, k < 5 → parseFieldDescriptor (F_N k).2.2.1 = some (fy_N k) := by decide +kernel
def F_T : u_T := fun k => match k with
  | _ => ("SessionTables$Tree", "nodes", "[LSessionTables$Node;", true)
def fy_T : Nat → FieldType := fun k => match k with
  | _ => .array (.object "SessionTables$Node")
theorem fn_T : ∀ a, a < 1 → ∀ b, b < 1 → a ≠ b → (F_T a).2.1 ≠ (F_T b).2.1 := by decide +kernel
theorem fy_T_ok : ∀ k, k < 1 → parseFieldDescriptor (F_T k).2.2.1 = some (fy_T k) := by decide +kernel
def F_S : u_T := fun k => match k with
  | 0 => ("SessionTables", "medium", "LSessionTables$Medium;", true)
  | 1 => ("SessionTables", "tree", "LSessionTables$Tree;", true)
  | _ => ("SessionTables", "past", "LSessionTables$Tree;", true)
def fy_S : Nat → FieldType := fun k => match k with
  | 0 => .object "SessionTables$Medium"
  | 1 => .object "SessionTables$Tree"
  | _ => .object "SessionTables$Tree"
theorem fn_S : ∀ a, a < 3 → ∀ b, b < 3 → a ≠ b → (F_S a).2.1 ≠ (F_S b).2.1 := by decide +kernel
theorem fy_S_ok : ∀ k, k < 3 → parseFieldDescriptor (F_S k).2.2.1 = some (fy_S k) := by decide +kernel
def F_R : u_T := fun k => match k with
  | 0 => ("SessionTablesModel", "word", "[I", true)
  | 1 => ("SessionTablesModel", "sectors", "I", false)
  | 2 => ("SessionTablesModel", "written", "I", false)
  | 3 => ("SessionTablesModel", "armed", "Z", false)
  | 4 => ("SessionTablesModel", "until", "I", false)
  | 5 => ("SessionTablesModel", "kind", "[I", true)
  | 6 => ("SessionTablesModel", "count", "[I", true)
  | 7 => ("SessionTablesModel", "items", "[I", true)
  | 8 => ("SessionTablesModel", "changed", "[Z", true)
  | 9 => ("SessionTablesModel", "entry", "[I", true)
  | 10 => ("SessionTablesModel", "seenKind", "[I", true)
  | 11 => ("SessionTablesModel", "seenCount", "[I", true)
  | 12 => ("SessionTablesModel", "seenItems", "[I", true)
  | 13 => ("SessionTablesModel", "sector", "[I", true)
  | _ => ("SessionTablesModel", "below", "[Z", true)
def fy_R : Nat → FieldType := fun k => match k with
  | 0 => .array .int
  | 1 => .int
  | 2 => .int
  | 3 => .boolean
  | 4 => .int
  | 5 => .array .int
  | 6 => .array .int
  | 7 => .array .int
  | 8 => .array .boolean
  | 9 => .array .int
  | 10 => .array .int
  | 11 => .array .int
  | 12 => .array .int
  | 13 => .array .int
  | _ => .array .boolean
theorem fn_R : ∀ a, a < 15 → ∀ b, b < 15 → a ≠ b → (F_R a).2.1 ≠ (F_R b).2.1 := by decide +kernel
theorem fy_R_ok : ∀ k, k < 15 → parseFieldDescriptor (F_R k).2.2.1 = some (fy_R k) := by decide +kernel
abbrev aw_cl : List vw_C := [("SessionTables$Medium", F_M, 5), ("SessionTables$Node", F_N, 5), ("SessionTables$Tree", F_T, 1), ("SessionTables", F_S, 3), ("SessionTablesModel", F_R, 15)]
def aw_nf (c : Nat) : Nat := match c with
  | 0 => 5
  | 1 => 5
  | 2 => 1
  | 3 => 3
  | _ => 15
def aw_rf (c k : Nat) : Bool := match c with
  | 0 => !(k == 0 || k == 3 || k == 4)
  | 1 => !(k == 1 || k == 2 || k == 3 || k == 4)
  | 2 => true
  | 3 => true
  | _ => !(k == 1 || k == 2 || k == 3 || k == 4)
def aw_Nd : String := "SessionTables$Node"
def aw_Ts : List Cond := lw_tbl.filter goodWord
theorem aw_mem {w : Cond} (h : w ∈ lw_tbl) (g : goodWord w = true) : w ∈ aw_Ts := List.mem_filter.mpr ⟨h, g⟩
theorem uw_M : ∀ w ∈ u_ws "SessionTables$Medium" F_M 5, w ∈ aw_Ts := by decide +kernel
theorem uw_N : ∀ w ∈ u_ws "SessionTables$Node" F_N 5, w ∈ aw_Ts := by decide +kernel
theorem uw_T : ∀ w ∈ u_ws "SessionTables$Tree" F_T 1, w ∈ aw_Ts := by decide +kernel
theorem uw_S : ∀ w ∈ u_ws "SessionTables" F_S 3, w ∈ aw_Ts := by decide +kernel
theorem uw_R : ∀ w ∈ u_ws "SessionTablesModel" F_R 15, w ∈ aw_Ts := by decide +kernel
/- the places: 0 the class, 1 its medium, 2 words, 3 checks, 4 tree, 5 its nodes, 6 + 2i node i, 7 + 2i its list; 22 past, 23 .. the same; 40 the reference, 41 .. its arrays.
   A place's shape: (0, n) ints, (1, n) booleans, (2, n) nodes, (c + 3, 0) an object of class c -/
def aw_sh (n p : Nat) : Nat × Nat :=
  if p = 0 then (6, 0) else if p = 1 then (3, 0) else if p = 2 then (0, n * 16) else if p = 3 then (0, n)
  else if p = 4 then (5, 0) else if p = 5 then (2, 8) else if p = 22 then (5, 0) else if p = 23 then (2, 8)
  else if p < 40 then (if p % 2 = 0 then (4, 0) else (0, 10))
  else if p = 40 then (7, 0)
  else if p = 41 then (0, 2048)
  else if p = 42 then (0, 8)
  else if p = 43 then (0, 8)
  else if p = 44 then (0, 80)
  else if p = 45 then (1, 8)
  else if p = 46 then (0, 8)
  else if p = 47 then (0, 8)
  else if p = 48 then (0, 8)
  else if p = 49 then (0, 80)
  else if p = 50 then (0, 16)
  else (1, 8)
def aw_rM (p k : Nat) : Option Nat :=
  if p = 0 then (match k with | 0 => some 1 | 1 => some 4 | _ => some 22)
  else if p = 1 then (match k with | 1 => some 2 | _ => some 3)
  else if p = 4 then some 5 else if p = 5 then some (6 + 2 * k) else if p = 22 then some 23 else if p = 23 then some (24 + 2 * k)
  else if p < 40 then some (p + 1)
  else if p = 40 then (match k with | 0 => some 41 | 5 => some 42 | 6 => some 43 | 7 => some 44 | 8 => some 45 | 9 => some 46 | 10 => some 47 | 11 => some 48 | 12 => some 49 | 13 => some 50 | 14 => some 51 | _ => none)
  else none
end
section
/- THE ABSTRACT MACHINE over the kit. A world is a fixed number of cells at places 0, 1, 2 ..; G says how many, how many sectors,
   at which addresses, under which class numbers; its ints are a function h (place, slot); its references never change.
   aw_X M G nL pc ls st h: the machine at pc with locals ls, stack st, ints h comes to its end. Each row ax_.. is one instruction. -/
abbrev aw_V : Type := Option Nat ⊕ Int32
abbrev aw_H : Type := Nat → Nat → Int32
abbrev aw_M : Type := Program × Launch × Env × Room × State × MethodId × Array Value × List Frame × Method × Code × Nat × Nat × (State → Prop)
abbrev aw_G : Type := Nat × Nat × (Nat → Nat) × (Nat → ClassId) × va_G × (Nat → Prop)
abbrev aw_N (G : aw_G) : Nat := G.1
abbrev aw_n (G : aw_G) : Nat := G.2.1
abbrev aw_ad (G : aw_G) : Nat → Nat := G.2.2.1
abbrev aw_ca (G : aw_G) : Nat → ClassId := G.2.2.2.1
abbrev aw_D (G : aw_G) : va_G := G.2.2.2.2.1
abbrev aw_A (G : aw_G) : Nat → Prop := G.2.2.2.2.2
def aw_c (ad : Nat → Nat) (v : aw_V) : Value := match v with
  | .inl r => va_rf (r.map ad)
  | .inr x => .int x
def aw_fs (ad : Nat → Nat) (c : Nat) (r : Nat → Option Nat) (f : Nat → Int32) : List Value := (List.range (aw_nf c)).map (fun k => if aw_rf c k = true then va_rf ((r k).map ad) else .int (f k))
def aw_cell (ad : Nat → Nat) (ca : Nat → ClassId) (q : Nat × Nat) (r : Nat → Option Nat) (f : Nat → Int32) : va_E := match q.1 with
  | 0 => .inl (ca 0, q.2, .inl f)
  | 1 => .inl (ca 1, q.2, .inl f)
  | 2 => .inl (ca 2, q.2, .inr (.inr (.inr (.inr (fun j => (r j).map ad)))))
  | c + 3 => .inr (c, aw_fs ad c r f)
def aw_e (G : aw_G) (h : aw_H) (p : Nat) : va_E := aw_cell (aw_ad G) (aw_ca G) (aw_sh (aw_n G) p) (aw_rM p) (h p)
def aw_w (G : aw_G) (h : aw_H) : va_W := (List.range (aw_N G)).map (fun p => (aw_ad G p, aw_e G h p))
def aw_tys (G : aw_G) : List (ClassId × FieldType) := [(aw_ca G 0, .int), (aw_ca G 1, .boolean), (aw_ca G 2, .object aw_Nd)]
def aw_u (h : aw_H) (p k : Nat) (x : Int32) : aw_H := fun p' => if p' = p then upd (h p) k x else h p'
def aw_ok (G : aw_G) : Prop := (∀ i j, i < aw_N G → j < aw_N G → aw_ad G i = aw_ad G j → i = j) ∧ ∀ i, i < aw_N G → aw_A G (aw_ad G i)
def aw_l (ad : Nat → Nat) (nL : Nat) (la : Array Slot) (ls : List (Option aw_V)) : Prop := la.size = nL ∧ lv_wf la ∧ ∀ (i : Nat) (v : aw_V), ls[i]? = some (some v) → la[i]? = some (.val (aw_c ad v))
def aw_X (M : aw_M) (G : aw_G) (nL pc : Nat) (ls : List (Option aw_V)) (st : List aw_V) (h : aw_H) : Prop := match M with
  | (p, l, e, R, s, m, args, below, meth, c, cells, slots, Q) => ∀ (H : Heap) (locs : List Loc) (la : Array Slot), va_P (aw_D G) aw_cl (aw_w G h) H → va_S (aw_A G) s.heap H locs → aw_l (aw_ad G) nL la ls → W p l e R s m args below meth c H locs cells slots Q (F0 m pc la (st.map (aw_c (aw_ad G))))
def aw_B (M : aw_M) (G : aw_G) (cc : ByteArray) (nL : Nat) (own : String) (d : Nat) : Prop := match M with
  | (p, _, _, R, s, m, args, _, _, c, cells, slots, _) => p.tables.exec = Jvm.exec ∧ c.code = cc ∧ c.maxLocals = nL ∧ s.vm.findClass own = some m.cls ∧ (∀ w ∈ aw_Ts, w.before args s = true) ∧ va_K (aw_D G) aw_cl (aw_tys G) s ∧ aw_ok G ∧ d ≤ R.frames ∧ 40 * d ≤ R.locals ∧ cells ≤ R.cells ∧ slots ≤ R.slots
def aw_Q (G : aw_G) (post : Option aw_V → aw_H → Prop) : Array Value → State → Outcome → State → Prop := fun _ st oc t =>
  (∃ (r : Option aw_V) (h' : aw_H), oc = .returned (r.map (aw_c (aw_ad G))) ∧ post r h' ∧ va_P (aw_D G) aw_cl (aw_w G h') t.heap ∧ va_K (aw_D G) aw_cl (aw_tys G) t) ∧ va_F (aw_A G) st t
def aw_E (M : aw_M) (G : aw_G) (ret : Option FieldType) (post : Option aw_V → aw_H → Prop) : Prop := match M with
  | (_, _, _, _, s, _, args, below, meth, _, cells, slots, Q) => meth.sig.returnType = ret ∧ meth.locks = false ∧ Q = MQ below (aw_Q G post) args s cells slots (aw_A G)
def aw_rm (d : Nat) : Room := { frames := d, cells := 0, slots := 0, locals := 40 * d }
abbrev aw_Y : Type := MethodName × ByteArray × Nat × Option FieldType
def aw_ws (y : aw_Y) : List Cond := .code y.1 y.2.1 y.2.2.1 y.2.2.2 :: aw_Ts
def aw_Pc (G : aw_G) (args : List aw_V) (h : aw_H) : Array Value → State → Prop := va_Pc (args.map (aw_c (aw_ad G))) (fun U => va_P (aw_D G) aw_cl (aw_w G h) U.heap ∧ va_K (aw_D G) aw_cl (aw_tys G) U)
/-- method y's contract, calls at most d deep -/
def aw_C (l : Launch) (G : aw_G) (d : Nat) (y : aw_Y) (args : List aw_V) (h : aw_H) (post : Option aw_V → aw_H → Prop) : Prop :=
  Met l y.1 (aw_ws y) (aw_rm d) (aw_Pc G args h) (aw_Q G post) 0 0 (aw_A G)
theorem aw_cat (ad : Nat → Nat) (v : aw_V) : (aw_c ad v).category = 1 := by
  rcases v with (_ | p) | x <;> rfl
theorem aw_cats (ad : Nat → Nat) : ∀ st : List aw_V, ((st.map (aw_c ad)).map fun v => v.category).sum = st.length
  | [] => rfl
  | v :: st => by
    have h := aw_cats ad st
    simp only [List.map_cons, List.sum_cons, List.length_cons, aw_cat] at h ⊢
    omega
theorem aw_w_get {G : aw_G} {h : aw_H} {p : Nat} (hp : p < aw_N G) : (aw_w G h)[p]? = some (aw_ad G p, aw_e G h p) := by
  unfold aw_w
  rw [List.getElem?_map, List.getElem?_range hp]
  rfl
theorem aw_w_set {G : aw_G} {h h' : aw_H} {p : Nat} {e : va_E} (he : e = aw_e G h' p) (ho : ∀ q, q ≠ p → aw_e G h' q = aw_e G h q) : (aw_w G h).set p (aw_ad G p, e) = aw_w G h' := by
  apply List.ext_getElem?
  intro i
  by_cases hi : i < aw_N G
  · by_cases hip : i = p
    · subst hip
      have hl : i < (aw_w G h).length := by unfold aw_w; rw [List.length_map, List.length_range]; exact hi
      rw [List.getElem?_set_self hl, aw_w_get hi, he]
    · rw [List.getElem?_set_ne (Ne.symm hip), aw_w_get hi, aw_w_get hi, ho i hip]
  · have h1 : ∀ g : aw_H, (aw_w G g).length = aw_N G := fun g => by unfold aw_w; rw [List.length_map, List.length_range]
    rw [List.getElem?_eq_none (by rw [List.length_set, h1]; omega), List.getElem?_eq_none (by rw [h1]; omega)]
theorem aw_wD {G : aw_G} (hG : aw_ok G) (h : aw_H) : va_D (aw_A G) (aw_w G h) := by
  have key : ∀ (i : Nat) (q : Nat × va_E), (aw_w G h)[i]? = some q → i < aw_N G ∧ q.1 = aw_ad G i := by
    intro i q hq
    have hi : i < (aw_w G h).length := (List.getElem?_eq_some_iff.mp hq).1
    have hi : i < aw_N G := by unfold aw_w at hi; rw [List.length_map, List.length_range] at hi; exact hi
    rw [aw_w_get hi] at hq
    cases hq
    exact ⟨hi, rfl⟩
  refine ⟨fun i j p q hp hq hpq => ?_, fun k q hq => ?_⟩
  · obtain ⟨h1, h2⟩ := key i p hp
    obtain ⟨h3, h4⟩ := key j q hq
    exact hG.1 i j h1 h3 (by rw [← h2, ← h4]; exact hpq)
  · obtain ⟨h1, h2⟩ := key k q hq
    rw [h2]
    exact hG.2 k h1
theorem aw_u_ne {h : aw_H} {p k q : Nat} {x : Int32} (hq : q ≠ p) : aw_u h p k x q = h q := if_neg hq
theorem aw_u_eq {h : aw_H} {p k : Nat} {x : Int32} : aw_u h p k x p = upd (h p) k x := if_pos rfl
theorem aw_e_ne {G : aw_G} {h : aw_H} {p k q : Nat} {x : Int32} (hq : q ≠ p) : aw_e G (aw_u h p k x) q = aw_e G h q := by
  unfold aw_e
  rw [aw_u_ne hq]
def aw_ll (ad : Nat → Nat) (ls : List (Option aw_V)) : List (Nat × Value) := (List.range ls.length).filterMap (fun i => match ls[i]? with
  | some (some v) => some (i, aw_c ad v)
  | _ => none)
theorem aw_ll_mem {ad : Nat → Nat} {ls : List (Option aw_V)} {i : Nat} {v : aw_V} (h : ls[i]? = some (some v)) : (i, aw_c ad v) ∈ aw_ll ad ls := by
  unfold aw_ll
  rw [List.mem_filterMap]
  exact ⟨i, List.mem_range.mpr (List.getElem?_eq_some_iff.mp h).1, by rw [h]⟩
theorem aw_l.has {ad : Nat → Nat} {nL : Nat} {la : Array Slot} {ls : List (Option aw_V)} (h : aw_l ad nL la ls) : lv_has la nL (aw_ll ad ls) := by
  refine ⟨h.1, h.2.1, fun q hq => ?_⟩
  unfold aw_ll at hq
  rw [List.mem_filterMap] at hq
  obtain ⟨i, -, hi⟩ := hq
  split at hi
  · rename_i v hv
    cases hi
    exact h.2.2 _ _ hv
  · cases hi
theorem aw_l.st {ad : Nat → Nat} {nL i : Nat} {la' : Array Slot} {ls : List (Option aw_V)} {v : aw_V} (h : lv_has la' nL ((i, aw_c ad v) :: (aw_ll ad ls).filter (fun q => !(q.1 == i) && !(q.1 + 1 == i && q.2.category == 2)))) : aw_l ad nL la' (ls.set i (some v)) := by
  refine ⟨h.1, h.2.1, fun j w hw => ?_⟩
  by_cases hj : j = i
  · subst hj
    have hl : j < (ls.set j (some v)).length := (List.getElem?_eq_some_iff.mp hw).1
    rw [List.length_set] at hl
    rw [List.getElem?_set_self hl] at hw
    cases hw
    exact h.2.2 (j, aw_c ad v) List.mem_cons_self
  · rw [List.getElem?_set_ne (Ne.symm hj)] at hw
    refine h.2.2 (j, aw_c ad w) (List.mem_cons_of_mem _ (List.mem_filter.mpr ⟨aw_ll_mem hw, ?_⟩))
    simp [hj, aw_cat]
theorem aw_l.less {ad : Nat → Nat} {nL : Nat} {la : Array Slot} {ls ls' : List (Option aw_V)} (h : aw_l ad nL la ls) (hl : ∀ (i : Nat) (v : aw_V), ls'[i]? = some (some v) → ls[i]? = some (some v)) : aw_l ad nL la ls' := ⟨h.1, h.2.1, fun i v hv => h.2.2 i v (hl i v hv)⟩
section AX
variable {M : aw_M} {G : aw_G} {cc : ByteArray} {nL d pc q : Nat} {own : String} {ls : List (Option aw_V)} {st : List aw_V} {h : aw_H}
/-- fewer locals are known -/
theorem ax_less {ls' : List (Option aw_V)} (hl : ∀ (i : Nat) (v : aw_V), ls'[i]? = some (some v) → ls[i]? = some (some v)) (k : aw_X M G nL pc ls' st h) : aw_X M G nL pc ls st h := by
  obtain ⟨p, l, e, R, s, m, args, below, meth, c, cells, slots, Q⟩ := M
  intro H locs la hP hS hla
  exact k H locs la hP hS (hla.less hl)
theorem ax_iconst (B : aw_B M G cc nL own d) {n : Int} {v : Int32} (hd : decode cc pc = .ok (.iconst n, 1)) (hv : Int32.ofInt n = v) (hq : pc + 1 = q) (k : aw_X M G nL q ls (.inr v :: st) h) : aw_X M G nL pc ls st h := by
  obtain ⟨p, l, e, R, s, m, args, below, meth, c, cells, slots, Q⟩ := M
  subst hq
  intro H locs la hP hS hl
  exact lv_iconst B.1 B.2.1 hd hv (k H locs la hP hS hl)
theorem ax_bipush (B : aw_B M G cc nL own d) {n : Int} {v : Int32} (hd : decode cc pc = .ok (.bipush n, 2)) (hv : (Int8.ofInt n).toInt32 = v) (hq : pc + 2 = q) (k : aw_X M G nL q ls (.inr v :: st) h) : aw_X M G nL pc ls st h := by
  obtain ⟨p, l, e, R, s, m, args, below, meth, c, cells, slots, Q⟩ := M
  subst hq
  intro H locs la hP hS hl
  exact lv_bipush B.1 B.2.1 hd hv (k H locs la hP hS hl)
theorem ax_sipush (B : aw_B M G cc nL own d) {n : Int} {v : Int32} (hd : decode cc pc = .ok (.sipush n, 3)) (hv : (Int16.ofInt n).toInt32 = v) (hq : pc + 3 = q) (k : aw_X M G nL q ls (.inr v :: st) h) : aw_X M G nL pc ls st h := by
  obtain ⟨p, l, e, R, s, m, args, below, meth, c, cells, slots, Q⟩ := M
  subst hq
  intro H locs la hP hS hl
  exact lv_sipush B.1 B.2.1 hd hv (k H locs la hP hS hl)
theorem ax_ldc (B : aw_B M G cc nL own d) {ix : Nat} {v : Int32} (hw : Cond.constant own ix v ∈ aw_Ts) (hd : decode cc pc = .ok (.ldc ix, 2)) (hq : pc + 2 = q) (k : aw_X M G nL q ls (.inr v :: st) h) : aw_X M G nL pc ls st h := by
  obtain ⟨p, l, e, R, s, m, args, below, meth, c, cells, slots, Q⟩ := M
  subst hq
  intro H locs la hP hS hl
  exact lv_ldc B.1 B.2.1 B.2.2.2.1 (B.2.2.2.2.1 _ hw) hd (k H locs la hP hS hl)
theorem ax_null (B : aw_B M G cc nL own d) (hd : decode cc pc = .ok (.aconst_null, 1)) (hq : pc + 1 = q) (k : aw_X M G nL q ls (.inl none :: st) h) : aw_X M G nL pc ls st h := by
  obtain ⟨p, l, e, R, s, m, args, below, meth, c, cells, slots, Q⟩ := M
  subst hq
  intro H locs la hP hS hl
  exact lv_null B.1 B.2.1 hd (k H locs la hP hS hl)
theorem ax_iload_n (B : aw_B M G cc nL own d) {j : Fin 4} {i : Nat} {x : Int32} (hd : decode cc pc = .ok (.iload_n j, 1)) (hi : (j : Nat) = i) (hx : ls[i]? = some (some (.inr x))) (hq : pc + 1 = q) (k : aw_X M G nL q ls (.inr x :: st) h) : aw_X M G nL pc ls st h := by
  obtain ⟨p, l, e, R, s, m, args, below, meth, c, cells, slots, Q⟩ := M
  subst hq
  intro H locs la hP hS hl
  exact lv_iload_n B.1 B.2.1 hd hi (hl.2.2 _ _ hx) (k H locs la hP hS hl)
theorem ax_iload (B : aw_B M G cc nL own d) {i : Nat} {x : Int32} (hd : decode cc pc = .ok (.iload i, 2)) (hx : ls[i]? = some (some (.inr x))) (hq : pc + 2 = q) (k : aw_X M G nL q ls (.inr x :: st) h) : aw_X M G nL pc ls st h := by
  obtain ⟨p, l, e, R, s, m, args, below, meth, c, cells, slots, Q⟩ := M
  subst hq
  intro H locs la hP hS hl
  exact lv_iload B.1 B.2.1 hd (hl.2.2 _ _ hx) (k H locs la hP hS hl)
theorem ax_aload_n (B : aw_B M G cc nL own d) {j : Fin 4} {i : Nat} {r : Option Nat} (hd : decode cc pc = .ok (.aload_n j, 1)) (hi : (j : Nat) = i) (hx : ls[i]? = some (some (.inl r))) (hq : pc + 1 = q) (k : aw_X M G nL q ls (.inl r :: st) h) : aw_X M G nL pc ls st h := by
  obtain ⟨p, l, e, R, s, m, args, below, meth, c, cells, slots, Q⟩ := M
  subst hq
  intro H locs la hP hS hl
  have h1 := hl.2.2 _ _ hx
  cases r with
  | none => exact lv_aload_nN B.1 B.2.1 hd hi h1 (k H locs la hP hS hl)
  | some a => exact lv_aload_n B.1 B.2.1 hd hi h1 (k H locs la hP hS hl)
theorem ax_aload (B : aw_B M G cc nL own d) {i : Nat} {r : Option Nat} (hd : decode cc pc = .ok (.aload i, 2)) (hx : ls[i]? = some (some (.inl r))) (hq : pc + 2 = q) (k : aw_X M G nL q ls (.inl r :: st) h) : aw_X M G nL pc ls st h := by
  obtain ⟨p, l, e, R, s, m, args, below, meth, c, cells, slots, Q⟩ := M
  subst hq
  intro H locs la hP hS hl
  have h1 := hl.2.2 _ _ hx
  cases r with
  | none => exact lv_aloadN B.1 B.2.1 hd h1 (k H locs la hP hS hl)
  | some a => exact lv_aload B.1 B.2.1 hd h1 (k H locs la hP hS hl)
theorem ax_istore_n (B : aw_B M G cc nL own d) {j : Fin 4} {i : Nat} {x : Int32} (hd : decode cc pc = .ok (.istore_n j, 1)) (hi : (j : Nat) = i) (hn : i < nL) (hq : pc + 1 = q) (k : aw_X M G nL q (ls.set i (some (.inr x))) st h) : aw_X M G nL pc ls (.inr x :: st) h := by
  obtain ⟨p, l, e, R, s, m, args, below, meth, c, cells, slots, Q⟩ := M
  subst hq
  intro H locs la hP hS hl
  exact lv_istore_n B.1 B.2.1 hd hi hl.has hn rfl (fun la' h' => k H locs la' hP hS (aw_l.st (v := .inr x) h'))
theorem ax_istore (B : aw_B M G cc nL own d) {i : Nat} {x : Int32} (hd : decode cc pc = .ok (.istore i, 2)) (hn : i < nL) (hq : pc + 2 = q) (k : aw_X M G nL q (ls.set i (some (.inr x))) st h) : aw_X M G nL pc ls (.inr x :: st) h := by
  obtain ⟨p, l, e, R, s, m, args, below, meth, c, cells, slots, Q⟩ := M
  subst hq
  intro H locs la hP hS hl
  exact lv_istore B.1 B.2.1 hd hl.has hn rfl (fun la' h' => k H locs la' hP hS (aw_l.st (v := .inr x) h'))
theorem ax_astore_n (B : aw_B M G cc nL own d) {j : Fin 4} {i : Nat} {r : Option Nat} (hd : decode cc pc = .ok (.astore_n j, 1)) (hi : (j : Nat) = i) (hn : i < nL) (hq : pc + 1 = q) (k : aw_X M G nL q (ls.set i (some (.inl r))) st h) : aw_X M G nL pc ls (.inl r :: st) h := by
  obtain ⟨p, l, e, R, s, m, args, below, meth, c, cells, slots, Q⟩ := M
  subst hq
  intro H locs la hP hS hl
  cases r with
  | none => exact lv_astore_nN B.1 B.2.1 hd hi hl.has hn rfl (fun la' h' => k H locs la' hP hS (aw_l.st (v := .inl none) h'))
  | some a => exact lv_astore_n B.1 B.2.1 hd hi hl.has hn rfl (fun la' h' => k H locs la' hP hS (aw_l.st (v := .inl (some a)) h'))
theorem ax_astore (B : aw_B M G cc nL own d) {i : Nat} {r : Option Nat} (hd : decode cc pc = .ok (.astore i, 2)) (hn : i < nL) (hq : pc + 2 = q) (k : aw_X M G nL q (ls.set i (some (.inl r))) st h) : aw_X M G nL pc ls (.inl r :: st) h := by
  obtain ⟨p, l, e, R, s, m, args, below, meth, c, cells, slots, Q⟩ := M
  subst hq
  intro H locs la hP hS hl
  cases r with
  | none => exact lv_astoreN B.1 B.2.1 hd hl.has hn rfl (fun la' h' => k H locs la' hP hS (aw_l.st (v := .inl none) h'))
  | some a => exact lv_astore B.1 B.2.1 hd hl.has hn rfl (fun la' h' => k H locs la' hP hS (aw_l.st (v := .inl (some a)) h'))
theorem ax_iinc (B : aw_B M G cc nL own d) {i : Nat} {n : Int} {x v : Int32} (hd : decode cc pc = .ok (.iinc i n, 3)) (hx : ls[i]? = some (some (.inr x))) (hv : x + Int32.ofInt n = v) (hn : i < nL) (hq : pc + 3 = q) (k : aw_X M G nL q (ls.set i (some (.inr v))) st h) : aw_X M G nL pc ls st h := by
  obtain ⟨p, l, e, R, s, m, args, below, meth, c, cells, slots, Q⟩ := M
  subst hq
  intro H locs la hP hS hl
  obtain ⟨j, hj⟩ := List.getElem?_of_mem (aw_ll_mem (ad := aw_ad G) hx)
  exact lv_iinc B.1 B.2.1 hd hl.has hj hv hn rfl (fun la' h' => k H locs la' hP hS (aw_l.st (v := .inr v) h'))
theorem ax_dup (B : aw_B M G cc nL own d) {v : aw_V} (hd : decode cc pc = .ok (.dup, 1)) (hq : pc + 1 = q) (k : aw_X M G nL q ls (v :: v :: st) h) : aw_X M G nL pc ls (v :: st) h := by
  obtain ⟨p, l, e, R, s, m, args, below, meth, c, cells, slots, Q⟩ := M
  subst hq
  intro H locs la hP hS hl
  exact lv_dup B.1 B.2.1 hd (aw_cat _ _) (k H locs la hP hS hl)
theorem ax_dup2 (B : aw_B M G cc nL own d) {v w : aw_V} (hd : decode cc pc = .ok (.dup2, 1)) (hq : pc + 1 = q) (k : aw_X M G nL q ls (v :: w :: v :: w :: st) h) : aw_X M G nL pc ls (v :: w :: st) h := by
  obtain ⟨p, l, e, R, s, m, args, below, meth, c, cells, slots, Q⟩ := M
  subst hq
  intro H locs la hP hS hl
  exact lv_dup2_11 B.1 B.2.1 hd (aw_cat _ _) (aw_cat _ _) (k H locs la hP hS hl)
theorem ax_pop (B : aw_B M G cc nL own d) {v : aw_V} (hd : decode cc pc = .ok (.pop, 1)) (hq : pc + 1 = q) (k : aw_X M G nL q ls st h) : aw_X M G nL pc ls (v :: st) h := by
  obtain ⟨p, l, e, R, s, m, args, below, meth, c, cells, slots, Q⟩ := M
  subst hq
  intro H locs la hP hS hl
  exact lv_pop B.1 B.2.1 hd (aw_cat _ _) (k H locs la hP hS hl)
theorem ax_goto (B : aw_B M G cc nL own d) {off : Int} (hd : decode cc pc = .ok (.goto off, 3)) (hq : (pc : Int) + off = (q : Int)) (k : aw_X M G nL q ls st h) : aw_X M G nL pc ls st h := by
  obtain ⟨p, l, e, R, s, m, args, below, meth, c, cells, slots, Q⟩ := M
  intro H locs la hP hS hl
  exact lv_goto B.1 B.2.1 hd hq (k H locs la hP hS hl)
theorem ax_ifnull (B : aw_B M G cc nL own d) {off : Int} {r : Option Nat} {q2 : Nat} (hd : decode cc pc = .ok (.ifnull off, 3)) (hq : (pc : Int) + off = (q : Int)) (hq2 : pc + 3 = q2) (kt : r = none → aw_X M G nL q ls st h) (kf : ∀ a, r = some a → aw_X M G nL q2 ls st h) : aw_X M G nL pc ls (.inl r :: st) h := by
  obtain ⟨p, l, e, R, s, m, args, below, meth, c, cells, slots, Q⟩ := M
  subst hq2
  intro H locs la hP hS hl
  cases r with
  | none => exact lv_ifnullN B.1 B.2.1 hd hq (kt rfl H locs la hP hS hl)
  | some a => exact lv_ifnull B.1 B.2.1 hd (kf a rfl H locs la hP hS hl)
theorem ax_ifnonnull (B : aw_B M G cc nL own d) {off : Int} {r : Option Nat} {q2 : Nat} (hd : decode cc pc = .ok (.ifnonnull off, 3)) (hq : (pc : Int) + off = (q : Int)) (hq2 : pc + 3 = q2) (kt : ∀ a, r = some a → aw_X M G nL q ls st h) (kf : r = none → aw_X M G nL q2 ls st h) : aw_X M G nL pc ls (.inl r :: st) h := by
  obtain ⟨p, l, e, R, s, m, args, below, meth, c, cells, slots, Q⟩ := M
  subst hq2
  intro H locs la hP hS hl
  cases r with
  | none => exact lv_ifnonnullN B.1 B.2.1 hd (kf rfl H locs la hP hS hl)
  | some a => exact lv_ifnonnull B.1 B.2.1 hd hq (kt a rfl H locs la hP hS hl)
theorem ax_iadd (B : aw_B M G cc nL own d) {x y : Int32} (hd : decode cc pc = .ok (.iadd, 1)) (hq : pc + 1 = q) (k : aw_X M G nL q ls (.inr (x + y) :: st) h) : aw_X M G nL pc ls (.inr y :: .inr x :: st) h := by
  obtain ⟨p, l, e, R, s, m, args, below, meth, c, cells, slots, Q⟩ := M
  subst hq
  intro H locs la hP hS hl
  exact lv_iadd B.1 B.2.1 hd (k H locs la hP hS hl)
theorem ax_isub (B : aw_B M G cc nL own d) {x y : Int32} (hd : decode cc pc = .ok (.isub, 1)) (hq : pc + 1 = q) (k : aw_X M G nL q ls (.inr (x - y) :: st) h) : aw_X M G nL pc ls (.inr y :: .inr x :: st) h := by
  obtain ⟨p, l, e, R, s, m, args, below, meth, c, cells, slots, Q⟩ := M
  subst hq
  intro H locs la hP hS hl
  exact lv_isub B.1 B.2.1 hd (k H locs la hP hS hl)
theorem ax_imul (B : aw_B M G cc nL own d) {x y : Int32} (hd : decode cc pc = .ok (.imul, 1)) (hq : pc + 1 = q) (k : aw_X M G nL q ls (.inr (x * y) :: st) h) : aw_X M G nL pc ls (.inr y :: .inr x :: st) h := by
  obtain ⟨p, l, e, R, s, m, args, below, meth, c, cells, slots, Q⟩ := M
  subst hq
  intro H locs la hP hS hl
  exact lv_imul B.1 B.2.1 hd (k H locs la hP hS hl)
theorem ax_iand (B : aw_B M G cc nL own d) {x y : Int32} (hd : decode cc pc = .ok (.iand, 1)) (hq : pc + 1 = q) (k : aw_X M G nL q ls (.inr (x &&& y) :: st) h) : aw_X M G nL pc ls (.inr y :: .inr x :: st) h := by
  obtain ⟨p, l, e, R, s, m, args, below, meth, c, cells, slots, Q⟩ := M
  subst hq
  intro H locs la hP hS hl
  exact lv_iand B.1 B.2.1 hd (k H locs la hP hS hl)
theorem ax_ior (B : aw_B M G cc nL own d) {x y : Int32} (hd : decode cc pc = .ok (.ior, 1)) (hq : pc + 1 = q) (k : aw_X M G nL q ls (.inr (x ||| y) :: st) h) : aw_X M G nL pc ls (.inr y :: .inr x :: st) h := by
  obtain ⟨p, l, e, R, s, m, args, below, meth, c, cells, slots, Q⟩ := M
  subst hq
  intro H locs la hP hS hl
  exact lv_ior B.1 B.2.1 hd (k H locs la hP hS hl)
theorem ax_ixor (B : aw_B M G cc nL own d) {x y : Int32} (hd : decode cc pc = .ok (.ixor, 1)) (hq : pc + 1 = q) (k : aw_X M G nL q ls (.inr (x ^^^ y) :: st) h) : aw_X M G nL pc ls (.inr y :: .inr x :: st) h := by
  obtain ⟨p, l, e, R, s, m, args, below, meth, c, cells, slots, Q⟩ := M
  subst hq
  intro H locs la hP hS hl
  exact lv_ixor B.1 B.2.1 hd (k H locs la hP hS hl)
theorem ax_ishl (B : aw_B M G cc nL own d) {x y : Int32} (hd : decode cc pc = .ok (.ishl, 1)) (hq : pc + 1 = q) (k : aw_X M G nL q ls (.inr (x <<< (y &&& 31)) :: st) h) : aw_X M G nL pc ls (.inr y :: .inr x :: st) h := by
  obtain ⟨p, l, e, R, s, m, args, below, meth, c, cells, slots, Q⟩ := M
  subst hq
  intro H locs la hP hS hl
  exact lv_ishl B.1 B.2.1 hd (k H locs la hP hS hl)
theorem ax_ishr (B : aw_B M G cc nL own d) {x y : Int32} (hd : decode cc pc = .ok (.ishr, 1)) (hq : pc + 1 = q) (k : aw_X M G nL q ls (.inr (x >>> (y &&& 31)) :: st) h) : aw_X M G nL pc ls (.inr y :: .inr x :: st) h := by
  obtain ⟨p, l, e, R, s, m, args, below, meth, c, cells, slots, Q⟩ := M
  subst hq
  intro H locs la hP hS hl
  exact lv_ishr B.1 B.2.1 hd (k H locs la hP hS hl)
theorem ax_idiv (B : aw_B M G cc nL own d) {x y : Int32} (hd : decode cc pc = .ok (.idiv, 1)) (hy : ¬ y = 0) (hq : pc + 1 = q) (k : aw_X M G nL q ls (.inr (x / y) :: st) h) : aw_X M G nL pc ls (.inr y :: .inr x :: st) h := by
  obtain ⟨p, l, e, R, s, m, args, below, meth, c, cells, slots, Q⟩ := M
  subst hq
  intro H locs la hP hS hl
  exact lv_idiv B.1 B.2.1 hd hy (k H locs la hP hS hl)
theorem ax_irem (B : aw_B M G cc nL own d) {x y : Int32} (hd : decode cc pc = .ok (.irem, 1)) (hy : ¬ y = 0) (hq : pc + 1 = q) (k : aw_X M G nL q ls (.inr (x - x / y * y) :: st) h) : aw_X M G nL pc ls (.inr y :: .inr x :: st) h := by
  obtain ⟨p, l, e, R, s, m, args, below, meth, c, cells, slots, Q⟩ := M
  subst hq
  intro H locs la hP hS hl
  exact lv_irem B.1 B.2.1 hd hy (k H locs la hP hS hl)
theorem ax_iushr (B : aw_B M G cc nL own d) {x y : Int32} (hd : decode cc pc = .ok (.iushr, 1)) (hq : pc + 1 = q) (k : aw_X M G nL q ls (.inr ((x.toUInt32 >>> (y.toUInt32 &&& Int32.toUInt32 31)).toInt32) :: st) h) : aw_X M G nL pc ls (.inr y :: .inr x :: st) h := by
  obtain ⟨p, l, e, R, s, m, args, below, meth, c, cells, slots, Q⟩ := M
  subst hq
  intro H locs la hP hS hl
  exact lv_iushr B.1 B.2.1 hd rfl (k H locs la hP hS hl)
theorem ax_if_eq (B : aw_B M G cc nL own d) {x : Int32} {off : Int} {q2 : Nat} (hd : decode cc pc = .ok (.ifCond .eq off, 3)) (hq : (pc : Int) + off = (q : Int)) (hq2 : pc + 3 = q2) (kt : x = 0 → aw_X M G nL q ls st h) (kf : ¬ x = 0 → aw_X M G nL q2 ls st h) : aw_X M G nL pc ls (.inr x :: st) h := by
  obtain ⟨p, l, e, R, s, m, args, below, meth, c, cells, slots, Q⟩ := M
  subst hq2
  intro H locs la hP hS hl
  exact lv_if_eq B.1 B.2.1 hd hq (fun z => kt z H locs la hP hS hl) (fun z => kf z H locs la hP hS hl)
theorem ax_if_ne (B : aw_B M G cc nL own d) {x : Int32} {off : Int} {q2 : Nat} (hd : decode cc pc = .ok (.ifCond .ne off, 3)) (hq : (pc : Int) + off = (q : Int)) (hq2 : pc + 3 = q2) (kt : ¬ x = 0 → aw_X M G nL q ls st h) (kf : x = 0 → aw_X M G nL q2 ls st h) : aw_X M G nL pc ls (.inr x :: st) h := by
  obtain ⟨p, l, e, R, s, m, args, below, meth, c, cells, slots, Q⟩ := M
  subst hq2
  intro H locs la hP hS hl
  exact lv_if_ne B.1 B.2.1 hd hq (fun z => kt z H locs la hP hS hl) (fun z => kf z H locs la hP hS hl)
theorem ax_if_lt (B : aw_B M G cc nL own d) {x : Int32} {off : Int} {q2 : Nat} (hd : decode cc pc = .ok (.ifCond .lt off, 3)) (hq : (pc : Int) + off = (q : Int)) (hq2 : pc + 3 = q2) (kt : x < 0 → aw_X M G nL q ls st h) (kf : ¬ x < 0 → aw_X M G nL q2 ls st h) : aw_X M G nL pc ls (.inr x :: st) h := by
  obtain ⟨p, l, e, R, s, m, args, below, meth, c, cells, slots, Q⟩ := M
  subst hq2
  intro H locs la hP hS hl
  exact lv_if_lt B.1 B.2.1 hd hq (fun z => kt z H locs la hP hS hl) (fun z => kf z H locs la hP hS hl)
theorem ax_if_ge (B : aw_B M G cc nL own d) {x : Int32} {off : Int} {q2 : Nat} (hd : decode cc pc = .ok (.ifCond .ge off, 3)) (hq : (pc : Int) + off = (q : Int)) (hq2 : pc + 3 = q2) (kt : 0 ≤ x → aw_X M G nL q ls st h) (kf : ¬ 0 ≤ x → aw_X M G nL q2 ls st h) : aw_X M G nL pc ls (.inr x :: st) h := by
  obtain ⟨p, l, e, R, s, m, args, below, meth, c, cells, slots, Q⟩ := M
  subst hq2
  intro H locs la hP hS hl
  exact lv_if_ge B.1 B.2.1 hd hq (fun z => kt z H locs la hP hS hl) (fun z => kf z H locs la hP hS hl)
theorem ax_if_gt (B : aw_B M G cc nL own d) {x : Int32} {off : Int} {q2 : Nat} (hd : decode cc pc = .ok (.ifCond .gt off, 3)) (hq : (pc : Int) + off = (q : Int)) (hq2 : pc + 3 = q2) (kt : 0 < x → aw_X M G nL q ls st h) (kf : ¬ 0 < x → aw_X M G nL q2 ls st h) : aw_X M G nL pc ls (.inr x :: st) h := by
  obtain ⟨p, l, e, R, s, m, args, below, meth, c, cells, slots, Q⟩ := M
  subst hq2
  intro H locs la hP hS hl
  exact lv_if_gt B.1 B.2.1 hd hq (fun z => kt z H locs la hP hS hl) (fun z => kf z H locs la hP hS hl)
theorem ax_if_le (B : aw_B M G cc nL own d) {x : Int32} {off : Int} {q2 : Nat} (hd : decode cc pc = .ok (.ifCond .le off, 3)) (hq : (pc : Int) + off = (q : Int)) (hq2 : pc + 3 = q2) (kt : x ≤ 0 → aw_X M G nL q ls st h) (kf : ¬ x ≤ 0 → aw_X M G nL q2 ls st h) : aw_X M G nL pc ls (.inr x :: st) h := by
  obtain ⟨p, l, e, R, s, m, args, below, meth, c, cells, slots, Q⟩ := M
  subst hq2
  intro H locs la hP hS hl
  exact lv_if_le B.1 B.2.1 hd hq (fun z => kt z H locs la hP hS hl) (fun z => kf z H locs la hP hS hl)
theorem ax_icmp_eq (B : aw_B M G cc nL own d) {x y : Int32} {off : Int} {q2 : Nat} (hd : decode cc pc = .ok (.if_icmp .eq off, 3)) (hq : (pc : Int) + off = (q : Int)) (hq2 : pc + 3 = q2) (kt : x = y → aw_X M G nL q ls st h) (kf : ¬ x = y → aw_X M G nL q2 ls st h) : aw_X M G nL pc ls (.inr y :: .inr x :: st) h := by
  obtain ⟨p, l, e, R, s, m, args, below, meth, c, cells, slots, Q⟩ := M
  subst hq2
  intro H locs la hP hS hl
  exact lv_icmp_eq B.1 B.2.1 hd hq (fun z => kt z H locs la hP hS hl) (fun z => kf z H locs la hP hS hl)
theorem ax_icmp_ne (B : aw_B M G cc nL own d) {x y : Int32} {off : Int} {q2 : Nat} (hd : decode cc pc = .ok (.if_icmp .ne off, 3)) (hq : (pc : Int) + off = (q : Int)) (hq2 : pc + 3 = q2) (kt : ¬ x = y → aw_X M G nL q ls st h) (kf : x = y → aw_X M G nL q2 ls st h) : aw_X M G nL pc ls (.inr y :: .inr x :: st) h := by
  obtain ⟨p, l, e, R, s, m, args, below, meth, c, cells, slots, Q⟩ := M
  subst hq2
  intro H locs la hP hS hl
  exact lv_icmp_ne B.1 B.2.1 hd hq (fun z => kt z H locs la hP hS hl) (fun z => kf z H locs la hP hS hl)
theorem ax_icmp_lt (B : aw_B M G cc nL own d) {x y : Int32} {off : Int} {q2 : Nat} (hd : decode cc pc = .ok (.if_icmp .lt off, 3)) (hq : (pc : Int) + off = (q : Int)) (hq2 : pc + 3 = q2) (kt : x < y → aw_X M G nL q ls st h) (kf : ¬ x < y → aw_X M G nL q2 ls st h) : aw_X M G nL pc ls (.inr y :: .inr x :: st) h := by
  obtain ⟨p, l, e, R, s, m, args, below, meth, c, cells, slots, Q⟩ := M
  subst hq2
  intro H locs la hP hS hl
  exact lv_icmp_lt B.1 B.2.1 hd hq (fun z => kt z H locs la hP hS hl) (fun z => kf z H locs la hP hS hl)
theorem ax_icmp_ge (B : aw_B M G cc nL own d) {x y : Int32} {off : Int} {q2 : Nat} (hd : decode cc pc = .ok (.if_icmp .ge off, 3)) (hq : (pc : Int) + off = (q : Int)) (hq2 : pc + 3 = q2) (kt : y ≤ x → aw_X M G nL q ls st h) (kf : ¬ y ≤ x → aw_X M G nL q2 ls st h) : aw_X M G nL pc ls (.inr y :: .inr x :: st) h := by
  obtain ⟨p, l, e, R, s, m, args, below, meth, c, cells, slots, Q⟩ := M
  subst hq2
  intro H locs la hP hS hl
  exact lv_icmp_ge B.1 B.2.1 hd hq (fun z => kt z H locs la hP hS hl) (fun z => kf z H locs la hP hS hl)
theorem ax_icmp_gt (B : aw_B M G cc nL own d) {x y : Int32} {off : Int} {q2 : Nat} (hd : decode cc pc = .ok (.if_icmp .gt off, 3)) (hq : (pc : Int) + off = (q : Int)) (hq2 : pc + 3 = q2) (kt : y < x → aw_X M G nL q ls st h) (kf : ¬ y < x → aw_X M G nL q2 ls st h) : aw_X M G nL pc ls (.inr y :: .inr x :: st) h := by
  obtain ⟨p, l, e, R, s, m, args, below, meth, c, cells, slots, Q⟩ := M
  subst hq2
  intro H locs la hP hS hl
  exact lv_icmp_gt B.1 B.2.1 hd hq (fun z => kt z H locs la hP hS hl) (fun z => kf z H locs la hP hS hl)
theorem ax_icmp_le (B : aw_B M G cc nL own d) {x y : Int32} {off : Int} {q2 : Nat} (hd : decode cc pc = .ok (.if_icmp .le off, 3)) (hq : (pc : Int) + off = (q : Int)) (hq2 : pc + 3 = q2) (kt : x ≤ y → aw_X M G nL q ls st h) (kf : ¬ x ≤ y → aw_X M G nL q2 ls st h) : aw_X M G nL pc ls (.inr y :: .inr x :: st) h := by
  obtain ⟨p, l, e, R, s, m, args, below, meth, c, cells, slots, Q⟩ := M
  subst hq2
  intro H locs la hP hS hl
  exact lv_icmp_le B.1 B.2.1 hd hq (fun z => kt z H locs la hP hS hl) (fun z => kf z H locs la hP hS hl)
theorem aw_e_obj {G : aw_G} {h : aw_H} {a c : Nat} (hs : (aw_sh (aw_n G) a).1 = c + 3) : aw_e G h a = .inr (c, aw_fs (aw_ad G) c (aw_rM a) (h a)) := by
  unfold aw_e aw_cell
  rw [hs]
theorem aw_e_arr {G : aw_G} {h : aw_H} {a z : Nat} (hs : aw_sh (aw_n G) a = (0, z)) : aw_e G h a = .inl (aw_ca G 0, z, .inl (h a)) := by
  unfold aw_e aw_cell
  rw [hs]
theorem aw_e_arz {G : aw_G} {h : aw_H} {a z : Nat} (hs : aw_sh (aw_n G) a = (1, z)) : aw_e G h a = .inl (aw_ca G 1, z, .inl (h a)) := by
  unfold aw_e aw_cell
  rw [hs]
theorem aw_e_arq {G : aw_G} {h : aw_H} {a z : Nat} (hs : aw_sh (aw_n G) a = (2, z)) : aw_e G h a = .inl (aw_ca G 2, z, .inr (.inr (.inr (.inr (fun j => (aw_rM a j).map (aw_ad G)))))) := by
  unfold aw_e aw_cell
  rw [hs]
theorem aw_fs_get {ad : Nat → Nat} {c k : Nat} {r : Nat → Option Nat} {f : Nat → Int32} (hk : k < aw_nf c) : (aw_fs ad c r f)[k]? = some (if aw_rf c k = true then va_rf ((r k).map ad) else .int (f k)) := by
  unfold aw_fs
  rw [List.getElem?_map, List.getElem?_range hk]
  rfl
theorem aw_fs_set {ad : Nat → Nat} {c k : Nat} {r : Nat → Option Nat} {f : Nat → Int32} {x : Int32} (hr : aw_rf c k = false) : (aw_fs ad c r f).set k (.int x) = aw_fs ad c r (upd f k x) := by
  have hl : ∀ g : Nat → Int32, (aw_fs ad c r g).length = aw_nf c := fun g => by unfold aw_fs; rw [List.length_map, List.length_range]
  apply List.ext_getElem?
  intro i
  by_cases hi : i < aw_nf c
  · by_cases hik : i = k
    · subst hik
      rw [List.getElem?_set_self (by rw [hl]; exact hi), aw_fs_get hi, if_neg (by rw [hr]; decide)]
      simp [upd]
    · rw [List.getElem?_set_ne (Ne.symm hik), aw_fs_get hi, aw_fs_get hi]
      simp [upd, hik]
  · rw [List.getElem?_eq_none (by rw [List.length_set, hl]; omega), List.getElem?_eq_none (by rw [hl]; omega)]
/-- field k of class c, as class own names it under its number ix -/
def aw_fl (own : String) (ix c k : Nat) : Prop := ∃ (C : String) (T : u_T), aw_cl[c]? = some (C, T, aw_nf c) ∧ k < aw_nf c ∧ (∀ w ∈ u_ws C T (aw_nf c), w ∈ aw_Ts) ∧ Cond.fieldLink own ix C (T k).2.1 (T k).2.2.1 ∈ aw_Ts ∧ (T k).1 = C
def aw_fp (own : String) (ix c k : Nat) (ty : FieldType) : Prop := ∃ (C : String) (T : u_T) (ty0 : Nat → FieldType), aw_cl[c]? = some (C, T, aw_nf c) ∧ k < aw_nf c ∧ (∀ w ∈ u_ws C T (aw_nf c), w ∈ aw_Ts) ∧ Cond.fieldLink own ix C (T k).2.1 (T k).2.2.1 ∈ aw_Ts ∧ (T k).1 = C ∧
  (∀ j, j < aw_nf c → parseFieldDescriptor (T j).2.2.1 = some (ty0 j)) ∧ (∀ a, a < aw_nf c → ∀ b, b < aw_nf c → a ≠ b → (T a).2.1 ≠ (T b).2.1) ∧ (T k).2.2.2 = false ∧ parseFieldDescriptor (T k).2.2.1 = some ty ∧ aw_rf c k = false
theorem ax_getI (B : aw_B M G cc nL own d) {ix c k a : Nat} (F : aw_fl own ix c k) (hr : aw_rf c k = false) (hd : decode cc pc = .ok (.getfield ix, 3)) (ha : a < aw_N G) (hs : (aw_sh (aw_n G) a).1 = c + 3) (hq : pc + 3 = q) (K : aw_X M G nL q ls (.inr (h a k) :: st) h) : aw_X M G nL pc ls (.inl (some a) :: st) h := by
  obtain ⟨p, l, e, R, s, m, args, below, meth, c', cells, slots, Q⟩ := M
  subst hq
  obtain ⟨C, T, hc, hk, hin, hli, hsm⟩ := F
  intro H locs la hP hS hl
  refine va_get (ref := C) B.1 B.2.1 B.2.2.2.2.1 hin B.2.2.2.1 B.2.2.2.2.2.1 hP a (by rw [aw_w_get ha, aw_e_obj hs]) hc k hk (B.2.2.2.2.1 _ hli) (fun x hx => by rw [hsm] at hx; exact hx) (v := .int (h a k)) ?_ hd (K H locs la hP hS hl)
  rw [aw_fs_get hk, if_neg (by rw [hr]; decide)]
theorem ax_getR (B : aw_B M G cc nL own d) {ix c k a : Nat} {r : Option Nat} (F : aw_fl own ix c k) (hr : aw_rf c k = true) (hd : decode cc pc = .ok (.getfield ix, 3)) (ha : a < aw_N G) (hs : (aw_sh (aw_n G) a).1 = c + 3) (hm : aw_rM a k = r) (hq : pc + 3 = q) (K : aw_X M G nL q ls (.inl r :: st) h) : aw_X M G nL pc ls (.inl (some a) :: st) h := by
  obtain ⟨p, l, e, R, s, m, args, below, meth, c', cells, slots, Q⟩ := M
  subst hq
  subst hm
  obtain ⟨C, T, hc, hk, hin, hli, hsm⟩ := F
  intro H locs la hP hS hl
  refine va_get (ref := C) B.1 B.2.1 B.2.2.2.2.1 hin B.2.2.2.1 B.2.2.2.2.2.1 hP a (by rw [aw_w_get ha, aw_e_obj hs]) hc k hk (B.2.2.2.2.1 _ hli) (fun x hx => by rw [hsm] at hx; exact hx) (v := va_rf ((aw_rM a k).map (aw_ad G))) ?_ hd (K H locs la hP hS hl)
  rw [aw_fs_get hk, if_pos hr]
theorem aw_putf (B : aw_B M G cc nL own d) {ix c k a : Nat} {ty : FieldType} {x : Int32} (F : aw_fp own ix c k ty) (hn : narrow ty (.int x) = .int x) (hf : fits ty (.int x) = true) (hd : decode cc pc = .ok (.putfield ix, 3)) (ha : a < aw_N G) (hs : (aw_sh (aw_n G) a).1 = c + 3) (hq : pc + 3 = q) (K : aw_X M G nL q ls st (aw_u h a k x)) : aw_X M G nL pc ls (.inr x :: .inl (some a) :: st) h := by
  obtain ⟨p, l, e, R, s, m, args, below, meth, c', cells, slots, Q⟩ := M
  subst hq
  obtain ⟨C, T, ty0, hc, hk, hin, hli, hsm, hty, hnm, hfin, hpd, hrf⟩ := F
  intro H locs la hP hS hl
  refine va_put (ref := C) (v := .int x) B.1 B.2.1 B.2.2.2.2.1 hin ty0 hty hnm B.2.2.2.1 B.2.2.2.2.2.1 hP (aw_wD B.2.2.2.2.2.2.1 h) hS a (by rw [aw_w_get ha, aw_e_obj hs]) hc k hk (B.2.2.2.2.1 _ hli) (fun x hx => by rw [hsm] at hx; exact hx) hfin hpd hn hf (by unfold aw_fs; rw [List.length_map, List.length_range]; exact hk) hd (fun H1 locs1 hP1 _ hS1 => ?_)
  refine K H1 locs1 la ?_ hS1 hl
  rw [aw_w_set (h' := aw_u h a k x) (by rw [aw_e_obj hs, aw_u_eq, aw_fs_set hrf]) (fun z hz => aw_e_ne hz)] at hP1
  exact hP1
theorem ax_putI (B : aw_B M G cc nL own d) {ix c k a : Nat} {x : Int32} (F : aw_fp own ix c k .int) (hd : decode cc pc = .ok (.putfield ix, 3)) (ha : a < aw_N G) (hs : (aw_sh (aw_n G) a).1 = c + 3) (hq : pc + 3 = q) (K : aw_X M G nL q ls st (aw_u h a k x)) : aw_X M G nL pc ls (.inr x :: .inl (some a) :: st) h :=
  aw_putf B F (vp_nar_int x) rfl hd ha hs hq K
theorem ax_putZ (B : aw_B M G cc nL own d) {ix c k a : Nat} {x : Int32} (F : aw_fp own ix c k .boolean) (hx : x = 0 ∨ x = 1) (hd : decode cc pc = .ok (.putfield ix, 3)) (ha : a < aw_N G) (hs : (aw_sh (aw_n G) a).1 = c + 3) (hq : pc + 3 = q) (K : aw_X M G nL q ls st (aw_u h a k x)) : aw_X M G nL pc ls (.inr x :: .inl (some a) :: st) h :=
  aw_putf B F (by rcases hx with rfl | rfl <;> rfl) (by rcases hx with rfl | rfl <;> rfl) hd ha hs hq K
theorem ax_iald (B : aw_B M G cc nL own d) {a z : Nat} {i : Int32} (hd : decode cc pc = .ok (.iaload, 1)) (ha : a < aw_N G) (hs : aw_sh (aw_n G) a = (0, z)) (hi : vp_in i z) (hq : pc + 1 = q) (K : aw_X M G nL q ls (.inr (h a i.toNatClampNeg) :: st) h) : aw_X M G nL pc ls (.inr i :: .inl (some a) :: st) h := by
  obtain ⟨p, l, e, R, s, m, args, below, meth, c', cells, slots, Q⟩ := M
  subst hq
  intro H locs la hP hS hl
  exact va_iald B.1 B.2.1 B.2.2.2.2.2.1 hP a 0 (by rw [aw_w_get ha, aw_e_arr hs]) rfl hi hd (K H locs la hP hS hl)
theorem ax_zald (B : aw_B M G cc nL own d) {a z : Nat} {i : Int32} (hd : decode cc pc = .ok (.baload, 1)) (ha : a < aw_N G) (hs : aw_sh (aw_n G) a = (1, z)) (hi : vp_in i z) (hq : pc + 1 = q) (K : aw_X M G nL q ls (.inr (h a i.toNatClampNeg) :: st) h) : aw_X M G nL pc ls (.inr i :: .inl (some a) :: st) h := by
  obtain ⟨p, l, e, R, s, m, args, below, meth, c', cells, slots, Q⟩ := M
  subst hq
  intro H locs la hP hS hl
  exact va_zald B.1 B.2.1 B.2.2.2.2.2.1 hP a 1 (by rw [aw_w_get ha, aw_e_arz hs]) rfl hi hd (K H locs la hP hS hl)
theorem ax_aald (B : aw_B M G cc nL own d) {a z : Nat} {i : Int32} {r : Option Nat} (hd : decode cc pc = .ok (.aaload, 1)) (ha : a < aw_N G) (hs : aw_sh (aw_n G) a = (2, z)) (hi : vp_in i z) (hr : aw_rM a i.toNatClampNeg = r) (hq : pc + 1 = q) (K : aw_X M G nL q ls (.inl r :: st) h) : aw_X M G nL pc ls (.inr i :: .inl (some a) :: st) h := by
  obtain ⟨p, l, e, R, s, m, args, below, meth, c', cells, slots, Q⟩ := M
  subst hq
  subst hr
  intro H locs la hP hS hl
  exact va_aldq (f := fun j => (aw_rM a j).map (aw_ad G)) B.1 B.2.1 B.2.2.2.2.2.1 hP a 2 (by rw [aw_w_get ha, aw_e_arq hs]) rfl hi hd (K H locs la hP hS hl)
theorem ax_iast (B : aw_B M G cc nL own d) {a z : Nat} {i x : Int32} (hd : decode cc pc = .ok (.iastore, 1)) (ha : a < aw_N G) (hs : aw_sh (aw_n G) a = (0, z)) (hi : vp_in i z) (hq : pc + 1 = q) (K : aw_X M G nL q ls st (aw_u h a i.toNatClampNeg x)) : aw_X M G nL pc ls (.inr x :: .inr i :: .inl (some a) :: st) h := by
  obtain ⟨p, l, e, R, s, m, args, below, meth, c', cells, slots, Q⟩ := M
  subst hq
  intro H locs la hP hS hl
  refine va_iast B.1 B.2.1 B.2.2.2.2.2.1 hP (aw_wD B.2.2.2.2.2.2.1 h) hS a 0 (by rw [aw_w_get ha, aw_e_arr hs]) rfl hi hd (fun H1 locs1 hP1 _ hS1 => ?_)
  refine K H1 locs1 la ?_ hS1 hl
  rw [aw_w_set (h' := aw_u h a i.toNatClampNeg x) (by rw [aw_e_arr hs, aw_u_eq]) (fun z hz => aw_e_ne hz)] at hP1
  exact hP1
theorem ax_zast (B : aw_B M G cc nL own d) {a z : Nat} {i x : Int32} (hd : decode cc pc = .ok (.bastore, 1)) (ha : a < aw_N G) (hs : aw_sh (aw_n G) a = (1, z)) (hi : vp_in i z) (hq : pc + 1 = q) (K : aw_X M G nL q ls st (aw_u h a i.toNatClampNeg (vp_nar .boolean x))) : aw_X M G nL pc ls (.inr x :: .inr i :: .inl (some a) :: st) h := by
  obtain ⟨p, l, e, R, s, m, args, below, meth, c', cells, slots, Q⟩ := M
  subst hq
  intro H locs la hP hS hl
  refine va_zast B.1 B.2.1 B.2.2.2.2.2.1 hP (aw_wD B.2.2.2.2.2.2.1 h) hS a 1 (by rw [aw_w_get ha, aw_e_arz hs]) rfl hi hd (fun H1 locs1 hP1 _ hS1 => ?_)
  refine K H1 locs1 la ?_ hS1 hl
  rw [aw_w_set (h' := aw_u h a i.toNatClampNeg (vp_nar .boolean x)) (by rw [aw_e_arz hs, aw_u_eq]) (fun z hz => aw_e_ne hz)] at hP1
  exact hP1
theorem ax_iret (B : aw_B M G cc nL own d) {post : Option aw_V → aw_H → Prop} (E : aw_E M G (some .int) post) {x : Int32} (hd : decode cc pc = .ok (.ireturn, 1)) (hp : post (some (.inr x)) h) : aw_X M G nL pc ls [.inr x] h := by
  obtain ⟨p, l, e, R, s, m, args, below, meth, c', cells, slots, Q⟩ := M
  obtain ⟨e1, e2, rfl⟩ := E
  intro H locs la hP hS hl
  exact W.iret B.1 B.2.1 e1 (fun t ht hW => ⟨⟨some (.inr x), h, rfl, hp, by rw [ht]; exact hP, va_K.moved hW.alike B.2.2.2.2.2.1⟩, hS.F ht⟩) hS.2.2 hd e2
theorem ax_zret (B : aw_B M G cc nL own d) {post : Option aw_V → aw_H → Prop} (E : aw_E M G (some .boolean) post) {x : Int32} (hx : x = 0 ∨ x = 1) (hd : decode cc pc = .ok (.ireturn, 1)) (hp : post (some (.inr x)) h) : aw_X M G nL pc ls [.inr x] h := by
  obtain ⟨p, l, e, R, s, m, args, below, meth, c', cells, slots, Q⟩ := M
  obtain ⟨e1, e2, rfl⟩ := E
  intro H locs la hP hS hl
  exact W.zret B.1 B.2.1 e1 (by rcases hx with rfl | rfl <;> rfl) (fun t ht hW => ⟨⟨some (.inr x), h, rfl, hp, by rw [ht]; exact hP, va_K.moved hW.alike B.2.2.2.2.2.1⟩, hS.F ht⟩) hS.2.2 hd e2
theorem ax_vret (B : aw_B M G cc nL own d) {post : Option aw_V → aw_H → Prop} (E : aw_E M G none post) (hd : decode cc pc = .ok (.return_, 1)) (hp : post none h) : aw_X M G nL pc ls [] h := by
  obtain ⟨p, l, e, R, s, m, args, below, meth, c', cells, slots, Q⟩ := M
  obtain ⟨e1, e2, rfl⟩ := E
  intro H locs la hP hS hl
  exact W.vret B.1 B.2.1 e1 (fun t ht hW => ⟨⟨none, h, rfl, hp, by rw [ht]; exact hP, va_K.moved hW.alike B.2.2.2.2.2.1⟩, hS.F ht⟩) hS.2.2 hd e2
theorem ax_aret (B : aw_B M G cc nL own d) {post : Option aw_V → aw_H → Prop} {C : String} (E : aw_E M G (some (.object C)) post) {r : Option Nat} (hd : decode cc pc = .ok (.areturn, 1)) (hp : post (some (.inl r)) h) : aw_X M G nL pc ls [.inl r] h := by
  obtain ⟨p, l, e, R, s, m, args, below, meth, c', cells, slots, Q⟩ := M
  obtain ⟨e1, e2, rfl⟩ := E
  intro H locs la hP hS hl
  refine W.aret B.1 B.2.1 e1 (Or.inl ⟨C, rfl⟩) ?_ (fun t ht hW => ⟨⟨some (.inl r), h, rfl, hp, by rw [ht]; exact hP, va_K.moved hW.alike B.2.2.2.2.2.1⟩, hS.F ht⟩) hS.2.2 hd e2
  cases r with
  | none => exact Or.inl rfl
  | some a => exact Or.inr ⟨_, rfl⟩
end AX
section AC
variable {p : Program} {l : Launch} {e : Env} {R : Room} {s : State} {m : MethodId} {args : Array Value} {below : List Frame} {meth : Method} {c : Code} {H : Heap} {locs : List Loc} {cells slots : Nat} {Q : State → Prop}
variable {G : aw_G} {pc : Nat} {la : Array Slot} {rest st0 : List Value} {a : Array Value}
theorem aw_call {post : Option aw_V → aw_H → Prop} (hr : va_Run p l e R s m args below meth c H locs cells slots 0 0 (F0 m pc la st0) rest (aw_Q G post a) (aw_A G)) (hS : va_S (aw_A G) s.heap H locs)
    (kk : ∀ (r : Option aw_V) (h' : aw_H) (H1 : Heap) (locs1 : List Loc), post r h' → va_P (aw_D G) aw_cl (aw_w G h') H1 → va_S (aw_A G) s.heap H1 locs1 → W p l e R s m args below meth c H1 locs1 cells slots Q (F0 m (pc + 3) la ((r.map (aw_c (aw_ad G))).toList ++ rest))) : W p l e R s m args below meth c H locs cells slots Q (F0 m pc la st0) := by
  intro T hT X
  obtain ⟨v, st₀, t, T', L, h0, X', hL, e1, e2, ⟨⟨r, h', hv, hp, hP1, hK1⟩, hz, hk⟩, st⟩ := hr T hT X
  cases hv
  rw [h0] at hz hk
  obtain ⟨t2, a1, b1⟩ := kk r h' T'.heap (locs ++ L) hp (by rw [e1]; exact hP1)
    ⟨Nat.le_trans hS.1 (by rw [e1]; exact hz), fun q h1 h2 => by rw [e1, hk q (Nat.lt_of_lt_of_le h1 hS.1) h2]; exact hS.2.1 q h1 h2, fun q hq => by
      rcases List.mem_append.mp hq with h | h
      · exact hS.2.2 q h
      · exact hL q h⟩ T' rfl X'
  exact ⟨t2, st t2 a1, b1⟩
end AC
theorem aw_blind {G : aw_G} {args : List aw_V} {h : aw_H} : FrameBlind (aw_Pc G args h) := fun a U g mk q => by
  obtain ⟨q0, qP, qK⟩ := q
  exact ⟨q0, qP, va_K.moved (u := U) (U := U.calling g mk a) (Vm.Alike.refl U.vm) qK⟩
theorem aw_recv {G : aw_G} {s : State} {H : Heap} {h : aw_H} {a c : Nat} {C : String} {T : u_T} (hK : va_K (aw_D G) aw_cl (aw_tys G) s) (hP : va_P (aw_D G) aw_cl (aw_w G h) H) (ha : a < aw_N G) (hs : (aw_sh (aw_n G) a).1 = c + 3) (hc : aw_cl[c]? = some (C, T, aw_nf c)) :
    ∃ cellB : Cell, H[aw_ad G a]? = some cellB ∧ cellB.vm.isStatics = false ∧ s.vm.findClass C = some cellB.cls := by
  have h1 := hP a _ (aw_w_get ha)
  rw [aw_e_obj hs] at h1
  obtain ⟨r, h2, cell, q1, q2, q3, -⟩ := h1
  exact ⟨cell, q1, by rw [q3]; rfl, by rw [q2]; exact (hK.1 c _ hc).2.1⟩
theorem aw_goodIn {big : List Cond} (hb : ∀ w ∈ aw_Ts, w ∈ big) (y : aw_Y) (hy : Cond.code y.1 y.2.1 y.2.2.1 y.2.2.2 ∈ aw_Ts) : GoodIn big (aw_ws y) := by
  intro w hw
  have h1 : w ∈ aw_Ts := by
    rcases List.mem_cons.mp hw with h | h
    · rw [h]; exact hy
    · exact h
  exact ⟨hb w h1, good_of_word (List.mem_filter.mp h1).2⟩
/-- what a call of method y under number ix of class own needs of the tables; n arguments beside the receiver -/
def aw_cv (own : String) (ix : Nat) (y : aw_Y) (c n : Nat) : Prop := ∃ (T : u_T), aw_cl[c]? = some (y.1.cls, T, aw_nf c) ∧ Cond.code y.1 y.2.1 y.2.2.1 y.2.2.2 ∈ aw_Ts ∧ Cond.methodLink own ix y.1 ∈ aw_Ts ∧ Cond.instanceMethod y.1 ∈ aw_Ts ∧ Cond.selects y.1.cls y.1 y.1 ∈ aw_Ts ∧ Cond.initialized y.1.cls ∈ aw_Ts ∧
  (y.1.cls ≠ "java/lang/invoke/MethodHandle" ∧ y.1.cls ≠ "java/lang/invoke/VarHandle" ∧ (parseMethodDescriptor y.1.desc).map (fun d => d.parameters.length) = some n) ∧ y.2.2.1 ≤ 21
def aw_cs (own : String) (ix : Nat) (y : aw_Y) (n : Nat) : Prop := Cond.code y.1 y.2.1 y.2.2.1 y.2.2.2 ∈ aw_Ts ∧ Cond.methodLink own ix y.1 ∈ aw_Ts ∧ Cond.static y.1 ∈ aw_Ts ∧ Cond.initialized y.1.cls ∈ aw_Ts ∧
  (y.1.cls ≠ "java/lang/invoke/MethodHandle" ∧ y.1.cls ≠ "java/lang/invoke/VarHandle" ∧ (parseMethodDescriptor y.1.desc).map (fun d => d.parameters.length) = some n) ∧ y.2.2.1 ≤ 21
section AV
variable {M : aw_M} {G : aw_G} {cc : ByteArray} {nL d pc q : Nat} {own : String} {ls : List (Option aw_V)} {st : List aw_V} {h : aw_H}
theorem ax_callV (B : aw_B M G cc nL own d) {ix c n d' a : Nat} {y : aw_Y} {as rs : List aw_V} {post : Option aw_V → aw_H → Prop} (V : aw_cv own ix y c n) (hd : decode cc pc = .ok (.invokevirtual ix, 3)) (ha : a < aw_N G) (hs : (aw_sh (aw_n G) a).1 = c + 3) (hn : as.length = n) (hrs : as.reverse = rs) (hst : st.length ≤ 8) (hdd : d' < d)
    (C : aw_C M.2.1 G d' y (.inl (some a) :: as) h post) (hq : pc + 3 = q) (K : ∀ r h', post r h' → aw_X M G nL q ls (r.toList ++ st) h') : aw_X M G nL pc ls (rs ++ .inl (some a) :: st) h := by
  obtain ⟨p, l, e, R, s, m, args, below, meth, c', cells, slots, Q⟩ := M
  subst hq
  subst hrs
  obtain ⟨T, hc, v1, v2, v3, v4, v5, v6, v7⟩ := V
  obtain ⟨b1, b2, b3, b4, b5, b6, b7, b8, b9, b10, b11⟩ := B
  intro H locs la hP hS hl
  refine aw_call (post := post) (rest := st.map (aw_c (aw_ad G))) (va_runV (C := y.1.cls) (b := aw_ad G a) (As := as.map (aw_c (aw_ad G))) (n := n) ⟨b1, b2, b3, b4, b5⟩ C ⟨callB_of n b5 (aw_goodIn (fun w hw => hw) y v1) rfl rfl rfl (b5 _ v5) (b5 _ v2) v6 ⟨by show d' + 1 ≤ R.frames; omega, by show 8 + (y.2.2.1 + 11) + 40 * d' ≤ R.locals; omega⟩, b5 _ v3, b5 _ v4⟩ ⟨aw_blind, aw_recv b6 hP ha hs hc, fun U hU hW => ⟨rfl, by rw [hU]; exact hP, va_K.moved hW.alike b6⟩⟩ rfl (by rw [List.length_map]; exact hn) hl.1 (by simp only [List.map_append, List.map_reverse, List.map_cons]; rfl) (lv_room (by rw [aw_cats]; exact hst)) hd ⟨b10, b11⟩) hS (fun r h' H1 locs1 hp hP1 hS1 => ?_)
  have h9 := K r h' hp H1 locs1 la hP1 hS1 hl
  cases r with
  | none => exact h9
  | some v => exact h9
theorem ax_callS (B : aw_B M G cc nL own d) {ix n d' : Nat} {y : aw_Y} {as rs : List aw_V} {post : Option aw_V → aw_H → Prop} (V : aw_cs own ix y n) (hd : decode cc pc = .ok (.invokestatic ix, 3)) (hn : as.length = n) (hrs : as.reverse = rs) (hst : st.length ≤ 8) (hdd : d' < d)
    (C : aw_C M.2.1 G d' y as h post) (hq : pc + 3 = q) (K : ∀ r h', post r h' → aw_X M G nL q ls (r.toList ++ st) h') : aw_X M G nL pc ls (rs ++ st) h := by
  obtain ⟨p, l, e, R, s, m, args, below, meth, c', cells, slots, Q⟩ := M
  subst hq
  subst hrs
  obtain ⟨v1, v2, v3, v5, v6, v7⟩ := V
  obtain ⟨b1, b2, b3, b4, b5, b6, b7, b8, b9, b10, b11⟩ := B
  intro H locs la hP hS hl
  refine aw_call (post := post) (rest := st.map (aw_c (aw_ad G))) (va_runS (As := as.map (aw_c (aw_ad G))) (n := n) ⟨b1, b2, b3, b4, b5⟩ C ⟨callB_of n b5 (aw_goodIn (fun w hw => hw) y v1) rfl rfl rfl (b5 _ v5) (b5 _ v2) v6 ⟨by show d' + 1 ≤ R.frames; omega, by show 8 + (y.2.2.1 + 11) + 40 * d' ≤ R.locals; omega⟩, b5 _ v3⟩ ⟨aw_blind, fun U hU hW => ⟨rfl, by rw [hU]; exact hP, va_K.moved hW.alike b6⟩⟩ rfl (by rw [List.length_map]; exact hn) hl.1 (by simp only [List.map_append, List.map_reverse]) (lv_room (by rw [aw_cats]; exact hst)) hd ⟨b10, b11⟩) hS (fun r h' H1 locs1 hp hP1 hS1 => ?_)
  have h9 := K r h' hp H1 locs1 la hP1 hS1 hl
  cases r with
  | none => exact h9
  | some v => exact h9
end AV
theorem aw_slen (ad : Nat → Nat) : ∀ as : List aw_V, (lg_sl (as.map (aw_c ad))).length = as.length
  | [] => rfl
  | v :: as => by
    have h := aw_slen ad as
    have hc : lg_sl ((v :: as).map (aw_c ad)) = Slot.val (aw_c ad v) :: lg_sl (as.map (aw_c ad)) := by rcases v with (_ | p) | x <;> rfl
    rw [hc, List.length_cons, h, List.length_cons]
theorem aw_args (ad : Nat → Nat) : ∀ (as : List aw_V) (i j : Nat) (v : aw_V), as[j]? = some v → (i + j, aw_c ad v) ∈ lv_args i (as.map (aw_c ad))
  | [], i, j, v, h => by simp at h
  | w :: as, i, j, v, h => by
    have hc : lv_args i ((w :: as).map (aw_c ad)) = (i, aw_c ad w) :: lv_args (i + 1) (as.map (aw_c ad)) := by
      show (i, aw_c ad w) :: lv_args (if (aw_c ad w).category = 2 then i + 2 else i + 1) (as.map (aw_c ad)) = _
      rw [if_neg (by rw [aw_cat]; decide)]
    rw [hc]
    cases j with
    | zero =>
      rw [List.getElem?_cons_zero] at h
      cases h
      exact List.mem_cons_self
    | succ j =>
      rw [List.getElem?_cons_succ] at h
      have h2 := aw_args ad as (i + 1) j v h
      rw [show i + (j + 1) = i + 1 + j by omega]
      exact List.mem_cons_of_mem _ h2
def aw_in (as : List aw_V) (nL : Nat) : List (Option aw_V) := as.map some ++ List.replicate (nL - as.length) none
/-- a contract from a walk of the body -/
theorem aw_met {l : Launch} {G : aw_G} (hG : aw_ok G) {d nL : Nat} {y : MethodName} {cc : ByteArray} {ret : Option FieldType} {as : List aw_V} {h : aw_H} {post : Option aw_V → aw_H → Prop} (hy : plainName y.cls = true) (hn : as.length ≤ nL)
    (K : ∀ M : aw_M, M.2.1 = l → aw_B M G cc nL y.cls d → aw_E M G ret post → aw_X M G nL 0 (aw_in as nL) [] h) : aw_C l G d (y, cc, nL, ret) as h post := by
  refine Met.ofW (cc := cc) (maxL := nL) (ret := ret) hy rfl ?_
  intro p e s m args below meth c s₁ B hml hv
  obtain ⟨rfl, hP, hK⟩ := hv
  have hts := atoms_spec (ws := aw_ws (y, cc, nL, ret)) B.pre
  have hown : s.vm.findClass y.cls = some m.cls := findClass_of_methodNamed B.named
  have hl := lv_entry (as.map (aw_c (aw_ad G))) (n := nL) (by rw [aw_slen]; exact hn)
  rw [lg_entry_eq]
  refine K (p, l, e, (headSpec (aw_ws (y, cc, nL, ret)) (aw_rm d)).room, s, m, (as.map (aw_c (aw_ad G))).toArray, below, meth, c, 0, 0, MQ below (aw_Q G post) (as.map (aw_c (aw_ad G))).toArray s 0 0 (aw_A G)) rfl ⟨B.exec, B.bytes, hml, hown, fun w hw => hts w (List.mem_cons_of_mem _ hw), hK, hG, Nat.le_refl d, Nat.le_refl (40 * d), Nat.le_refl 0, Nat.le_refl 0⟩ ⟨B.returns, B.notSynchronized, rfl⟩ s.heap [] _ hP va_S.rf ⟨hl.1, hl.2.1, fun i v hi => ?_⟩
  have hi2 : as[i]? = some v := by
    unfold aw_in at hi
    by_cases hl : i < as.length
    · rw [List.getElem?_append_left (by rw [List.length_map]; exact hl), List.getElem?_map] at hi
      cases hg : as[i]? with
      | none => rw [hg] at hi; cases hi
      | some w => rw [hg] at hi; cases hi; rfl
    · rw [List.getElem?_append_right (by rw [List.length_map]; omega)] at hi
      have := List.mem_of_getElem? hi
      rw [List.mem_replicate] at this
      cases this.2
  have h3 := aw_args (aw_ad G) as 0 i v hi2
  rw [Nat.zero_add] at h3
  exact hl.2.2 _ h3
end
section
/- the same instructions over numbers nI a and truth values bI b -/
theorem nx_xor (a b : Nat) : nI a ^^^ nI b = nI (a ^^^ b) := by
  apply Int32.toBitVec_inj.1
  show BitVec.ofNat 32 a ^^^ BitVec.ofNat 32 b = BitVec.ofNat 32 (a ^^^ b)
  apply BitVec.eq_of_getLsbD_eq
  intro i hi
  simp [hi]
def bI (b : Bool) : Int32 := if b = true then 1 else 0
theorem bI_or (b : Bool) : bI b = 0 ∨ bI b = 1 := by cases b <;> simp [bI]
theorem bI_t : bI true = 1 := rfl
theorem bI_f : bI false = 0 := rfl
theorem bI_0 {b : Bool} (h : bI b = 0) : b = false := by cases b <;> simp_all [bI]
theorem bI_n0 {b : Bool} (h : ¬ bI b = 0) : b = true := by cases b <;> simp_all [bI]
def aw_is (G : aw_G) (a c : Nat) : Prop := a < aw_N G ∧ (aw_sh (aw_n G) a).1 = c + 3
def aw_ar (G : aw_G) (a t z : Nat) : Prop := a < aw_N G ∧ aw_sh (aw_n G) a = (t, z)
section AN
variable {M : aw_M} {G : aw_G} {cc : ByteArray} {nL d pc q : Nat} {own : String} {ls : List (Option aw_V)} {st : List aw_V} {h : aw_H}
theorem ax_top {x y : Int32} (e : x = y) (k : aw_X M G nL pc ls (.inr y :: st) h) : aw_X M G nL pc ls (.inr x :: st) h := by
  subst e
  exact k
theorem ax_heap {h' : aw_H} (e : h = h') (k : aw_X M G nL pc ls st h') : aw_X M G nL pc ls st h := by
  subst e
  exact k
theorem ax_iaddN (B : aw_B M G cc nL own d) {a b : Nat} (hd : decode cc pc = .ok (.iadd, 1)) (hq : pc + 1 = q) (k : aw_X M G nL q ls (.inr (nI (a + b)) :: st) h) : aw_X M G nL pc ls (.inr (nI b) :: .inr (nI a) :: st) h := ax_iadd B hd hq (by rw [nI_add]; exact k)
theorem ax_imulN (B : aw_B M G cc nL own d) {a b : Nat} (hd : decode cc pc = .ok (.imul, 1)) (hq : pc + 1 = q) (k : aw_X M G nL q ls (.inr (nI (a * b)) :: st) h) : aw_X M G nL pc ls (.inr (nI b) :: .inr (nI a) :: st) h := ax_imul B hd hq (by rw [pk_mul]; exact k)
theorem ax_isubN (B : aw_B M G cc nL own d) {a b : Nat} (hab : b ≤ a) (hd : decode cc pc = .ok (.isub, 1)) (hq : pc + 1 = q) (k : aw_X M G nL q ls (.inr (nI (a - b)) :: st) h) : aw_X M G nL pc ls (.inr (nI b) :: .inr (nI a) :: st) h := ax_isub B hd hq (by rw [pk_sub hab]; exact k)
theorem ax_ixorN (B : aw_B M G cc nL own d) {a b : Nat} (hd : decode cc pc = .ok (.ixor, 1)) (hq : pc + 1 = q) (k : aw_X M G nL q ls (.inr (nI (a ^^^ b)) :: st) h) : aw_X M G nL pc ls (.inr (nI b) :: .inr (nI a) :: st) h := ax_ixor B hd hq (by rw [nx_xor]; exact k)
theorem ax_idivN (B : aw_B M G cc nL own d) {a b : Nat} (ha : a < 2 ^ 31) (h0 : 0 < b) (hb : b < 2 ^ 31) (hd : decode cc pc = .ok (.idiv, 1)) (hq : pc + 1 = q) (k : aw_X M G nL q ls (.inr (nI (a / b)) :: st) h) : aw_X M G nL pc ls (.inr (nI b) :: .inr (nI a) :: st) h := ax_idiv B hd (nI_ne0 h0 hb) hq (by rw [pk_div ha h0 hb]; exact k)
theorem ax_iremN (B : aw_B M G cc nL own d) {a b : Nat} (ha : a < 2 ^ 31) (h0 : 0 < b) (hb : b < 2 ^ 31) (hd : decode cc pc = .ok (.irem, 1)) (hq : pc + 1 = q) (k : aw_X M G nL q ls (.inr (nI (a % b)) :: st) h) : aw_X M G nL pc ls (.inr (nI b) :: .inr (nI a) :: st) h := ax_irem B hd (nI_ne0 h0 hb) hq (by rw [pk_rem ha h0 hb]; exact k)
theorem ax_iandN (B : aw_B M G cc nL own d) {a b : Nat} (j : Nat) (ha : a < 2 ^ 32) (hb : (nI b).toBitVec.toNat = 2 ^ j - 1) (hd : decode cc pc = .ok (.iand, 1)) (hq : pc + 1 = q) (k : aw_X M G nL q ls (.inr (nI (a % 2 ^ j)) :: st) h) : aw_X M G nL pc ls (.inr (nI b) :: .inr (nI a) :: st) h := ax_iand B hd hq (by rw [pk_andN ha j hb]; exact k)
theorem ax_ishrN (B : aw_B M G cc nL own d) {a : Nat} {s : Int32} (j : Nat) (ha : a < 2 ^ 31) (hs : ((s &&& 31).toBitVec.smod 32).toNat = j) (hd : decode cc pc = .ok (.ishr, 1)) (hq : pc + 1 = q) (k : aw_X M G nL q ls (.inr (nI (a / 2 ^ j)) :: st) h) : aw_X M G nL pc ls (.inr s :: .inr (nI a) :: st) h := ax_ishr B hd hq (by rw [pk_shrN ha _ j hs]; exact k)
theorem ax_iushrN (B : aw_B M G cc nL own d) {a : Nat} {s : Int32} (j : Nat) (ha : a < 2 ^ 32) (hs : ((s.toUInt32 &&& Int32.toUInt32 31).toBitVec % 32).toNat = j) (hd : decode cc pc = .ok (.iushr, 1)) (hq : pc + 1 = q) (k : aw_X M G nL q ls (.inr (nI (a / 2 ^ j)) :: st) h) : aw_X M G nL pc ls (.inr s :: .inr (nI a) :: st) h := ax_iushr B hd hq (by rw [pk_ushrN ha _ j hs]; exact k)
theorem ax_iincN (B : aw_B M G cc nL own d) {i a j : Nat} {n : Int} (hd : decode cc pc = .ok (.iinc i n, 3)) (hx : ls[i]? = some (some (.inr (nI a)))) (hv : Int32.ofInt n = nI j) (hn : i < nL) (hq : pc + 3 = q) (k : aw_X M G nL q (ls.set i (some (.inr (nI (a + j))))) st h) : aw_X M G nL pc ls st h := ax_iinc B hd hx (by rw [hv, nI_add]) hn hq k
theorem ax_getN (B : aw_B M G cc nL own d) {ix c k a : Nat} {x : Int32} (F : aw_fl own ix c k) (hr : aw_rf c k = false) (hd : decode cc pc = .ok (.getfield ix, 3)) (ha : aw_is G a c) (hx : h a k = x) (hq : pc + 3 = q) (K : aw_X M G nL q ls (.inr x :: st) h) : aw_X M G nL pc ls (.inl (some a) :: st) h := ax_getI B F hr hd ha.1 ha.2 hq (by rw [hx]; exact K)
theorem ax_getP (B : aw_B M G cc nL own d) {ix c k a b : Nat} (F : aw_fl own ix c k) (hr : aw_rf c k = true) (hd : decode cc pc = .ok (.getfield ix, 3)) (ha : aw_is G a c) (hm : aw_rM a k = some b) (hq : pc + 3 = q) (K : aw_X M G nL q ls (.inl (some b) :: st) h) : aw_X M G nL pc ls (.inl (some a) :: st) h := ax_getR B F hr hd ha.1 ha.2 hm hq K
theorem ax_putN (B : aw_B M G cc nL own d) {ix c k a : Nat} {x : Int32} (F : aw_fp own ix c k .int) (hd : decode cc pc = .ok (.putfield ix, 3)) (ha : aw_is G a c) (hq : pc + 3 = q) (K : aw_X M G nL q ls st (aw_u h a k x)) : aw_X M G nL pc ls (.inr x :: .inl (some a) :: st) h := ax_putI B F hd ha.1 ha.2 hq K
theorem ax_putB (B : aw_B M G cc nL own d) {ix c k a : Nat} {x : Int32} (F : aw_fp own ix c k .boolean) (hx : x = 0 ∨ x = 1) (hd : decode cc pc = .ok (.putfield ix, 3)) (ha : aw_is G a c) (hq : pc + 3 = q) (K : aw_X M G nL q ls st (aw_u h a k x)) : aw_X M G nL pc ls (.inr x :: .inl (some a) :: st) h := ax_putZ B F hx hd ha.1 ha.2 hq K
theorem ax_ialdN (B : aw_B M G cc nL own d) {a z j : Nat} {i x : Int32} (hd : decode cc pc = .ok (.iaload, 1)) (ha : aw_ar G a 0 z) (hi : i = nI j) (hj : j < z) (hz : z < 2 ^ 31) (hx : h a j = x) (hq : pc + 1 = q) (K : aw_X M G nL q ls (.inr x :: st) h) : aw_X M G nL pc ls (.inr i :: .inl (some a) :: st) h := by
  subst hi
  refine ax_iald B hd ha.1 ha.2 (vp_in_nI hj hz) hq ?_
  rw [nI_clamp (by omega), hx]
  exact K
theorem ax_zaldN (B : aw_B M G cc nL own d) {a z j : Nat} {i x : Int32} (hd : decode cc pc = .ok (.baload, 1)) (ha : aw_ar G a 1 z) (hi : i = nI j) (hj : j < z) (hz : z < 2 ^ 31) (hx : h a j = x) (hq : pc + 1 = q) (K : aw_X M G nL q ls (.inr x :: st) h) : aw_X M G nL pc ls (.inr i :: .inl (some a) :: st) h := by
  subst hi
  refine ax_zald B hd ha.1 ha.2 (vp_in_nI hj hz) hq ?_
  rw [nI_clamp (by omega), hx]
  exact K
theorem ax_aaldN (B : aw_B M G cc nL own d) {a z j b : Nat} {i : Int32} (hd : decode cc pc = .ok (.aaload, 1)) (ha : aw_ar G a 2 z) (hi : i = nI j) (hj : j < z) (hz : z < 2 ^ 31) (hr : aw_rM a j = some b) (hq : pc + 1 = q) (K : aw_X M G nL q ls (.inl (some b) :: st) h) : aw_X M G nL pc ls (.inr i :: .inl (some a) :: st) h := by
  subst hi
  exact ax_aald B hd ha.1 ha.2 (vp_in_nI hj hz) (by rw [nI_clamp (by omega), hr]) hq K
theorem ax_iastN (B : aw_B M G cc nL own d) {a z j : Nat} {i x : Int32} (hd : decode cc pc = .ok (.iastore, 1)) (ha : aw_ar G a 0 z) (hi : i = nI j) (hj : j < z) (hz : z < 2 ^ 31) (hq : pc + 1 = q) (K : aw_X M G nL q ls st (aw_u h a j x)) : aw_X M G nL pc ls (.inr x :: .inr i :: .inl (some a) :: st) h := by
  subst hi
  refine ax_iast B hd ha.1 ha.2 (vp_in_nI hj hz) hq ?_
  rw [nI_clamp (by omega)]
  exact K
theorem ax_zastN (B : aw_B M G cc nL own d) {a z j : Nat} {i x : Int32} (hd : decode cc pc = .ok (.bastore, 1)) (ha : aw_ar G a 1 z) (hi : i = nI j) (hj : j < z) (hz : z < 2 ^ 31) (hx : x = 0 ∨ x = 1) (hq : pc + 1 = q) (K : aw_X M G nL q ls st (aw_u h a j x)) : aw_X M G nL pc ls (.inr x :: .inr i :: .inl (some a) :: st) h := by
  subst hi
  refine ax_zast B hd ha.1 ha.2 (vp_in_nI hj hz) hq ?_
  rw [nI_clamp (by omega), show vp_nar .boolean x = x by rcases hx with rfl | rfl <;> rfl]
  exact K
theorem ax_cV (B : aw_B M G cc nL own d) {ix c n d' a : Nat} {y : aw_Y} {as rs : List aw_V} {post : Option aw_V → aw_H → Prop} (V : aw_cv own ix y c n) (hd : decode cc pc = .ok (.invokevirtual ix, 3)) (ha : aw_is G a c) (hn : as.length = n) (hrs : as.reverse = rs) (hst : st.length ≤ 8) (hdd : d' < d)
    (C : aw_C M.2.1 G d' y (.inl (some a) :: as) h post) (hq : pc + 3 = q) (K : ∀ r h', post r h' → aw_X M G nL q ls (r.toList ++ st) h') : aw_X M G nL pc ls (rs ++ .inl (some a) :: st) h := ax_callV B V hd ha.1 ha.2 hn hrs hst hdd C hq K
theorem ax_ifZ_eq (B : aw_B M G cc nL own d) {b : Bool} {off : Int} {q2 : Nat} (hd : decode cc pc = .ok (.ifCond .eq off, 3)) (hq : (pc : Int) + off = (q : Int)) (hq2 : pc + 3 = q2) (kt : b = false → aw_X M G nL q ls st h) (kf : b = true → aw_X M G nL q2 ls st h) : aw_X M G nL pc ls (.inr (bI b) :: st) h := ax_if_eq B hd hq hq2 (fun z => kt (bI_0 z)) (fun z => kf (bI_n0 z))
theorem ax_ifZ_ne (B : aw_B M G cc nL own d) {b : Bool} {off : Int} {q2 : Nat} (hd : decode cc pc = .ok (.ifCond .ne off, 3)) (hq : (pc : Int) + off = (q : Int)) (hq2 : pc + 3 = q2) (kt : b = true → aw_X M G nL q ls st h) (kf : b = false → aw_X M G nL q2 ls st h) : aw_X M G nL pc ls (.inr (bI b) :: st) h := ax_if_ne B hd hq hq2 (fun z => kt (bI_n0 z)) (fun z => kf (bI_0 z))
theorem ax_ifN_eq (B : aw_B M G cc nL own d) {a : Nat} (ha : a < 2 ^ 31) {off : Int} {q2 : Nat} (hd : decode cc pc = .ok (.ifCond .eq off, 3)) (hq : (pc : Int) + off = (q : Int)) (hq2 : pc + 3 = q2) (kt : a = 0 → aw_X M G nL q ls st h) (kf : 0 < a → aw_X M G nL q2 ls st h) : aw_X M G nL pc ls (.inr (nI a) :: st) h := ax_if_eq B hd hq hq2 (fun z => kt (Nat.eq_zero_of_not_pos (fun w => nI_ne0 w ha z))) (fun z => kf (Nat.pos_of_ne_zero (fun w => z (by rw [w]; rfl))))
theorem ax_ifN_ne (B : aw_B M G cc nL own d) {a : Nat} (ha : a < 2 ^ 31) {off : Int} {q2 : Nat} (hd : decode cc pc = .ok (.ifCond .ne off, 3)) (hq : (pc : Int) + off = (q : Int)) (hq2 : pc + 3 = q2) (kt : 0 < a → aw_X M G nL q ls st h) (kf : a = 0 → aw_X M G nL q2 ls st h) : aw_X M G nL pc ls (.inr (nI a) :: st) h := ax_if_ne B hd hq hq2 (fun z => kt (Nat.pos_of_ne_zero (fun w => z (by rw [w]; rfl)))) (fun z => kf (Nat.eq_zero_of_not_pos (fun w => nI_ne0 w ha z)))
theorem ax_ifN_gt (B : aw_B M G cc nL own d) {a : Nat} (ha : a < 2 ^ 31) {off : Int} {q2 : Nat} (hd : decode cc pc = .ok (.ifCond .gt off, 3)) (hq : (pc : Int) + off = (q : Int)) (hq2 : pc + 3 = q2) (kt : 0 < a → aw_X M G nL q ls st h) (kf : a = 0 → aw_X M G nL q2 ls st h) : aw_X M G nL pc ls (.inr (nI a) :: st) h := ax_if_gt B hd hq hq2 (fun z => kt (Nat.pos_of_ne_zero (fun w => absurd z (by subst w; decide)))) (fun z => kf (Nat.eq_zero_of_not_pos (fun w => z (nI_lt (a := 0) w ha))))
theorem ax_ifN_le (B : aw_B M G cc nL own d) {a : Nat} (ha : a < 2 ^ 31) {off : Int} {q2 : Nat} (hd : decode cc pc = .ok (.ifCond .le off, 3)) (hq : (pc : Int) + off = (q : Int)) (hq2 : pc + 3 = q2) (kt : a = 0 → aw_X M G nL q ls st h) (kf : 0 < a → aw_X M G nL q2 ls st h) : aw_X M G nL pc ls (.inr (nI a) :: st) h := ax_if_le B hd hq hq2 (fun z => kt (Nat.eq_zero_of_not_pos (fun w => nI_nle w ha z))) (fun z => kf (Nat.pos_of_ne_zero (fun w => z (by subst w; decide))))
theorem ax_ifN_lt (B : aw_B M G cc nL own d) {a : Nat} (ha : a < 2 ^ 31) {off : Int} {q2 : Nat} (hd : decode cc pc = .ok (.ifCond .lt off, 3)) (hq : (pc : Int) + off = (q : Int)) (hq2 : pc + 3 = q2) (kf : aw_X M G nL q2 ls st h) : aw_X M G nL pc ls (.inr (nI a) :: st) h := ax_if_lt B hd hq hq2 (fun z => absurd z (nI_pos ha)) (fun _ => kf)
theorem ax_ifN_ge (B : aw_B M G cc nL own d) {a : Nat} (ha : a < 2 ^ 31) {off : Int} {q2 : Nat} (hd : decode cc pc = .ok (.ifCond .ge off, 3)) (hq : (pc : Int) + off = (q : Int)) (hq2 : pc + 3 = q2) (kt : aw_X M G nL q ls st h) : aw_X M G nL pc ls (.inr (nI a) :: st) h := ax_if_ge B hd hq hq2 (fun _ => kt) (fun z => absurd (nI_pos' ha) z)
theorem ax_icmpN_eq (B : aw_B M G cc nL own d) {a b : Nat} (ha : a < 2 ^ 31) (hb : b < 2 ^ 31) {off : Int} {q2 : Nat} (hd : decode cc pc = .ok (.if_icmp .eq off, 3)) (hq : (pc : Int) + off = (q : Int)) (hq2 : pc + 3 = q2) (kt : a = b → aw_X M G nL q ls st h) (kf : a ≠ b → aw_X M G nL q2 ls st h) : aw_X M G nL pc ls (.inr (nI b) :: .inr (nI a) :: st) h := ax_icmp_eq B hd hq hq2 (fun z => kt ((nI_eq ha hb).mp z)) (fun z => kf (fun w => z ((nI_eq ha hb).mpr w)))
theorem ax_icmpN_ne (B : aw_B M G cc nL own d) {a b : Nat} (ha : a < 2 ^ 31) (hb : b < 2 ^ 31) {off : Int} {q2 : Nat} (hd : decode cc pc = .ok (.if_icmp .ne off, 3)) (hq : (pc : Int) + off = (q : Int)) (hq2 : pc + 3 = q2) (kt : a ≠ b → aw_X M G nL q ls st h) (kf : a = b → aw_X M G nL q2 ls st h) : aw_X M G nL pc ls (.inr (nI b) :: .inr (nI a) :: st) h := ax_icmp_ne B hd hq hq2 (fun z => kt (fun w => z ((nI_eq ha hb).mpr w))) (fun z => kf ((nI_eq ha hb).mp z))
theorem ax_icmpN_lt (B : aw_B M G cc nL own d) {a b : Nat} (ha : a < 2 ^ 31) (hb : b < 2 ^ 31) {off : Int} {q2 : Nat} (hd : decode cc pc = .ok (.if_icmp .lt off, 3)) (hq : (pc : Int) + off = (q : Int)) (hq2 : pc + 3 = q2) (kt : a < b → aw_X M G nL q ls st h) (kf : b ≤ a → aw_X M G nL q2 ls st h) : aw_X M G nL pc ls (.inr (nI b) :: .inr (nI a) :: st) h := ax_icmp_lt B hd hq hq2 (fun z => kt ((nI_ltI ha hb).mp z)) (fun z => kf (Nat.le_of_not_lt (fun w => z ((nI_ltI ha hb).mpr w))))
theorem ax_icmpN_ge (B : aw_B M G cc nL own d) {a b : Nat} (ha : a < 2 ^ 31) (hb : b < 2 ^ 31) {off : Int} {q2 : Nat} (hd : decode cc pc = .ok (.if_icmp .ge off, 3)) (hq : (pc : Int) + off = (q : Int)) (hq2 : pc + 3 = q2) (kt : b ≤ a → aw_X M G nL q ls st h) (kf : a < b → aw_X M G nL q2 ls st h) : aw_X M G nL pc ls (.inr (nI b) :: .inr (nI a) :: st) h := ax_icmp_ge B hd hq hq2 (fun z => kt ((nI_leI hb ha).mp z)) (fun z => kf (Nat.lt_of_not_le (fun w => z ((nI_leI hb ha).mpr w))))
theorem ax_icmpN_gt (B : aw_B M G cc nL own d) {a b : Nat} (ha : a < 2 ^ 31) (hb : b < 2 ^ 31) {off : Int} {q2 : Nat} (hd : decode cc pc = .ok (.if_icmp .gt off, 3)) (hq : (pc : Int) + off = (q : Int)) (hq2 : pc + 3 = q2) (kt : b < a → aw_X M G nL q ls st h) (kf : a ≤ b → aw_X M G nL q2 ls st h) : aw_X M G nL pc ls (.inr (nI b) :: .inr (nI a) :: st) h := ax_icmp_gt B hd hq hq2 (fun z => kt ((nI_ltI hb ha).mp z)) (fun z => kf (Nat.le_of_not_lt (fun w => z ((nI_ltI hb ha).mpr w))))
theorem ax_icmpN_le (B : aw_B M G cc nL own d) {a b : Nat} (ha : a < 2 ^ 31) (hb : b < 2 ^ 31) {off : Int} {q2 : Nat} (hd : decode cc pc = .ok (.if_icmp .le off, 3)) (hq : (pc : Int) + off = (q : Int)) (hq2 : pc + 3 = q2) (kt : a ≤ b → aw_X M G nL q ls st h) (kf : b < a → aw_X M G nL q2 ls st h) : aw_X M G nL pc ls (.inr (nI b) :: .inr (nI a) :: st) h := ax_icmp_le B hd hq hq2 (fun z => kt ((nI_leI ha hb).mp z)) (fun z => kf (Nat.lt_of_not_le (fun w => z ((nI_leI ha hb).mpr w))))
end AN
end
section
/- methods, field links, calls, constants; written by wip/whole/tools/names.py -/
def Y_S_init : aw_Y := (⟨"SessionTables", "<init>", "(I)V"⟩, prog_1_method_1_code, 2, none)
def Y_S_make : aw_Y := (⟨"SessionTables", "make", "(IIZ)I"⟩, prog_1_method_2_code, 6, (some .int))
def Y_S_write : aw_Y := (⟨"SessionTables", "write", "(III)I"⟩, prog_1_method_3_code, 6, (some .int))
def Y_S_remove : aw_Y := (⟨"SessionTables", "remove", "(II)I"⟩, prog_1_method_4_code, 8, (some .int))
def Y_S_move : aw_Y := (⟨"SessionTables", "move", "(IIII)I"⟩, prog_1_method_5_code, 10, (some .int))
def Y_S_close : aw_Y := (⟨"SessionTables", "close", "()I"⟩, prog_1_method_6_code, 2, (some .int))
def Y_S_arm : aw_Y := (⟨"SessionTables", "arm", "(I)Z"⟩, prog_1_method_7_code, 2, (some .boolean))
def Y_S_crash : aw_Y := (⟨"SessionTables", "crash", "()I"⟩, prog_1_method_8_code, 1, (some .int))
def Y_S_spoil : aw_Y := (⟨"SessionTables", "spoil", "(I)Z"⟩, prog_1_method_9_code, 2, (some .boolean))
def Y_S_left : aw_Y := (⟨"SessionTables", "left", "()I"⟩, prog_1_method_10_code, 1, (some .int))
def Y_S_changed : aw_Y := (⟨"SessionTables", "changed", "()I"⟩, prog_1_method_11_code, 1, (some .int))
def Y_S_tables : aw_Y := (⟨"SessionTables", "tables", "()I"⟩, prog_1_method_12_code, 3, (some .int))
def Y_S_kind : aw_Y := (⟨"SessionTables", "kind", "(II)I"⟩, prog_1_method_13_code, 4, (some .int))
def Y_S_items : aw_Y := (⟨"SessionTables", "items", "(II)I"⟩, prog_1_method_14_code, 4, (some .int))
def Y_S_find : aw_Y := (⟨"SessionTables", "find", "(III)I"⟩, prog_1_method_15_code, 6, (some .int))
def Y_S_item : aw_Y := (⟨"SessionTables", "item", "(III)I"⟩, prog_1_method_16_code, 5, (some .int))
def Y_S_block : aw_Y := (⟨"SessionTables", "block", "(III)I"⟩, prog_1_method_17_code, 6, (some .int))
def Y_S_word : aw_Y := (⟨"SessionTables", "word", "(II)I"⟩, prog_1_method_18_code, 3, (some .int))
def Y_S_isName : aw_Y := (⟨"SessionTables", "isName", "(I)Z"⟩, prog_1_method_19_code, 1, (some .boolean))
def Y_S_isTooFull : aw_Y := (⟨"SessionTables", "isTooFull", "(II)Z"⟩, prog_1_method_20_code, 3, (some .boolean))
def Y_S_writeEntries : aw_Y := (⟨"SessionTables", "writeEntries", "()Z"⟩, prog_1_method_21_code, 3, (some .boolean))
def Y_S_writeEntry : aw_Y := (⟨"SessionTables", "writeEntry", "(ILSessionTables$Node;)Z"⟩, prog_1_method_22_code, 4, (some .boolean))
def Y_S_writeTable : aw_Y := (⟨"SessionTables", "writeTable", "(I)Z"⟩, prog_1_method_23_code, 3, (some .boolean))
def Y_S_readBack : aw_Y := (⟨"SessionTables", "readBack", "()V"⟩, prog_1_method_24_code, 2, none)
def Y_S_treeAt : aw_Y := (⟨"SessionTables", "treeAt", "(I)LSessionTables$Tree;"⟩, prog_1_method_25_code, 3, (some (.object "SessionTables$Tree")))
def Y_S_tablePlace : aw_Y := (⟨"SessionTables", "tablePlace", "(I)I"⟩, prog_1_method_26_code, 4, (some .int))
def Y_S_newestTable : aw_Y := (⟨"SessionTables", "newestTable", "()I"⟩, prog_1_method_27_code, 2, (some .int))
def Y_S_newestNumber : aw_Y := (⟨"SessionTables", "newestNumber", "()I"⟩, prog_1_method_28_code, 2, (some .int))
def Y_S_isValidTable : aw_Y := (⟨"SessionTables", "isValidTable", "(I)Z"⟩, prog_1_method_29_code, 4, (some .boolean))
def Y_R_init : aw_Y := (⟨"SessionTablesModel", "<init>", "(I)V"⟩, prog_6_method_1_code, 2, none)
def Y_R_step : aw_Y := (⟨"SessionTablesModel", "step", "(II)I"⟩, prog_6_method_2_code, 4, (some .int))
def Y_R_checkOf : aw_Y := (⟨"SessionTablesModel", "checkOf", "(I)I"⟩, prog_6_method_3_code, 6, (some .int))
def Y_R_isGood : aw_Y := (⟨"SessionTablesModel", "isGood", "(I)Z"⟩, prog_6_method_4_code, 3, (some .boolean))
def Y_R_isValid : aw_Y := (⟨"SessionTablesModel", "isValid", "(I)Z"⟩, prog_6_method_5_code, 4, (some .boolean))
def Y_R_tableAt : aw_Y := (⟨"SessionTablesModel", "tableAt", "(I)I"⟩, prog_6_method_6_code, 4, (some .int))
def Y_R_newest : aw_Y := (⟨"SessionTablesModel", "newest", "()I"⟩, prog_6_method_7_code, 2, (some .int))
def Y_R_clearSector : aw_Y := (⟨"SessionTablesModel", "clearSector", "(II)V"⟩, prog_6_method_8_code, 4, none)
def Y_R_writeSector : aw_Y := (⟨"SessionTablesModel", "writeSector", "()Z"⟩, prog_6_method_9_code, 3, (some .boolean))
def Y_R_empty : aw_Y := (⟨"SessionTablesModel", "empty", "()V"⟩, prog_6_method_10_code, 2, none)
def Y_R_lookAtTable : aw_Y := (⟨"SessionTablesModel", "lookAtTable", "(I)V"⟩, prog_6_method_11_code, 6, none)
def Y_R_lookAtHand : aw_Y := (⟨"SessionTablesModel", "lookAtHand", "()V"⟩, prog_6_method_12_code, 2, none)
def Y_R_look : aw_Y := (⟨"SessionTablesModel", "look", "(I)Z"⟩, prog_6_method_13_code, 3, (some .boolean))
def Y_R_readBack : aw_Y := (⟨"SessionTablesModel", "readBack", "()V"⟩, prog_6_method_14_code, 3, none)
def Y_R_isKind : aw_Y := (⟨"SessionTablesModel", "isKind", "(II)Z"⟩, prog_6_method_15_code, 3, (some .boolean))
def Y_R_itemOf : aw_Y := (⟨"SessionTablesModel", "itemOf", "(II)I"⟩, prog_6_method_16_code, 4, (some .int))
def Y_R_take : aw_Y := (⟨"SessionTablesModel", "take", "(II)V"⟩, prog_6_method_17_code, 4, none)
def Y_R_add : aw_Y := (⟨"SessionTablesModel", "add", "(II)V"⟩, prog_6_method_18_code, 3, none)
def Y_R_changedWith : aw_Y := (⟨"SessionTablesModel", "changedWith", "(III)I"⟩, prog_6_method_19_code, 7, (some .int))
def Y_R_tooFew : aw_Y := (⟨"SessionTablesModel", "tooFew", "(II)Z"⟩, prog_6_method_20_code, 3, (some .boolean))
def Y_R_make : aw_Y := (⟨"SessionTablesModel", "make", "(IIZ)I"⟩, prog_6_method_21_code, 6, (some .int))
def Y_R_write : aw_Y := (⟨"SessionTablesModel", "write", "(III)I"⟩, prog_6_method_22_code, 6, (some .int))
def Y_R_remove : aw_Y := (⟨"SessionTablesModel", "remove", "(II)I"⟩, prog_6_method_23_code, 6, (some .int))
def Y_R_isBelow : aw_Y := (⟨"SessionTablesModel", "isBelow", "(II)Z"⟩, prog_6_method_24_code, 6, (some .boolean))
def Y_R_move : aw_Y := (⟨"SessionTablesModel", "move", "(IIII)I"⟩, prog_6_method_25_code, 8, (some .int))
def Y_R_writeEntry : aw_Y := (⟨"SessionTablesModel", "writeEntry", "(I)Z"⟩, prog_6_method_26_code, 3, (some .boolean))
def Y_R_close : aw_Y := (⟨"SessionTablesModel", "close", "()I"⟩, prog_6_method_27_code, 5, (some .int))
def Y_R_arm : aw_Y := (⟨"SessionTablesModel", "arm", "(I)Z"⟩, prog_6_method_28_code, 2, (some .boolean))
def Y_R_crash : aw_Y := (⟨"SessionTablesModel", "crash", "()I"⟩, prog_6_method_29_code, 2, (some .int))
def Y_R_spoil : aw_Y := (⟨"SessionTablesModel", "spoil", "(I)Z"⟩, prog_6_method_30_code, 2, (some .boolean))
def Y_R_left : aw_Y := (⟨"SessionTablesModel", "left", "()I"⟩, prog_6_method_31_code, 1, (some .int))
def Y_R_changed : aw_Y := (⟨"SessionTablesModel", "changed", "()I"⟩, prog_6_method_32_code, 1, (some .int))
def Y_R_tables : aw_Y := (⟨"SessionTablesModel", "tables", "()I"⟩, prog_6_method_33_code, 3, (some .int))
def Y_R_sees : aw_Y := (⟨"SessionTablesModel", "sees", "(III)Z"⟩, prog_6_method_34_code, 4, (some .boolean))
def Y_R_kind : aw_Y := (⟨"SessionTablesModel", "kind", "(II)I"⟩, prog_6_method_35_code, 3, (some .int))
def Y_R_items : aw_Y := (⟨"SessionTablesModel", "items", "(II)I"⟩, prog_6_method_36_code, 3, (some .int))
def Y_R_find : aw_Y := (⟨"SessionTablesModel", "find", "(III)I"⟩, prog_6_method_37_code, 5, (some .int))
def Y_R_item : aw_Y := (⟨"SessionTablesModel", "item", "(III)I"⟩, prog_6_method_38_code, 4, (some .int))
def Y_R_block : aw_Y := (⟨"SessionTablesModel", "block", "(III)I"⟩, prog_6_method_39_code, 5, (some .int))
def Y_R_word : aw_Y := (⟨"SessionTablesModel", "word", "(II)I"⟩, prog_6_method_40_code, 3, (some .int))
def Y_M_init : aw_Y := (⟨"SessionTables$Medium", "<init>", "(I)V"⟩, prog_2_method_1_code, 2, none)
def Y_M_unwritten : aw_Y := (⟨"SessionTables$Medium", "unwritten", "()I"⟩, prog_2_method_2_code, 1, (some .int))
def Y_M_isWritten : aw_Y := (⟨"SessionTables$Medium", "isWritten", "(I)Z"⟩, prog_2_method_3_code, 2, (some .boolean))
def Y_M_hasWord : aw_Y := (⟨"SessionTables$Medium", "hasWord", "(II)Z"⟩, prog_2_method_4_code, 3, (some .boolean))
def Y_M_wordAt : aw_Y := (⟨"SessionTables$Medium", "wordAt", "(II)I"⟩, prog_2_method_5_code, 3, (some .int))
def Y_M_isGood : aw_Y := (⟨"SessionTables$Medium", "isGood", "(I)Z"⟩, prog_2_method_6_code, 2, (some .boolean))
def Y_M_flipCheck : aw_Y := (⟨"SessionTables$Medium", "flipCheck", "(I)V"⟩, prog_2_method_7_code, 2, none)
def Y_M_begin : aw_Y := (⟨"SessionTables$Medium", "begin", "(II)V"⟩, prog_2_method_8_code, 3, none)
def Y_M_put : aw_Y := (⟨"SessionTables$Medium", "put", "(II)V"⟩, prog_2_method_9_code, 3, none)
def Y_M_finish : aw_Y := (⟨"SessionTables$Medium", "finish", "()Z"⟩, prog_2_method_10_code, 3, (some .boolean))
def Y_M_checkOf : aw_Y := (⟨"SessionTables$Medium", "checkOf", "(I)I"⟩, prog_2_method_11_code, 4, (some .int))
def Y_M_checkWithWord : aw_Y := (⟨"SessionTables$Medium", "checkWithWord", "(II)I"⟩, prog_2_method_12_code, 4, (some .int))
def Y_M_checkWithByte : aw_Y := (⟨"SessionTables$Medium", "checkWithByte", "(II)I"⟩, prog_2_method_13_code, 4, (some .int))
def Y_N_init : aw_Y := (⟨"SessionTables$Node", "<init>", "()V"⟩, prog_3_method_1_code, 1, none)
def Y_N_becomeAbsent : aw_Y := (⟨"SessionTables$Node", "becomeAbsent", "()V"⟩, prog_3_method_2_code, 1, none)
def Y_N_becomeNew : aw_Y := (⟨"SessionTables$Node", "becomeNew", "(I)V"⟩, prog_3_method_3_code, 2, none)
def Y_N_become : aw_Y := (⟨"SessionTables$Node", "become", "(LSessionTables$Medium;I)V"⟩, prog_3_method_4_code, 4, none)
def Y_N_ifUnchanged : aw_Y := (⟨"SessionTables$Node", "ifUnchanged", "()I"⟩, prog_3_method_5_code, 1, (some .int))
def Y_N_has : aw_Y := (⟨"SessionTables$Node", "has", "(I)Z"⟩, prog_3_method_6_code, 2, (some .boolean))
def Y_N_indexOfName : aw_Y := (⟨"SessionTables$Node", "indexOfName", "(I)I"⟩, prog_3_method_7_code, 3, (some .int))
def Y_N_nodeOfItem : aw_Y := (⟨"SessionTables$Node", "nodeOfItem", "(I)I"⟩, prog_3_method_8_code, 2, (some .int))
def Y_N_holds : aw_Y := (⟨"SessionTables$Node", "holds", "(I)Z"⟩, prog_3_method_9_code, 3, (some .boolean))
def Y_N_addItem : aw_Y := (⟨"SessionTables$Node", "addItem", "(II)V"⟩, prog_3_method_10_code, 3, none)
def Y_N_dropItem : aw_Y := (⟨"SessionTables$Node", "dropItem", "(I)V"⟩, prog_3_method_11_code, 3, none)
def Y_N_setBlock : aw_Y := (⟨"SessionTables$Node", "setBlock", "(II)V"⟩, prog_3_method_12_code, 3, none)
def Y_T_init : aw_Y := (⟨"SessionTables$Tree", "<init>", "()V"⟩, prog_4_method_1_code, 2, none)
def Y_T_becomeNothing : aw_Y := (⟨"SessionTables$Tree", "becomeNothing", "()V"⟩, prog_4_method_2_code, 2, none)
def Y_T_becomeEmpty : aw_Y := (⟨"SessionTables$Tree", "becomeEmpty", "()V"⟩, prog_4_method_3_code, 1, none)
def Y_T_become : aw_Y := (⟨"SessionTables$Tree", "become", "(LSessionTables$Medium;I)V"⟩, prog_4_method_4_code, 5, none)
def Y_T_nodeAt : aw_Y := (⟨"SessionTables$Tree", "nodeAt", "(I)LSessionTables$Node;"⟩, prog_4_method_5_code, 2, (some (.object "SessionTables$Node")))
def Y_T_directoryAt : aw_Y := (⟨"SessionTables$Tree", "directoryAt", "(I)LSessionTables$Node;"⟩, prog_4_method_6_code, 3, (some (.object "SessionTables$Node")))
def Y_T_fileAt : aw_Y := (⟨"SessionTables$Tree", "fileAt", "(I)LSessionTables$Node;"⟩, prog_4_method_7_code, 3, (some (.object "SessionTables$Node")))
def Y_T_leastAbsent : aw_Y := (⟨"SessionTables$Tree", "leastAbsent", "()I"⟩, prog_4_method_8_code, 2, (some .int))
def Y_T_countChanged : aw_Y := (⟨"SessionTables$Tree", "countChanged", "()I"⟩, prog_4_method_9_code, 3, (some .int))
def Y_T_isAtOrBelow : aw_Y := (⟨"SessionTables$Tree", "isAtOrBelow", "(II)Z"⟩, prog_4_method_10_code, 5, (some .boolean))
def Y_T_parentOf : aw_Y := (⟨"SessionTables$Tree", "parentOf", "(I)I"⟩, prog_4_method_11_code, 3, (some .int))
def Y_L_cell : aw_Y := (⟨"SessionTablesLaw", "cell", "([II)I"⟩, method_2_code, 2, (some .int))
theorem fl_S_23 : aw_fl "SessionTables" 23 3 0 := ⟨"SessionTables", F_S, rfl, by decide, uw_S, aw_mem (List.mem_of_getElem? (i := 136) (by decide +kernel)) rfl, rfl⟩ -- SessionTables.medium
theorem fl_S_30 : aw_fl "SessionTables" 30 3 1 := ⟨"SessionTables", F_S, rfl, by decide, uw_S, aw_mem (List.mem_of_getElem? (i := 137) (by decide +kernel)) rfl, rfl⟩ -- SessionTables.tree
theorem fl_S_34 : aw_fl "SessionTables" 34 3 2 := ⟨"SessionTables", F_S, rfl, by decide, uw_S, aw_mem (List.mem_of_getElem? (i := 138) (by decide +kernel)) rfl, rfl⟩ -- SessionTables.past
theorem fl_S_65 : aw_fl "SessionTables" 65 2 0 := ⟨"SessionTables$Tree", F_T, rfl, by decide, uw_T, aw_mem (List.mem_of_getElem? (i := 116) (by decide +kernel)) rfl, rfl⟩ -- SessionTables$Tree.nodes
theorem fl_S_80 : aw_fl "SessionTables" 80 1 2 := ⟨"SessionTables$Node", F_N, rfl, by decide, uw_N, aw_mem (List.mem_of_getElem? (i := 98) (by decide +kernel)) rfl, rfl⟩ -- SessionTables$Node.count
theorem fl_S_84 : aw_fl "SessionTables" 84 0 3 := ⟨"SessionTables$Medium", F_M, rfl, by decide, uw_M, aw_mem (List.mem_of_getElem? (i := 64) (by decide +kernel)) rfl, rfl⟩ -- SessionTables$Medium.written
theorem fl_S_109 : aw_fl "SessionTables" 109 1 1 := ⟨"SessionTables$Node", F_N, rfl, by decide, uw_N, aw_mem (List.mem_of_getElem? (i := 95) (by decide +kernel)) rfl, rfl⟩ -- SessionTables$Node.type
theorem fl_S_112 : aw_fl "SessionTables" 112 1 4 := ⟨"SessionTables$Node", F_N, rfl, by decide, uw_N, aw_mem (List.mem_of_getElem? (i := 102) (by decide +kernel)) rfl, rfl⟩ -- SessionTables$Node.isChanged
theorem fp_S_112 : aw_fp "SessionTables" 112 1 4 .boolean := ⟨"SessionTables$Node", F_N, fy_N, rfl, by decide, uw_N, aw_mem (List.mem_of_getElem? (i := 102) (by decide +kernel)) rfl, rfl, fy_N_ok, fn_N, rfl, fy_N_ok 4 (by decide), rfl⟩
theorem fl_S_137 : aw_fl "SessionTables" 137 0 4 := ⟨"SessionTables$Medium", F_M, rfl, by decide, uw_M, aw_mem (List.mem_of_getElem? (i := 66) (by decide +kernel)) rfl, rfl⟩ -- SessionTables$Medium.stop
theorem fp_S_137 : aw_fp "SessionTables" 137 0 4 .int := ⟨"SessionTables$Medium", F_M, fy_M, rfl, by decide, uw_M, aw_mem (List.mem_of_getElem? (i := 66) (by decide +kernel)) rfl, rfl, fy_M_ok, fn_M, rfl, fy_M_ok 4 (by decide), rfl⟩
theorem fl_S_159 : aw_fl "SessionTables" 159 1 0 := ⟨"SessionTables$Node", F_N, rfl, by decide, uw_N, aw_mem (List.mem_of_getElem? (i := 93) (by decide +kernel)) rfl, rfl⟩ -- SessionTables$Node.list
theorem fl_S_176 : aw_fl "SessionTables" 176 1 3 := ⟨"SessionTables$Node", F_N, rfl, by decide, uw_N, aw_mem (List.mem_of_getElem? (i := 100) (by decide +kernel)) rfl, rfl⟩ -- SessionTables$Node.entry
theorem fp_S_176 : aw_fp "SessionTables" 176 1 3 .int := ⟨"SessionTables$Node", F_N, fy_N, rfl, by decide, uw_N, aw_mem (List.mem_of_getElem? (i := 100) (by decide +kernel)) rfl, rfl, fy_N_ok, fn_N, rfl, fy_N_ok 3 (by decide), rfl⟩
theorem fl_M_9 : aw_fl "SessionTables$Medium" 9 0 0 := ⟨"SessionTables$Medium", F_M, rfl, by decide, uw_M, aw_mem (List.mem_of_getElem? (i := 60) (by decide +kernel)) rfl, rfl⟩ -- SessionTables$Medium.sectors
theorem fl_M_15 : aw_fl "SessionTables$Medium" 15 0 1 := ⟨"SessionTables$Medium", F_M, rfl, by decide, uw_M, aw_mem (List.mem_of_getElem? (i := 61) (by decide +kernel)) rfl, rfl⟩ -- SessionTables$Medium.words
theorem fl_M_19 : aw_fl "SessionTables$Medium" 19 0 2 := ⟨"SessionTables$Medium", F_M, rfl, by decide, uw_M, aw_mem (List.mem_of_getElem? (i := 62) (by decide +kernel)) rfl, rfl⟩ -- SessionTables$Medium.checks
theorem fl_M_22 : aw_fl "SessionTables$Medium" 22 0 3 := ⟨"SessionTables$Medium", F_M, rfl, by decide, uw_M, aw_mem (List.mem_of_getElem? (i := 63) (by decide +kernel)) rfl, rfl⟩ -- SessionTables$Medium.written
theorem fp_M_22 : aw_fp "SessionTables$Medium" 22 0 3 .int := ⟨"SessionTables$Medium", F_M, fy_M, rfl, by decide, uw_M, aw_mem (List.mem_of_getElem? (i := 63) (by decide +kernel)) rfl, rfl, fy_M_ok, fn_M, rfl, fy_M_ok 3 (by decide), rfl⟩
theorem fl_M_25 : aw_fl "SessionTables$Medium" 25 0 4 := ⟨"SessionTables$Medium", F_M, rfl, by decide, uw_M, aw_mem (List.mem_of_getElem? (i := 65) (by decide +kernel)) rfl, rfl⟩ -- SessionTables$Medium.stop
theorem fp_M_25 : aw_fp "SessionTables$Medium" 25 0 4 .int := ⟨"SessionTables$Medium", F_M, fy_M, rfl, by decide, uw_M, aw_mem (List.mem_of_getElem? (i := 65) (by decide +kernel)) rfl, rfl, fy_M_ok, fn_M, rfl, fy_M_ok 4 (by decide), rfl⟩
theorem fl_N_9 : aw_fl "SessionTables$Node" 9 1 0 := ⟨"SessionTables$Node", F_N, rfl, by decide, uw_N, aw_mem (List.mem_of_getElem? (i := 92) (by decide +kernel)) rfl, rfl⟩ -- SessionTables$Node.list
theorem fl_N_15 : aw_fl "SessionTables$Node" 15 1 1 := ⟨"SessionTables$Node", F_N, rfl, by decide, uw_N, aw_mem (List.mem_of_getElem? (i := 94) (by decide +kernel)) rfl, rfl⟩ -- SessionTables$Node.type
theorem fp_N_15 : aw_fp "SessionTables$Node" 15 1 1 .int := ⟨"SessionTables$Node", F_N, fy_N, rfl, by decide, uw_N, aw_mem (List.mem_of_getElem? (i := 94) (by decide +kernel)) rfl, rfl, fy_N_ok, fn_N, rfl, fy_N_ok 1 (by decide), rfl⟩
theorem fl_N_19 : aw_fl "SessionTables$Node" 19 1 2 := ⟨"SessionTables$Node", F_N, rfl, by decide, uw_N, aw_mem (List.mem_of_getElem? (i := 97) (by decide +kernel)) rfl, rfl⟩ -- SessionTables$Node.count
theorem fp_N_19 : aw_fp "SessionTables$Node" 19 1 2 .int := ⟨"SessionTables$Node", F_N, fy_N, rfl, by decide, uw_N, aw_mem (List.mem_of_getElem? (i := 97) (by decide +kernel)) rfl, rfl, fy_N_ok, fn_N, rfl, fy_N_ok 2 (by decide), rfl⟩
theorem fl_N_22 : aw_fl "SessionTables$Node" 22 1 3 := ⟨"SessionTables$Node", F_N, rfl, by decide, uw_N, aw_mem (List.mem_of_getElem? (i := 99) (by decide +kernel)) rfl, rfl⟩ -- SessionTables$Node.entry
theorem fp_N_22 : aw_fp "SessionTables$Node" 22 1 3 .int := ⟨"SessionTables$Node", F_N, fy_N, rfl, by decide, uw_N, aw_mem (List.mem_of_getElem? (i := 99) (by decide +kernel)) rfl, rfl, fy_N_ok, fn_N, rfl, fy_N_ok 3 (by decide), rfl⟩
theorem fl_N_25 : aw_fl "SessionTables$Node" 25 1 4 := ⟨"SessionTables$Node", F_N, rfl, by decide, uw_N, aw_mem (List.mem_of_getElem? (i := 101) (by decide +kernel)) rfl, rfl⟩ -- SessionTables$Node.isChanged
theorem fp_N_25 : aw_fp "SessionTables$Node" 25 1 4 .boolean := ⟨"SessionTables$Node", F_N, fy_N, rfl, by decide, uw_N, aw_mem (List.mem_of_getElem? (i := 101) (by decide +kernel)) rfl, rfl, fy_N_ok, fn_N, rfl, fy_N_ok 4 (by decide), rfl⟩
theorem fl_T_11 : aw_fl "SessionTables$Tree" 11 2 0 := ⟨"SessionTables$Tree", F_T, rfl, by decide, uw_T, aw_mem (List.mem_of_getElem? (i := 115) (by decide +kernel)) rfl, rfl⟩ -- SessionTables$Tree.nodes
theorem fl_T_38 : aw_fl "SessionTables$Tree" 38 1 1 := ⟨"SessionTables$Node", F_N, rfl, by decide, uw_N, aw_mem (List.mem_of_getElem? (i := 96) (by decide +kernel)) rfl, rfl⟩ -- SessionTables$Node.type
theorem fl_T_46 : aw_fl "SessionTables$Tree" 46 1 4 := ⟨"SessionTables$Node", F_N, rfl, by decide, uw_N, aw_mem (List.mem_of_getElem? (i := 103) (by decide +kernel)) rfl, rfl⟩ -- SessionTables$Node.isChanged
theorem fl_R_7 : aw_fl "SessionTablesModel" 7 4 0 := ⟨"SessionTablesModel", F_R, rfl, by decide, uw_R, aw_mem (List.mem_of_getElem? (i := 401) (by decide +kernel)) rfl, rfl⟩ -- SessionTablesModel.word
theorem fl_R_13 : aw_fl "SessionTablesModel" 13 4 5 := ⟨"SessionTablesModel", F_R, rfl, by decide, uw_R, aw_mem (List.mem_of_getElem? (i := 406) (by decide +kernel)) rfl, rfl⟩ -- SessionTablesModel.kind
theorem fl_R_16 : aw_fl "SessionTablesModel" 16 4 6 := ⟨"SessionTablesModel", F_R, rfl, by decide, uw_R, aw_mem (List.mem_of_getElem? (i := 407) (by decide +kernel)) rfl, rfl⟩ -- SessionTablesModel.count
theorem fl_R_19 : aw_fl "SessionTablesModel" 19 4 7 := ⟨"SessionTablesModel", F_R, rfl, by decide, uw_R, aw_mem (List.mem_of_getElem? (i := 408) (by decide +kernel)) rfl, rfl⟩ -- SessionTablesModel.items
theorem fl_R_22 : aw_fl "SessionTablesModel" 22 4 8 := ⟨"SessionTablesModel", F_R, rfl, by decide, uw_R, aw_mem (List.mem_of_getElem? (i := 409) (by decide +kernel)) rfl, rfl⟩ -- SessionTablesModel.changed
theorem fl_R_26 : aw_fl "SessionTablesModel" 26 4 9 := ⟨"SessionTablesModel", F_R, rfl, by decide, uw_R, aw_mem (List.mem_of_getElem? (i := 410) (by decide +kernel)) rfl, rfl⟩ -- SessionTablesModel.entry
theorem fl_R_29 : aw_fl "SessionTablesModel" 29 4 10 := ⟨"SessionTablesModel", F_R, rfl, by decide, uw_R, aw_mem (List.mem_of_getElem? (i := 411) (by decide +kernel)) rfl, rfl⟩ -- SessionTablesModel.seenKind
theorem fl_R_32 : aw_fl "SessionTablesModel" 32 4 11 := ⟨"SessionTablesModel", F_R, rfl, by decide, uw_R, aw_mem (List.mem_of_getElem? (i := 412) (by decide +kernel)) rfl, rfl⟩ -- SessionTablesModel.seenCount
theorem fl_R_35 : aw_fl "SessionTablesModel" 35 4 12 := ⟨"SessionTablesModel", F_R, rfl, by decide, uw_R, aw_mem (List.mem_of_getElem? (i := 413) (by decide +kernel)) rfl, rfl⟩ -- SessionTablesModel.seenItems
theorem fl_R_38 : aw_fl "SessionTablesModel" 38 4 13 := ⟨"SessionTablesModel", F_R, rfl, by decide, uw_R, aw_mem (List.mem_of_getElem? (i := 414) (by decide +kernel)) rfl, rfl⟩ -- SessionTablesModel.sector
theorem fl_R_41 : aw_fl "SessionTablesModel" 41 4 14 := ⟨"SessionTablesModel", F_R, rfl, by decide, uw_R, aw_mem (List.mem_of_getElem? (i := 415) (by decide +kernel)) rfl, rfl⟩ -- SessionTablesModel.below
theorem fl_R_44 : aw_fl "SessionTablesModel" 44 4 1 := ⟨"SessionTablesModel", F_R, rfl, by decide, uw_R, aw_mem (List.mem_of_getElem? (i := 402) (by decide +kernel)) rfl, rfl⟩ -- SessionTablesModel.sectors
theorem fp_R_44 : aw_fp "SessionTablesModel" 44 4 1 .int := ⟨"SessionTablesModel", F_R, fy_R, rfl, by decide, uw_R, aw_mem (List.mem_of_getElem? (i := 402) (by decide +kernel)) rfl, rfl, fy_R_ok, fn_R, rfl, fy_R_ok 1 (by decide), rfl⟩
theorem fl_R_66 : aw_fl "SessionTablesModel" 66 4 2 := ⟨"SessionTablesModel", F_R, rfl, by decide, uw_R, aw_mem (List.mem_of_getElem? (i := 403) (by decide +kernel)) rfl, rfl⟩ -- SessionTablesModel.written
theorem fp_R_66 : aw_fp "SessionTablesModel" 66 4 2 .int := ⟨"SessionTablesModel", F_R, fy_R, rfl, by decide, uw_R, aw_mem (List.mem_of_getElem? (i := 403) (by decide +kernel)) rfl, rfl, fy_R_ok, fn_R, rfl, fy_R_ok 2 (by decide), rfl⟩
theorem fl_R_72 : aw_fl "SessionTablesModel" 72 4 3 := ⟨"SessionTablesModel", F_R, rfl, by decide, uw_R, aw_mem (List.mem_of_getElem? (i := 404) (by decide +kernel)) rfl, rfl⟩ -- SessionTablesModel.armed
theorem fp_R_72 : aw_fp "SessionTablesModel" 72 4 3 .boolean := ⟨"SessionTablesModel", F_R, fy_R, rfl, by decide, uw_R, aw_mem (List.mem_of_getElem? (i := 404) (by decide +kernel)) rfl, rfl, fy_R_ok, fn_R, rfl, fy_R_ok 3 (by decide), rfl⟩
theorem fl_R_76 : aw_fl "SessionTablesModel" 76 4 4 := ⟨"SessionTablesModel", F_R, rfl, by decide, uw_R, aw_mem (List.mem_of_getElem? (i := 405) (by decide +kernel)) rfl, rfl⟩ -- SessionTablesModel.until
theorem fp_R_76 : aw_fp "SessionTablesModel" 76 4 4 .int := ⟨"SessionTablesModel", F_R, fy_R, rfl, by decide, uw_R, aw_mem (List.mem_of_getElem? (i := 405) (by decide +kernel)) rfl, rfl, fy_R_ok, fn_R, rfl, fy_R_ok 4 (by decide), rfl⟩
theorem cb_m8 : (Int8.ofInt (-8)).toInt32 = (-8) := by decide +kernel
theorem cb_m7 : (Int8.ofInt (-7)).toInt32 = (-7) := by decide +kernel
theorem cb_m6 : (Int8.ofInt (-6)).toInt32 = (-6) := by decide +kernel
theorem cb_m5 : (Int8.ofInt (-5)).toInt32 = (-5) := by decide +kernel
theorem cb_m4 : (Int8.ofInt (-4)).toInt32 = (-4) := by decide +kernel
theorem cb_m3 : (Int8.ofInt (-3)).toInt32 = (-3) := by decide +kernel
theorem cb_m2 : (Int8.ofInt (-2)).toInt32 = (-2) := by decide +kernel
theorem cb_6 : (Int8.ofInt 6).toInt32 = nI 6 := by decide +kernel
theorem cb_7 : (Int8.ofInt 7).toInt32 = nI 7 := by decide +kernel
theorem cb_8 : (Int8.ofInt 8).toInt32 = nI 8 := by decide +kernel
theorem cb_9 : (Int8.ofInt 9).toInt32 = nI 9 := by decide +kernel
theorem cb_10 : (Int8.ofInt 10).toInt32 = nI 10 := by decide +kernel
theorem cb_15 : (Int8.ofInt 15).toInt32 = nI 15 := by decide +kernel
theorem cb_16 : (Int8.ofInt 16).toInt32 = nI 16 := by decide +kernel
theorem cb_24 : (Int8.ofInt 24).toInt32 = nI 24 := by decide +kernel
theorem cb_80 : (Int8.ofInt 80).toInt32 = nI 80 := by decide +kernel
theorem cb_99 : (Int8.ofInt 99).toInt32 = nI 99 := by decide +kernel
theorem cb_100 : (Int8.ofInt 100).toInt32 = nI 100 := by decide +kernel
theorem ci_m1 : Int32.ofInt (-1) = (-1) := by decide +kernel
theorem ci_0 : Int32.ofInt 0 = nI 0 := by decide +kernel
theorem ci_1 : Int32.ofInt 1 = nI 1 := by decide +kernel
theorem ci_2 : Int32.ofInt 2 = nI 2 := by decide +kernel
theorem ci_3 : Int32.ofInt 3 = nI 3 := by decide +kernel
theorem ci_4 : Int32.ofInt 4 = nI 4 := by decide +kernel
theorem ci_5 : Int32.ofInt 5 = nI 5 := by decide +kernel
theorem cs_128 : (Int16.ofInt 128).toInt32 = nI 128 := by decide +kernel
theorem cs_255 : (Int16.ofInt 255).toInt32 = nI 255 := by decide +kernel
theorem cs_256 : (Int16.ofInt 256).toInt32 = nI 256 := by decide +kernel
theorem cs_1000 : (Int16.ofInt 1000).toInt32 = nI 1000 := by decide +kernel
theorem cs_2048 : (Int16.ofInt 2048).toInt32 = nI 2048 := by decide +kernel
theorem cs_4129 : (Int16.ofInt 4129).toInt32 = nI 4129 := by decide +kernel
theorem ii_1 : Int32.ofInt 1 = nI 1 := by decide +kernel
theorem wc_S_79 : Cond.constant "SessionTables" 79 (nI 65535) ∈ aw_Ts := aw_mem (List.mem_of_getElem? (i := 198) (by decide +kernel)) rfl
theorem wc_M_48 : Cond.constant "SessionTables$Medium" 48 (nI 65535) ∈ aw_Ts := aw_mem (List.mem_of_getElem? (i := 220) (by decide +kernel)) rfl
theorem wc_M_55 : Cond.constant "SessionTables$Medium" 55 (nI 32768) ∈ aw_Ts := aw_mem (List.mem_of_getElem? (i := 231) (by decide +kernel)) rfl
theorem wc_M_56 : Cond.constant "SessionTables$Medium" 56 (nI 65536) ∈ aw_Ts := aw_mem (List.mem_of_getElem? (i := 232) (by decide +kernel)) rfl
theorem wc_R_51 : Cond.constant "SessionTablesModel" 51 (nI 32768) ∈ aw_Ts := aw_mem (List.mem_of_getElem? (i := 492) (by decide +kernel)) rfl
theorem wc_R_52 : Cond.constant "SessionTablesModel" 52 (nI 65536) ∈ aw_Ts := aw_mem (List.mem_of_getElem? (i := 493) (by decide +kernel)) rfl
theorem wc_R_53 : Cond.constant "SessionTablesModel" 53 (nI 65535) ∈ aw_Ts := aw_mem (List.mem_of_getElem? (i := 476) (by decide +kernel)) rfl
theorem cv_S_37 : aw_cv "SessionTables" 37 Y_T_becomeEmpty 2 0 := ⟨F_T, rfl, aw_mem (List.mem_of_getElem? (i := 123) (by decide +kernel)) rfl, aw_mem (List.mem_of_getElem? (i := 120) (by decide +kernel)) rfl, aw_mem (List.mem_of_getElem? (i := 121) (by decide +kernel)) rfl, aw_mem (List.mem_of_getElem? (i := 122) (by decide +kernel)) rfl, aw_mem (List.mem_of_getElem? (i := 37) (by decide +kernel)) rfl, ⟨by decide +kernel, by decide +kernel, by decide +kernel⟩, by decide⟩ -- SessionTables$Tree.becomeEmpty
theorem cv_S_40 : aw_cv "SessionTables" 40 Y_T_directoryAt 2 1 := ⟨F_T, rfl, aw_mem (List.mem_of_getElem? (i := 153) (by decide +kernel)) rfl, aw_mem (List.mem_of_getElem? (i := 150) (by decide +kernel)) rfl, aw_mem (List.mem_of_getElem? (i := 151) (by decide +kernel)) rfl, aw_mem (List.mem_of_getElem? (i := 152) (by decide +kernel)) rfl, aw_mem (List.mem_of_getElem? (i := 37) (by decide +kernel)) rfl, ⟨by decide +kernel, by decide +kernel, by decide +kernel⟩, by decide⟩ -- SessionTables$Tree.directoryAt
theorem cv_S_44 : aw_cs "SessionTables" 44 Y_S_isName 1 := ⟨aw_mem (List.mem_of_getElem? (i := 160) (by decide +kernel)) rfl, aw_mem (List.mem_of_getElem? (i := 158) (by decide +kernel)) rfl, aw_mem (List.mem_of_getElem? (i := 159) (by decide +kernel)) rfl, aw_mem (List.mem_of_getElem? (i := 34) (by decide +kernel)) rfl, ⟨by decide +kernel, by decide +kernel, by decide +kernel⟩, by decide⟩ -- SessionTables.isName
theorem cv_S_48 : aw_cv "SessionTables" 48 Y_N_indexOfName 1 1 := ⟨F_N, rfl, aw_mem (List.mem_of_getElem? (i := 164) (by decide +kernel)) rfl, aw_mem (List.mem_of_getElem? (i := 161) (by decide +kernel)) rfl, aw_mem (List.mem_of_getElem? (i := 162) (by decide +kernel)) rfl, aw_mem (List.mem_of_getElem? (i := 163) (by decide +kernel)) rfl, aw_mem (List.mem_of_getElem? (i := 38) (by decide +kernel)) rfl, ⟨by decide +kernel, by decide +kernel, by decide +kernel⟩, by decide⟩ -- SessionTables$Node.indexOfName
theorem cv_S_54 : aw_cv "SessionTables" 54 Y_T_leastAbsent 2 0 := ⟨F_T, rfl, aw_mem (List.mem_of_getElem? (i := 168) (by decide +kernel)) rfl, aw_mem (List.mem_of_getElem? (i := 165) (by decide +kernel)) rfl, aw_mem (List.mem_of_getElem? (i := 166) (by decide +kernel)) rfl, aw_mem (List.mem_of_getElem? (i := 167) (by decide +kernel)) rfl, aw_mem (List.mem_of_getElem? (i := 37) (by decide +kernel)) rfl, ⟨by decide +kernel, by decide +kernel, by decide +kernel⟩, by decide⟩ -- SessionTables$Tree.leastAbsent
theorem cv_S_58 : aw_cv "SessionTables" 58 Y_N_ifUnchanged 1 0 := ⟨F_N, rfl, aw_mem (List.mem_of_getElem? (i := 172) (by decide +kernel)) rfl, aw_mem (List.mem_of_getElem? (i := 169) (by decide +kernel)) rfl, aw_mem (List.mem_of_getElem? (i := 170) (by decide +kernel)) rfl, aw_mem (List.mem_of_getElem? (i := 171) (by decide +kernel)) rfl, aw_mem (List.mem_of_getElem? (i := 38) (by decide +kernel)) rfl, ⟨by decide +kernel, by decide +kernel, by decide +kernel⟩, by decide⟩ -- SessionTables$Node.ifUnchanged
theorem cv_S_61 : aw_cv "SessionTables" 61 Y_S_isTooFull 3 2 := ⟨F_S, rfl, aw_mem (List.mem_of_getElem? (i := 176) (by decide +kernel)) rfl, aw_mem (List.mem_of_getElem? (i := 173) (by decide +kernel)) rfl, aw_mem (List.mem_of_getElem? (i := 175) (by decide +kernel)) rfl, aw_mem (List.mem_of_getElem? (i := 0) (by decide +kernel)) rfl, aw_mem (List.mem_of_getElem? (i := 34) (by decide +kernel)) rfl, ⟨by decide +kernel, by decide +kernel, by decide +kernel⟩, by decide⟩ -- SessionTables.isTooFull
theorem cv_S_69 : aw_cv "SessionTables" 69 Y_N_becomeNew 1 1 := ⟨F_N, rfl, aw_mem (List.mem_of_getElem? (i := 135) (by decide +kernel)) rfl, aw_mem (List.mem_of_getElem? (i := 185) (by decide +kernel)) rfl, aw_mem (List.mem_of_getElem? (i := 133) (by decide +kernel)) rfl, aw_mem (List.mem_of_getElem? (i := 134) (by decide +kernel)) rfl, aw_mem (List.mem_of_getElem? (i := 38) (by decide +kernel)) rfl, ⟨by decide +kernel, by decide +kernel, by decide +kernel⟩, by decide⟩ -- SessionTables$Node.becomeNew
theorem cv_S_72 : aw_cv "SessionTables" 72 Y_N_addItem 1 2 := ⟨F_N, rfl, aw_mem (List.mem_of_getElem? (i := 189) (by decide +kernel)) rfl, aw_mem (List.mem_of_getElem? (i := 186) (by decide +kernel)) rfl, aw_mem (List.mem_of_getElem? (i := 187) (by decide +kernel)) rfl, aw_mem (List.mem_of_getElem? (i := 188) (by decide +kernel)) rfl, aw_mem (List.mem_of_getElem? (i := 38) (by decide +kernel)) rfl, ⟨by decide +kernel, by decide +kernel, by decide +kernel⟩, by decide⟩ -- SessionTables$Node.addItem
theorem cv_S_76 : aw_cv "SessionTables" 76 Y_T_fileAt 2 1 := ⟨F_T, rfl, aw_mem (List.mem_of_getElem? (i := 197) (by decide +kernel)) rfl, aw_mem (List.mem_of_getElem? (i := 194) (by decide +kernel)) rfl, aw_mem (List.mem_of_getElem? (i := 195) (by decide +kernel)) rfl, aw_mem (List.mem_of_getElem? (i := 196) (by decide +kernel)) rfl, aw_mem (List.mem_of_getElem? (i := 37) (by decide +kernel)) rfl, ⟨by decide +kernel, by decide +kernel, by decide +kernel⟩, by decide⟩ -- SessionTables$Tree.fileAt
theorem cv_S_87 : aw_cv "SessionTables" 87 Y_M_begin 0 2 := ⟨F_M, rfl, aw_mem (List.mem_of_getElem? (i := 202) (by decide +kernel)) rfl, aw_mem (List.mem_of_getElem? (i := 199) (by decide +kernel)) rfl, aw_mem (List.mem_of_getElem? (i := 200) (by decide +kernel)) rfl, aw_mem (List.mem_of_getElem? (i := 201) (by decide +kernel)) rfl, aw_mem (List.mem_of_getElem? (i := 35) (by decide +kernel)) rfl, ⟨by decide +kernel, by decide +kernel, by decide +kernel⟩, by decide⟩ -- SessionTables$Medium.begin
theorem cv_S_90 : aw_cv "SessionTables" 90 Y_M_put 0 2 := ⟨F_M, rfl, aw_mem (List.mem_of_getElem? (i := 206) (by decide +kernel)) rfl, aw_mem (List.mem_of_getElem? (i := 211) (by decide +kernel)) rfl, aw_mem (List.mem_of_getElem? (i := 204) (by decide +kernel)) rfl, aw_mem (List.mem_of_getElem? (i := 205) (by decide +kernel)) rfl, aw_mem (List.mem_of_getElem? (i := 35) (by decide +kernel)) rfl, ⟨by decide +kernel, by decide +kernel, by decide +kernel⟩, by decide⟩ -- SessionTables$Medium.put
theorem cv_S_93 : aw_cv "SessionTables" 93 Y_M_finish 0 0 := ⟨F_M, rfl, aw_mem (List.mem_of_getElem? (i := 215) (by decide +kernel)) rfl, aw_mem (List.mem_of_getElem? (i := 212) (by decide +kernel)) rfl, aw_mem (List.mem_of_getElem? (i := 213) (by decide +kernel)) rfl, aw_mem (List.mem_of_getElem? (i := 214) (by decide +kernel)) rfl, aw_mem (List.mem_of_getElem? (i := 35) (by decide +kernel)) rfl, ⟨by decide +kernel, by decide +kernel, by decide +kernel⟩, by decide⟩ -- SessionTables$Medium.finish
theorem cv_S_97 : aw_cv "SessionTables" 97 Y_S_readBack 3 0 := ⟨F_S, rfl, aw_mem (List.mem_of_getElem? (i := 236) (by decide +kernel)) rfl, aw_mem (List.mem_of_getElem? (i := 233) (by decide +kernel)) rfl, aw_mem (List.mem_of_getElem? (i := 235) (by decide +kernel)) rfl, aw_mem (List.mem_of_getElem? (i := 2) (by decide +kernel)) rfl, aw_mem (List.mem_of_getElem? (i := 34) (by decide +kernel)) rfl, ⟨by decide +kernel, by decide +kernel, by decide +kernel⟩, by decide⟩ -- SessionTables.readBack
theorem cv_S_100 : aw_cv "SessionTables" 100 Y_N_setBlock 1 2 := ⟨F_N, rfl, aw_mem (List.mem_of_getElem? (i := 269) (by decide +kernel)) rfl, aw_mem (List.mem_of_getElem? (i := 266) (by decide +kernel)) rfl, aw_mem (List.mem_of_getElem? (i := 267) (by decide +kernel)) rfl, aw_mem (List.mem_of_getElem? (i := 268) (by decide +kernel)) rfl, aw_mem (List.mem_of_getElem? (i := 38) (by decide +kernel)) rfl, ⟨by decide +kernel, by decide +kernel, by decide +kernel⟩, by decide⟩ -- SessionTables$Node.setBlock
theorem cv_S_103 : aw_cv "SessionTables" 103 Y_N_nodeOfItem 1 1 := ⟨F_N, rfl, aw_mem (List.mem_of_getElem? (i := 277) (by decide +kernel)) rfl, aw_mem (List.mem_of_getElem? (i := 274) (by decide +kernel)) rfl, aw_mem (List.mem_of_getElem? (i := 275) (by decide +kernel)) rfl, aw_mem (List.mem_of_getElem? (i := 276) (by decide +kernel)) rfl, aw_mem (List.mem_of_getElem? (i := 38) (by decide +kernel)) rfl, ⟨by decide +kernel, by decide +kernel, by decide +kernel⟩, by decide⟩ -- SessionTables$Node.nodeOfItem
theorem cv_S_106 : aw_cv "SessionTables" 106 Y_T_nodeAt 2 1 := ⟨F_T, rfl, aw_mem (List.mem_of_getElem? (i := 157) (by decide +kernel)) rfl, aw_mem (List.mem_of_getElem? (i := 282) (by decide +kernel)) rfl, aw_mem (List.mem_of_getElem? (i := 155) (by decide +kernel)) rfl, aw_mem (List.mem_of_getElem? (i := 156) (by decide +kernel)) rfl, aw_mem (List.mem_of_getElem? (i := 37) (by decide +kernel)) rfl, ⟨by decide +kernel, by decide +kernel, by decide +kernel⟩, by decide⟩ -- SessionTables$Tree.nodeAt
theorem cv_S_116 : aw_cv "SessionTables" 116 Y_N_dropItem 1 1 := ⟨F_N, rfl, aw_mem (List.mem_of_getElem? (i := 286) (by decide +kernel)) rfl, aw_mem (List.mem_of_getElem? (i := 283) (by decide +kernel)) rfl, aw_mem (List.mem_of_getElem? (i := 284) (by decide +kernel)) rfl, aw_mem (List.mem_of_getElem? (i := 285) (by decide +kernel)) rfl, aw_mem (List.mem_of_getElem? (i := 38) (by decide +kernel)) rfl, ⟨by decide +kernel, by decide +kernel, by decide +kernel⟩, by decide⟩ -- SessionTables$Node.dropItem
theorem cv_S_119 : aw_cv "SessionTables" 119 Y_N_becomeAbsent 1 0 := ⟨F_N, rfl, aw_mem (List.mem_of_getElem? (i := 131) (by decide +kernel)) rfl, aw_mem (List.mem_of_getElem? (i := 287) (by decide +kernel)) rfl, aw_mem (List.mem_of_getElem? (i := 129) (by decide +kernel)) rfl, aw_mem (List.mem_of_getElem? (i := 130) (by decide +kernel)) rfl, aw_mem (List.mem_of_getElem? (i := 38) (by decide +kernel)) rfl, ⟨by decide +kernel, by decide +kernel, by decide +kernel⟩, by decide⟩ -- SessionTables$Node.becomeAbsent
theorem cv_S_122 : aw_cv "SessionTables" 122 Y_T_isAtOrBelow 2 2 := ⟨F_T, rfl, aw_mem (List.mem_of_getElem? (i := 295) (by decide +kernel)) rfl, aw_mem (List.mem_of_getElem? (i := 292) (by decide +kernel)) rfl, aw_mem (List.mem_of_getElem? (i := 293) (by decide +kernel)) rfl, aw_mem (List.mem_of_getElem? (i := 294) (by decide +kernel)) rfl, aw_mem (List.mem_of_getElem? (i := 37) (by decide +kernel)) rfl, ⟨by decide +kernel, by decide +kernel, by decide +kernel⟩, by decide⟩ -- SessionTables$Tree.isAtOrBelow
theorem cv_S_125 : aw_cv "SessionTables" 125 Y_T_countChanged 2 0 := ⟨F_T, rfl, aw_mem (List.mem_of_getElem? (i := 184) (by decide +kernel)) rfl, aw_mem (List.mem_of_getElem? (i := 181) (by decide +kernel)) rfl, aw_mem (List.mem_of_getElem? (i := 182) (by decide +kernel)) rfl, aw_mem (List.mem_of_getElem? (i := 183) (by decide +kernel)) rfl, aw_mem (List.mem_of_getElem? (i := 37) (by decide +kernel)) rfl, ⟨by decide +kernel, by decide +kernel, by decide +kernel⟩, by decide⟩ -- SessionTables$Tree.countChanged
theorem cv_S_128 : aw_cv "SessionTables" 128 Y_S_writeEntries 3 0 := ⟨F_S, rfl, aw_mem (List.mem_of_getElem? (i := 311) (by decide +kernel)) rfl, aw_mem (List.mem_of_getElem? (i := 308) (by decide +kernel)) rfl, aw_mem (List.mem_of_getElem? (i := 310) (by decide +kernel)) rfl, aw_mem (List.mem_of_getElem? (i := 6) (by decide +kernel)) rfl, aw_mem (List.mem_of_getElem? (i := 34) (by decide +kernel)) rfl, ⟨by decide +kernel, by decide +kernel, by decide +kernel⟩, by decide⟩ -- SessionTables.writeEntries
theorem cv_S_131 : aw_cv "SessionTables" 131 Y_S_newestNumber 3 0 := ⟨F_S, rfl, aw_mem (List.mem_of_getElem? (i := 319) (by decide +kernel)) rfl, aw_mem (List.mem_of_getElem? (i := 316) (by decide +kernel)) rfl, aw_mem (List.mem_of_getElem? (i := 318) (by decide +kernel)) rfl, aw_mem (List.mem_of_getElem? (i := 8) (by decide +kernel)) rfl, aw_mem (List.mem_of_getElem? (i := 34) (by decide +kernel)) rfl, ⟨by decide +kernel, by decide +kernel, by decide +kernel⟩, by decide⟩ -- SessionTables.newestNumber
theorem cv_S_134 : aw_cv "SessionTables" 134 Y_S_writeTable 3 1 := ⟨F_S, rfl, aw_mem (List.mem_of_getElem? (i := 323) (by decide +kernel)) rfl, aw_mem (List.mem_of_getElem? (i := 320) (by decide +kernel)) rfl, aw_mem (List.mem_of_getElem? (i := 322) (by decide +kernel)) rfl, aw_mem (List.mem_of_getElem? (i := 9) (by decide +kernel)) rfl, aw_mem (List.mem_of_getElem? (i := 34) (by decide +kernel)) rfl, ⟨by decide +kernel, by decide +kernel, by decide +kernel⟩, by decide⟩ -- SessionTables.writeTable
theorem cv_S_140 : aw_cv "SessionTables" 140 Y_M_isWritten 0 1 := ⟨F_M, rfl, aw_mem (List.mem_of_getElem? (i := 253) (by decide +kernel)) rfl, aw_mem (List.mem_of_getElem? (i := 336) (by decide +kernel)) rfl, aw_mem (List.mem_of_getElem? (i := 251) (by decide +kernel)) rfl, aw_mem (List.mem_of_getElem? (i := 252) (by decide +kernel)) rfl, aw_mem (List.mem_of_getElem? (i := 35) (by decide +kernel)) rfl, ⟨by decide +kernel, by decide +kernel, by decide +kernel⟩, by decide⟩ -- SessionTables$Medium.isWritten
theorem cv_S_143 : aw_cv "SessionTables" 143 Y_M_flipCheck 0 1 := ⟨F_M, rfl, aw_mem (List.mem_of_getElem? (i := 340) (by decide +kernel)) rfl, aw_mem (List.mem_of_getElem? (i := 337) (by decide +kernel)) rfl, aw_mem (List.mem_of_getElem? (i := 338) (by decide +kernel)) rfl, aw_mem (List.mem_of_getElem? (i := 339) (by decide +kernel)) rfl, aw_mem (List.mem_of_getElem? (i := 35) (by decide +kernel)) rfl, ⟨by decide +kernel, by decide +kernel, by decide +kernel⟩, by decide⟩ -- SessionTables$Medium.flipCheck
theorem cv_S_146 : aw_cv "SessionTables" 146 Y_M_unwritten 0 0 := ⟨F_M, rfl, aw_mem (List.mem_of_getElem? (i := 180) (by decide +kernel)) rfl, aw_mem (List.mem_of_getElem? (i := 177) (by decide +kernel)) rfl, aw_mem (List.mem_of_getElem? (i := 178) (by decide +kernel)) rfl, aw_mem (List.mem_of_getElem? (i := 179) (by decide +kernel)) rfl, aw_mem (List.mem_of_getElem? (i := 35) (by decide +kernel)) rfl, ⟨by decide +kernel, by decide +kernel, by decide +kernel⟩, by decide⟩ -- SessionTables$Medium.unwritten
theorem cv_S_149 : aw_cv "SessionTables" 149 Y_S_isValidTable 3 1 := ⟨F_S, rfl, aw_mem (List.mem_of_getElem? (i := 244) (by decide +kernel)) rfl, aw_mem (List.mem_of_getElem? (i := 241) (by decide +kernel)) rfl, aw_mem (List.mem_of_getElem? (i := 243) (by decide +kernel)) rfl, aw_mem (List.mem_of_getElem? (i := 4) (by decide +kernel)) rfl, aw_mem (List.mem_of_getElem? (i := 34) (by decide +kernel)) rfl, ⟨by decide +kernel, by decide +kernel, by decide +kernel⟩, by decide⟩ -- SessionTables.isValidTable
theorem cv_S_152 : aw_cv "SessionTables" 152 Y_S_treeAt 3 1 := ⟨F_S, rfl, aw_mem (List.mem_of_getElem? (i := 360) (by decide +kernel)) rfl, aw_mem (List.mem_of_getElem? (i := 357) (by decide +kernel)) rfl, aw_mem (List.mem_of_getElem? (i := 359) (by decide +kernel)) rfl, aw_mem (List.mem_of_getElem? (i := 10) (by decide +kernel)) rfl, aw_mem (List.mem_of_getElem? (i := 34) (by decide +kernel)) rfl, ⟨by decide +kernel, by decide +kernel, by decide +kernel⟩, by decide⟩ -- SessionTables.treeAt
theorem cv_S_156 : aw_cv "SessionTables" 156 Y_N_has 1 1 := ⟨F_N, rfl, aw_mem (List.mem_of_getElem? (i := 281) (by decide +kernel)) rfl, aw_mem (List.mem_of_getElem? (i := 378) (by decide +kernel)) rfl, aw_mem (List.mem_of_getElem? (i := 279) (by decide +kernel)) rfl, aw_mem (List.mem_of_getElem? (i := 280) (by decide +kernel)) rfl, aw_mem (List.mem_of_getElem? (i := 38) (by decide +kernel)) rfl, ⟨by decide +kernel, by decide +kernel, by decide +kernel⟩, by decide⟩ -- SessionTables$Node.has
theorem cv_S_163 : aw_cv "SessionTables" 163 Y_M_isGood 0 1 := ⟨F_M, rfl, aw_mem (List.mem_of_getElem? (i := 249) (by decide +kernel)) rfl, aw_mem (List.mem_of_getElem? (i := 246) (by decide +kernel)) rfl, aw_mem (List.mem_of_getElem? (i := 247) (by decide +kernel)) rfl, aw_mem (List.mem_of_getElem? (i := 248) (by decide +kernel)) rfl, aw_mem (List.mem_of_getElem? (i := 35) (by decide +kernel)) rfl, ⟨by decide +kernel, by decide +kernel, by decide +kernel⟩, by decide⟩ -- SessionTables$Medium.isGood
theorem cv_S_166 : aw_cv "SessionTables" 166 Y_M_wordAt 0 2 := ⟨F_M, rfl, aw_mem (List.mem_of_getElem? (i := 224) (by decide +kernel)) rfl, aw_mem (List.mem_of_getElem? (i := 245) (by decide +kernel)) rfl, aw_mem (List.mem_of_getElem? (i := 222) (by decide +kernel)) rfl, aw_mem (List.mem_of_getElem? (i := 223) (by decide +kernel)) rfl, aw_mem (List.mem_of_getElem? (i := 35) (by decide +kernel)) rfl, ⟨by decide +kernel, by decide +kernel, by decide +kernel⟩, by decide⟩ -- SessionTables$Medium.wordAt
theorem cv_S_169 : aw_cv "SessionTables" 169 Y_M_hasWord 0 2 := ⟨F_M, rfl, aw_mem (List.mem_of_getElem? (i := 210) (by decide +kernel)) rfl, aw_mem (List.mem_of_getElem? (i := 387) (by decide +kernel)) rfl, aw_mem (List.mem_of_getElem? (i := 208) (by decide +kernel)) rfl, aw_mem (List.mem_of_getElem? (i := 209) (by decide +kernel)) rfl, aw_mem (List.mem_of_getElem? (i := 35) (by decide +kernel)) rfl, ⟨by decide +kernel, by decide +kernel, by decide +kernel⟩, by decide⟩ -- SessionTables$Medium.hasWord
theorem cv_S_172 : aw_cv "SessionTables" 172 Y_S_writeEntry 3 2 := ⟨F_S, rfl, aw_mem (List.mem_of_getElem? (i := 315) (by decide +kernel)) rfl, aw_mem (List.mem_of_getElem? (i := 312) (by decide +kernel)) rfl, aw_mem (List.mem_of_getElem? (i := 314) (by decide +kernel)) rfl, aw_mem (List.mem_of_getElem? (i := 7) (by decide +kernel)) rfl, aw_mem (List.mem_of_getElem? (i := 34) (by decide +kernel)) rfl, ⟨by decide +kernel, by decide +kernel, by decide +kernel⟩, by decide⟩ -- SessionTables.writeEntry
theorem cv_S_179 : aw_cv "SessionTables" 179 Y_S_newestTable 3 0 := ⟨F_S, rfl, aw_mem (List.mem_of_getElem? (i := 240) (by decide +kernel)) rfl, aw_mem (List.mem_of_getElem? (i := 237) (by decide +kernel)) rfl, aw_mem (List.mem_of_getElem? (i := 239) (by decide +kernel)) rfl, aw_mem (List.mem_of_getElem? (i := 3) (by decide +kernel)) rfl, aw_mem (List.mem_of_getElem? (i := 34) (by decide +kernel)) rfl, ⟨by decide +kernel, by decide +kernel, by decide +kernel⟩, by decide⟩ -- SessionTables.newestTable
theorem cv_S_182 : aw_cv "SessionTables" 182 Y_T_become 2 2 := ⟨F_T, rfl, aw_mem (List.mem_of_getElem? (i := 257) (by decide +kernel)) rfl, aw_mem (List.mem_of_getElem? (i := 254) (by decide +kernel)) rfl, aw_mem (List.mem_of_getElem? (i := 255) (by decide +kernel)) rfl, aw_mem (List.mem_of_getElem? (i := 256) (by decide +kernel)) rfl, aw_mem (List.mem_of_getElem? (i := 37) (by decide +kernel)) rfl, ⟨by decide +kernel, by decide +kernel, by decide +kernel⟩, by decide⟩ -- SessionTables$Tree.become
theorem cv_S_186 : aw_cv "SessionTables" 186 Y_S_tablePlace 3 1 := ⟨F_S, rfl, aw_mem (List.mem_of_getElem? (i := 364) (by decide +kernel)) rfl, aw_mem (List.mem_of_getElem? (i := 361) (by decide +kernel)) rfl, aw_mem (List.mem_of_getElem? (i := 363) (by decide +kernel)) rfl, aw_mem (List.mem_of_getElem? (i := 11) (by decide +kernel)) rfl, aw_mem (List.mem_of_getElem? (i := 34) (by decide +kernel)) rfl, ⟨by decide +kernel, by decide +kernel, by decide +kernel⟩, by decide⟩ -- SessionTables.tablePlace
theorem cv_S_189 : aw_cv "SessionTables" 189 Y_T_becomeNothing 2 0 := ⟨F_T, rfl, aw_mem (List.mem_of_getElem? (i := 127) (by decide +kernel)) rfl, aw_mem (List.mem_of_getElem? (i := 365) (by decide +kernel)) rfl, aw_mem (List.mem_of_getElem? (i := 125) (by decide +kernel)) rfl, aw_mem (List.mem_of_getElem? (i := 126) (by decide +kernel)) rfl, aw_mem (List.mem_of_getElem? (i := 37) (by decide +kernel)) rfl, ⟨by decide +kernel, by decide +kernel, by decide +kernel⟩, by decide⟩ -- SessionTables$Tree.becomeNothing
theorem cv_M_28 : aw_cv "SessionTables$Medium" 28 Y_M_hasWord 0 2 := ⟨F_M, rfl, aw_mem (List.mem_of_getElem? (i := 210) (by decide +kernel)) rfl, aw_mem (List.mem_of_getElem? (i := 207) (by decide +kernel)) rfl, aw_mem (List.mem_of_getElem? (i := 208) (by decide +kernel)) rfl, aw_mem (List.mem_of_getElem? (i := 209) (by decide +kernel)) rfl, aw_mem (List.mem_of_getElem? (i := 35) (by decide +kernel)) rfl, ⟨by decide +kernel, by decide +kernel, by decide +kernel⟩, by decide⟩ -- SessionTables$Medium.hasWord
theorem cv_M_32 : aw_cv "SessionTables$Medium" 32 Y_M_isWritten 0 1 := ⟨F_M, rfl, aw_mem (List.mem_of_getElem? (i := 253) (by decide +kernel)) rfl, aw_mem (List.mem_of_getElem? (i := 250) (by decide +kernel)) rfl, aw_mem (List.mem_of_getElem? (i := 251) (by decide +kernel)) rfl, aw_mem (List.mem_of_getElem? (i := 252) (by decide +kernel)) rfl, aw_mem (List.mem_of_getElem? (i := 35) (by decide +kernel)) rfl, ⟨by decide +kernel, by decide +kernel, by decide +kernel⟩, by decide⟩ -- SessionTables$Medium.isWritten
theorem cv_M_36 : aw_cv "SessionTables$Medium" 36 Y_M_wordAt 0 2 := ⟨F_M, rfl, aw_mem (List.mem_of_getElem? (i := 224) (by decide +kernel)) rfl, aw_mem (List.mem_of_getElem? (i := 221) (by decide +kernel)) rfl, aw_mem (List.mem_of_getElem? (i := 222) (by decide +kernel)) rfl, aw_mem (List.mem_of_getElem? (i := 223) (by decide +kernel)) rfl, aw_mem (List.mem_of_getElem? (i := 35) (by decide +kernel)) rfl, ⟨by decide +kernel, by decide +kernel, by decide +kernel⟩, by decide⟩ -- SessionTables$Medium.wordAt
theorem cv_M_40 : aw_cv "SessionTables$Medium" 40 Y_M_put 0 2 := ⟨F_M, rfl, aw_mem (List.mem_of_getElem? (i := 206) (by decide +kernel)) rfl, aw_mem (List.mem_of_getElem? (i := 203) (by decide +kernel)) rfl, aw_mem (List.mem_of_getElem? (i := 204) (by decide +kernel)) rfl, aw_mem (List.mem_of_getElem? (i := 205) (by decide +kernel)) rfl, aw_mem (List.mem_of_getElem? (i := 35) (by decide +kernel)) rfl, ⟨by decide +kernel, by decide +kernel, by decide +kernel⟩, by decide⟩ -- SessionTables$Medium.put
theorem cv_M_44 : aw_cv "SessionTables$Medium" 44 Y_M_checkOf 0 1 := ⟨F_M, rfl, aw_mem (List.mem_of_getElem? (i := 219) (by decide +kernel)) rfl, aw_mem (List.mem_of_getElem? (i := 216) (by decide +kernel)) rfl, aw_mem (List.mem_of_getElem? (i := 218) (by decide +kernel)) rfl, aw_mem (List.mem_of_getElem? (i := 1) (by decide +kernel)) rfl, aw_mem (List.mem_of_getElem? (i := 35) (by decide +kernel)) rfl, ⟨by decide +kernel, by decide +kernel, by decide +kernel⟩, by decide⟩ -- SessionTables$Medium.checkOf
theorem cv_M_49 : aw_cs "SessionTables$Medium" 49 Y_M_checkWithWord 2 := ⟨aw_mem (List.mem_of_getElem? (i := 227) (by decide +kernel)) rfl, aw_mem (List.mem_of_getElem? (i := 225) (by decide +kernel)) rfl, aw_mem (List.mem_of_getElem? (i := 226) (by decide +kernel)) rfl, aw_mem (List.mem_of_getElem? (i := 35) (by decide +kernel)) rfl, ⟨by decide +kernel, by decide +kernel, by decide +kernel⟩, by decide⟩ -- SessionTables$Medium.checkWithWord
theorem cv_M_52 : aw_cs "SessionTables$Medium" 52 Y_M_checkWithByte 2 := ⟨aw_mem (List.mem_of_getElem? (i := 230) (by decide +kernel)) rfl, aw_mem (List.mem_of_getElem? (i := 228) (by decide +kernel)) rfl, aw_mem (List.mem_of_getElem? (i := 229) (by decide +kernel)) rfl, aw_mem (List.mem_of_getElem? (i := 35) (by decide +kernel)) rfl, ⟨by decide +kernel, by decide +kernel, by decide +kernel⟩, by decide⟩ -- SessionTables$Medium.checkWithByte
theorem cv_N_29 : aw_cv "SessionTables$Node" 29 Y_M_wordAt 0 2 := ⟨F_M, rfl, aw_mem (List.mem_of_getElem? (i := 224) (by decide +kernel)) rfl, aw_mem (List.mem_of_getElem? (i := 263) (by decide +kernel)) rfl, aw_mem (List.mem_of_getElem? (i := 222) (by decide +kernel)) rfl, aw_mem (List.mem_of_getElem? (i := 223) (by decide +kernel)) rfl, aw_mem (List.mem_of_getElem? (i := 35) (by decide +kernel)) rfl, ⟨by decide +kernel, by decide +kernel, by decide +kernel⟩, by decide⟩ -- SessionTables$Medium.wordAt
theorem cv_N_43 : aw_cv "SessionTables$Node" 43 Y_N_has 1 1 := ⟨F_N, rfl, aw_mem (List.mem_of_getElem? (i := 281) (by decide +kernel)) rfl, aw_mem (List.mem_of_getElem? (i := 278) (by decide +kernel)) rfl, aw_mem (List.mem_of_getElem? (i := 279) (by decide +kernel)) rfl, aw_mem (List.mem_of_getElem? (i := 280) (by decide +kernel)) rfl, aw_mem (List.mem_of_getElem? (i := 38) (by decide +kernel)) rfl, ⟨by decide +kernel, by decide +kernel, by decide +kernel⟩, by decide⟩ -- SessionTables$Node.has
theorem cv_T_18 : aw_cv "SessionTables$Tree" 18 Y_N_becomeAbsent 1 0 := ⟨F_N, rfl, aw_mem (List.mem_of_getElem? (i := 131) (by decide +kernel)) rfl, aw_mem (List.mem_of_getElem? (i := 128) (by decide +kernel)) rfl, aw_mem (List.mem_of_getElem? (i := 129) (by decide +kernel)) rfl, aw_mem (List.mem_of_getElem? (i := 130) (by decide +kernel)) rfl, aw_mem (List.mem_of_getElem? (i := 38) (by decide +kernel)) rfl, ⟨by decide +kernel, by decide +kernel, by decide +kernel⟩, by decide⟩ -- SessionTables$Node.becomeAbsent
theorem cv_T_21 : aw_cv "SessionTables$Tree" 21 Y_T_becomeNothing 2 0 := ⟨F_T, rfl, aw_mem (List.mem_of_getElem? (i := 127) (by decide +kernel)) rfl, aw_mem (List.mem_of_getElem? (i := 124) (by decide +kernel)) rfl, aw_mem (List.mem_of_getElem? (i := 125) (by decide +kernel)) rfl, aw_mem (List.mem_of_getElem? (i := 126) (by decide +kernel)) rfl, aw_mem (List.mem_of_getElem? (i := 37) (by decide +kernel)) rfl, ⟨by decide +kernel, by decide +kernel, by decide +kernel⟩, by decide⟩ -- SessionTables$Tree.becomeNothing
theorem cv_T_24 : aw_cv "SessionTables$Tree" 24 Y_N_becomeNew 1 1 := ⟨F_N, rfl, aw_mem (List.mem_of_getElem? (i := 135) (by decide +kernel)) rfl, aw_mem (List.mem_of_getElem? (i := 132) (by decide +kernel)) rfl, aw_mem (List.mem_of_getElem? (i := 133) (by decide +kernel)) rfl, aw_mem (List.mem_of_getElem? (i := 134) (by decide +kernel)) rfl, aw_mem (List.mem_of_getElem? (i := 38) (by decide +kernel)) rfl, ⟨by decide +kernel, by decide +kernel, by decide +kernel⟩, by decide⟩ -- SessionTables$Node.becomeNew
theorem cv_T_28 : aw_cv "SessionTables$Tree" 28 Y_M_wordAt 0 2 := ⟨F_M, rfl, aw_mem (List.mem_of_getElem? (i := 224) (by decide +kernel)) rfl, aw_mem (List.mem_of_getElem? (i := 258) (by decide +kernel)) rfl, aw_mem (List.mem_of_getElem? (i := 222) (by decide +kernel)) rfl, aw_mem (List.mem_of_getElem? (i := 223) (by decide +kernel)) rfl, aw_mem (List.mem_of_getElem? (i := 35) (by decide +kernel)) rfl, ⟨by decide +kernel, by decide +kernel, by decide +kernel⟩, by decide⟩ -- SessionTables$Medium.wordAt
theorem cv_T_34 : aw_cv "SessionTables$Tree" 34 Y_N_become 1 2 := ⟨F_N, rfl, aw_mem (List.mem_of_getElem? (i := 262) (by decide +kernel)) rfl, aw_mem (List.mem_of_getElem? (i := 259) (by decide +kernel)) rfl, aw_mem (List.mem_of_getElem? (i := 260) (by decide +kernel)) rfl, aw_mem (List.mem_of_getElem? (i := 261) (by decide +kernel)) rfl, aw_mem (List.mem_of_getElem? (i := 38) (by decide +kernel)) rfl, ⟨by decide +kernel, by decide +kernel, by decide +kernel⟩, by decide⟩ -- SessionTables$Node.become
theorem cv_T_42 : aw_cv "SessionTables$Tree" 42 Y_T_nodeAt 2 1 := ⟨F_T, rfl, aw_mem (List.mem_of_getElem? (i := 157) (by decide +kernel)) rfl, aw_mem (List.mem_of_getElem? (i := 154) (by decide +kernel)) rfl, aw_mem (List.mem_of_getElem? (i := 155) (by decide +kernel)) rfl, aw_mem (List.mem_of_getElem? (i := 156) (by decide +kernel)) rfl, aw_mem (List.mem_of_getElem? (i := 37) (by decide +kernel)) rfl, ⟨by decide +kernel, by decide +kernel, by decide +kernel⟩, by decide⟩ -- SessionTables$Tree.nodeAt
theorem cv_T_50 : aw_cv "SessionTables$Tree" 50 Y_T_parentOf 2 1 := ⟨F_T, rfl, aw_mem (List.mem_of_getElem? (i := 299) (by decide +kernel)) rfl, aw_mem (List.mem_of_getElem? (i := 296) (by decide +kernel)) rfl, aw_mem (List.mem_of_getElem? (i := 298) (by decide +kernel)) rfl, aw_mem (List.mem_of_getElem? (i := 5) (by decide +kernel)) rfl, aw_mem (List.mem_of_getElem? (i := 37) (by decide +kernel)) rfl, ⟨by decide +kernel, by decide +kernel, by decide +kernel⟩, by decide⟩ -- SessionTables$Tree.parentOf
theorem cv_T_54 : aw_cv "SessionTables$Tree" 54 Y_N_holds 1 1 := ⟨F_N, rfl, aw_mem (List.mem_of_getElem? (i := 303) (by decide +kernel)) rfl, aw_mem (List.mem_of_getElem? (i := 300) (by decide +kernel)) rfl, aw_mem (List.mem_of_getElem? (i := 301) (by decide +kernel)) rfl, aw_mem (List.mem_of_getElem? (i := 302) (by decide +kernel)) rfl, aw_mem (List.mem_of_getElem? (i := 38) (by decide +kernel)) rfl, ⟨by decide +kernel, by decide +kernel, by decide +kernel⟩, by decide⟩ -- SessionTables$Node.holds
theorem cv_R_48 : aw_cv "SessionTablesModel" 48 Y_R_empty 4 0 := ⟨F_R, rfl, aw_mem (List.mem_of_getElem? (i := 400) (by decide +kernel)) rfl, aw_mem (List.mem_of_getElem? (i := 397) (by decide +kernel)) rfl, aw_mem (List.mem_of_getElem? (i := 399) (by decide +kernel)) rfl, aw_mem (List.mem_of_getElem? (i := 12) (by decide +kernel)) rfl, aw_mem (List.mem_of_getElem? (i := 39) (by decide +kernel)) rfl, ⟨by decide +kernel, by decide +kernel, by decide +kernel⟩, by decide⟩ -- SessionTablesModel.empty
theorem cv_R_54 : aw_cs "SessionTablesModel" 54 Y_R_step 2 := ⟨aw_mem (List.mem_of_getElem? (i := 491) (by decide +kernel)) rfl, aw_mem (List.mem_of_getElem? (i := 489) (by decide +kernel)) rfl, aw_mem (List.mem_of_getElem? (i := 490) (by decide +kernel)) rfl, aw_mem (List.mem_of_getElem? (i := 39) (by decide +kernel)) rfl, ⟨by decide +kernel, by decide +kernel, by decide +kernel⟩, by decide⟩ -- SessionTablesModel.step
theorem cv_R_58 : aw_cv "SessionTablesModel" 58 Y_R_checkOf 4 1 := ⟨F_R, rfl, aw_mem (List.mem_of_getElem? (i := 488) (by decide +kernel)) rfl, aw_mem (List.mem_of_getElem? (i := 485) (by decide +kernel)) rfl, aw_mem (List.mem_of_getElem? (i := 487) (by decide +kernel)) rfl, aw_mem (List.mem_of_getElem? (i := 20) (by decide +kernel)) rfl, aw_mem (List.mem_of_getElem? (i := 39) (by decide +kernel)) rfl, ⟨by decide +kernel, by decide +kernel, by decide +kernel⟩, by decide⟩ -- SessionTablesModel.checkOf
theorem cv_R_62 : aw_cv "SessionTablesModel" 62 Y_R_isGood 4 1 := ⟨F_R, rfl, aw_mem (List.mem_of_getElem? (i := 509) (by decide +kernel)) rfl, aw_mem (List.mem_of_getElem? (i := 506) (by decide +kernel)) rfl, aw_mem (List.mem_of_getElem? (i := 508) (by decide +kernel)) rfl, aw_mem (List.mem_of_getElem? (i := 24) (by decide +kernel)) rfl, aw_mem (List.mem_of_getElem? (i := 39) (by decide +kernel)) rfl, ⟨by decide +kernel, by decide +kernel, by decide +kernel⟩, by decide⟩ -- SessionTablesModel.isGood
theorem cv_R_69 : aw_cv "SessionTablesModel" 69 Y_R_isValid 4 1 := ⟨F_R, rfl, aw_mem (List.mem_of_getElem? (i := 505) (by decide +kernel)) rfl, aw_mem (List.mem_of_getElem? (i := 502) (by decide +kernel)) rfl, aw_mem (List.mem_of_getElem? (i := 504) (by decide +kernel)) rfl, aw_mem (List.mem_of_getElem? (i := 23) (by decide +kernel)) rfl, aw_mem (List.mem_of_getElem? (i := 39) (by decide +kernel)) rfl, ⟨by decide +kernel, by decide +kernel, by decide +kernel⟩, by decide⟩ -- SessionTablesModel.isValid
theorem cv_R_79 : aw_cv "SessionTablesModel" 79 Y_R_readBack 4 0 := ⟨F_R, rfl, aw_mem (List.mem_of_getElem? (i := 497) (by decide +kernel)) rfl, aw_mem (List.mem_of_getElem? (i := 494) (by decide +kernel)) rfl, aw_mem (List.mem_of_getElem? (i := 496) (by decide +kernel)) rfl, aw_mem (List.mem_of_getElem? (i := 21) (by decide +kernel)) rfl, aw_mem (List.mem_of_getElem? (i := 39) (by decide +kernel)) rfl, ⟨by decide +kernel, by decide +kernel, by decide +kernel⟩, by decide⟩ -- SessionTablesModel.readBack
theorem cv_R_82 : aw_cv "SessionTablesModel" 82 Y_R_lookAtHand 4 0 := ⟨F_R, rfl, aw_mem (List.mem_of_getElem? (i := 577) (by decide +kernel)) rfl, aw_mem (List.mem_of_getElem? (i := 574) (by decide +kernel)) rfl, aw_mem (List.mem_of_getElem? (i := 576) (by decide +kernel)) rfl, aw_mem (List.mem_of_getElem? (i := 31) (by decide +kernel)) rfl, aw_mem (List.mem_of_getElem? (i := 39) (by decide +kernel)) rfl, ⟨by decide +kernel, by decide +kernel, by decide +kernel⟩, by decide⟩ -- SessionTablesModel.lookAtHand
theorem cv_R_85 : aw_cv "SessionTablesModel" 85 Y_R_tableAt 4 1 := ⟨F_R, rfl, aw_mem (List.mem_of_getElem? (i := 581) (by decide +kernel)) rfl, aw_mem (List.mem_of_getElem? (i := 578) (by decide +kernel)) rfl, aw_mem (List.mem_of_getElem? (i := 580) (by decide +kernel)) rfl, aw_mem (List.mem_of_getElem? (i := 32) (by decide +kernel)) rfl, aw_mem (List.mem_of_getElem? (i := 39) (by decide +kernel)) rfl, ⟨by decide +kernel, by decide +kernel, by decide +kernel⟩, by decide⟩ -- SessionTablesModel.tableAt
theorem cv_R_88 : aw_cv "SessionTablesModel" 88 Y_R_lookAtTable 4 1 := ⟨F_R, rfl, aw_mem (List.mem_of_getElem? (i := 513) (by decide +kernel)) rfl, aw_mem (List.mem_of_getElem? (i := 510) (by decide +kernel)) rfl, aw_mem (List.mem_of_getElem? (i := 512) (by decide +kernel)) rfl, aw_mem (List.mem_of_getElem? (i := 25) (by decide +kernel)) rfl, aw_mem (List.mem_of_getElem? (i := 39) (by decide +kernel)) rfl, ⟨by decide +kernel, by decide +kernel, by decide +kernel⟩, by decide⟩ -- SessionTablesModel.lookAtTable
theorem cv_R_92 : aw_cv "SessionTablesModel" 92 Y_R_newest 4 0 := ⟨F_R, rfl, aw_mem (List.mem_of_getElem? (i := 501) (by decide +kernel)) rfl, aw_mem (List.mem_of_getElem? (i := 498) (by decide +kernel)) rfl, aw_mem (List.mem_of_getElem? (i := 500) (by decide +kernel)) rfl, aw_mem (List.mem_of_getElem? (i := 22) (by decide +kernel)) rfl, aw_mem (List.mem_of_getElem? (i := 39) (by decide +kernel)) rfl, ⟨by decide +kernel, by decide +kernel, by decide +kernel⟩, by decide⟩ -- SessionTablesModel.newest
theorem cv_R_96 : aw_cv "SessionTablesModel" 96 Y_R_isKind 4 2 := ⟨F_R, rfl, aw_mem (List.mem_of_getElem? (i := 455) (by decide +kernel)) rfl, aw_mem (List.mem_of_getElem? (i := 452) (by decide +kernel)) rfl, aw_mem (List.mem_of_getElem? (i := 454) (by decide +kernel)) rfl, aw_mem (List.mem_of_getElem? (i := 13) (by decide +kernel)) rfl, aw_mem (List.mem_of_getElem? (i := 39) (by decide +kernel)) rfl, ⟨by decide +kernel, by decide +kernel, by decide +kernel⟩, by decide⟩ -- SessionTablesModel.isKind
theorem cv_R_100 : aw_cv "SessionTablesModel" 100 Y_R_itemOf 4 2 := ⟨F_R, rfl, aw_mem (List.mem_of_getElem? (i := 459) (by decide +kernel)) rfl, aw_mem (List.mem_of_getElem? (i := 456) (by decide +kernel)) rfl, aw_mem (List.mem_of_getElem? (i := 458) (by decide +kernel)) rfl, aw_mem (List.mem_of_getElem? (i := 14) (by decide +kernel)) rfl, aw_mem (List.mem_of_getElem? (i := 39) (by decide +kernel)) rfl, ⟨by decide +kernel, by decide +kernel, by decide +kernel⟩, by decide⟩ -- SessionTablesModel.itemOf
theorem cv_R_103 : aw_cv "SessionTablesModel" 103 Y_R_changedWith 4 3 := ⟨F_R, rfl, aw_mem (List.mem_of_getElem? (i := 463) (by decide +kernel)) rfl, aw_mem (List.mem_of_getElem? (i := 460) (by decide +kernel)) rfl, aw_mem (List.mem_of_getElem? (i := 462) (by decide +kernel)) rfl, aw_mem (List.mem_of_getElem? (i := 15) (by decide +kernel)) rfl, aw_mem (List.mem_of_getElem? (i := 39) (by decide +kernel)) rfl, ⟨by decide +kernel, by decide +kernel, by decide +kernel⟩, by decide⟩ -- SessionTablesModel.changedWith
theorem cv_R_107 : aw_cv "SessionTablesModel" 107 Y_R_tooFew 4 2 := ⟨F_R, rfl, aw_mem (List.mem_of_getElem? (i := 467) (by decide +kernel)) rfl, aw_mem (List.mem_of_getElem? (i := 464) (by decide +kernel)) rfl, aw_mem (List.mem_of_getElem? (i := 466) (by decide +kernel)) rfl, aw_mem (List.mem_of_getElem? (i := 16) (by decide +kernel)) rfl, aw_mem (List.mem_of_getElem? (i := 39) (by decide +kernel)) rfl, ⟨by decide +kernel, by decide +kernel, by decide +kernel⟩, by decide⟩ -- SessionTablesModel.tooFew
theorem cv_R_110 : aw_cv "SessionTablesModel" 110 Y_R_add 4 2 := ⟨F_R, rfl, aw_mem (List.mem_of_getElem? (i := 471) (by decide +kernel)) rfl, aw_mem (List.mem_of_getElem? (i := 468) (by decide +kernel)) rfl, aw_mem (List.mem_of_getElem? (i := 470) (by decide +kernel)) rfl, aw_mem (List.mem_of_getElem? (i := 17) (by decide +kernel)) rfl, aw_mem (List.mem_of_getElem? (i := 39) (by decide +kernel)) rfl, ⟨by decide +kernel, by decide +kernel, by decide +kernel⟩, by decide⟩ -- SessionTablesModel.add
theorem cv_R_114 : aw_cv "SessionTablesModel" 114 Y_R_clearSector 4 2 := ⟨F_R, rfl, aw_mem (List.mem_of_getElem? (i := 480) (by decide +kernel)) rfl, aw_mem (List.mem_of_getElem? (i := 477) (by decide +kernel)) rfl, aw_mem (List.mem_of_getElem? (i := 479) (by decide +kernel)) rfl, aw_mem (List.mem_of_getElem? (i := 18) (by decide +kernel)) rfl, aw_mem (List.mem_of_getElem? (i := 39) (by decide +kernel)) rfl, ⟨by decide +kernel, by decide +kernel, by decide +kernel⟩, by decide⟩ -- SessionTablesModel.clearSector
theorem cv_R_117 : aw_cv "SessionTablesModel" 117 Y_R_writeSector 4 0 := ⟨F_R, rfl, aw_mem (List.mem_of_getElem? (i := 484) (by decide +kernel)) rfl, aw_mem (List.mem_of_getElem? (i := 481) (by decide +kernel)) rfl, aw_mem (List.mem_of_getElem? (i := 483) (by decide +kernel)) rfl, aw_mem (List.mem_of_getElem? (i := 19) (by decide +kernel)) rfl, aw_mem (List.mem_of_getElem? (i := 39) (by decide +kernel)) rfl, ⟨by decide +kernel, by decide +kernel, by decide +kernel⟩, by decide⟩ -- SessionTablesModel.writeSector
theorem cv_R_121 : aw_cv "SessionTablesModel" 121 Y_R_take 4 2 := ⟨F_R, rfl, aw_mem (List.mem_of_getElem? (i := 521) (by decide +kernel)) rfl, aw_mem (List.mem_of_getElem? (i := 518) (by decide +kernel)) rfl, aw_mem (List.mem_of_getElem? (i := 520) (by decide +kernel)) rfl, aw_mem (List.mem_of_getElem? (i := 26) (by decide +kernel)) rfl, aw_mem (List.mem_of_getElem? (i := 39) (by decide +kernel)) rfl, ⟨by decide +kernel, by decide +kernel, by decide +kernel⟩, by decide⟩ -- SessionTablesModel.take
theorem cv_R_124 : aw_cv "SessionTablesModel" 124 Y_R_isBelow 4 2 := ⟨F_R, rfl, aw_mem (List.mem_of_getElem? (i := 529) (by decide +kernel)) rfl, aw_mem (List.mem_of_getElem? (i := 526) (by decide +kernel)) rfl, aw_mem (List.mem_of_getElem? (i := 528) (by decide +kernel)) rfl, aw_mem (List.mem_of_getElem? (i := 27) (by decide +kernel)) rfl, aw_mem (List.mem_of_getElem? (i := 39) (by decide +kernel)) rfl, ⟨by decide +kernel, by decide +kernel, by decide +kernel⟩, by decide⟩ -- SessionTablesModel.isBelow
theorem cv_R_127 : aw_cv "SessionTablesModel" 127 Y_R_writeEntry 4 1 := ⟨F_R, rfl, aw_mem (List.mem_of_getElem? (i := 537) (by decide +kernel)) rfl, aw_mem (List.mem_of_getElem? (i := 534) (by decide +kernel)) rfl, aw_mem (List.mem_of_getElem? (i := 536) (by decide +kernel)) rfl, aw_mem (List.mem_of_getElem? (i := 28) (by decide +kernel)) rfl, aw_mem (List.mem_of_getElem? (i := 39) (by decide +kernel)) rfl, ⟨by decide +kernel, by decide +kernel, by decide +kernel⟩, by decide⟩ -- SessionTablesModel.writeEntry
theorem cv_R_130 : aw_cv "SessionTablesModel" 130 Y_R_look 4 1 := ⟨F_R, rfl, aw_mem (List.mem_of_getElem? (i := 573) (by decide +kernel)) rfl, aw_mem (List.mem_of_getElem? (i := 570) (by decide +kernel)) rfl, aw_mem (List.mem_of_getElem? (i := 572) (by decide +kernel)) rfl, aw_mem (List.mem_of_getElem? (i := 30) (by decide +kernel)) rfl, aw_mem (List.mem_of_getElem? (i := 39) (by decide +kernel)) rfl, ⟨by decide +kernel, by decide +kernel, by decide +kernel⟩, by decide⟩ -- SessionTablesModel.look
theorem cv_R_133 : aw_cv "SessionTablesModel" 133 Y_R_sees 4 3 := ⟨F_R, rfl, aw_mem (List.mem_of_getElem? (i := 569) (by decide +kernel)) rfl, aw_mem (List.mem_of_getElem? (i := 566) (by decide +kernel)) rfl, aw_mem (List.mem_of_getElem? (i := 568) (by decide +kernel)) rfl, aw_mem (List.mem_of_getElem? (i := 29) (by decide +kernel)) rfl, aw_mem (List.mem_of_getElem? (i := 39) (by decide +kernel)) rfl, ⟨by decide +kernel, by decide +kernel, by decide +kernel⟩, by decide⟩ -- SessionTablesModel.sees
end
