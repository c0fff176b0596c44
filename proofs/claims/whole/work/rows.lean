section
-- ===== PART A: goes FIRST, ahead of the names: the tables' words, and 'selects' of the private methods out of them =====
/-- a private method of a class that the tables say can be made, by its rows of tables_1 -/
def lw_okq (q : MethodName × Nat) : Prop := (q.1.cls ≠ "java/lang/invoke/MethodHandle" ∧ q.1.cls ≠ "java/lang/invoke/VarHandle") ∧ Cond.instantiable q.1.cls q.2 ∈ tables_1 ∧ Cond.privateMethod q.1 ∈ tables_1 ∧ Cond.instanceMethod q.1 ∈ tables_1
theorem lw_p0 : lw_okq (⟨"SessionTables", "isTooFull", "(II)Z"⟩, 3) := ⟨⟨by decide +kernel, by decide +kernel⟩, List.mem_of_getElem? (i := 8) (by decide +kernel), List.mem_of_getElem? (i := 141) (by decide +kernel), List.mem_of_getElem? (i := 142) (by decide +kernel)⟩
theorem lw_p1 : lw_okq (⟨"SessionTables$Medium", "checkOf", "(I)I"⟩, 5) := ⟨⟨by decide +kernel, by decide +kernel⟩, List.mem_of_getElem? (i := 16) (by decide +kernel), List.mem_of_getElem? (i := 184) (by decide +kernel), List.mem_of_getElem? (i := 185) (by decide +kernel)⟩
theorem lw_p2 : lw_okq (⟨"SessionTables", "readBack", "()V"⟩, 3) := ⟨⟨by decide +kernel, by decide +kernel⟩, List.mem_of_getElem? (i := 8) (by decide +kernel), List.mem_of_getElem? (i := 201) (by decide +kernel), List.mem_of_getElem? (i := 202) (by decide +kernel)⟩
theorem lw_p3 : lw_okq (⟨"SessionTables", "newestTable", "()I"⟩, 3) := ⟨⟨by decide +kernel, by decide +kernel⟩, List.mem_of_getElem? (i := 8) (by decide +kernel), List.mem_of_getElem? (i := 205) (by decide +kernel), List.mem_of_getElem? (i := 206) (by decide +kernel)⟩
theorem lw_p4 : lw_okq (⟨"SessionTables", "isValidTable", "(I)Z"⟩, 3) := ⟨⟨by decide +kernel, by decide +kernel⟩, List.mem_of_getElem? (i := 8) (by decide +kernel), List.mem_of_getElem? (i := 209) (by decide +kernel), List.mem_of_getElem? (i := 210) (by decide +kernel)⟩
theorem lw_p5 : lw_okq (⟨"SessionTables$Tree", "parentOf", "(I)I"⟩, 1) := ⟨⟨by decide +kernel, by decide +kernel⟩, List.mem_of_getElem? (i := 47) (by decide +kernel), List.mem_of_getElem? (i := 264) (by decide +kernel), List.mem_of_getElem? (i := 265) (by decide +kernel)⟩
theorem lw_p6 : lw_okq (⟨"SessionTables", "writeEntries", "()Z"⟩, 3) := ⟨⟨by decide +kernel, by decide +kernel⟩, List.mem_of_getElem? (i := 8) (by decide +kernel), List.mem_of_getElem? (i := 276) (by decide +kernel), List.mem_of_getElem? (i := 277) (by decide +kernel)⟩
theorem lw_p7 : lw_okq (⟨"SessionTables", "writeEntry", "(ILSessionTables$Node;)Z"⟩, 3) := ⟨⟨by decide +kernel, by decide +kernel⟩, List.mem_of_getElem? (i := 8) (by decide +kernel), List.mem_of_getElem? (i := 280) (by decide +kernel), List.mem_of_getElem? (i := 281) (by decide +kernel)⟩
theorem lw_p8 : lw_okq (⟨"SessionTables", "newestNumber", "()I"⟩, 3) := ⟨⟨by decide +kernel, by decide +kernel⟩, List.mem_of_getElem? (i := 8) (by decide +kernel), List.mem_of_getElem? (i := 284) (by decide +kernel), List.mem_of_getElem? (i := 285) (by decide +kernel)⟩
theorem lw_p9 : lw_okq (⟨"SessionTables", "writeTable", "(I)Z"⟩, 3) := ⟨⟨by decide +kernel, by decide +kernel⟩, List.mem_of_getElem? (i := 8) (by decide +kernel), List.mem_of_getElem? (i := 288) (by decide +kernel), List.mem_of_getElem? (i := 289) (by decide +kernel)⟩
theorem lw_p10 : lw_okq (⟨"SessionTables", "treeAt", "(I)LSessionTables$Tree;"⟩, 3) := ⟨⟨by decide +kernel, by decide +kernel⟩, List.mem_of_getElem? (i := 8) (by decide +kernel), List.mem_of_getElem? (i := 325) (by decide +kernel), List.mem_of_getElem? (i := 326) (by decide +kernel)⟩
theorem lw_p11 : lw_okq (⟨"SessionTables", "tablePlace", "(I)I"⟩, 3) := ⟨⟨by decide +kernel, by decide +kernel⟩, List.mem_of_getElem? (i := 8) (by decide +kernel), List.mem_of_getElem? (i := 329) (by decide +kernel), List.mem_of_getElem? (i := 330) (by decide +kernel)⟩
theorem lw_p12 : lw_okq (⟨"SessionTablesModel", "empty", "()V"⟩, 15) := ⟨⟨by decide +kernel, by decide +kernel⟩, List.mem_of_getElem? (i := 359) (by decide +kernel), List.mem_of_getElem? (i := 365) (by decide +kernel), List.mem_of_getElem? (i := 366) (by decide +kernel)⟩
theorem lw_p13 : lw_okq (⟨"SessionTablesModel", "isKind", "(II)Z"⟩, 15) := ⟨⟨by decide +kernel, by decide +kernel⟩, List.mem_of_getElem? (i := 359) (by decide +kernel), List.mem_of_getElem? (i := 420) (by decide +kernel), List.mem_of_getElem? (i := 421) (by decide +kernel)⟩
theorem lw_p14 : lw_okq (⟨"SessionTablesModel", "itemOf", "(II)I"⟩, 15) := ⟨⟨by decide +kernel, by decide +kernel⟩, List.mem_of_getElem? (i := 359) (by decide +kernel), List.mem_of_getElem? (i := 424) (by decide +kernel), List.mem_of_getElem? (i := 425) (by decide +kernel)⟩
theorem lw_p15 : lw_okq (⟨"SessionTablesModel", "changedWith", "(III)I"⟩, 15) := ⟨⟨by decide +kernel, by decide +kernel⟩, List.mem_of_getElem? (i := 359) (by decide +kernel), List.mem_of_getElem? (i := 428) (by decide +kernel), List.mem_of_getElem? (i := 429) (by decide +kernel)⟩
def lw_privs_1 : List (MethodName × Nat) := [(⟨"SessionTables", "isTooFull", "(II)Z"⟩, 3), (⟨"SessionTables$Medium", "checkOf", "(I)I"⟩, 5), (⟨"SessionTables", "readBack", "()V"⟩, 3), (⟨"SessionTables", "newestTable", "()I"⟩, 3), (⟨"SessionTables", "isValidTable", "(I)Z"⟩, 3), (⟨"SessionTables$Tree", "parentOf", "(I)I"⟩, 1), (⟨"SessionTables", "writeEntries", "()Z"⟩, 3), (⟨"SessionTables", "writeEntry", "(ILSessionTables$Node;)Z"⟩, 3), (⟨"SessionTables", "newestNumber", "()I"⟩, 3), (⟨"SessionTables", "writeTable", "(I)Z"⟩, 3), (⟨"SessionTables", "treeAt", "(I)LSessionTables$Tree;"⟩, 3), (⟨"SessionTables", "tablePlace", "(I)I"⟩, 3), (⟨"SessionTablesModel", "empty", "()V"⟩, 15), (⟨"SessionTablesModel", "isKind", "(II)Z"⟩, 15), (⟨"SessionTablesModel", "itemOf", "(II)I"⟩, 15), (⟨"SessionTablesModel", "changedWith", "(III)I"⟩, 15)]
theorem lw_r1 : ∀ q ∈ lw_privs_1, lw_okq q := List.forall_mem_cons.mpr ⟨lw_p0, List.forall_mem_cons.mpr ⟨lw_p1, List.forall_mem_cons.mpr ⟨lw_p2, List.forall_mem_cons.mpr ⟨lw_p3, List.forall_mem_cons.mpr ⟨lw_p4, List.forall_mem_cons.mpr ⟨lw_p5, List.forall_mem_cons.mpr ⟨lw_p6, List.forall_mem_cons.mpr ⟨lw_p7, List.forall_mem_cons.mpr ⟨lw_p8, List.forall_mem_cons.mpr ⟨lw_p9, List.forall_mem_cons.mpr ⟨lw_p10, List.forall_mem_cons.mpr ⟨lw_p11, List.forall_mem_cons.mpr ⟨lw_p12, List.forall_mem_cons.mpr ⟨lw_p13, List.forall_mem_cons.mpr ⟨lw_p14, List.forall_mem_cons.mpr ⟨lw_p15, fun _ h => absurd h List.not_mem_nil⟩⟩⟩⟩⟩⟩⟩⟩⟩⟩⟩⟩⟩⟩⟩⟩
theorem lw_p16 : lw_okq (⟨"SessionTablesModel", "tooFew", "(II)Z"⟩, 15) := ⟨⟨by decide +kernel, by decide +kernel⟩, List.mem_of_getElem? (i := 359) (by decide +kernel), List.mem_of_getElem? (i := 432) (by decide +kernel), List.mem_of_getElem? (i := 433) (by decide +kernel)⟩
theorem lw_p17 : lw_okq (⟨"SessionTablesModel", "add", "(II)V"⟩, 15) := ⟨⟨by decide +kernel, by decide +kernel⟩, List.mem_of_getElem? (i := 359) (by decide +kernel), List.mem_of_getElem? (i := 436) (by decide +kernel), List.mem_of_getElem? (i := 437) (by decide +kernel)⟩
theorem lw_p18 : lw_okq (⟨"SessionTablesModel", "clearSector", "(II)V"⟩, 15) := ⟨⟨by decide +kernel, by decide +kernel⟩, List.mem_of_getElem? (i := 359) (by decide +kernel), List.mem_of_getElem? (i := 445) (by decide +kernel), List.mem_of_getElem? (i := 446) (by decide +kernel)⟩
theorem lw_p19 : lw_okq (⟨"SessionTablesModel", "writeSector", "()Z"⟩, 15) := ⟨⟨by decide +kernel, by decide +kernel⟩, List.mem_of_getElem? (i := 359) (by decide +kernel), List.mem_of_getElem? (i := 449) (by decide +kernel), List.mem_of_getElem? (i := 450) (by decide +kernel)⟩
theorem lw_p20 : lw_okq (⟨"SessionTablesModel", "checkOf", "(I)I"⟩, 15) := ⟨⟨by decide +kernel, by decide +kernel⟩, List.mem_of_getElem? (i := 359) (by decide +kernel), List.mem_of_getElem? (i := 453) (by decide +kernel), List.mem_of_getElem? (i := 454) (by decide +kernel)⟩
theorem lw_p21 : lw_okq (⟨"SessionTablesModel", "readBack", "()V"⟩, 15) := ⟨⟨by decide +kernel, by decide +kernel⟩, List.mem_of_getElem? (i := 359) (by decide +kernel), List.mem_of_getElem? (i := 462) (by decide +kernel), List.mem_of_getElem? (i := 463) (by decide +kernel)⟩
theorem lw_p22 : lw_okq (⟨"SessionTablesModel", "newest", "()I"⟩, 15) := ⟨⟨by decide +kernel, by decide +kernel⟩, List.mem_of_getElem? (i := 359) (by decide +kernel), List.mem_of_getElem? (i := 466) (by decide +kernel), List.mem_of_getElem? (i := 467) (by decide +kernel)⟩
theorem lw_p23 : lw_okq (⟨"SessionTablesModel", "isValid", "(I)Z"⟩, 15) := ⟨⟨by decide +kernel, by decide +kernel⟩, List.mem_of_getElem? (i := 359) (by decide +kernel), List.mem_of_getElem? (i := 470) (by decide +kernel), List.mem_of_getElem? (i := 471) (by decide +kernel)⟩
theorem lw_p24 : lw_okq (⟨"SessionTablesModel", "isGood", "(I)Z"⟩, 15) := ⟨⟨by decide +kernel, by decide +kernel⟩, List.mem_of_getElem? (i := 359) (by decide +kernel), List.mem_of_getElem? (i := 474) (by decide +kernel), List.mem_of_getElem? (i := 475) (by decide +kernel)⟩
theorem lw_p25 : lw_okq (⟨"SessionTablesModel", "lookAtTable", "(I)V"⟩, 15) := ⟨⟨by decide +kernel, by decide +kernel⟩, List.mem_of_getElem? (i := 359) (by decide +kernel), List.mem_of_getElem? (i := 478) (by decide +kernel), List.mem_of_getElem? (i := 479) (by decide +kernel)⟩
theorem lw_p26 : lw_okq (⟨"SessionTablesModel", "take", "(II)V"⟩, 15) := ⟨⟨by decide +kernel, by decide +kernel⟩, List.mem_of_getElem? (i := 359) (by decide +kernel), List.mem_of_getElem? (i := 486) (by decide +kernel), List.mem_of_getElem? (i := 487) (by decide +kernel)⟩
theorem lw_p27 : lw_okq (⟨"SessionTablesModel", "isBelow", "(II)Z"⟩, 15) := ⟨⟨by decide +kernel, by decide +kernel⟩, List.mem_of_getElem? (i := 359) (by decide +kernel), List.mem_of_getElem? (i := 494) (by decide +kernel), List.mem_of_getElem? (i := 495) (by decide +kernel)⟩
theorem lw_p28 : lw_okq (⟨"SessionTablesModel", "writeEntry", "(I)Z"⟩, 15) := ⟨⟨by decide +kernel, by decide +kernel⟩, List.mem_of_getElem? (i := 359) (by decide +kernel), List.mem_of_getElem? (i := 502) (by decide +kernel), List.mem_of_getElem? (i := 503) (by decide +kernel)⟩
theorem lw_p29 : lw_okq (⟨"SessionTablesModel", "sees", "(III)Z"⟩, 15) := ⟨⟨by decide +kernel, by decide +kernel⟩, List.mem_of_getElem? (i := 359) (by decide +kernel), List.mem_of_getElem? (i := 534) (by decide +kernel), List.mem_of_getElem? (i := 535) (by decide +kernel)⟩
theorem lw_p30 : lw_okq (⟨"SessionTablesModel", "look", "(I)Z"⟩, 15) := ⟨⟨by decide +kernel, by decide +kernel⟩, List.mem_of_getElem? (i := 359) (by decide +kernel), List.mem_of_getElem? (i := 538) (by decide +kernel), List.mem_of_getElem? (i := 539) (by decide +kernel)⟩
theorem lw_p31 : lw_okq (⟨"SessionTablesModel", "lookAtHand", "()V"⟩, 15) := ⟨⟨by decide +kernel, by decide +kernel⟩, List.mem_of_getElem? (i := 359) (by decide +kernel), List.mem_of_getElem? (i := 542) (by decide +kernel), List.mem_of_getElem? (i := 543) (by decide +kernel)⟩
def lw_privs_2 : List (MethodName × Nat) := [(⟨"SessionTablesModel", "tooFew", "(II)Z"⟩, 15), (⟨"SessionTablesModel", "add", "(II)V"⟩, 15), (⟨"SessionTablesModel", "clearSector", "(II)V"⟩, 15), (⟨"SessionTablesModel", "writeSector", "()Z"⟩, 15), (⟨"SessionTablesModel", "checkOf", "(I)I"⟩, 15), (⟨"SessionTablesModel", "readBack", "()V"⟩, 15), (⟨"SessionTablesModel", "newest", "()I"⟩, 15), (⟨"SessionTablesModel", "isValid", "(I)Z"⟩, 15), (⟨"SessionTablesModel", "isGood", "(I)Z"⟩, 15), (⟨"SessionTablesModel", "lookAtTable", "(I)V"⟩, 15), (⟨"SessionTablesModel", "take", "(II)V"⟩, 15), (⟨"SessionTablesModel", "isBelow", "(II)Z"⟩, 15), (⟨"SessionTablesModel", "writeEntry", "(I)Z"⟩, 15), (⟨"SessionTablesModel", "sees", "(III)Z"⟩, 15), (⟨"SessionTablesModel", "look", "(I)Z"⟩, 15), (⟨"SessionTablesModel", "lookAtHand", "()V"⟩, 15)]
theorem lw_r2 : ∀ q ∈ lw_privs_2, lw_okq q := List.forall_mem_cons.mpr ⟨lw_p16, List.forall_mem_cons.mpr ⟨lw_p17, List.forall_mem_cons.mpr ⟨lw_p18, List.forall_mem_cons.mpr ⟨lw_p19, List.forall_mem_cons.mpr ⟨lw_p20, List.forall_mem_cons.mpr ⟨lw_p21, List.forall_mem_cons.mpr ⟨lw_p22, List.forall_mem_cons.mpr ⟨lw_p23, List.forall_mem_cons.mpr ⟨lw_p24, List.forall_mem_cons.mpr ⟨lw_p25, List.forall_mem_cons.mpr ⟨lw_p26, List.forall_mem_cons.mpr ⟨lw_p27, List.forall_mem_cons.mpr ⟨lw_p28, List.forall_mem_cons.mpr ⟨lw_p29, List.forall_mem_cons.mpr ⟨lw_p30, List.forall_mem_cons.mpr ⟨lw_p31, fun _ h => absurd h List.not_mem_nil⟩⟩⟩⟩⟩⟩⟩⟩⟩⟩⟩⟩⟩⟩⟩⟩
theorem lw_p32 : lw_okq (⟨"SessionTablesModel", "tableAt", "(I)I"⟩, 15) := ⟨⟨by decide +kernel, by decide +kernel⟩, List.mem_of_getElem? (i := 359) (by decide +kernel), List.mem_of_getElem? (i := 546) (by decide +kernel), List.mem_of_getElem? (i := 547) (by decide +kernel)⟩
def lw_privs_3 : List (MethodName × Nat) := [(⟨"SessionTablesModel", "tableAt", "(I)I"⟩, 15)]
theorem lw_r3 : ∀ q ∈ lw_privs_3, lw_okq q := List.forall_mem_cons.mpr ⟨lw_p32, fun _ h => absurd h List.not_mem_nil⟩
def lw_privs : List (MethodName × Nat) := lw_privs_1 ++ (lw_privs_2 ++ (lw_privs_3))
def lw_tbl : List Cond := k2_sels lw_privs ++ tables_1
theorem lw_privs_ok : ∀ q ∈ lw_privs, lw_okq q := by
  show ∀ q ∈ lw_privs_1 ++ (lw_privs_2 ++ (lw_privs_3)), lw_okq q
  exact List.forall_mem_append.mpr ⟨lw_r1, List.forall_mem_append.mpr ⟨lw_r2, lw_r3⟩⟩
end
section
/- names of the classes, their fields, the methods; written by wip/whole/tools/names.py out of the task's own texts -/
def F_M : u_T := fun k => match k with
  | 0 => ("SessionTables$Medium", "sectors", "I", true)
  | 1 => ("SessionTables$Medium", "words", "[I", true)
  | 2 => ("SessionTables$Medium", "checks", "[I", true)
  | 3 => ("SessionTables$Medium", "written", "I", false)
  | _ => ("SessionTables$Medium", "stop", "I", false)
def fy_M : Nat → FieldType := fun k => match k with
  | 0 => .int
  | 1 => .array .int
  | 2 => .array .int
  | 3 => .int
  | _ => .int
theorem fn_M : ∀ a, a < 5 → ∀ b, b < 5 → a ≠ b → (F_M a).2.1 ≠ (F_M b).2.1 := by decide +kernel
theorem fy_M_ok : ∀ k, k < 5 → parseFieldDescriptor (F_M k).2.2.1 = some (fy_M k) := by decide +kernel
def F_N : u_T := fun k => match k with
  | 0 => ("SessionTables$Node", "list", "[I", true)
  | 1 => ("SessionTables$Node", "type", "I", false)
  | 2 => ("SessionTables$Node", "count", "I", false)
  | 3 => ("SessionTables$Node", "entry", "I", false)
  | _ => ("SessionTables$Node", "isChanged", "Z", false)
def fy_N : Nat → FieldType := fun k => match k with
  | 0 => .array .int
  | 1 => .int
  | 2 => .int
  | 3 => .int
  | _ => .boolean
theorem fn_N : ∀ a, a < 5 → ∀ b, b < 5 → a ≠ b → (F_N a).2.1 ≠ (F_N b).2.1 := by decide +kernel
theorem fy_N_ok : ∀ k, k < 5 → parseFieldDescriptor (F_N k).2.2.1 = some (fy_N k) := by decide +kernel
def F_T : u_T := fun k => match k with
  | _ => ("SessionTables$Tree", "nodes", "[LSessionTables$Node;", true)
def fy_T : Nat → FieldType := fun k => match k with
  | _ => .array (.object "SessionTables$Node")
theorem fn_T : ∀ a, a < 1 → ∀ b, b < 1 → a ≠ b → (F_T a).2.1 ≠ (F_T b).2.1 := by decide +kernel
theorem fy_T_ok : ∀ k, k < 1 → parseFieldDescriptor (F_T k).2.2.1 = some (fy_T k) := by decide +kernel
def F_S : u_T := fun k => match k with
  | 0 => ("SessionTables", "medium", "LSessionTables$Medium;", true)
  | 1 => ("SessionTables", "tree", "LSessionTables$Tree;", true)
  | _ => ("SessionTables", "past", "LSessionTables$Tree;", true)
def fy_S : Nat → FieldType := fun k => match k with
  | 0 => .object "SessionTables$Medium"
  | 1 => .object "SessionTables$Tree"
  | _ => .object "SessionTables$Tree"
theorem fn_S : ∀ a, a < 3 → ∀ b, b < 3 → a ≠ b → (F_S a).2.1 ≠ (F_S b).2.1 := by decide +kernel
theorem fy_S_ok : ∀ k, k < 3 → parseFieldDescriptor (F_S k).2.2.1 = some (fy_S k) := by decide +kernel
def F_R : u_T := fun k => match k with
  | 0 => ("SessionTablesModel", "word", "[I", true)
  | 1 => ("SessionTablesModel", "sectors", "I", false)
  | 2 => ("SessionTablesModel", "written", "I", false)
  | 3 => ("SessionTablesModel", "armed", "Z", false)
  | 4 => ("SessionTablesModel", "until", "I", false)
  | 5 => ("SessionTablesModel", "kind", "[I", true)
  | 6 => ("SessionTablesModel", "count", "[I", true)
  | 7 => ("SessionTablesModel", "items", "[I", true)
  | 8 => ("SessionTablesModel", "changed", "[Z", true)
  | 9 => ("SessionTablesModel", "entry", "[I", true)
  | 10 => ("SessionTablesModel", "seenKind", "[I", true)
  | 11 => ("SessionTablesModel", "seenCount", "[I", true)
  | 12 => ("SessionTablesModel", "seenItems", "[I", true)
  | 13 => ("SessionTablesModel", "sector", "[I", true)
  | _ => ("SessionTablesModel", "below", "[Z", true)
def fy_R : Nat → FieldType := fun k => match k with
  | 0 => .array .int
  | 1 => .int
  | 2 => .int
  | 3 => .boolean
  | 4 => .int
  | 5 => .array .int
  | 6 => .array .int
  | 7 => .array .int
  | 8 => .array .boolean
  | 9 => .array .int
  | 10 => .array .int
  | 11 => .array .int
  | 12 => .array .int
  | 13 => .array .int
  | _ => .array .boolean
theorem fn_R : ∀ a, a < 15 → ∀ b, b < 15 → a ≠ b → (F_R a).2.1 ≠ (F_R b).2.1 := by decide +kernel
theorem fy_R_ok : ∀ k, k < 15 → parseFieldDescriptor (F_R k).2.2.1 = some (fy_R k) := by decide +kernel
abbrev aw_cl : List vw_C := [("SessionTables$Medium", F_M, 5), ("SessionTables$Node", F_N, 5), ("SessionTables$Tree", F_T, 1), ("SessionTables", F_S, 3), ("SessionTablesModel", F_R, 15)]
def aw_nf (c : Nat) : Nat := match c with
  | 0 => 5
  | 1 => 5
  | 2 => 1
  | 3 => 3
  | _ => 15
def aw_rf (c k : Nat) : Bool := match c with
  | 0 => !(k == 0 || k == 3 || k == 4)
  | 1 => !(k == 1 || k == 2 || k == 3 || k == 4)
  | 2 => true
  | 3 => true
  | _ => !(k == 1 || k == 2 || k == 3 || k == 4)
def aw_Nd : String := "SessionTables$Node"
def aw_Ts : List Cond := lw_tbl.filter goodWord
theorem aw_mem {w : Cond} (h : w ∈ lw_tbl) (g : goodWord w = true) : w ∈ aw_Ts := List.mem_filter.mpr ⟨h, g⟩
theorem uw_M : ∀ w ∈ u_ws "SessionTables$Medium" F_M 5, w ∈ aw_Ts := by decide +kernel
theorem uw_N : ∀ w ∈ u_ws "SessionTables$Node" F_N 5, w ∈ aw_Ts := by decide +kernel
theorem uw_T : ∀ w ∈ u_ws "SessionTables$Tree" F_T 1, w ∈ aw_Ts := by decide +kernel
theorem uw_S : ∀ w ∈ u_ws "SessionTables" F_S 3, w ∈ aw_Ts := by decide +kernel
theorem uw_R : ∀ w ∈ u_ws "SessionTablesModel" F_R 15, w ∈ aw_Ts := by decide +kernel
/- the places: 0 the class, 1 its medium, 2 words, 3 checks, 4 tree, 5 its nodes, 6 + 2i node i, 7 + 2i its list; 22 past, 23 .. the same; 40 the reference, 41 .. its arrays.
   A place's shape: (0, n) ints, (1, n) booleans, (2, n) nodes, (c + 3, 0) an object of class c -/
def aw_sh (n p : Nat) : Nat × Nat :=
  if p = 0 then (6, 0) else if p = 1 then (3, 0) else if p = 2 then (0, n * 16) else if p = 3 then (0, n)
  else if p = 4 then (5, 0) else if p = 5 then (2, 8) else if p = 22 then (5, 0) else if p = 23 then (2, 8)
  else if p < 40 then (if p % 2 = 0 then (4, 0) else (0, 10))
  else if p = 40 then (7, 0)
  else if p = 41 then (0, 2048)
  else if p = 42 then (0, 8)
  else if p = 43 then (0, 8)
  else if p = 44 then (0, 80)
  else if p = 45 then (1, 8)
  else if p = 46 then (0, 8)
  else if p = 47 then (0, 8)
  else if p = 48 then (0, 8)
  else if p = 49 then (0, 80)
  else if p = 50 then (0, 16)
  else (1, 8)
def aw_rM (p k : Nat) : Option Nat :=
  if p = 0 then (match k with | 0 => some 1 | 1 => some 4 | _ => some 22)
  else if p = 1 then (match k with | 1 => some 2 | _ => some 3)
  else if p = 4 then some 5 else if p = 5 then some (6 + 2 * k) else if p = 22 then some 23 else if p = 23 then some (24 + 2 * k)
  else if p < 40 then some (p + 1)
  else if p = 40 then (match k with | 0 => some 41 | 5 => some 42 | 6 => some 43 | 7 => some 44 | 8 => some 45 | 9 => some 46 | 10 => some 47 | 11 => some 48 | 12 => some 49 | 13 => some 50 | 14 => some 51 | _ => none)
  else none
end
section
/- THE ABSTRACT MACHINE over the kit. A world is a fixed number of cells at places 0, 1, 2 ..; G says how many, how many sectors,
   at which addresses, under which class numbers; its ints are a function h (place, slot); its references never change.
   aw_X M G nL pc ls st h: the machine at pc with locals ls, stack st, ints h comes to its end. Each row ax_.. is one instruction. -/
abbrev aw_V : Type := Option Nat ⊕ Int32
abbrev aw_H : Type := Nat → Nat → Int32
abbrev aw_M : Type := Program × Launch × Env × Room × State × MethodId × Array Value × List Frame × Method × Code × Nat × Nat × (State → Prop)
abbrev aw_G : Type := Nat × Nat × (Nat → Nat) × (Nat → ClassId) × va_G × (Nat → Prop)
abbrev aw_N (G : aw_G) : Nat := G.1
abbrev aw_n (G : aw_G) : Nat := G.2.1
abbrev aw_ad (G : aw_G) : Nat → Nat := G.2.2.1
abbrev aw_ca (G : aw_G) : Nat → ClassId := G.2.2.2.1
abbrev aw_D (G : aw_G) : va_G := G.2.2.2.2.1
abbrev aw_A (G : aw_G) : Nat → Prop := G.2.2.2.2.2
def aw_c (ad : Nat → Nat) (v : aw_V) : Value := match v with
  | .inl r => va_rf (r.map ad)
  | .inr x => .int x
def aw_fs (ad : Nat → Nat) (c : Nat) (r : Nat → Option Nat) (f : Nat → Int32) : List Value := (List.range (aw_nf c)).map (fun k => if aw_rf c k = true then va_rf ((r k).map ad) else .int (f k))
def aw_cell (ad : Nat → Nat) (ca : Nat → ClassId) (q : Nat × Nat) (r : Nat → Option Nat) (f : Nat → Int32) : va_E := match q.1 with
  | 0 => .inl (ca 0, q.2, .inl f)
  | 1 => .inl (ca 1, q.2, .inl f)
  | 2 => .inl (ca 2, q.2, .inr (.inr (.inr (.inr (fun j => (r j).map ad)))))
  | c + 3 => .inr (c, aw_fs ad c r f)
def aw_e (G : aw_G) (h : aw_H) (p : Nat) : va_E := aw_cell (aw_ad G) (aw_ca G) (aw_sh (aw_n G) p) (aw_rM p) (h p)
def aw_w (G : aw_G) (h : aw_H) : va_W := (List.range (aw_N G)).map (fun p => (aw_ad G p, aw_e G h p))
def aw_tys (G : aw_G) : List (ClassId × FieldType) := [(aw_ca G 0, .int), (aw_ca G 1, .boolean), (aw_ca G 2, .object aw_Nd)]
def aw_u (h : aw_H) (p k : Nat) (x : Int32) : aw_H := fun p' => if p' = p then upd (h p) k x else h p'
def aw_ok (G : aw_G) : Prop := (∀ i j, i < aw_N G → j < aw_N G → aw_ad G i = aw_ad G j → i = j) ∧ ∀ i, i < aw_N G → aw_A G (aw_ad G i)
def aw_l (ad : Nat → Nat) (nL : Nat) (la : Array Slot) (ls : List (Option aw_V)) : Prop := la.size = nL ∧ lv_wf la ∧ ∀ (i : Nat) (v : aw_V), ls[i]? = some (some v) → la[i]? = some (.val (aw_c ad v))
def aw_X (M : aw_M) (G : aw_G) (nL pc : Nat) (ls : List (Option aw_V)) (st : List aw_V) (h : aw_H) : Prop := match M with
  | (p, l, e, R, s, m, args, below, meth, c, cells, slots, Q) => ∀ (H : Heap) (locs : List Loc) (la : Array Slot), va_P (aw_D G) aw_cl (aw_w G h) H → va_S (aw_A G) s.heap H locs → aw_l (aw_ad G) nL la ls → W p l e R s m args below meth c H locs cells slots Q (F0 m pc la (st.map (aw_c (aw_ad G))))
def aw_B (M : aw_M) (G : aw_G) (cc : ByteArray) (nL : Nat) (own : String) (d : Nat) : Prop := match M with
  | (p, _, _, R, s, m, args, _, _, c, cells, slots, _) => p.tables.exec = Jvm.exec ∧ c.code = cc ∧ c.maxLocals = nL ∧ s.vm.findClass own = some m.cls ∧ (∀ w ∈ aw_Ts, w.before args s = true) ∧ va_K (aw_D G) aw_cl (aw_tys G) s ∧ aw_ok G ∧ d ≤ R.frames ∧ 40 * d ≤ R.locals ∧ cells ≤ R.cells ∧ slots ≤ R.slots
def aw_Q (G : aw_G) (post : Option aw_V → aw_H → Prop) : Array Value → State → Outcome → State → Prop := fun _ st oc t =>
  (∃ (r : Option aw_V) (h' : aw_H), oc = .returned (r.map (aw_c (aw_ad G))) ∧ post r h' ∧ va_P (aw_D G) aw_cl (aw_w G h') t.heap ∧ va_K (aw_D G) aw_cl (aw_tys G) t) ∧ va_F (aw_A G) st t
def aw_E (M : aw_M) (G : aw_G) (ret : Option FieldType) (post : Option aw_V → aw_H → Prop) : Prop := match M with
  | (_, _, _, _, s, _, args, below, meth, _, cells, slots, Q) => meth.sig.returnType = ret ∧ meth.locks = false ∧ Q = MQ below (aw_Q G post) args s cells slots (aw_A G)
def aw_rm (d : Nat) : Room := { frames := d, cells := 0, slots := 0, locals := 40 * d }
abbrev aw_Y : Type := MethodName × ByteArray × Nat × Option FieldType
def aw_ws (y : aw_Y) : List Cond := .code y.1 y.2.1 y.2.2.1 y.2.2.2 :: aw_Ts
def aw_Pc (G : aw_G) (args : List aw_V) (h : aw_H) : Array Value → State → Prop := va_Pc (args.map (aw_c (aw_ad G))) (fun U => va_P (aw_D G) aw_cl (aw_w G h) U.heap ∧ va_K (aw_D G) aw_cl (aw_tys G) U)
/-- method y's contract, calls at most d deep -/
def aw_C (l : Launch) (G : aw_G) (d : Nat) (y : aw_Y) (args : List aw_V) (h : aw_H) (post : Option aw_V → aw_H → Prop) : Prop :=
  Met l y.1 (aw_ws y) (aw_rm d) (aw_Pc G args h) (aw_Q G post) 0 0 (aw_A G)
theorem aw_cat (ad : Nat → Nat) (v : aw_V) : (aw_c ad v).category = 1 := by
  rcases v with (_ | p) | x <;> rfl
theorem aw_cats (ad : Nat → Nat) : ∀ st : List aw_V, ((st.map (aw_c ad)).map fun v => v.category).sum = st.length
  | [] => rfl
  | v :: st => by
    have h := aw_cats ad st
    simp only [List.map_cons, List.sum_cons, List.length_cons, aw_cat] at h ⊢
    omega
theorem aw_w_get {G : aw_G} {h : aw_H} {p : Nat} (hp : p < aw_N G) : (aw_w G h)[p]? = some (aw_ad G p, aw_e G h p) := by
  unfold aw_w
  rw [List.getElem?_map, List.getElem?_range hp]
  rfl
theorem aw_w_set {G : aw_G} {h h' : aw_H} {p : Nat} {e : va_E} (he : e = aw_e G h' p) (ho : ∀ q, q ≠ p → aw_e G h' q = aw_e G h q) : (aw_w G h).set p (aw_ad G p, e) = aw_w G h' := by
  apply List.ext_getElem?
  intro i
  by_cases hi : i < aw_N G
  · by_cases hip : i = p
    · subst hip
      have hl : i < (aw_w G h).length := by unfold aw_w; rw [List.length_map, List.length_range]; exact hi
      rw [List.getElem?_set_self hl, aw_w_get hi, he]
    · rw [List.getElem?_set_ne (Ne.symm hip), aw_w_get hi, aw_w_get hi, ho i hip]
  · have h1 : ∀ g : aw_H, (aw_w G g).length = aw_N G := fun g => by unfold aw_w; rw [List.length_map, List.length_range]
    rw [List.getElem?_eq_none (by rw [List.length_set, h1]; omega), List.getElem?_eq_none (by rw [h1]; omega)]
theorem aw_wD {G : aw_G} (hG : aw_ok G) (h : aw_H) : va_D (aw_A G) (aw_w G h) := by
  have key : ∀ (i : Nat) (q : Nat × va_E), (aw_w G h)[i]? = some q → i < aw_N G ∧ q.1 = aw_ad G i := by
    intro i q hq
    have hi : i < (aw_w G h).length := (List.getElem?_eq_some_iff.mp hq).1
    have hi : i < aw_N G := by unfold aw_w at hi; rw [List.length_map, List.length_range] at hi; exact hi
    rw [aw_w_get hi] at hq
    cases hq
    exact ⟨hi, rfl⟩
  refine ⟨fun i j p q hp hq hpq => ?_, fun k q hq => ?_⟩
  · obtain ⟨h1, h2⟩ := key i p hp
    obtain ⟨h3, h4⟩ := key j q hq
    exact hG.1 i j h1 h3 (by rw [← h2, ← h4]; exact hpq)
  · obtain ⟨h1, h2⟩ := key k q hq
    rw [h2]
    exact hG.2 k h1
theorem aw_u_ne {h : aw_H} {p k q : Nat} {x : Int32} (hq : q ≠ p) : aw_u h p k x q = h q := if_neg hq
theorem aw_u_eq {h : aw_H} {p k : Nat} {x : Int32} : aw_u h p k x p = upd (h p) k x := if_pos rfl
theorem aw_e_ne {G : aw_G} {h : aw_H} {p k q : Nat} {x : Int32} (hq : q ≠ p) : aw_e G (aw_u h p k x) q = aw_e G h q := by
  unfold aw_e
  rw [aw_u_ne hq]
def aw_ll (ad : Nat → Nat) (ls : List (Option aw_V)) : List (Nat × Value) := (List.range ls.length).filterMap (fun i => match ls[i]? with
  | some (some v) => some (i, aw_c ad v)
  | _ => none)
theorem aw_ll_mem {ad : Nat → Nat} {ls : List (Option aw_V)} {i : Nat} {v : aw_V} (h : ls[i]? = some (some v)) : (i, aw_c ad v) ∈ aw_ll ad ls := by
  unfold aw_ll
  rw [List.mem_filterMap]
  exact ⟨i, List.mem_range.mpr (List.getElem?_eq_some_iff.mp h).1, by rw [h]⟩
theorem aw_l.has {ad : Nat → Nat} {nL : Nat} {la : Array Slot} {ls : List (Option aw_V)} (h : aw_l ad nL la ls) : lv_has la nL (aw_ll ad ls) := by
  refine ⟨h.1, h.2.1, fun q hq => ?_⟩
  unfold aw_ll at hq
  rw [List.mem_filterMap] at hq
  obtain ⟨i, -, hi⟩ := hq
  split at hi
  · rename_i v hv
    cases hi
    exact h.2.2 _ _ hv
  · cases hi
theorem aw_l.st {ad : Nat → Nat} {nL i : Nat} {la' : Array Slot} {ls : List (Option aw_V)} {v : aw_V} (h : lv_has la' nL ((i, aw_c ad v) :: (aw_ll ad ls).filter (fun q => !(q.1 == i) && !(q.1 + 1 == i && q.2.category == 2)))) : aw_l ad nL la' (ls.set i (some v)) := by
  refine ⟨h.1, h.2.1, fun j w hw => ?_⟩
  by_cases hj : j = i
  · subst hj
    have hl : j < (ls.set j (some v)).length := (List.getElem?_eq_some_iff.mp hw).1
    rw [List.length_set] at hl
    rw [List.getElem?_set_self hl] at hw
    cases hw
    exact h.2.2 (j, aw_c ad v) List.mem_cons_self
  · rw [List.getElem?_set_ne (Ne.symm hj)] at hw
    refine h.2.2 (j, aw_c ad w) (List.mem_cons_of_mem _ (List.mem_filter.mpr ⟨aw_ll_mem hw, ?_⟩))
    simp [hj, aw_cat]
theorem aw_l.less {ad : Nat → Nat} {nL : Nat} {la : Array Slot} {ls ls' : List (Option aw_V)} (h : aw_l ad nL la ls) (hl : ∀ (i : Nat) (v : aw_V), ls'[i]? = some (some v) → ls[i]? = some (some v)) : aw_l ad nL la ls' := ⟨h.1, h.2.1, fun i v hv => h.2.2 i v (hl i v hv)⟩
section AX
variable {M : aw_M} {G : aw_G} {cc : ByteArray} {nL d pc q : Nat} {own : String} {ls : List (Option aw_V)} {st : List aw_V} {h : aw_H}
/-- fewer locals are known -/
theorem ax_less {ls' : List (Option aw_V)} (hl : ∀ (i : Nat) (v : aw_V), ls'[i]? = some (some v) → ls[i]? = some (some v)) (k : aw_X M G nL pc ls' st h) : aw_X M G nL pc ls st h := by
  obtain ⟨p, l, e, R, s, m, args, below, meth, c, cells, slots, Q⟩ := M
  intro H locs la hP hS hla
  exact k H locs la hP hS (hla.less hl)
theorem ax_iconst (B : aw_B M G cc nL own d) {n : Int} {v : Int32} (hd : decode cc pc = .ok (.iconst n, 1)) (hv : Int32.ofInt n = v) (hq : pc + 1 = q) (k : aw_X M G nL q ls (.inr v :: st) h) : aw_X M G nL pc ls st h := by
  obtain ⟨p, l, e, R, s, m, args, below, meth, c, cells, slots, Q⟩ := M
  subst hq
  intro H locs la hP hS hl
  exact lv_iconst B.1 B.2.1 hd hv (k H locs la hP hS hl)
theorem ax_bipush (B : aw_B M G cc nL own d) {n : Int} {v : Int32} (hd : decode cc pc = .ok (.bipush n, 2)) (hv : (Int8.ofInt n).toInt32 = v) (hq : pc + 2 = q) (k : aw_X M G nL q ls (.inr v :: st) h) : aw_X M G nL pc ls st h := by
  obtain ⟨p, l, e, R, s, m, args, below, meth, c, cells, slots, Q⟩ := M
  subst hq
  intro H locs la hP hS hl
  exact lv_bipush B.1 B.2.1 hd hv (k H locs la hP hS hl)
theorem ax_sipush (B : aw_B M G cc nL own d) {n : Int} {v : Int32} (hd : decode cc pc = .ok (.sipush n, 3)) (hv : (Int16.ofInt n).toInt32 = v) (hq : pc + 3 = q) (k : aw_X M G nL q ls (.inr v :: st) h) : aw_X M G nL pc ls st h := by
  obtain ⟨p, l, e, R, s, m, args, below, meth, c, cells, slots, Q⟩ := M
  subst hq
  intro H locs la hP hS hl
  exact lv_sipush B.1 B.2.1 hd hv (k H locs la hP hS hl)
theorem ax_ldc (B : aw_B M G cc nL own d) {ix : Nat} {v : Int32} (hw : Cond.constant own ix v ∈ aw_Ts) (hd : decode cc pc = .ok (.ldc ix, 2)) (hq : pc + 2 = q) (k : aw_X M G nL q ls (.inr v :: st) h) : aw_X M G nL pc ls st h := by
  obtain ⟨p, l, e, R, s, m, args, below, meth, c, cells, slots, Q⟩ := M
  subst hq
  intro H locs la hP hS hl
  exact lv_ldc B.1 B.2.1 B.2.2.2.1 (B.2.2.2.2.1 _ hw) hd (k H locs la hP hS hl)
theorem ax_null (B : aw_B M G cc nL own d) (hd : decode cc pc = .ok (.aconst_null, 1)) (hq : pc + 1 = q) (k : aw_X M G nL q ls (.inl none :: st) h) : aw_X M G nL pc ls st h := by
  obtain ⟨p, l, e, R, s, m, args, below, meth, c, cells, slots, Q⟩ := M
  subst hq
  intro H locs la hP hS hl
  exact lv_null B.1 B.2.1 hd (k H locs la hP hS hl)
theorem ax_iload_n (B : aw_B M G cc nL own d) {j : Fin 4} {i : Nat} {x : Int32} (hd : decode cc pc = .ok (.iload_n j, 1)) (hi : (j : Nat) = i) (hx : ls[i]? = some (some (.inr x))) (hq : pc + 1 = q) (k : aw_X M G nL q ls (.inr x :: st) h) : aw_X M G nL pc ls st h := by
  obtain ⟨p, l, e, R, s, m, args, below, meth, c, cells, slots, Q⟩ := M
  subst hq
  intro H locs la hP hS hl
  exact lv_iload_n B.1 B.2.1 hd hi (hl.2.2 _ _ hx) (k H locs la hP hS hl)
theorem ax_iload (B : aw_B M G cc nL own d) {i : Nat} {x : Int32} (hd : decode cc pc = .ok (.iload i, 2)) (hx : ls[i]? = some (some (.inr x))) (hq : pc + 2 = q) (k : aw_X M G nL q ls (.inr x :: st) h) : aw_X M G nL pc ls st h := by
  obtain ⟨p, l, e, R, s, m, args, below, meth, c, cells, slots, Q⟩ := M
  subst hq
  intro H locs la hP hS hl
  exact lv_iload B.1 B.2.1 hd (hl.2.2 _ _ hx) (k H locs la hP hS hl)
theorem ax_aload_n (B : aw_B M G cc nL own d) {j : Fin 4} {i : Nat} {r : Option Nat} (hd : decode cc pc = .ok (.aload_n j, 1)) (hi : (j : Nat) = i) (hx : ls[i]? = some (some (.inl r))) (hq : pc + 1 = q) (k : aw_X M G nL q ls (.inl r :: st) h) : aw_X M G nL pc ls st h := by
  obtain ⟨p, l, e, R, s, m, args, below, meth, c, cells, slots, Q⟩ := M
  subst hq
  intro H locs la hP hS hl
  have h1 := hl.2.2 _ _ hx
  cases r with
  | none => exact lv_aload_nN B.1 B.2.1 hd hi h1 (k H locs la hP hS hl)
  | some a => exact lv_aload_n B.1 B.2.1 hd hi h1 (k H locs la hP hS hl)
theorem ax_aload (B : aw_B M G cc nL own d) {i : Nat} {r : Option Nat} (hd : decode cc pc = .ok (.aload i, 2)) (hx : ls[i]? = some (some (.inl r))) (hq : pc + 2 = q) (k : aw_X M G nL q ls (.inl r :: st) h) : aw_X M G nL pc ls st h := by
  obtain ⟨p, l, e, R, s, m, args, below, meth, c, cells, slots, Q⟩ := M
  subst hq
  intro H locs la hP hS hl
  have h1 := hl.2.2 _ _ hx
  cases r with
  | none => exact lv_aloadN B.1 B.2.1 hd h1 (k H locs la hP hS hl)
  | some a => exact lv_aload B.1 B.2.1 hd h1 (k H locs la hP hS hl)
theorem ax_istore_n (B : aw_B M G cc nL own d) {j : Fin 4} {i : Nat} {x : Int32} (hd : decode cc pc = .ok (.istore_n j, 1)) (hi : (j : Nat) = i) (hn : i < nL) (hq : pc + 1 = q) (k : aw_X M G nL q (ls.set i (some (.inr x))) st h) : aw_X M G nL pc ls (.inr x :: st) h := by
  obtain ⟨p, l, e, R, s, m, args, below, meth, c, cells, slots, Q⟩ := M
  subst hq
  intro H locs la hP hS hl
  exact lv_istore_n B.1 B.2.1 hd hi hl.has hn rfl (fun la' h' => k H locs la' hP hS (aw_l.st (v := .inr x) h'))
theorem ax_istore (B : aw_B M G cc nL own d) {i : Nat} {x : Int32} (hd : decode cc pc = .ok (.istore i, 2)) (hn : i < nL) (hq : pc + 2 = q) (k : aw_X M G nL q (ls.set i (some (.inr x))) st h) : aw_X M G nL pc ls (.inr x :: st) h := by
  obtain ⟨p, l, e, R, s, m, args, below, meth, c, cells, slots, Q⟩ := M
  subst hq
  intro H locs la hP hS hl
  exact lv_istore B.1 B.2.1 hd hl.has hn rfl (fun la' h' => k H locs la' hP hS (aw_l.st (v := .inr x) h'))
theorem ax_astore_n (B : aw_B M G cc nL own d) {j : Fin 4} {i : Nat} {r : Option Nat} (hd : decode cc pc = .ok (.astore_n j, 1)) (hi : (j : Nat) = i) (hn : i < nL) (hq : pc + 1 = q) (k : aw_X M G nL q (ls.set i (some (.inl r))) st h) : aw_X M G nL pc ls (.inl r :: st) h := by
  obtain ⟨p, l, e, R, s, m, args, below, meth, c, cells, slots, Q⟩ := M
  subst hq
  intro H locs la hP hS hl
  cases r with
  | none => exact lv_astore_nN B.1 B.2.1 hd hi hl.has hn rfl (fun la' h' => k H locs la' hP hS (aw_l.st (v := .inl none) h'))
  | some a => exact lv_astore_n B.1 B.2.1 hd hi hl.has hn rfl (fun la' h' => k H locs la' hP hS (aw_l.st (v := .inl (some a)) h'))
theorem ax_astore (B : aw_B M G cc nL own d) {i : Nat} {r : Option Nat} (hd : decode cc pc = .ok (.astore i, 2)) (hn : i < nL) (hq : pc + 2 = q) (k : aw_X M G nL q (ls.set i (some (.inl r))) st h) : aw_X M G nL pc ls (.inl r :: st) h := by
  obtain ⟨p, l, e, R, s, m, args, below, meth, c, cells, slots, Q⟩ := M
  subst hq
  intro H locs la hP hS hl
  cases r with
  | none => exact lv_astoreN B.1 B.2.1 hd hl.has hn rfl (fun la' h' => k H locs la' hP hS (aw_l.st (v := .inl none) h'))
  | some a => exact lv_astore B.1 B.2.1 hd hl.has hn rfl (fun la' h' => k H locs la' hP hS (aw_l.st (v := .inl (some a)) h'))
theorem ax_iinc (B : aw_B M G cc nL own d) {i : Nat} {n : Int} {x v : Int32} (hd : decode cc pc = .ok (.iinc i n, 3)) (hx : ls[i]? = some (some (.inr x))) (hv : x + Int32.ofInt n = v) (hn : i < nL) (hq : pc + 3 = q) (k : aw_X M G nL q (ls.set i (some (.inr v))) st h) : aw_X M G nL pc ls st h := by
  obtain ⟨p, l, e, R, s, m, args, below, meth, c, cells, slots, Q⟩ := M
  subst hq
  intro H locs la hP hS hl
  obtain ⟨j, hj⟩ := List.getElem?_of_mem (aw_ll_mem (ad := aw_ad G) hx)
  exact lv_iinc B.1 B.2.1 hd hl.has hj hv hn rfl (fun la' h' => k H locs la' hP hS (aw_l.st (v := .inr v) h'))
theorem ax_dup (B : aw_B M G cc nL own d) {v : aw_V} (hd : decode cc pc = .ok (.dup, 1)) (hq : pc + 1 = q) (k : aw_X M G nL q ls (v :: v :: st) h) : aw_X M G nL pc ls (v :: st) h := by
  obtain ⟨p, l, e, R, s, m, args, below, meth, c, cells, slots, Q⟩ := M
  subst hq
  intro H locs la hP hS hl
  exact lv_dup B.1 B.2.1 hd (aw_cat _ _) (k H locs la hP hS hl)
theorem ax_dup2 (B : aw_B M G cc nL own d) {v w : aw_V} (hd : decode cc pc = .ok (.dup2, 1)) (hq : pc + 1 = q) (k : aw_X M G nL q ls (v :: w :: v :: w :: st) h) : aw_X M G nL pc ls (v :: w :: st) h := by
  obtain ⟨p, l, e, R, s, m, args, below, meth, c, cells, slots, Q⟩ := M
  subst hq
  intro H locs la hP hS hl
  exact lv_dup2_11 B.1 B.2.1 hd (aw_cat _ _) (aw_cat _ _) (k H locs la hP hS hl)
theorem ax_pop (B : aw_B M G cc nL own d) {v : aw_V} (hd : decode cc pc = .ok (.pop, 1)) (hq : pc + 1 = q) (k : aw_X M G nL q ls st h) : aw_X M G nL pc ls (v :: st) h := by
  obtain ⟨p, l, e, R, s, m, args, below, meth, c, cells, slots, Q⟩ := M
  subst hq
  intro H locs la hP hS hl
  exact lv_pop B.1 B.2.1 hd (aw_cat _ _) (k H locs la hP hS hl)
theorem ax_goto (B : aw_B M G cc nL own d) {off : Int} (hd : decode cc pc = .ok (.goto off, 3)) (hq : (pc : Int) + off = (q : Int)) (k : aw_X M G nL q ls st h) : aw_X M G nL pc ls st h := by
  obtain ⟨p, l, e, R, s, m, args, below, meth, c, cells, slots, Q⟩ := M
  intro H locs la hP hS hl
  exact lv_goto B.1 B.2.1 hd hq (k H locs la hP hS hl)
theorem ax_ifnull (B : aw_B M G cc nL own d) {off : Int} {r : Option Nat} {q2 : Nat} (hd : decode cc pc = .ok (.ifnull off, 3)) (hq : (pc : Int) + off = (q : Int)) (hq2 : pc + 3 = q2) (kt : r = none → aw_X M G nL q ls st h) (kf : ∀ a, r = some a → aw_X M G nL q2 ls st h) : aw_X M G nL pc ls (.inl r :: st) h := by
  obtain ⟨p, l, e, R, s, m, args, below, meth, c, cells, slots, Q⟩ := M
  subst hq2
  intro H locs la hP hS hl
  cases r with
  | none => exact lv_ifnullN B.1 B.2.1 hd hq (kt rfl H locs la hP hS hl)
  | some a => exact lv_ifnull B.1 B.2.1 hd (kf a rfl H locs la hP hS hl)
theorem ax_ifnonnull (B : aw_B M G cc nL own d) {off : Int} {r : Option Nat} {q2 : Nat} (hd : decode cc pc = .ok (.ifnonnull off, 3)) (hq : (pc : Int) + off = (q : Int)) (hq2 : pc + 3 = q2) (kt : ∀ a, r = some a → aw_X M G nL q ls st h) (kf : r = none → aw_X M G nL q2 ls st h) : aw_X M G nL pc ls (.inl r :: st) h := by
  obtain ⟨p, l, e, R, s, m, args, below, meth, c, cells, slots, Q⟩ := M
  subst hq2
  intro H locs la hP hS hl
  cases r with
  | none => exact lv_ifnonnullN B.1 B.2.1 hd (kf rfl H locs la hP hS hl)
  | some a => exact lv_ifnonnull B.1 B.2.1 hd hq (kt a rfl H locs la hP hS hl)
theorem ax_iadd (B : aw_B M G cc nL own d) {x y : Int32} (hd : decode cc pc = .ok (.iadd, 1)) (hq : pc + 1 = q) (k : aw_X M G nL q ls (.inr (x + y) :: st) h) : aw_X M G nL pc ls (.inr y :: .inr x :: st) h := by
  obtain ⟨p, l, e, R, s, m, args, below, meth, c, cells, slots, Q⟩ := M
  subst hq
  intro H locs la hP hS hl
  exact lv_iadd B.1 B.2.1 hd (k H locs la hP hS hl)
theorem ax_isub (B : aw_B M G cc nL own d) {x y : Int32} (hd : decode cc pc = .ok (.isub, 1)) (hq : pc + 1 = q) (k : aw_X M G nL q ls (.inr (x - y) :: st) h) : aw_X M G nL pc ls (.inr y :: .inr x :: st) h := by
  obtain ⟨p, l, e, R, s, m, args, below, meth, c, cells, slots, Q⟩ := M
  subst hq
  intro H locs la hP hS hl
  exact lv_isub B.1 B.2.1 hd (k H locs la hP hS hl)
theorem ax_imul (B : aw_B M G cc nL own d) {x y : Int32} (hd : decode cc pc = .ok (.imul, 1)) (hq : pc + 1 = q) (k : aw_X M G nL q ls (.inr (x * y) :: st) h) : aw_X M G nL pc ls (.inr y :: .inr x :: st) h := by
  obtain ⟨p, l, e, R, s, m, args, below, meth, c, cells, slots, Q⟩ := M
  subst hq
  intro H locs la hP hS hl
  exact lv_imul B.1 B.2.1 hd (k H locs la hP hS hl)
theorem ax_iand (B : aw_B M G cc nL own d) {x y : Int32} (hd : decode cc pc = .ok (.iand, 1)) (hq : pc + 1 = q) (k : aw_X M G nL q ls (.inr (x &&& y) :: st) h) : aw_X M G nL pc ls (.inr y :: .inr x :: st) h := by
  obtain ⟨p, l, e, R, s, m, args, below, meth, c, cells, slots, Q⟩ := M
  subst hq
  intro H locs la hP hS hl
  exact lv_iand B.1 B.2.1 hd (k H locs la hP hS hl)
theorem ax_ior (B : aw_B M G cc nL own d) {x y : Int32} (hd : decode cc pc = .ok (.ior, 1)) (hq : pc + 1 = q) (k : aw_X M G nL q ls (.inr (x ||| y) :: st) h) : aw_X M G nL pc ls (.inr y :: .inr x :: st) h := by
  obtain ⟨p, l, e, R, s, m, args, below, meth, c, cells, slots, Q⟩ := M
  subst hq
  intro H locs la hP hS hl
  exact lv_ior B.1 B.2.1 hd (k H locs la hP hS hl)
theorem ax_ixor (B : aw_B M G cc nL own d) {x y : Int32} (hd : decode cc pc = .ok (.ixor, 1)) (hq : pc + 1 = q) (k : aw_X M G nL q ls (.inr (x ^^^ y) :: st) h) : aw_X M G nL pc ls (.inr y :: .inr x :: st) h := by
  obtain ⟨p, l, e, R, s, m, args, below, meth, c, cells, slots, Q⟩ := M
  subst hq
  intro H locs la hP hS hl
  exact lv_ixor B.1 B.2.1 hd (k H locs la hP hS hl)
theorem ax_ishl (B : aw_B M G cc nL own d) {x y : Int32} (hd : decode cc pc = .ok (.ishl, 1)) (hq : pc + 1 = q) (k : aw_X M G nL q ls (.inr (x <<< (y &&& 31)) :: st) h) : aw_X M G nL pc ls (.inr y :: .inr x :: st) h := by
  obtain ⟨p, l, e, R, s, m, args, below, meth, c, cells, slots, Q⟩ := M
  subst hq
  intro H locs la hP hS hl
  exact lv_ishl B.1 B.2.1 hd (k H locs la hP hS hl)
theorem ax_ishr (B : aw_B M G cc nL own d) {x y : Int32} (hd : decode cc pc = .ok (.ishr, 1)) (hq : pc + 1 = q) (k : aw_X M G nL q ls (.inr (x >>> (y &&& 31)) :: st) h) : aw_X M G nL pc ls (.inr y :: .inr x :: st) h := by
  obtain ⟨p, l, e, R, s, m, args, below, meth, c, cells, slots, Q⟩ := M
  subst hq
  intro H locs la hP hS hl
  exact lv_ishr B.1 B.2.1 hd (k H locs la hP hS hl)
theorem ax_idiv (B : aw_B M G cc nL own d) {x y : Int32} (hd : decode cc pc = .ok (.idiv, 1)) (hy : ¬ y = 0) (hq : pc + 1 = q) (k : aw_X M G nL q ls (.inr (x / y) :: st) h) : aw_X M G nL pc ls (.inr y :: .inr x :: st) h := by
  obtain ⟨p, l, e, R, s, m, args, below, meth, c, cells, slots, Q⟩ := M
  subst hq
  intro H locs la hP hS hl
  exact lv_idiv B.1 B.2.1 hd hy (k H locs la hP hS hl)
theorem ax_irem (B : aw_B M G cc nL own d) {x y : Int32} (hd : decode cc pc = .ok (.irem, 1)) (hy : ¬ y = 0) (hq : pc + 1 = q) (k : aw_X M G nL q ls (.inr (x - x / y * y) :: st) h) : aw_X M G nL pc ls (.inr y :: .inr x :: st) h := by
  obtain ⟨p, l, e, R, s, m, args, below, meth, c, cells, slots, Q⟩ := M
  subst hq
  intro H locs la hP hS hl
  exact lv_irem B.1 B.2.1 hd hy (k H locs la hP hS hl)
theorem ax_iushr (B : aw_B M G cc nL own d) {x y : Int32} (hd : decode cc pc = .ok (.iushr, 1)) (hq : pc + 1 = q) (k : aw_X M G nL q ls (.inr ((x.toUInt32 >>> (y.toUInt32 &&& Int32.toUInt32 31)).toInt32) :: st) h) : aw_X M G nL pc ls (.inr y :: .inr x :: st) h := by
  obtain ⟨p, l, e, R, s, m, args, below, meth, c, cells, slots, Q⟩ := M
  subst hq
  intro H locs la hP hS hl
  exact lv_iushr B.1 B.2.1 hd rfl (k H locs la hP hS hl)
theorem ax_if_eq (B : aw_B M G cc nL own d) {x : Int32} {off : Int} {q2 : Nat} (hd : decode cc pc = .ok (.ifCond .eq off, 3)) (hq : (pc : Int) + off = (q : Int)) (hq2 : pc + 3 = q2) (kt : x = 0 → aw_X M G nL q ls st h) (kf : ¬ x = 0 → aw_X M G nL q2 ls st h) : aw_X M G nL pc ls (.inr x :: st) h := by
  obtain ⟨p, l, e, R, s, m, args, below, meth, c, cells, slots, Q⟩ := M
  subst hq2
  intro H locs la hP hS hl
  exact lv_if_eq B.1 B.2.1 hd hq (fun z => kt z H locs la hP hS hl) (fun z => kf z H locs la hP hS hl)
theorem ax_if_ne (B : aw_B M G cc nL own d) {x : Int32} {off : Int} {q2 : Nat} (hd : decode cc pc = .ok (.ifCond .ne off, 3)) (hq : (pc : Int) + off = (q : Int)) (hq2 : pc + 3 = q2) (kt : ¬ x = 0 → aw_X M G nL q ls st h) (kf : x = 0 → aw_X M G nL q2 ls st h) : aw_X M G nL pc ls (.inr x :: st) h := by
  obtain ⟨p, l, e, R, s, m, args, below, meth, c, cells, slots, Q⟩ := M
  subst hq2
  intro H locs la hP hS hl
  exact lv_if_ne B.1 B.2.1 hd hq (fun z => kt z H locs la hP hS hl) (fun z => kf z H locs la hP hS hl)
theorem ax_if_lt (B : aw_B M G cc nL own d) {x : Int32} {off : Int} {q2 : Nat} (hd : decode cc pc = .ok (.ifCond .lt off, 3)) (hq : (pc : Int) + off = (q : Int)) (hq2 : pc + 3 = q2) (kt : x < 0 → aw_X M G nL q ls st h) (kf : ¬ x < 0 → aw_X M G nL q2 ls st h) : aw_X M G nL pc ls (.inr x :: st) h := by
  obtain ⟨p, l, e, R, s, m, args, below, meth, c, cells, slots, Q⟩ := M
  subst hq2
  intro H locs la hP hS hl
  exact lv_if_lt B.1 B.2.1 hd hq (fun z => kt z H locs la hP hS hl) (fun z => kf z H locs la hP hS hl)
theorem ax_if_ge (B : aw_B M G cc nL own d) {x : Int32} {off : Int} {q2 : Nat} (hd : decode cc pc = .ok (.ifCond .ge off, 3)) (hq : (pc : Int) + off = (q : Int)) (hq2 : pc + 3 = q2) (kt : 0 ≤ x → aw_X M G nL q ls st h) (kf : ¬ 0 ≤ x → aw_X M G nL q2 ls st h) : aw_X M G nL pc ls (.inr x :: st) h := by
  obtain ⟨p, l, e, R, s, m, args, below, meth, c, cells, slots, Q⟩ := M
  subst hq2
  intro H locs la hP hS hl
  exact lv_if_ge B.1 B.2.1 hd hq (fun z => kt z H locs la hP hS hl) (fun z => kf z H locs la hP hS hl)
theorem ax_if_gt (B : aw_B M G cc nL own d) {x : Int32} {off : Int} {q2 : Nat} (hd : decode cc pc = .ok (.ifCond .gt off, 3)) (hq : (pc : Int) + off = (q : Int)) (hq2 : pc + 3 = q2) (kt : 0 < x → aw_X M G nL q ls st h) (kf : ¬ 0 < x → aw_X M G nL q2 ls st h) : aw_X M G nL pc ls (.inr x :: st) h := by
  obtain ⟨p, l, e, R, s, m, args, below, meth, c, cells, slots, Q⟩ := M
  subst hq2
  intro H locs la hP hS hl
  exact lv_if_gt B.1 B.2.1 hd hq (fun z => kt z H locs la hP hS hl) (fun z => kf z H locs la hP hS hl)
theorem ax_if_le (B : aw_B M G cc nL own d) {x : Int32} {off : Int} {q2 : Nat} (hd : decode cc pc = .ok (.ifCond .le off, 3)) (hq : (pc : Int) + off = (q : Int)) (hq2 : pc + 3 = q2) (kt : x ≤ 0 → aw_X M G nL q ls st h) (kf : ¬ x ≤ 0 → aw_X M G nL q2 ls st h) : aw_X M G nL pc ls (.inr x :: st) h := by
  obtain ⟨p, l, e, R, s, m, args, below, meth, c, cells, slots, Q⟩ := M
  subst hq2
  intro H locs la hP hS hl
  exact lv_if_le B.1 B.2.1 hd hq (fun z => kt z H locs la hP hS hl) (fun z => kf z H locs la hP hS hl)
theorem ax_icmp_eq (B : aw_B M G cc nL own d) {x y : Int32} {off : Int} {q2 : Nat} (hd : decode cc pc = .ok (.if_icmp .eq off, 3)) (hq : (pc : Int) + off = (q : Int)) (hq2 : pc + 3 = q2) (kt : x = y → aw_X M G nL q ls st h) (kf : ¬ x = y → aw_X M G nL q2 ls st h) : aw_X M G nL pc ls (.inr y :: .inr x :: st) h := by
  obtain ⟨p, l, e, R, s, m, args, below, meth, c, cells, slots, Q⟩ := M
  subst hq2
  intro H locs la hP hS hl
  exact lv_icmp_eq B.1 B.2.1 hd hq (fun z => kt z H locs la hP hS hl) (fun z => kf z H locs la hP hS hl)
theorem ax_icmp_ne (B : aw_B M G cc nL own d) {x y : Int32} {off : Int} {q2 : Nat} (hd : decode cc pc = .ok (.if_icmp .ne off, 3)) (hq : (pc : Int) + off = (q : Int)) (hq2 : pc + 3 = q2) (kt : ¬ x = y → aw_X M G nL q ls st h) (kf : x = y → aw_X M G nL q2 ls st h) : aw_X M G nL pc ls (.inr y :: .inr x :: st) h := by
  obtain ⟨p, l, e, R, s, m, args, below, meth, c, cells, slots, Q⟩ := M
  subst hq2
  intro H locs la hP hS hl
  exact lv_icmp_ne B.1 B.2.1 hd hq (fun z => kt z H locs la hP hS hl) (fun z => kf z H locs la hP hS hl)
theorem ax_icmp_lt (B : aw_B M G cc nL own d) {x y : Int32} {off : Int} {q2 : Nat} (hd : decode cc pc = .ok (.if_icmp .lt off, 3)) (hq : (pc : Int) + off = (q : Int)) (hq2 : pc + 3 = q2) (kt : x < y → aw_X M G nL q ls st h) (kf : ¬ x < y → aw_X M G nL q2 ls st h) : aw_X M G nL pc ls (.inr y :: .inr x :: st) h := by
  obtain ⟨p, l, e, R, s, m, args, below, meth, c, cells, slots, Q⟩ := M
  subst hq2
  intro H locs la hP hS hl
  exact lv_icmp_lt B.1 B.2.1 hd hq (fun z => kt z H locs la hP hS hl) (fun z => kf z H locs la hP hS hl)
theorem ax_icmp_ge (B : aw_B M G cc nL own d) {x y : Int32} {off : Int} {q2 : Nat} (hd : decode cc pc = .ok (.if_icmp .ge off, 3)) (hq : (pc : Int) + off = (q : Int)) (hq2 : pc + 3 = q2) (kt : y ≤ x → aw_X M G nL q ls st h) (kf : ¬ y ≤ x → aw_X M G nL q2 ls st h) : aw_X M G nL pc ls (.inr y :: .inr x :: st) h := by
  obtain ⟨p, l, e, R, s, m, args, below, meth, c, cells, slots, Q⟩ := M
  subst hq2
  intro H locs la hP hS hl
  exact lv_icmp_ge B.1 B.2.1 hd hq (fun z => kt z H locs la hP hS hl) (fun z => kf z H locs la hP hS hl)
theorem ax_icmp_gt (B : aw_B M G cc nL own d) {x y : Int32} {off : Int} {q2 : Nat} (hd : decode cc pc = .ok (.if_icmp .gt off, 3)) (hq : (pc : Int) + off = (q : Int)) (hq2 : pc + 3 = q2) (kt : y < x → aw_X M G nL q ls st h) (kf : ¬ y < x → aw_X M G nL q2 ls st h) : aw_X M G nL pc ls (.inr y :: .inr x :: st) h := by
  obtain ⟨p, l, e, R, s, m, args, below, meth, c, cells, slots, Q⟩ := M
  subst hq2
  intro H locs la hP hS hl
  exact lv_icmp_gt B.1 B.2.1 hd hq (fun z => kt z H locs la hP hS hl) (fun z => kf z H locs la hP hS hl)
theorem ax_icmp_le (B : aw_B M G cc nL own d) {x y : Int32} {off : Int} {q2 : Nat} (hd : decode cc pc = .ok (.if_icmp .le off, 3)) (hq : (pc : Int) + off = (q : Int)) (hq2 : pc + 3 = q2) (kt : x ≤ y → aw_X M G nL q ls st h) (kf : ¬ x ≤ y → aw_X M G nL q2 ls st h) : aw_X M G nL pc ls (.inr y :: .inr x :: st) h := by
  obtain ⟨p, l, e, R, s, m, args, below, meth, c, cells, slots, Q⟩ := M
  subst hq2
  intro H locs la hP hS hl
  exact lv_icmp_le B.1 B.2.1 hd hq (fun z => kt z H locs la hP hS hl) (fun z => kf z H locs la hP hS hl)
theorem aw_e_obj {G : aw_G} {h : aw_H} {a c : Nat} (hs : (aw_sh (aw_n G) a).1 = c + 3) : aw_e G h a = .inr (c, aw_fs (aw_ad G) c (aw_rM a) (h a)) := by
  unfold aw_e aw_cell
  rw [hs]
theorem aw_e_arr {G : aw_G} {h : aw_H} {a z : Nat} (hs : aw_sh (aw_n G) a = (0, z)) : aw_e G h a = .inl (aw_ca G 0, z, .inl (h a)) := by
  unfold aw_e aw_cell
  rw [hs]
theorem aw_e_arz {G : aw_G} {h : aw_H} {a z : Nat} (hs : aw_sh (aw_n G) a = (1, z)) : aw_e G h a = .inl (aw_ca G 1, z, .inl (h a)) := by
  unfold aw_e aw_cell
  rw [hs]
theorem aw_e_arq {G : aw_G} {h : aw_H} {a z : Nat} (hs : aw_sh (aw_n G) a = (2, z)) : aw_e G h a = .inl (aw_ca G 2, z, .inr (.inr (.inr (.inr (fun j => (aw_rM a j).map (aw_ad G)))))) := by
  unfold aw_e aw_cell
  rw [hs]
theorem aw_fs_get {ad : Nat → Nat} {c k : Nat} {r : Nat → Option Nat} {f : Nat → Int32} (hk : k < aw_nf c) : (aw_fs ad c r f)[k]? = some (if aw_rf c k = true then va_rf ((r k).map ad) else .int (f k)) := by
  unfold aw_fs
  rw [List.getElem?_map, List.getElem?_range hk]
  rfl
theorem aw_fs_set {ad : Nat → Nat} {c k : Nat} {r : Nat → Option Nat} {f : Nat → Int32} {x : Int32} (hr : aw_rf c k = false) : (aw_fs ad c r f).set k (.int x) = aw_fs ad c r (upd f k x) := by
  have hl : ∀ g : Nat → Int32, (aw_fs ad c r g).length = aw_nf c := fun g => by unfold aw_fs; rw [List.length_map, List.length_range]
  apply List.ext_getElem?
  intro i
  by_cases hi : i < aw_nf c
  · by_cases hik : i = k
    · subst hik
      rw [List.getElem?_set_self (by rw [hl]; exact hi), aw_fs_get hi, if_neg (by rw [hr]; decide)]
      simp [upd]
    · rw [List.getElem?_set_ne (Ne.symm hik), aw_fs_get hi, aw_fs_get hi]
      simp [upd, hik]
  · rw [List.getElem?_eq_none (by rw [List.length_set, hl]; omega), List.getElem?_eq_none (by rw [hl]; omega)]
/-- field k of class c, as class own names it under its number ix -/
def aw_fl (own : String) (ix c k : Nat) : Prop := ∃ (C : String) (T : u_T), aw_cl[c]? = some (C, T, aw_nf c) ∧ k < aw_nf c ∧ (∀ w ∈ u_ws C T (aw_nf c), w ∈ aw_Ts) ∧ Cond.fieldLink own ix C (T k).2.1 (T k).2.2.1 ∈ aw_Ts ∧ (T k).1 = C
def aw_fp (own : String) (ix c k : Nat) (ty : FieldType) : Prop := ∃ (C : String) (T : u_T) (ty0 : Nat → FieldType), aw_cl[c]? = some (C, T, aw_nf c) ∧ k < aw_nf c ∧ (∀ w ∈ u_ws C T (aw_nf c), w ∈ aw_Ts) ∧ Cond.fieldLink own ix C (T k).2.1 (T k).2.2.1 ∈ aw_Ts ∧ (T k).1 = C ∧
  (∀ j, j < aw_nf c → parseFieldDescriptor (T j).2.2.1 = some (ty0 j)) ∧ (∀ a, a < aw_nf c → ∀ b, b < aw_nf c → a ≠ b → (T a).2.1 ≠ (T b).2.1) ∧ (T k).2.2.2 = false ∧ parseFieldDescriptor (T k).2.2.1 = some ty ∧ aw_rf c k = false
theorem ax_getI (B : aw_B M G cc nL own d) {ix c k a : Nat} (F : aw_fl own ix c k) (hr : aw_rf c k = false) (hd : decode cc pc = .ok (.getfield ix, 3)) (ha : a < aw_N G) (hs : (aw_sh (aw_n G) a).1 = c + 3) (hq : pc + 3 = q) (K : aw_X M G nL q ls (.inr (h a k) :: st) h) : aw_X M G nL pc ls (.inl (some a) :: st) h := by
  obtain ⟨p, l, e, R, s, m, args, below, meth, c', cells, slots, Q⟩ := M
  subst hq
  obtain ⟨C, T, hc, hk, hin, hli, hsm⟩ := F
  intro H locs la hP hS hl
  refine va_get (ref := C) B.1 B.2.1 B.2.2.2.2.1 hin B.2.2.2.1 B.2.2.2.2.2.1 hP a (by rw [aw_w_get ha, aw_e_obj hs]) hc k hk (B.2.2.2.2.1 _ hli) (fun x hx => by rw [hsm] at hx; exact hx) (v := .int (h a k)) ?_ hd (K H locs la hP hS hl)
  rw [aw_fs_get hk, if_neg (by rw [hr]; decide)]
theorem ax_getR (B : aw_B M G cc nL own d) {ix c k a : Nat} {r : Option Nat} (F : aw_fl own ix c k) (hr : aw_rf c k = true) (hd : decode cc pc = .ok (.getfield ix, 3)) (ha : a < aw_N G) (hs : (aw_sh (aw_n G) a).1 = c + 3) (hm : aw_rM a k = r) (hq : pc + 3 = q) (K : aw_X M G nL q ls (.inl r :: st) h) : aw_X M G nL pc ls (.inl (some a) :: st) h := by
  obtain ⟨p, l, e, R, s, m, args, below, meth, c', cells, slots, Q⟩ := M
  subst hq
  subst hm
  obtain ⟨C, T, hc, hk, hin, hli, hsm⟩ := F
  intro H locs la hP hS hl
  refine va_get (ref := C) B.1 B.2.1 B.2.2.2.2.1 hin B.2.2.2.1 B.2.2.2.2.2.1 hP a (by rw [aw_w_get ha, aw_e_obj hs]) hc k hk (B.2.2.2.2.1 _ hli) (fun x hx => by rw [hsm] at hx; exact hx) (v := va_rf ((aw_rM a k).map (aw_ad G))) ?_ hd (K H locs la hP hS hl)
  rw [aw_fs_get hk, if_pos hr]
theorem aw_putf (B : aw_B M G cc nL own d) {ix c k a : Nat} {ty : FieldType} {x : Int32} (F : aw_fp own ix c k ty) (hn : narrow ty (.int x) = .int x) (hf : fits ty (.int x) = true) (hd : decode cc pc = .ok (.putfield ix, 3)) (ha : a < aw_N G) (hs : (aw_sh (aw_n G) a).1 = c + 3) (hq : pc + 3 = q) (K : aw_X M G nL q ls st (aw_u h a k x)) : aw_X M G nL pc ls (.inr x :: .inl (some a) :: st) h := by
  obtain ⟨p, l, e, R, s, m, args, below, meth, c', cells, slots, Q⟩ := M
  subst hq
  obtain ⟨C, T, ty0, hc, hk, hin, hli, hsm, hty, hnm, hfin, hpd, hrf⟩ := F
  intro H locs la hP hS hl
  refine va_put (ref := C) (v := .int x) B.1 B.2.1 B.2.2.2.2.1 hin ty0 hty hnm B.2.2.2.1 B.2.2.2.2.2.1 hP (aw_wD B.2.2.2.2.2.2.1 h) hS a (by rw [aw_w_get ha, aw_e_obj hs]) hc k hk (B.2.2.2.2.1 _ hli) (fun x hx => by rw [hsm] at hx; exact hx) hfin hpd hn hf (by unfold aw_fs; rw [List.length_map, List.length_range]; exact hk) hd (fun H1 locs1 hP1 _ hS1 => ?_)
  refine K H1 locs1 la ?_ hS1 hl
  rw [aw_w_set (h' := aw_u h a k x) (by rw [aw_e_obj hs, aw_u_eq, aw_fs_set hrf]) (fun z hz => aw_e_ne hz)] at hP1
  exact hP1
theorem ax_putI (B : aw_B M G cc nL own d) {ix c k a : Nat} {x : Int32} (F : aw_fp own ix c k .int) (hd : decode cc pc = .ok (.putfield ix, 3)) (ha : a < aw_N G) (hs : (aw_sh (aw_n G) a).1 = c + 3) (hq : pc + 3 = q) (K : aw_X M G nL q ls st (aw_u h a k x)) : aw_X M G nL pc ls (.inr x :: .inl (some a) :: st) h :=
  aw_putf B F (vp_nar_int x) rfl hd ha hs hq K
theorem ax_putZ (B : aw_B M G cc nL own d) {ix c k a : Nat} {x : Int32} (F : aw_fp own ix c k .boolean) (hx : x = 0 ∨ x = 1) (hd : decode cc pc = .ok (.putfield ix, 3)) (ha : a < aw_N G) (hs : (aw_sh (aw_n G) a).1 = c + 3) (hq : pc + 3 = q) (K : aw_X M G nL q ls st (aw_u h a k x)) : aw_X M G nL pc ls (.inr x :: .inl (some a) :: st) h :=
  aw_putf B F (by rcases hx with rfl | rfl <;> rfl) (by rcases hx with rfl | rfl <;> rfl) hd ha hs hq K
theorem ax_iald (B : aw_B M G cc nL own d) {a z : Nat} {i : Int32} (hd : decode cc pc = .ok (.iaload, 1)) (ha : a < aw_N G) (hs : aw_sh (aw_n G) a = (0, z)) (hi : vp_in i z) (hq : pc + 1 = q) (K : aw_X M G nL q ls (.inr (h a i.toNatClampNeg) :: st) h) : aw_X M G nL pc ls (.inr i :: .inl (some a) :: st) h := by
  obtain ⟨p, l, e, R, s, m, args, below, meth, c', cells, slots, Q⟩ := M
  subst hq
  intro H locs la hP hS hl
  exact va_iald B.1 B.2.1 B.2.2.2.2.2.1 hP a 0 (by rw [aw_w_get ha, aw_e_arr hs]) rfl hi hd (K H locs la hP hS hl)
theorem ax_zald (B : aw_B M G cc nL own d) {a z : Nat} {i : Int32} (hd : decode cc pc = .ok (.baload, 1)) (ha : a < aw_N G) (hs : aw_sh (aw_n G) a = (1, z)) (hi : vp_in i z) (hq : pc + 1 = q) (K : aw_X M G nL q ls (.inr (h a i.toNatClampNeg) :: st) h) : aw_X M G nL pc ls (.inr i :: .inl (some a) :: st) h := by
  obtain ⟨p, l, e, R, s, m, args, below, meth, c', cells, slots, Q⟩ := M
  subst hq
  intro H locs la hP hS hl
  exact va_zald B.1 B.2.1 B.2.2.2.2.2.1 hP a 1 (by rw [aw_w_get ha, aw_e_arz hs]) rfl hi hd (K H locs la hP hS hl)
theorem ax_aald (B : aw_B M G cc nL own d) {a z : Nat} {i : Int32} {r : Option Nat} (hd : decode cc pc = .ok (.aaload, 1)) (ha : a < aw_N G) (hs : aw_sh (aw_n G) a = (2, z)) (hi : vp_in i z) (hr : aw_rM a i.toNatClampNeg = r) (hq : pc + 1 = q) (K : aw_X M G nL q ls (.inl r :: st) h) : aw_X M G nL pc ls (.inr i :: .inl (some a) :: st) h := by
  obtain ⟨p, l, e, R, s, m, args, below, meth, c', cells, slots, Q⟩ := M
  subst hq
  subst hr
  intro H locs la hP hS hl
  exact va_aldq (f := fun j => (aw_rM a j).map (aw_ad G)) B.1 B.2.1 B.2.2.2.2.2.1 hP a 2 (by rw [aw_w_get ha, aw_e_arq hs]) rfl hi hd (K H locs la hP hS hl)
theorem ax_iast (B : aw_B M G cc nL own d) {a z : Nat} {i x : Int32} (hd : decode cc pc = .ok (.iastore, 1)) (ha : a < aw_N G) (hs : aw_sh (aw_n G) a = (0, z)) (hi : vp_in i z) (hq : pc + 1 = q) (K : aw_X M G nL q ls st (aw_u h a i.toNatClampNeg x)) : aw_X M G nL pc ls (.inr x :: .inr i :: .inl (some a) :: st) h := by
  obtain ⟨p, l, e, R, s, m, args, below, meth, c', cells, slots, Q⟩ := M
  subst hq
  intro H locs la hP hS hl
  refine va_iast B.1 B.2.1 B.2.2.2.2.2.1 hP (aw_wD B.2.2.2.2.2.2.1 h) hS a 0 (by rw [aw_w_get ha, aw_e_arr hs]) rfl hi hd (fun H1 locs1 hP1 _ hS1 => ?_)
  refine K H1 locs1 la ?_ hS1 hl
  rw [aw_w_set (h' := aw_u h a i.toNatClampNeg x) (by rw [aw_e_arr hs, aw_u_eq]) (fun z hz => aw_e_ne hz)] at hP1
  exact hP1
theorem ax_zast (B : aw_B M G cc nL own d) {a z : Nat} {i x : Int32} (hd : decode cc pc = .ok (.bastore, 1)) (ha : a < aw_N G) (hs : aw_sh (aw_n G) a = (1, z)) (hi : vp_in i z) (hq : pc + 1 = q) (K : aw_X M G nL q ls st (aw_u h a i.toNatClampNeg (vp_nar .boolean x))) : aw_X M G nL pc ls (.inr x :: .inr i :: .inl (some a) :: st) h := by
  obtain ⟨p, l, e, R, s, m, args, below, meth, c', cells, slots, Q⟩ := M
  subst hq
  intro H locs la hP hS hl
  refine va_zast B.1 B.2.1 B.2.2.2.2.2.1 hP (aw_wD B.2.2.2.2.2.2.1 h) hS a 1 (by rw [aw_w_get ha, aw_e_arz hs]) rfl hi hd (fun H1 locs1 hP1 _ hS1 => ?_)
  refine K H1 locs1 la ?_ hS1 hl
  rw [aw_w_set (h' := aw_u h a i.toNatClampNeg (vp_nar .boolean x)) (by rw [aw_e_arz hs, aw_u_eq]) (fun z hz => aw_e_ne hz)] at hP1
  exact hP1
theorem ax_iret (B : aw_B M G cc nL own d) {post : Option aw_V → aw_H → Prop} (E : aw_E M G (some .int) post) {x : Int32} (hd : decode cc pc = .ok (.ireturn, 1)) (hp : post (some (.inr x)) h) : aw_X M G nL pc ls [.inr x] h := by
  obtain ⟨p, l, e, R, s, m, args, below, meth, c', cells, slots, Q⟩ := M
  obtain ⟨e1, e2, rfl⟩ := E
  intro H locs la hP hS hl
  exact W.iret B.1 B.2.1 e1 (fun t ht hW => ⟨⟨some (.inr x), h, rfl, hp, by rw [ht]; exact hP, va_K.moved hW.alike B.2.2.2.2.2.1⟩, hS.F ht⟩) hS.2.2 hd e2
theorem ax_zret (B : aw_B M G cc nL own d) {post : Option aw_V → aw_H → Prop} (E : aw_E M G (some .boolean) post) {x : Int32} (hx : x = 0 ∨ x = 1) (hd : decode cc pc = .ok (.ireturn, 1)) (hp : post (some (.inr x)) h) : aw_X M G nL pc ls [.inr x] h := by
  obtain ⟨p, l, e, R, s, m, args, below, meth, c', cells, slots, Q⟩ := M
  obtain ⟨e1, e2, rfl⟩ := E
  intro H locs la hP hS hl
  exact W.zret B.1 B.2.1 e1 (by rcases hx with rfl | rfl <;> rfl) (fun t ht hW => ⟨⟨some (.inr x), h, rfl, hp, by rw [ht]; exact hP, va_K.moved hW.alike B.2.2.2.2.2.1⟩, hS.F ht⟩) hS.2.2 hd e2
theorem ax_vret (B : aw_B M G cc nL own d) {post : Option aw_V → aw_H → Prop} (E : aw_E M G none post) (hd : decode cc pc = .ok (.return_, 1)) (hp : post none h) : aw_X M G nL pc ls [] h := by
  obtain ⟨p, l, e, R, s, m, args, below, meth, c', cells, slots, Q⟩ := M
  obtain ⟨e1, e2, rfl⟩ := E
  intro H locs la hP hS hl
  exact W.vret B.1 B.2.1 e1 (fun t ht hW => ⟨⟨none, h, rfl, hp, by rw [ht]; exact hP, va_K.moved hW.alike B.2.2.2.2.2.1⟩, hS.F ht⟩) hS.2.2 hd e2
theorem ax_aret (B : aw_B M G cc nL own d) {post : Option aw_V → aw_H → Prop} {C : String} (E : aw_E M G (some (.object C)) post) {r : Option Nat} (hd : decode cc pc = .ok (.areturn, 1)) (hp : post (some (.inl r)) h) : aw_X M G nL pc ls [.inl r] h := by
  obtain ⟨p, l, e, R, s, m, args, below, meth, c', cells, slots, Q⟩ := M
  obtain ⟨e1, e2, rfl⟩ := E
  intro H locs la hP hS hl
  refine W.aret B.1 B.2.1 e1 (Or.inl ⟨C, rfl⟩) ?_ (fun t ht hW => ⟨⟨some (.inl r), h, rfl, hp, by rw [ht]; exact hP, va_K.moved hW.alike B.2.2.2.2.2.1⟩, hS.F ht⟩) hS.2.2 hd e2
  cases r with
  | none => exact Or.inl rfl
  | some a => exact Or.inr ⟨_, rfl⟩
end AX
section AC
variable {p : Program} {l : Launch} {e : Env} {R : Room} {s : State} {m : MethodId} {args : Array Value} {below : List Frame} {meth : Method} {c : Code} {H : Heap} {locs : List Loc} {cells slots : Nat} {Q : State → Prop}
variable {G : aw_G} {pc : Nat} {la : Array Slot} {rest st0 : List Value} {a : Array Value}
theorem aw_call {post : Option aw_V → aw_H → Prop} (hr : va_Run p l e R s m args below meth c H locs cells slots 0 0 (F0 m pc la st0) rest (aw_Q G post a) (aw_A G)) (hS : va_S (aw_A G) s.heap H locs)
    (kk : ∀ (r : Option aw_V) (h' : aw_H) (H1 : Heap) (locs1 : List Loc), post r h' → va_P (aw_D G) aw_cl (aw_w G h') H1 → va_S (aw_A G) s.heap H1 locs1 → W p l e R s m args below meth c H1 locs1 cells slots Q (F0 m (pc + 3) la ((r.map (aw_c (aw_ad G))).toList ++ rest))) : W p l e R s m args below meth c H locs cells slots Q (F0 m pc la st0) := by
  intro T hT X
  obtain ⟨v, st₀, t, T', L, h0, X', hL, e1, e2, ⟨⟨r, h', hv, hp, hP1, hK1⟩, hz, hk⟩, st⟩ := hr T hT X
  cases hv
  rw [h0] at hz hk
  obtain ⟨t2, a1, b1⟩ := kk r h' T'.heap (locs ++ L) hp (by rw [e1]; exact hP1)
    ⟨Nat.le_trans hS.1 (by rw [e1]; exact hz), fun q h1 h2 => by rw [e1, hk q (Nat.lt_of_lt_of_le h1 hS.1) h2]; exact hS.2.1 q h1 h2, fun q hq => by
      rcases List.mem_append.mp hq with h | h
      · exact hS.2.2 q h
      · exact hL q h⟩ T' rfl X'
  exact ⟨t2, st t2 a1, b1⟩
end AC
theorem aw_blind {G : aw_G} {args : List aw_V} {h : aw_H} : FrameBlind (aw_Pc G args h) := fun a U g mk q => by
  obtain ⟨q0, qP, qK⟩ := q
  exact ⟨q0, qP, va_K.moved (u := U) (U := U.calling g mk a) (Vm.Alike.refl U.vm) qK⟩
theorem aw_recv {G : aw_G} {s : State} {H : Heap} {h : aw_H} {a c : Nat} {C : String} {T : u_T} (hK : va_K (aw_D G) aw_cl (aw_tys G) s) (hP : va_P (aw_D G) aw_cl (aw_w G h) H) (ha : a < aw_N G) (hs : (aw_sh (aw_n G) a).1 = c + 3) (hc : aw_cl[c]? = some (C, T, aw_nf c)) :
    ∃ cellB : Cell, H[aw_ad G a]? = some cellB ∧ cellB.vm.isStatics = false ∧ s.vm.findClass C = some cellB.cls := by
  have h1 := hP a _ (aw_w_get ha)
  rw [aw_e_obj hs] at h1
  obtain ⟨r, h2, cell, q1, q2, q3, -⟩ := h1
  exact ⟨cell, q1, by rw [q3]; rfl, by rw [q2]; exact (hK.1 c _ hc).2.1⟩
theorem aw_goodIn {big : List Cond} (hb : ∀ w ∈ aw_Ts, w ∈ big) (y : aw_Y) (hy : Cond.code y.1 y.2.1 y.2.2.1 y.2.2.2 ∈ aw_Ts) : GoodIn big (aw_ws y) := by
  intro w hw
  have h1 : w ∈ aw_Ts := by
    rcases List.mem_cons.mp hw with h | h
    · rw [h]; exact hy
    · exact h
  exact ⟨hb w h1, good_of_word (List.mem_filter.mp h1).2⟩
/-- what a call of method y under number ix of class own needs of the tables; n arguments beside the receiver -/
def aw_cv (own : String) (ix : Nat) (y : aw_Y) (c n : Nat) : Prop := ∃ (T : u_T), aw_cl[c]? = some (y.1.cls, T, aw_nf c) ∧ Cond.code y.1 y.2.1 y.2.2.1 y.2.2.2 ∈ aw_Ts ∧ Cond.methodLink own ix y.1 ∈ aw_Ts ∧ Cond.instanceMethod y.1 ∈ aw_Ts ∧ Cond.selects y.1.cls y.1 y.1 ∈ aw_Ts ∧ Cond.initialized y.1.cls ∈ aw_Ts ∧
  (y.1.cls ≠ "java/lang/invoke/MethodHandle" ∧ y.1.cls ≠ "java/lang/invoke/VarHandle" ∧ (parseMethodDescriptor y.1.desc).map (fun d => d.parameters.length) = some n) ∧ y.2.2.1 ≤ 21
def aw_cs (own : String) (ix : Nat) (y : aw_Y) (n : Nat) : Prop := Cond.code y.1 y.2.1 y.2.2.1 y.2.2.2 ∈ aw_Ts ∧ Cond.methodLink own ix y.1 ∈ aw_Ts ∧ Cond.static y.1 ∈ aw_Ts ∧ Cond.initialized y.1.cls ∈ aw_Ts ∧
  (y.1.cls ≠ "java/lang/invoke/MethodHandle" ∧ y.1.cls ≠ "java/lang/invoke/VarHandle" ∧ (parseMethodDescriptor y.1.desc).map (fun d => d.parameters.length) = some n) ∧ y.2.2.1 ≤ 21
section AV
variable {M : aw_M} {G : aw_G} {cc : ByteArray} {nL d pc q : Nat} {own : String} {ls : List (Option aw_V)} {st : List aw_V} {h : aw_H}
theorem ax_callV (B : aw_B M G cc nL own d) {ix c n d' a : Nat} {y : aw_Y} {as rs : List aw_V} {post : Option aw_V → aw_H → Prop} (V : aw_cv own ix y c n) (hd : decode cc pc = .ok (.invokevirtual ix, 3)) (ha : a < aw_N G) (hs : (aw_sh (aw_n G) a).1 = c + 3) (hn : as.length = n) (hrs : as.reverse = rs) (hst : st.length ≤ 8) (hdd : d' < d)
    (C : aw_C M.2.1 G d' y (.inl (some a) :: as) h post) (hq : pc + 3 = q) (K : ∀ r h', post r h' → aw_X M G nL q ls (r.toList ++ st) h') : aw_X M G nL pc ls (rs ++ .inl (some a) :: st) h := by
  obtain ⟨p, l, e, R, s, m, args, below, meth, c', cells, slots, Q⟩ := M
  subst hq
  subst hrs
  obtain ⟨T, hc, v1, v2, v3, v4, v5, v6, v7⟩ := V
  obtain ⟨b1, b2, b3, b4, b5, b6, b7, b8, b9, b10, b11⟩ := B
  intro H locs la hP hS hl
  refine aw_call (post := post) (rest := st.map (aw_c (aw_ad G))) (va_runV (C := y.1.cls) (b := aw_ad G a) (As := as.map (aw_c (aw_ad G))) (n := n) ⟨b1, b2, b3, b4, b5⟩ C ⟨callB_of n b5 (aw_goodIn (fun w hw => hw) y v1) rfl rfl rfl (b5 _ v5) (b5 _ v2) v6 ⟨by show d' + 1 ≤ R.frames; omega, by show 8 + (y.2.2.1 + 11) + 40 * d' ≤ R.locals; omega⟩, b5 _ v3, b5 _ v4⟩ ⟨aw_blind, aw_recv b6 hP ha hs hc, fun U hU hW => ⟨rfl, by rw [hU]; exact hP, va_K.moved hW.alike b6⟩⟩ rfl (by rw [List.length_map]; exact hn) hl.1 (by simp only [List.map_append, List.map_reverse, List.map_cons]; rfl) (lv_room (by rw [aw_cats]; exact hst)) hd ⟨b10, b11⟩) hS (fun r h' H1 locs1 hp hP1 hS1 => ?_)
  have h9 := K r h' hp H1 locs1 la hP1 hS1 hl
  cases r with
  | none => exact h9
  | some v => exact h9
theorem ax_callS (B : aw_B M G cc nL own d) {ix n d' : Nat} {y : aw_Y} {as rs : List aw_V} {post : Option aw_V → aw_H → Prop} (V : aw_cs own ix y n) (hd : decode cc pc = .ok (.invokestatic ix, 3)) (hn : as.length = n) (hrs : as.reverse = rs) (hst : st.length ≤ 8) (hdd : d' < d)
    (C : aw_C M.2.1 G d' y as h post) (hq : pc + 3 = q) (K : ∀ r h', post r h' → aw_X M G nL q ls (r.toList ++ st) h') : aw_X M G nL pc ls (rs ++ st) h := by
  obtain ⟨p, l, e, R, s, m, args, below, meth, c', cells, slots, Q⟩ := M
  subst hq
  subst hrs
  obtain ⟨v1, v2, v3, v5, v6, v7⟩ := V
  obtain ⟨b1, b2, b3, b4, b5, b6, b7, b8, b9, b10, b11⟩ := B
  intro H locs la hP hS hl
  refine aw_call (post := post) (rest := st.map (aw_c (aw_ad G))) (va_runS (As := as.map (aw_c (aw_ad G))) (n := n) ⟨b1, b2, b3, b4, b5⟩ C ⟨callB_of n b5 (aw_goodIn (fun w hw => hw) y v1) rfl rfl rfl (b5 _ v5) (b5 _ v2) v6 ⟨by show d' + 1 ≤ R.frames; omega, by show 8 + (y.2.2.1 + 11) + 40 * d' ≤ R.locals; omega⟩, b5 _ v3⟩ ⟨aw_blind, fun U hU hW => ⟨rfl, by rw [hU]; exact hP, va_K.moved hW.alike b6⟩⟩ rfl (by rw [List.length_map]; exact hn) hl.1 (by simp only [List.map_append, List.map_reverse]) (lv_room (by rw [aw_cats]; exact hst)) hd ⟨b10, b11⟩) hS (fun r h' H1 locs1 hp hP1 hS1 => ?_)
  have h9 := K r h' hp H1 locs1 la hP1 hS1 hl
  cases r with
  | none => exact h9
  | some v => exact h9
end AV
theorem aw_slen (ad : Nat → Nat) : ∀ as : List aw_V, (lg_sl (as.map (aw_c ad))).length = as.length
  | [] => rfl
  | v :: as => by
    have h := aw_slen ad as
    have hc : lg_sl ((v :: as).map (aw_c ad)) = Slot.val (aw_c ad v) :: lg_sl (as.map (aw_c ad)) := by rcases v with (_ | p) | x <;> rfl
    rw [hc, List.length_cons, h, List.length_cons]
theorem aw_args (ad : Nat → Nat) : ∀ (as : List aw_V) (i j : Nat) (v : aw_V), as[j]? = some v → (i + j, aw_c ad v) ∈ lv_args i (as.map (aw_c ad))
  | [], i, j, v, h => by simp at h
  | w :: as, i, j, v, h => by
    have hc : lv_args i ((w :: as).map (aw_c ad)) = (i, aw_c ad w) :: lv_args (i + 1) (as.map (aw_c ad)) := by
      show (i, aw_c ad w) :: lv_args (if (aw_c ad w).category = 2 then i + 2 else i + 1) (as.map (aw_c ad)) = _
      rw [if_neg (by rw [aw_cat]; decide)]
    rw [hc]
    cases j with
    | zero =>
      rw [List.getElem?_cons_zero] at h
      cases h
      exact List.mem_cons_self
    | succ j =>
      rw [List.getElem?_cons_succ] at h
      have h2 := aw_args ad as (i + 1) j v h
      rw [show i + (j + 1) = i + 1 + j by omega]
      exact List.mem_cons_of_mem _ h2
def aw_in (as : List aw_V) (nL : Nat) : List (Option aw_V) := as.map some ++ List.replicate (nL - as.length) none
/-- a contract from a walk of the body -/
theorem aw_met {l : Launch} {G : aw_G} (hG : aw_ok G) {d nL : Nat} {y : MethodName} {cc : ByteArray} {ret : Option FieldType} {as : List aw_V} {h : aw_H} {post : Option aw_V → aw_H → Prop} (hy : plainName y.cls = true) (hn : as.length ≤ nL)
    (K : ∀ M : aw_M, M.2.1 = l → aw_B M G cc nL y.cls d → aw_E M G ret post → aw_X M G nL 0 (aw_in as nL) [] h) : aw_C l G d (y, cc, nL, ret) as h post := by
  refine Met.ofW (cc := cc) (maxL := nL) (ret := ret) hy rfl ?_
  intro p e s m args below meth c s₁ B hml hv
  obtain ⟨rfl, hP, hK⟩ := hv
  have hts := atoms_spec (ws := aw_ws (y, cc, nL, ret)) B.pre
  have hown : s.vm.findClass y.cls = some m.cls := findClass_of_methodNamed B.named
  have hl := lv_entry (as.map (aw_c (aw_ad G))) (n := nL) (by rw [aw_slen]; exact hn)
  rw [lg_entry_eq]
  refine K (p, l, e, (headSpec (aw_ws (y, cc, nL, ret)) (aw_rm d)).room, s, m, (as.map (aw_c (aw_ad G))).toArray, below, meth, c, 0, 0, MQ below (aw_Q G post) (as.map (aw_c (aw_ad G))).toArray s 0 0 (aw_A G)) rfl ⟨B.exec, B.bytes, hml, hown, fun w hw => hts w (List.mem_cons_of_mem _ hw), hK, hG, Nat.le_refl d, Nat.le_refl (40 * d), Nat.le_refl 0, Nat.le_refl 0⟩ ⟨B.returns, B.notSynchronized, rfl⟩ s.heap [] _ hP va_S.rf ⟨hl.1, hl.2.1, fun i v hi => ?_⟩
  have hi2 : as[i]? = some v := by
    unfold aw_in at hi
    by_cases hl : i < as.length
    · rw [List.getElem?_append_left (by rw [List.length_map]; exact hl), List.getElem?_map] at hi
      cases hg : as[i]? with
      | none => rw [hg] at hi; cases hi
      | some w => rw [hg] at hi; cases hi; rfl
    · rw [List.getElem?_append_right (by rw [List.length_map]; omega)] at hi
      have := List.mem_of_getElem? hi
      rw [List.mem_replicate] at this
      cases this.2
  have h3 := aw_args (aw_ad G) as 0 i v hi2
  rw [Nat.zero_add] at h3
  exact hl.2.2 _ h3
end
section
/- the same instructions over numbers nI a and truth values bI b -/
theorem nx_xor (a b : Nat) : nI a ^^^ nI b = nI (a ^^^ b) := by
  apply Int32.toBitVec_inj.1
  show BitVec.ofNat 32 a ^^^ BitVec.ofNat 32 b = BitVec.ofNat 32 (a ^^^ b)
  apply BitVec.eq_of_getLsbD_eq
  intro i hi
  simp [hi]
def bI (b : Bool) : Int32 := if b = true then 1 else 0
theorem bI_or (b : Bool) : bI b = 0 ∨ bI b = 1 := by cases b <;> simp [bI]
theorem bI_t : bI true = 1 := rfl
theorem bI_f : bI false = 0 := rfl
theorem bI_0 {b : Bool} (h : bI b = 0) : b = false := by cases b <;> simp_all [bI]
theorem bI_n0 {b : Bool} (h : ¬ bI b = 0) : b = true := by cases b <;> simp_all [bI]
def aw_is (G : aw_G) (a c : Nat) : Prop := a < aw_N G ∧ (aw_sh (aw_n G) a).1 = c + 3
def aw_ar (G : aw_G) (a t z : Nat) : Prop := a < aw_N G ∧ aw_sh (aw_n G) a = (t, z)
section AN
variable {M : aw_M} {G : aw_G} {cc : ByteArray} {nL d pc q : Nat} {own : String} {ls : List (Option aw_V)} {st : List aw_V} {h : aw_H}
theorem ax_top {x y : Int32} (e : x = y) (k : aw_X M G nL pc ls (.inr y :: st) h) : aw_X M G nL pc ls (.inr x :: st) h := by
  subst e
  exact k
theorem ax_heap {h' : aw_H} (e : h = h') (k : aw_X M G nL pc ls st h') : aw_X M G nL pc ls st h := by
  subst e
  exact k
theorem ax_iaddN (B : aw_B M G cc nL own d) {a b : Nat} (hd : decode cc pc = .ok (.iadd, 1)) (hq : pc + 1 = q) (k : aw_X M G nL q ls (.inr (nI (a + b)) :: st) h) : aw_X M G nL pc ls (.inr (nI b) :: .inr (nI a) :: st) h := ax_iadd B hd hq (by rw [nI_add]; exact k)
theorem ax_imulN (B : aw_B M G cc nL own d) {a b : Nat} (hd : decode cc pc = .ok (.imul, 1)) (hq : pc + 1 = q) (k : aw_X M G nL q ls (.inr (nI (a * b)) :: st) h) : aw_X M G nL pc ls (.inr (nI b) :: .inr (nI a) :: st) h := ax_imul B hd hq (by rw [pk_mul]; exact k)
theorem ax_isubN (B : aw_B M G cc nL own d) {a b : Nat} (hab : b ≤ a) (hd : decode cc pc = .ok (.isub, 1)) (hq : pc + 1 = q) (k : aw_X M G nL q ls (.inr (nI (a - b)) :: st) h) : aw_X M G nL pc ls (.inr (nI b) :: .inr (nI a) :: st) h := ax_isub B hd hq (by rw [pk_sub hab]; exact k)
theorem ax_ixorN (B : aw_B M G cc nL own d) {a b : Nat} (hd : decode cc pc = .ok (.ixor, 1)) (hq : pc + 1 = q) (k : aw_X M G nL q ls (.inr (nI (a ^^^ b)) :: st) h) : aw_X M G nL pc ls (.inr (nI b) :: .inr (nI a) :: st) h := ax_ixor B hd hq (by rw [nx_xor]; exact k)
theorem ax_idivN (B : aw_B M G cc nL own d) {a b : Nat} (ha : a < 2 ^ 31) (h0 : 0 < b) (hb : b < 2 ^ 31) (hd : decode cc pc = .ok (.idiv, 1)) (hq : pc + 1 = q) (k : aw_X M G nL q ls (.inr (nI (a / b)) :: st) h) : aw_X M G nL pc ls (.inr (nI b) :: .inr (nI a) :: st) h := ax_idiv B hd (nI_ne0 h0 hb) hq (by rw [pk_div ha h0 hb]; exact k)
theorem ax_iremN (B : aw_B M G cc nL own d) {a b : Nat} (ha : a < 2 ^ 31) (h0 : 0 < b) (hb : b < 2 ^ 31) (hd : decode cc pc = .ok (.irem, 1)) (hq : pc + 1 = q) (k : aw_X M G nL q ls (.inr (nI (a % b)) :: st) h) : aw_X M G nL pc ls (.inr (nI b) :: .inr (nI a) :: st) h := ax_irem B hd (nI_ne0 h0 hb) hq (by rw [pk_rem ha h0 hb]; exact k)
theorem ax_iandN (B : aw_B M G cc nL own d) {a b : Nat} (j : Nat) (ha : a < 2 ^ 32) (hb : (nI b).toBitVec.toNat = 2 ^ j - 1) (hd : decode cc pc = .ok (.iand, 1)) (hq : pc + 1 = q) (k : aw_X M G nL q ls (.inr (nI (a % 2 ^ j)) :: st) h) : aw_X M G nL pc ls (.inr (nI b) :: .inr (nI a) :: st) h := ax_iand B hd hq (by rw [pk_andN ha j hb]; exact k)
theorem ax_ishrN (B : aw_B M G cc nL own d) {a : Nat} {s : Int32} (j : Nat) (ha : a < 2 ^ 31) (hs : ((s &&& 31).toBitVec.smod 32).toNat = j) (hd : decode cc pc = .ok (.ishr, 1)) (hq : pc + 1 = q) (k : aw_X M G nL q ls (.inr (nI (a / 2 ^ j)) :: st) h) : aw_X M G nL pc ls (.inr s :: .inr (nI a) :: st) h := ax_ishr B hd hq (by rw [pk_shrN ha _ j hs]; exact k)
theorem ax_iushrN (B : aw_B M G cc nL own d) {a : Nat} {s : Int32} (j : Nat) (ha : a < 2 ^ 32) (hs : ((s.toUInt32 &&& Int32.toUInt32 31).toBitVec % 32).toNat = j) (hd : decode cc pc = .ok (.iushr, 1)) (hq : pc + 1 = q) (k : aw_X M G nL q ls (.inr (nI (a / 2 ^ j)) :: st) h) : aw_X M G nL pc ls (.inr s :: .inr (nI a) :: st) h := ax_iushr B hd hq (by rw [pk_ushrN ha _ j hs]; exact k)
theorem ax_iincN (B : aw_B M G cc nL own d) {i a j : Nat} {n : Int} (hd : decode cc pc = .ok (.iinc i n, 3)) (hx : ls[i]? = some (some (.inr (nI a)))) (hv : Int32.ofInt n = nI j) (hn : i < nL) (hq : pc + 3 = q) (k : aw_X M G nL q (ls.set i (some (.inr (nI (a + j))))) st h) : aw_X M G nL pc ls st h := ax_iinc B hd hx (by rw [hv, nI_add]) hn hq k
theorem ax_getN (B : aw_B M G cc nL own d) {ix c k a : Nat} {x : Int32} (F : aw_fl own ix c k) (hr : aw_rf c k = false) (hd : decode cc pc = .ok (.getfield ix, 3)) (ha : aw_is G a c) (hx : h a k = x) (hq : pc + 3 = q) (K : aw_X M G nL q ls (.inr x :: st) h) : aw_X M G nL pc ls (.inl (some a) :: st) h := ax_getI B F hr hd ha.1 ha.2 hq (by rw [hx]; exact K)
theorem ax_getP (B : aw_B M G cc nL own d) {ix c k a b : Nat} (F : aw_fl own ix c k) (hr : aw_rf c k = true) (hd : decode cc pc = .ok (.getfield ix, 3)) (ha : aw_is G a c) (hm : aw_rM a k = some b) (hq : pc + 3 = q) (K : aw_X M G nL q ls (.inl (some b) :: st) h) : aw_X M G nL pc ls (.inl (some a) :: st) h := ax_getR B F hr hd ha.1 ha.2 hm hq K
theorem ax_putN (B : aw_B M G cc nL own d) {ix c k a : Nat} {x : Int32} (F : aw_fp own ix c k .int) (hd : decode cc pc = .ok (.putfield ix, 3)) (ha : aw_is G a c) (hq : pc + 3 = q) (K : aw_X M G nL q ls st (aw_u h a k x)) : aw_X M G nL pc ls (.inr x :: .inl (some a) :: st) h := ax_putI B F hd ha.1 ha.2 hq K
theorem ax_putB (B : aw_B M G cc nL own d) {ix c k a : Nat} {x : Int32} (F : aw_fp own ix c k .boolean) (hx : x = 0 ∨ x = 1) (hd : decode cc pc = .ok (.putfield ix, 3)) (ha : aw_is G a c) (hq : pc + 3 = q) (K : aw_X M G nL q ls st (aw_u h a k x)) : aw_X M G nL pc ls (.inr x :: .inl (some a) :: st) h := ax_putZ B F hx hd ha.1 ha.2 hq K
theorem ax_ialdN (B : aw_B M G cc nL own d) {a z j : Nat} {i x : Int32} (hd : decode cc pc = .ok (.iaload, 1)) (ha : aw_ar G a 0 z) (hi : i = nI j) (hj : j < z) (hz : z < 2 ^ 31) (hx : h a j = x) (hq : pc + 1 = q) (K : aw_X M G nL q ls (.inr x :: st) h) : aw_X M G nL pc ls (.inr i :: .inl (some a) :: st) h := by
  subst hi
  refine ax_iald B hd ha.1 ha.2 (vp_in_nI hj hz) hq ?_
  rw [nI_clamp (by omega), hx]
  exact K
theorem ax_zaldN (B : aw_B M G cc nL own d) {a z j : Nat} {i x : Int32} (hd : decode cc pc = .ok (.baload, 1)) (ha : aw_ar G a 1 z) (hi : i = nI j) (hj : j < z) (hz : z < 2 ^ 31) (hx : h a j = x) (hq : pc + 1 = q) (K : aw_X M G nL q ls (.inr x :: st) h) : aw_X M G nL pc ls (.inr i :: .inl (some a) :: st) h := by
  subst hi
  refine ax_zald B hd ha.1 ha.2 (vp_in_nI hj hz) hq ?_
  rw [nI_clamp (by omega), hx]
  exact K
theorem ax_aaldN (B : aw_B M G cc nL own d) {a z j b : Nat} {i : Int32} (hd : decode cc pc = .ok (.aaload, 1)) (ha : aw_ar G a 2 z) (hi : i = nI j) (hj : j < z) (hz : z < 2 ^ 31) (hr : aw_rM a j = some b) (hq : pc + 1 = q) (K : aw_X M G nL q ls (.inl (some b) :: st) h) : aw_X M G nL pc ls (.inr i :: .inl (some a) :: st) h := by
  subst hi
  exact ax_aald B hd ha.1 ha.2 (vp_in_nI hj hz) (by rw [nI_clamp (by omega), hr]) hq K
theorem ax_iastN (B : aw_B M G cc nL own d) {a z j : Nat} {i x : Int32} (hd : decode cc pc = .ok (.iastore, 1)) (ha : aw_ar G a 0 z) (hi : i = nI j) (hj : j < z) (hz : z < 2 ^ 31) (hq : pc + 1 = q) (K : aw_X M G nL q ls st (aw_u h a j x)) : aw_X M G nL pc ls (.inr x :: .inr i :: .inl (some a) :: st) h := by
  subst hi
  refine ax_iast B hd ha.1 ha.2 (vp_in_nI hj hz) hq ?_
  rw [nI_clamp (by omega)]
  exact K
theorem ax_zastN (B : aw_B M G cc nL own d) {a z j : Nat} {i x : Int32} (hd : decode cc pc = .ok (.bastore, 1)) (ha : aw_ar G a 1 z) (hi : i = nI j) (hj : j < z) (hz : z < 2 ^ 31) (hx : x = 0 ∨ x = 1) (hq : pc + 1 = q) (K : aw_X M G nL q ls st (aw_u h a j x)) : aw_X M G nL pc ls (.inr x :: .inr i :: .inl (some a) :: st) h := by
  subst hi
  refine ax_zast B hd ha.1 ha.2 (vp_in_nI hj hz) hq ?_
  rw [nI_clamp (by omega), show vp_nar .boolean x = x by rcases hx with rfl | rfl <;> rfl]
  exact K
theorem ax_cV (B : aw_B M G cc nL own d) {ix c n d' a : Nat} {y : aw_Y} {as rs : List aw_V} {post : Option aw_V → aw_H → Prop} (V : aw_cv own ix y c n) (hd : decode cc pc = .ok (.invokevirtual ix, 3)) (ha : aw_is G a c) (hn : as.length = n) (hrs : as.reverse = rs) (hst : st.length ≤ 8) (hdd : d' < d)
    (C : aw_C M.2.1 G d' y (.inl (some a) :: as) h post) (hq : pc + 3 = q) (K : ∀ r h', post r h' → aw_X M G nL q ls (r.toList ++ st) h') : aw_X M G nL pc ls (rs ++ .inl (some a) :: st) h := ax_callV B V hd ha.1 ha.2 hn hrs hst hdd C hq K
theorem ax_ifZ_eq (B : aw_B M G cc nL own d) {b : Bool} {off : Int} {q2 : Nat} (hd : decode cc pc = .ok (.ifCond .eq off, 3)) (hq : (pc : Int) + off = (q : Int)) (hq2 : pc + 3 = q2) (kt : b = false → aw_X M G nL q ls st h) (kf : b = true → aw_X M G nL q2 ls st h) : aw_X M G nL pc ls (.inr (bI b) :: st) h := ax_if_eq B hd hq hq2 (fun z => kt (bI_0 z)) (fun z => kf (bI_n0 z))
theorem ax_ifZ_ne (B : aw_B M G cc nL own d) {b : Bool} {off : Int} {q2 : Nat} (hd : decode cc pc = .ok (.ifCond .ne off, 3)) (hq : (pc : Int) + off = (q : Int)) (hq2 : pc + 3 = q2) (kt : b = true → aw_X M G nL q ls st h) (kf : b = false → aw_X M G nL q2 ls st h) : aw_X M G nL pc ls (.inr (bI b) :: st) h := ax_if_ne B hd hq hq2 (fun z => kt (bI_n0 z)) (fun z => kf (bI_0 z))
theorem ax_ifN_eq (B : aw_B M G cc nL own d) {a : Nat} (ha : a < 2 ^ 31) {off : Int} {q2 : Nat} (hd : decode cc pc = .ok (.ifCond .eq off, 3)) (hq : (pc : Int) + off = (q : Int)) (hq2 : pc + 3 = q2) (kt : a = 0 → aw_X M G nL q ls st h) (kf : 0 < a → aw_X M G nL q2 ls st h) : aw_X M G nL pc ls (.inr (nI a) :: st) h := ax_if_eq B hd hq hq2 (fun z => kt (Nat.eq_zero_of_not_pos (fun w => nI_ne0 w ha z))) (fun z => kf (Nat.pos_of_ne_zero (fun w => z (by rw [w]; rfl))))
theorem ax_ifN_ne (B : aw_B M G cc nL own d) {a : Nat} (ha : a < 2 ^ 31) {off : Int} {q2 : Nat} (hd : decode cc pc = .ok (.ifCond .ne off, 3)) (hq : (pc : Int) + off = (q : Int)) (hq2 : pc + 3 = q2) (kt : 0 < a → aw_X M G nL q ls st h) (kf : a = 0 → aw_X M G nL q2 ls st h) : aw_X M G nL pc ls (.inr (nI a) :: st) h := ax_if_ne B hd hq hq2 (fun z => kt (Nat.pos_of_ne_zero (fun w => z (by rw [w]; rfl)))) (fun z => kf (Nat.eq_zero_of_not_pos (fun w => nI_ne0 w ha z)))
theorem ax_ifN_gt (B : aw_B M G cc nL own d) {a : Nat} (ha : a < 2 ^ 31) {off : Int} {q2 : Nat} (hd : decode cc pc = .ok (.ifCond .gt off, 3)) (hq : (pc : Int) + off = (q : Int)) (hq2 : pc + 3 = q2) (kt : 0 < a → aw_X M G nL q ls st h) (kf : a = 0 → aw_X M G nL q2 ls st h) : aw_X M G nL pc ls (.inr (nI a) :: st) h := ax_if_gt B hd hq hq2 (fun z => kt (Nat.pos_of_ne_zero (fun w => absurd z (by subst w; decide)))) (fun z => kf (Nat.eq_zero_of_not_pos (fun w => z (nI_lt (a := 0) w ha))))
theorem ax_ifN_le (B : aw_B M G cc nL own d) {a : Nat} (ha : a < 2 ^ 31) {off : Int} {q2 : Nat} (hd : decode cc pc = .ok (.ifCond .le off, 3)) (hq : (pc : Int) + off = (q : Int)) (hq2 : pc + 3 = q2) (kt : a = 0 → aw_X M G nL q ls st h) (kf : 0 < a → aw_X M G nL q2 ls st h) : aw_X M G nL pc ls (.inr (nI a) :: st) h := ax_if_le B hd hq hq2 (fun z => kt (Nat.eq_zero_of_not_pos (fun w => nI_nle w ha z))) (fun z => kf (Nat.pos_of_ne_zero (fun w => z (by subst w; decide))))
theorem ax_ifN_lt (B : aw_B M G cc nL own d) {a : Nat} (ha : a < 2 ^ 31) {off : Int} {q2 : Nat} (hd : decode cc pc = .ok (.ifCond .lt off, 3)) (hq : (pc : Int) + off = (q : Int)) (hq2 : pc + 3 = q2) (kf : aw_X M G nL q2 ls st h) : aw_X M G nL pc ls (.inr (nI a) :: st) h := ax_if_lt B hd hq hq2 (fun z => absurd z (nI_pos ha)) (fun _ => kf)
theorem ax_ifN_ge (B : aw_B M G cc nL own d) {a : Nat} (ha : a < 2 ^ 31) {off : Int} {q2 : Nat} (hd : decode cc pc = .ok (.ifCond .ge off, 3)) (hq : (pc : Int) + off = (q : Int)) (hq2 : pc + 3 = q2) (kt : aw_X M G nL q ls st h) : aw_X M G nL pc ls (.inr (nI a) :: st) h := ax_if_ge B hd hq hq2 (fun _ => kt) (fun z => absurd (nI_pos' ha) z)
theorem ax_icmpN_eq (B : aw_B M G cc nL own d) {a b : Nat} (ha : a < 2 ^ 31) (hb : b < 2 ^ 31) {off : Int} {q2 : Nat} (hd : decode cc pc = .ok (.if_icmp .eq off, 3)) (hq : (pc : Int) + off = (q : Int)) (hq2 : pc + 3 = q2) (kt : a = b → aw_X M G nL q ls st h) (kf : a ≠ b → aw_X M G nL q2 ls st h) : aw_X M G nL pc ls (.inr (nI b) :: .inr (nI a) :: st) h := ax_icmp_eq B hd hq hq2 (fun z => kt ((nI_eq ha hb).mp z)) (fun z => kf (fun w => z ((nI_eq ha hb).mpr w)))
theorem ax_icmpN_ne (B : aw_B M G cc nL own d) {a b : Nat} (ha : a < 2 ^ 31) (hb : b < 2 ^ 31) {off : Int} {q2 : Nat} (hd : decode cc pc = .ok (.if_icmp .ne off, 3)) (hq : (pc : Int) + off = (q : Int)) (hq2 : pc + 3 = q2) (kt : a ≠ b → aw_X M G nL q ls st h) (kf : a = b → aw_X M G nL q2 ls st h) : aw_X M G nL pc ls (.inr (nI b) :: .inr (nI a) :: st) h := ax_icmp_ne B hd hq hq2 (fun z => kt (fun w => z ((nI_eq ha hb).mpr w))) (fun z => kf ((nI_eq ha hb).mp z))
theorem ax_icmpN_lt (B : aw_B M G cc nL own d) {a b : Nat} (ha : a < 2 ^ 31) (hb : b < 2 ^ 31) {off : Int} {q2 : Nat} (hd : decode cc pc = .ok (.if_icmp .lt off, 3)) (hq : (pc : Int) + off = (q : Int)) (hq2 : pc + 3 = q2) (kt : a < b → aw_X M G nL q ls st h) (kf : b ≤ a → aw_X M G nL q2 ls st h) : aw_X M G nL pc ls (.inr (nI b) :: .inr (nI a) :: st) h := ax_icmp_lt B hd hq hq2 (fun z => kt ((nI_ltI ha hb).mp z)) (fun z => kf (Nat.le_of_not_lt (fun w => z ((nI_ltI ha hb).mpr w))))
theorem ax_icmpN_ge (B : aw_B M G cc nL own d) {a b : Nat} (ha : a < 2 ^ 31) (hb : b < 2 ^ 31) {off : Int} {q2 : Nat} (hd : decode cc pc = .ok (.if_icmp .ge off, 3)) (hq : (pc : Int) + off = (q : Int)) (hq2 : pc + 3 = q2) (kt : b ≤ a → aw_X M G nL q ls st h) (kf : a < b → aw_X M G nL q2 ls st h) : aw_X M G nL pc ls (.inr (nI b) :: .inr (nI a) :: st) h := ax_icmp_ge B hd hq hq2 (fun z => kt ((nI_leI hb ha).mp z)) (fun z => kf (Nat.lt_of_not_le (fun w => z ((nI_leI hb ha).mpr w))))
theorem ax_icmpN_gt (B : aw_B M G cc nL own d) {a b : Nat} (ha : a < 2 ^ 31) (hb : b < 2 ^ 31) {off : Int} {q2 : Nat} (hd : decode cc pc = .ok (.if_icmp .gt off, 3)) (hq : (pc : Int) + off = (q : Int)) (hq2 : pc + 3 = q2) (kt : b < a → aw_X M G nL q ls st h) (kf : a ≤ b → aw_X M G nL q2 ls st h) : aw_X M G nL pc ls (.inr (nI b) :: .inr (nI a) :: st) h := ax_icmp_gt B hd hq hq2 (fun z => kt ((nI_ltI hb ha).mp z)) (fun z => kf (Nat.le_of_not_lt (fun w => z ((nI_ltI hb ha).mpr w))))
theorem ax_icmpN_le (B : aw_B M G cc nL own d) {a b : Nat} (ha : a < 2 ^ 31) (hb : b < 2 ^ 31) {off : Int} {q2 : Nat} (hd : decode cc pc = .ok (.if_icmp .le off, 3)) (hq : (pc : Int) + off = (q : Int)) (hq2 : pc + 3 = q2) (kt : a ≤ b → aw_X M G nL q ls st h) (kf : b < a → aw_X M G nL q2 ls st h) : aw_X M G nL pc ls (.inr (nI b) :: .inr (nI a) :: st) h := ax_icmp_le B hd hq hq2 (fun z => kt ((nI_leI ha hb).mp z)) (fun z => kf (Nat.lt_of_not_le (fun w => z ((nI_leI ha hb).mpr w))))
end AN
end
section
/- methods, field links, calls, constants; written by wip/whole/tools/names.py -/
def Y_S_init : aw_Y := (⟨"SessionTables", "<init>", "(I)V"⟩, prog_1_method_1_code, 2, none)
def Y_S_make : aw_Y := (⟨"SessionTables", "make", "(IIZ)I"⟩, prog_1_method_2_code, 6, (some .int))
def Y_S_write : aw_Y := (⟨"SessionTables", "write", "(III)I"⟩, prog_1_method_3_code, 6, (some .int))
def Y_S_remove : aw_Y := (⟨"SessionTables", "remove", "(II)I"⟩, prog_1_method_4_code, 8, (some .int))
def Y_S_move : aw_Y := (⟨"SessionTables", "move", "(IIII)I"⟩, prog_1_method_5_code, 10, (some .int))
def Y_S_close : aw_Y := (⟨"SessionTables", "close", "()I"⟩, prog_1_method_6_code, 2, (some .int))
def Y_S_arm : aw_Y := (⟨"SessionTables", "arm", "(I)Z"⟩, prog_1_method_7_code, 2, (some .boolean))
def Y_S_crash : aw_Y := (⟨"SessionTables", "crash", "()I"⟩, prog_1_method_8_code, 1, (some .int))
def Y_S_spoil : aw_Y := (⟨"SessionTables", "spoil", "(I)Z"⟩, prog_1_method_9_code, 2, (some .boolean))
def Y_S_left : aw_Y := (⟨"SessionTables", "left", "()I"⟩, prog_1_method_10_code, 1, (some .int))
def Y_S_changed : aw_Y := (⟨"SessionTables", "changed", "()I"⟩, prog_1_method_11_code, 1, (some .int))
def Y_S_tables : aw_Y := (⟨"SessionTables", "tables", "()I"⟩, prog_1_method_12_code, 3, (some .int))
def Y_S_kind : aw_Y := (⟨"SessionTables", "kind", "(II)I"⟩, prog_1_method_13_code, 4, (some .int))
def Y_S_items : aw_Y := (⟨"SessionTables", "items", "(II)I"⟩, prog_1_method_14_code, 4, (some .int))
def Y_S_find : aw_Y := (⟨"SessionTables", "find", "(III)I"⟩, prog_1_method_15_code, 6, (some .int))
def Y_S_item : aw_Y := (⟨"SessionTables", "item", "(III)I"⟩, prog_1_method_16_code, 5, (some .int))
def Y_S_block : aw_Y := (⟨"SessionTables", "block", "(III)I"⟩, prog_1_method_17_code, 6, (some .int))
def Y_S_word : aw_Y := (⟨"SessionTables", "word", "(II)I"⟩, prog_1_method_18_code, 3, (some .int))
def Y_S_isName : aw_Y := (⟨"SessionTables", "isName", "(I)Z"⟩, prog_1_method_19_code, 1, (some .boolean))
def Y_S_isTooFull : aw_Y := (⟨"SessionTables", "isTooFull", "(II)Z"⟩, prog_1_method_20_code, 3, (some .boolean))
def Y_S_writeEntries : aw_Y := (⟨"SessionTables", "writeEntries", "()Z"⟩, prog_1_method_21_code, 3, (some .boolean))
def Y_S_writeEntry : aw_Y := (⟨"SessionTables", "writeEntry", "(ILSessionTables$Node;)Z"⟩, prog_1_method_22_code, 4, (some .boolean))
def Y_S_writeTable : aw_Y := (⟨"SessionTables", "writeTable", "(I)Z"⟩, prog_1_method_23_code, 3, (some .boolean))
def Y_S_readBack : aw_Y := (⟨"SessionTables", "readBack", "()V"⟩, prog_1_method_24_code, 2, none)
def Y_S_treeAt : aw_Y := (⟨"SessionTables", "treeAt", "(I)LSessionTables$Tree;"⟩, prog_1_method_25_code, 3, (some (.object "SessionTables$Tree")))
def Y_S_tablePlace : aw_Y := (⟨"SessionTables", "tablePlace", "(I)I"⟩, prog_1_method_26_code, 4, (some .int))
def Y_S_newestTable : aw_Y := (⟨"SessionTables", "newestTable", "()I"⟩, prog_1_method_27_code, 2, (some .int))
def Y_S_newestNumber : aw_Y := (⟨"SessionTables", "newestNumber", "()I"⟩, prog_1_method_28_code, 2, (some .int))
def Y_S_isValidTable : aw_Y := (⟨"SessionTables", "isValidTable", "(I)Z"⟩, prog_1_method_29_code, 4, (some .boolean))
def Y_R_init : aw_Y := (⟨"SessionTablesModel", "<init>", "(I)V"⟩, prog_6_method_1_code, 2, none)
def Y_R_step : aw_Y := (⟨"SessionTablesModel", "step", "(II)I"⟩, prog_6_method_2_code, 4, (some .int))
def Y_R_checkOf : aw_Y := (⟨"SessionTablesModel", "checkOf", "(I)I"⟩, prog_6_method_3_code, 6, (some .int))
def Y_R_isGood : aw_Y := (⟨"SessionTablesModel", "isGood", "(I)Z"⟩, prog_6_method_4_code, 3, (some .boolean))
def Y_R_isValid : aw_Y := (⟨"SessionTablesModel", "isValid", "(I)Z"⟩, prog_6_method_5_code, 4, (some .boolean))
def Y_R_tableAt : aw_Y := (⟨"SessionTablesModel", "tableAt", "(I)I"⟩, prog_6_method_6_code, 4, (some .int))
def Y_R_newest : aw_Y := (⟨"SessionTablesModel", "newest", "()I"⟩, prog_6_method_7_code, 2, (some .int))
def Y_R_clearSector : aw_Y := (⟨"SessionTablesModel", "clearSector", "(II)V"⟩, prog_6_method_8_code, 4, none)
def Y_R_writeSector : aw_Y := (⟨"SessionTablesModel", "writeSector", "()Z"⟩, prog_6_method_9_code, 3, (some .boolean))
def Y_R_empty : aw_Y := (⟨"SessionTablesModel", "empty", "()V"⟩, prog_6_method_10_code, 2, none)
def Y_R_lookAtTable : aw_Y := (⟨"SessionTablesModel", "lookAtTable", "(I)V"⟩, prog_6_method_11_code, 6, none)
def Y_R_lookAtHand : aw_Y := (⟨"SessionTablesModel", "lookAtHand", "()V"⟩, prog_6_method_12_code, 2, none)
def Y_R_look : aw_Y := (⟨"SessionTablesModel", "look", "(I)Z"⟩, prog_6_method_13_code, 3, (some .boolean))
def Y_R_readBack : aw_Y := (⟨"SessionTablesModel", "readBack", "()V"⟩, prog_6_method_14_code, 3, none)
def Y_R_isKind : aw_Y := (⟨"SessionTablesModel", "isKind", "(II)Z"⟩, prog_6_method_15_code, 3, (some .boolean))
def Y_R_itemOf : aw_Y := (⟨"SessionTablesModel", "itemOf", "(II)I"⟩, prog_6_method_16_code, 4, (some .int))
def Y_R_take : aw_Y := (⟨"SessionTablesModel", "take", "(II)V"⟩, prog_6_method_17_code, 4, none)
def Y_R_add : aw_Y := (⟨"SessionTablesModel", "add", "(II)V"⟩, prog_6_method_18_code, 3, none)
def Y_R_changedWith : aw_Y := (⟨"SessionTablesModel", "changedWith", "(III)I"⟩, prog_6_method_19_code, 7, (some .int))
def Y_R_tooFew : aw_Y := (⟨"SessionTablesModel", "tooFew", "(II)Z"⟩, prog_6_method_20_code, 3, (some .boolean))
def Y_R_make : aw_Y := (⟨"SessionTablesModel", "make", "(IIZ)I"⟩, prog_6_method_21_code, 6, (some .int))
def Y_R_write : aw_Y := (⟨"SessionTablesModel", "write", "(III)I"⟩, prog_6_method_22_code, 6, (some .int))
def Y_R_remove : aw_Y := (⟨"SessionTablesModel", "remove", "(II)I"⟩, prog_6_method_23_code, 6, (some .int))
def Y_R_isBelow : aw_Y := (⟨"SessionTablesModel", "isBelow", "(II)Z"⟩, prog_6_method_24_code, 6, (some .boolean))
def Y_R_move : aw_Y := (⟨"SessionTablesModel", "move", "(IIII)I"⟩, prog_6_method_25_code, 8, (some .int))
def Y_R_writeEntry : aw_Y := (⟨"SessionTablesModel", "writeEntry", "(I)Z"⟩, prog_6_method_26_code, 3, (some .boolean))
def Y_R_close : aw_Y := (⟨"SessionTablesModel", "close", "()I"⟩, prog_6_method_27_code, 5, (some .int))
def Y_R_arm : aw_Y := (⟨"SessionTablesModel", "arm", "(I)Z"⟩, prog_6_method_28_code, 2, (some .boolean))
def Y_R_crash : aw_Y := (⟨"SessionTablesModel", "crash", "()I"⟩, prog_6_method_29_code, 2, (some .int))
def Y_R_spoil : aw_Y := (⟨"SessionTablesModel", "spoil", "(I)Z"⟩, prog_6_method_30_code, 2, (some .boolean))
def Y_R_left : aw_Y := (⟨"SessionTablesModel", "left", "()I"⟩, prog_6_method_31_code, 1, (some .int))
def Y_R_changed : aw_Y := (⟨"SessionTablesModel", "changed", "()I"⟩, prog_6_method_32_code, 1, (some .int))
def Y_R_tables : aw_Y := (⟨"SessionTablesModel", "tables", "()I"⟩, prog_6_method_33_code, 3, (some .int))
def Y_R_sees : aw_Y := (⟨"SessionTablesModel", "sees", "(III)Z"⟩, prog_6_method_34_code, 4, (some .boolean))
def Y_R_kind : aw_Y := (⟨"SessionTablesModel", "kind", "(II)I"⟩, prog_6_method_35_code, 3, (some .int))
def Y_R_items : aw_Y := (⟨"SessionTablesModel", "items", "(II)I"⟩, prog_6_method_36_code, 3, (some .int))
def Y_R_find : aw_Y := (⟨"SessionTablesModel", "find", "(III)I"⟩, prog_6_method_37_code, 5, (some .int))
def Y_R_item : aw_Y := (⟨"SessionTablesModel", "item", "(III)I"⟩, prog_6_method_38_code, 4, (some .int))
def Y_R_block : aw_Y := (⟨"SessionTablesModel", "block", "(III)I"⟩, prog_6_method_39_code, 5, (some .int))
def Y_R_word : aw_Y := (⟨"SessionTablesModel", "word", "(II)I"⟩, prog_6_method_40_code, 3, (some .int))
def Y_M_init : aw_Y := (⟨"SessionTables$Medium", "<init>", "(I)V"⟩, prog_2_method_1_code, 2, none)
def Y_M_unwritten : aw_Y := (⟨"SessionTables$Medium", "unwritten", "()I"⟩, prog_2_method_2_code, 1, (some .int))
def Y_M_isWritten : aw_Y := (⟨"SessionTables$Medium", "isWritten", "(I)Z"⟩, prog_2_method_3_code, 2, (some .boolean))
def Y_M_hasWord : aw_Y := (⟨"SessionTables$Medium", "hasWord", "(II)Z"⟩, prog_2_method_4_code, 3, (some .boolean))
def Y_M_wordAt : aw_Y := (⟨"SessionTables$Medium", "wordAt", "(II)I"⟩, prog_2_method_5_code, 3, (some .int))
def Y_M_isGood : aw_Y := (⟨"SessionTables$Medium", "isGood", "(I)Z"⟩, prog_2_method_6_code, 2, (some .boolean))
def Y_M_flipCheck : aw_Y := (⟨"SessionTables$Medium", "flipCheck", "(I)V"⟩, prog_2_method_7_code, 2, none)
def Y_M_begin : aw_Y := (⟨"SessionTables$Medium", "begin", "(II)V"⟩, prog_2_method_8_code, 3, none)
def Y_M_put : aw_Y := (⟨"SessionTables$Medium", "put", "(II)V"⟩, prog_2_method_9_code, 3, none)
def Y_M_finish : aw_Y := (⟨"SessionTables$Medium", "finish", "()Z"⟩, prog_2_method_10_code, 3, (some .boolean))
def Y_M_checkOf : aw_Y := (⟨"SessionTables$Medium", "checkOf", "(I)I"⟩, prog_2_method_11_code, 4, (some .int))
def Y_M_checkWithWord : aw_Y := (⟨"SessionTables$Medium", "checkWithWord", "(II)I"⟩, prog_2_method_12_code, 4, (some .int))
def Y_M_checkWithByte : aw_Y := (⟨"SessionTables$Medium", "checkWithByte", "(II)I"⟩, prog_2_method_13_code, 4, (some .int))
def Y_N_init : aw_Y := (⟨"SessionTables$Node", "<init>", "()V"⟩, prog_3_method_1_code, 1, none)
def Y_N_becomeAbsent : aw_Y := (⟨"SessionTables$Node", "becomeAbsent", "()V"⟩, prog_3_method_2_code, 1, none)
def Y_N_becomeNew : aw_Y := (⟨"SessionTables$Node", "becomeNew", "(I)V"⟩, prog_3_method_3_code, 2, none)
def Y_N_become : aw_Y := (⟨"SessionTables$Node", "become", "(LSessionTables$Medium;I)V"⟩, prog_3_method_4_code, 4, none)
def Y_N_ifUnchanged : aw_Y := (⟨"SessionTables$Node", "ifUnchanged", "()I"⟩, prog_3_method_5_code, 1, (some .int))
def Y_N_has : aw_Y := (⟨"SessionTables$Node", "has", "(I)Z"⟩, prog_3_method_6_code, 2, (some .boolean))
def Y_N_indexOfName : aw_Y := (⟨"SessionTables$Node", "indexOfName", "(I)I"⟩, prog_3_method_7_code, 3, (some .int))
def Y_N_nodeOfItem : aw_Y := (⟨"SessionTables$Node", "nodeOfItem", "(I)I"⟩, prog_3_method_8_code, 2, (some .int))
def Y_N_holds : aw_Y := (⟨"SessionTables$Node", "holds", "(I)Z"⟩, prog_3_method_9_code, 3, (some .boolean))
def Y_N_addItem : aw_Y := (⟨"SessionTables$Node", "addItem", "(II)V"⟩, prog_3_method_10_code, 3, none)
def Y_N_dropItem : aw_Y := (⟨"SessionTables$Node", "dropItem", "(I)V"⟩, prog_3_method_11_code, 3, none)
def Y_N_setBlock : aw_Y := (⟨"SessionTables$Node", "setBlock", "(II)V"⟩, prog_3_method_12_code, 3, none)
def Y_T_init : aw_Y := (⟨"SessionTables$Tree", "<init>", "()V"⟩, prog_4_method_1_code, 2, none)
def Y_T_becomeNothing : aw_Y := (⟨"SessionTables$Tree", "becomeNothing", "()V"⟩, prog_4_method_2_code, 2, none)
def Y_T_becomeEmpty : aw_Y := (⟨"SessionTables$Tree", "becomeEmpty", "()V"⟩, prog_4_method_3_code, 1, none)
def Y_T_become : aw_Y := (⟨"SessionTables$Tree", "become", "(LSessionTables$Medium;I)V"⟩, prog_4_method_4_code, 5, none)
def Y_T_nodeAt : aw_Y := (⟨"SessionTables$Tree", "nodeAt", "(I)LSessionTables$Node;"⟩, prog_4_method_5_code, 2, (some (.object "SessionTables$Node")))
def Y_T_directoryAt : aw_Y := (⟨"SessionTables$Tree", "directoryAt", "(I)LSessionTables$Node;"⟩, prog_4_method_6_code, 3, (some (.object "SessionTables$Node")))
def Y_T_fileAt : aw_Y := (⟨"SessionTables$Tree", "fileAt", "(I)LSessionTables$Node;"⟩, prog_4_method_7_code, 3, (some (.object "SessionTables$Node")))
def Y_T_leastAbsent : aw_Y := (⟨"SessionTables$Tree", "leastAbsent", "()I"⟩, prog_4_method_8_code, 2, (some .int))
def Y_T_countChanged : aw_Y := (⟨"SessionTables$Tree", "countChanged", "()I"⟩, prog_4_method_9_code, 3, (some .int))
def Y_T_isAtOrBelow : aw_Y := (⟨"SessionTables$Tree", "isAtOrBelow", "(II)Z"⟩, prog_4_method_10_code, 5, (some .boolean))
def Y_T_parentOf : aw_Y := (⟨"SessionTables$Tree", "parentOf", "(I)I"⟩, prog_4_method_11_code, 3, (some .int))
def Y_L_cell : aw_Y := (⟨"SessionTablesLaw", "cell", "([II)I"⟩, method_2_code, 2, (some .int))
theorem fl_S_23 : aw_fl "SessionTables" 23 3 0 := ⟨"SessionTables", F_S, rfl, by decide, uw_S, aw_mem (List.mem_of_getElem? (i := 136) (by decide +kernel)) rfl, rfl⟩ -- SessionTables.medium
theorem fl_S_30 : aw_fl "SessionTables" 30 3 1 := ⟨"SessionTables", F_S, rfl, by decide, uw_S, aw_mem (List.mem_of_getElem? (i := 137) (by decide +kernel)) rfl, rfl⟩ -- SessionTables.tree
theorem fl_S_34 : aw_fl "SessionTables" 34 3 2 := ⟨"SessionTables", F_S, rfl, by decide, uw_S, aw_mem (List.mem_of_getElem? (i := 138) (by decide +kernel)) rfl, rfl⟩ -- SessionTables.past
theorem fl_S_65 : aw_fl "SessionTables" 65 2 0 := ⟨"SessionTables$Tree", F_T, rfl, by decide, uw_T, aw_mem (List.mem_of_getElem? (i := 116) (by decide +kernel)) rfl, rfl⟩ -- SessionTables$Tree.nodes
theorem fl_S_80 : aw_fl "SessionTables" 80 1 2 := ⟨"SessionTables$Node", F_N, rfl, by decide, uw_N, aw_mem (List.mem_of_getElem? (i := 98) (by decide +kernel)) rfl, rfl⟩ -- SessionTables$Node.count
theorem fl_S_84 : aw_fl "SessionTables" 84 0 3 := ⟨"SessionTables$Medium", F_M, rfl, by decide, uw_M, aw_mem (List.mem_of_getElem? (i := 64) (by decide +kernel)) rfl, rfl⟩ -- SessionTables$Medium.written
theorem fl_S_109 : aw_fl "SessionTables" 109 1 1 := ⟨"SessionTables$Node", F_N, rfl, by decide, uw_N, aw_mem (List.mem_of_getElem? (i := 95) (by decide +kernel)) rfl, rfl⟩ -- SessionTables$Node.type
theorem fl_S_112 : aw_fl "SessionTables" 112 1 4 := ⟨"SessionTables$Node", F_N, rfl, by decide, uw_N, aw_mem (List.mem_of_getElem? (i := 102) (by decide +kernel)) rfl, rfl⟩ -- SessionTables$Node.isChanged
theorem fp_S_112 : aw_fp "SessionTables" 112 1 4 .boolean := ⟨"SessionTables$Node", F_N, fy_N, rfl, by decide, uw_N, aw_mem (List.mem_of_getElem? (i := 102) (by decide +kernel)) rfl, rfl, fy_N_ok, fn_N, rfl, fy_N_ok 4 (by decide), rfl⟩
theorem fl_S_137 : aw_fl "SessionTables" 137 0 4 := ⟨"SessionTables$Medium", F_M, rfl, by decide, uw_M, aw_mem (List.mem_of_getElem? (i := 66) (by decide +kernel)) rfl, rfl⟩ -- SessionTables$Medium.stop
theorem fp_S_137 : aw_fp "SessionTables" 137 0 4 .int := ⟨"SessionTables$Medium", F_M, fy_M, rfl, by decide, uw_M, aw_mem (List.mem_of_getElem? (i := 66) (by decide +kernel)) rfl, rfl, fy_M_ok, fn_M, rfl, fy_M_ok 4 (by decide), rfl⟩
theorem fl_S_159 : aw_fl "SessionTables" 159 1 0 := ⟨"SessionTables$Node", F_N, rfl, by decide, uw_N, aw_mem (List.mem_of_getElem? (i := 93) (by decide +kernel)) rfl, rfl⟩ -- SessionTables$Node.list
theorem fl_S_176 : aw_fl "SessionTables" 176 1 3 := ⟨"SessionTables$Node", F_N, rfl, by decide, uw_N, aw_mem (List.mem_of_getElem? (i := 100) (by decide +kernel)) rfl, rfl⟩ -- SessionTables$Node.entry
theorem fp_S_176 : aw_fp "SessionTables" 176 1 3 .int := ⟨"SessionTables$Node", F_N, fy_N, rfl, by decide, uw_N, aw_mem (List.mem_of_getElem? (i := 100) (by decide +kernel)) rfl, rfl, fy_N_ok, fn_N, rfl, fy_N_ok 3 (by decide), rfl⟩
theorem fl_M_9 : aw_fl "SessionTables$Medium" 9 0 0 := ⟨"SessionTables$Medium", F_M, rfl, by decide, uw_M, aw_mem (List.mem_of_getElem? (i := 60) (by decide +kernel)) rfl, rfl⟩ -- SessionTables$Medium.sectors
theorem fl_M_15 : aw_fl "SessionTables$Medium" 15 0 1 := ⟨"SessionTables$Medium", F_M, rfl, by decide, uw_M, aw_mem (List.mem_of_getElem? (i := 61) (by decide +kernel)) rfl, rfl⟩ -- SessionTables$Medium.words
theorem fl_M_19 : aw_fl "SessionTables$Medium" 19 0 2 := ⟨"SessionTables$Medium", F_M, rfl, by decide, uw_M, aw_mem (List.mem_of_getElem? (i := 62) (by decide +kernel)) rfl, rfl⟩ -- SessionTables$Medium.checks
theorem fl_M_22 : aw_fl "SessionTables$Medium" 22 0 3 := ⟨"SessionTables$Medium", F_M, rfl, by decide, uw_M, aw_mem (List.mem_of_getElem? (i := 63) (by decide +kernel)) rfl, rfl⟩ -- SessionTables$Medium.written
theorem fp_M_22 : aw_fp "SessionTables$Medium" 22 0 3 .int := ⟨"SessionTables$Medium", F_M, fy_M, rfl, by decide, uw_M, aw_mem (List.mem_of_getElem? (i := 63) (by decide +kernel)) rfl, rfl, fy_M_ok, fn_M, rfl, fy_M_ok 3 (by decide), rfl⟩
theorem fl_M_25 : aw_fl "SessionTables$Medium" 25 0 4 := ⟨"SessionTables$Medium", F_M, rfl, by decide, uw_M, aw_mem (List.mem_of_getElem? (i := 65) (by decide +kernel)) rfl, rfl⟩ -- SessionTables$Medium.stop
theorem fp_M_25 : aw_fp "SessionTables$Medium" 25 0 4 .int := ⟨"SessionTables$Medium", F_M, fy_M, rfl, by decide, uw_M, aw_mem (List.mem_of_getElem? (i := 65) (by decide +kernel)) rfl, rfl, fy_M_ok, fn_M, rfl, fy_M_ok 4 (by decide), rfl⟩
theorem fl_N_9 : aw_fl "SessionTables$Node" 9 1 0 := ⟨"SessionTables$Node", F_N, rfl, by decide, uw_N, aw_mem (List.mem_of_getElem? (i := 92) (by decide +kernel)) rfl, rfl⟩ -- SessionTables$Node.list
theorem fl_N_15 : aw_fl "SessionTables$Node" 15 1 1 := ⟨"SessionTables$Node", F_N, rfl, by decide, uw_N, aw_mem (List.mem_of_getElem? (i := 94) (by decide +kernel)) rfl, rfl⟩ -- SessionTables$Node.type
theorem fp_N_15 : aw_fp "SessionTables$Node" 15 1 1 .int := ⟨"SessionTables$Node", F_N, fy_N, rfl, by decide, uw_N, aw_mem (List.mem_of_getElem? (i := 94) (by decide +kernel)) rfl, rfl, fy_N_ok, fn_N, rfl, fy_N_ok 1 (by decide), rfl⟩
theorem fl_N_19 : aw_fl "SessionTables$Node" 19 1 2 := ⟨"SessionTables$Node", F_N, rfl, by decide, uw_N, aw_mem (List.mem_of_getElem? (i := 97) (by decide +kernel)) rfl, rfl⟩ -- SessionTables$Node.count
theorem fp_N_19 : aw_fp "SessionTables$Node" 19 1 2 .int := ⟨"SessionTables$Node", F_N, fy_N, rfl, by decide, uw_N, aw_mem (List.mem_of_getElem? (i := 97) (by decide +kernel)) rfl, rfl, fy_N_ok, fn_N, rfl, fy_N_ok 2 (by decide), rfl⟩
theorem fl_N_22 : aw_fl "SessionTables$Node" 22 1 3 := ⟨"SessionTables$Node", F_N, rfl, by decide, uw_N, aw_mem (List.mem_of_getElem? (i := 99) (by decide +kernel)) rfl, rfl⟩ -- SessionTables$Node.entry
theorem fp_N_22 : aw_fp "SessionTables$Node" 22 1 3 .int := ⟨"SessionTables$Node", F_N, fy_N, rfl, by decide, uw_N, aw_mem (List.mem_of_getElem? (i := 99) (by decide +kernel)) rfl, rfl, fy_N_ok, fn_N, rfl, fy_N_ok 3 (by decide), rfl⟩
theorem fl_N_25 : aw_fl "SessionTables$Node" 25 1 4 := ⟨"SessionTables$Node", F_N, rfl, by decide, uw_N, aw_mem (List.mem_of_getElem? (i := 101) (by decide +kernel)) rfl, rfl⟩ -- SessionTables$Node.isChanged
theorem fp_N_25 : aw_fp "SessionTables$Node" 25 1 4 .boolean := ⟨"SessionTables$Node", F_N, fy_N, rfl, by decide, uw_N, aw_mem (List.mem_of_getElem? (i := 101) (by decide +kernel)) rfl, rfl, fy_N_ok, fn_N, rfl, fy_N_ok 4 (by decide), rfl⟩
theorem fl_T_11 : aw_fl "SessionTables$Tree" 11 2 0 := ⟨"SessionTables$Tree", F_T, rfl, by decide, uw_T, aw_mem (List.mem_of_getElem? (i := 115) (by decide +kernel)) rfl, rfl⟩ -- SessionTables$Tree.nodes
theorem fl_T_38 : aw_fl "SessionTables$Tree" 38 1 1 := ⟨"SessionTables$Node", F_N, rfl, by decide, uw_N, aw_mem (List.mem_of_getElem? (i := 96) (by decide +kernel)) rfl, rfl⟩ -- SessionTables$Node.type
theorem fl_T_46 : aw_fl "SessionTables$Tree" 46 1 4 := ⟨"SessionTables$Node", F_N, rfl, by decide, uw_N, aw_mem (List.mem_of_getElem? (i := 103) (by decide +kernel)) rfl, rfl⟩ -- SessionTables$Node.isChanged
theorem fl_R_7 : aw_fl "SessionTablesModel" 7 4 0 := ⟨"SessionTablesModel", F_R, rfl, by decide, uw_R, aw_mem (List.mem_of_getElem? (i := 401) (by decide +kernel)) rfl, rfl⟩ -- SessionTablesModel.word
theorem fl_R_13 : aw_fl "SessionTablesModel" 13 4 5 := ⟨"SessionTablesModel", F_R, rfl, by decide, uw_R, aw_mem (List.mem_of_getElem? (i := 406) (by decide +kernel)) rfl, rfl⟩ -- SessionTablesModel.kind
theorem fl_R_16 : aw_fl "SessionTablesModel" 16 4 6 := ⟨"SessionTablesModel", F_R, rfl, by decide, uw_R, aw_mem (List.mem_of_getElem? (i := 407) (by decide +kernel)) rfl, rfl⟩ -- SessionTablesModel.count
theorem fl_R_19 : aw_fl "SessionTablesModel" 19 4 7 := ⟨"SessionTablesModel", F_R, rfl, by decide, uw_R, aw_mem (List.mem_of_getElem? (i := 408) (by decide +kernel)) rfl, rfl⟩ -- SessionTablesModel.items
theorem fl_R_22 : aw_fl "SessionTablesModel" 22 4 8 := ⟨"SessionTablesModel", F_R, rfl, by decide, uw_R, aw_mem (List.mem_of_getElem? (i := 409) (by decide +kernel)) rfl, rfl⟩ -- SessionTablesModel.changed
theorem fl_R_26 : aw_fl "SessionTablesModel" 26 4 9 := ⟨"SessionTablesModel", F_R, rfl, by decide, uw_R, aw_mem (List.mem_of_getElem? (i := 410) (by decide +kernel)) rfl, rfl⟩ -- SessionTablesModel.entry
theorem fl_R_29 : aw_fl "SessionTablesModel" 29 4 10 := ⟨"SessionTablesModel", F_R, rfl, by decide, uw_R, aw_mem (List.mem_of_getElem? (i := 411) (by decide +kernel)) rfl, rfl⟩ -- SessionTablesModel.seenKind
theorem fl_R_32 : aw_fl "SessionTablesModel" 32 4 11 := ⟨"SessionTablesModel", F_R, rfl, by decide, uw_R, aw_mem (List.mem_of_getElem? (i := 412) (by decide +kernel)) rfl, rfl⟩ -- SessionTablesModel.seenCount
theorem fl_R_35 : aw_fl "SessionTablesModel" 35 4 12 := ⟨"SessionTablesModel", F_R, rfl, by decide, uw_R, aw_mem (List.mem_of_getElem? (i := 413) (by decide +kernel)) rfl, rfl⟩ -- SessionTablesModel.seenItems
theorem fl_R_38 : aw_fl "SessionTablesModel" 38 4 13 := ⟨"SessionTablesModel", F_R, rfl, by decide, uw_R, aw_mem (List.mem_of_getElem? (i := 414) (by decide +kernel)) rfl, rfl⟩ -- SessionTablesModel.sector
theorem fl_R_41 : aw_fl "SessionTablesModel" 41 4 14 := ⟨"SessionTablesModel", F_R, rfl, by decide, uw_R, aw_mem (List.mem_of_getElem? (i := 415) (by decide +kernel)) rfl, rfl⟩ -- SessionTablesModel.below
theorem fl_R_44 : aw_fl "SessionTablesModel" 44 4 1 := ⟨"SessionTablesModel", F_R, rfl, by decide, uw_R, aw_mem (List.mem_of_getElem? (i := 402) (by decide +kernel)) rfl, rfl⟩ -- SessionTablesModel.sectors
theorem fp_R_44 : aw_fp "SessionTablesModel" 44 4 1 .int := ⟨"SessionTablesModel", F_R, fy_R, rfl, by decide, uw_R, aw_mem (List.mem_of_getElem? (i := 402) (by decide +kernel)) rfl, rfl, fy_R_ok, fn_R, rfl, fy_R_ok 1 (by decide), rfl⟩
theorem fl_R_66 : aw_fl "SessionTablesModel" 66 4 2 := ⟨"SessionTablesModel", F_R, rfl, by decide, uw_R, aw_mem (List.mem_of_getElem? (i := 403) (by decide +kernel)) rfl, rfl⟩ -- SessionTablesModel.written
theorem fp_R_66 : aw_fp "SessionTablesModel" 66 4 2 .int := ⟨"SessionTablesModel", F_R, fy_R, rfl, by decide, uw_R, aw_mem (List.mem_of_getElem? (i := 403) (by decide +kernel)) rfl, rfl, fy_R_ok, fn_R, rfl, fy_R_ok 2 (by decide), rfl⟩
theorem fl_R_72 : aw_fl "SessionTablesModel" 72 4 3 := ⟨"SessionTablesModel", F_R, rfl, by decide, uw_R, aw_mem (List.mem_of_getElem? (i := 404) (by decide +kernel)) rfl, rfl⟩ -- SessionTablesModel.armed
theorem fp_R_72 : aw_fp "SessionTablesModel" 72 4 3 .boolean := ⟨"SessionTablesModel", F_R, fy_R, rfl, by decide, uw_R, aw_mem (List.mem_of_getElem? (i := 404) (by decide +kernel)) rfl, rfl, fy_R_ok, fn_R, rfl, fy_R_ok 3 (by decide), rfl⟩
theorem fl_R_76 : aw_fl "SessionTablesModel" 76 4 4 := ⟨"SessionTablesModel", F_R, rfl, by decide, uw_R, aw_mem (List.mem_of_getElem? (i := 405) (by decide +kernel)) rfl, rfl⟩ -- SessionTablesModel.until
theorem fp_R_76 : aw_fp "SessionTablesModel" 76 4 4 .int := ⟨"SessionTablesModel", F_R, fy_R, rfl, by decide, uw_R, aw_mem (List.mem_of_getElem? (i := 405) (by decide +kernel)) rfl, rfl, fy_R_ok, fn_R, rfl, fy_R_ok 4 (by decide), rfl⟩
theorem cb_m8 : (Int8.ofInt (-8)).toInt32 = (-8) := by decide +kernel
theorem cb_m7 : (Int8.ofInt (-7)).toInt32 = (-7) := by decide +kernel
theorem cb_m6 : (Int8.ofInt (-6)).toInt32 = (-6) := by decide +kernel
theorem cb_m5 : (Int8.ofInt (-5)).toInt32 = (-5) := by decide +kernel
theorem cb_m4 : (Int8.ofInt (-4)).toInt32 = (-4) := by decide +kernel
theorem cb_m3 : (Int8.ofInt (-3)).toInt32 = (-3) := by decide +kernel
theorem cb_m2 : (Int8.ofInt (-2)).toInt32 = (-2) := by decide +kernel
theorem cb_6 : (Int8.ofInt 6).toInt32 = nI 6 := by decide +kernel
theorem cb_7 : (Int8.ofInt 7).toInt32 = nI 7 := by decide +kernel
theorem cb_8 : (Int8.ofInt 8).toInt32 = nI 8 := by decide +kernel
theorem cb_9 : (Int8.ofInt 9).toInt32 = nI 9 := by decide +kernel
theorem cb_10 : (Int8.ofInt 10).toInt32 = nI 10 := by decide +kernel
theorem cb_15 : (Int8.ofInt 15).toInt32 = nI 15 := by decide +kernel
theorem cb_16 : (Int8.ofInt 16).toInt32 = nI 16 := by decide +kernel
theorem cb_24 : (Int8.ofInt 24).toInt32 = nI 24 := by decide +kernel
theorem cb_80 : (Int8.ofInt 80).toInt32 = nI 80 := by decide +kernel
theorem cb_99 : (Int8.ofInt 99).toInt32 = nI 99 := by decide +kernel
theorem cb_100 : (Int8.ofInt 100).toInt32 = nI 100 := by decide +kernel
theorem ci_m1 : Int32.ofInt (-1) = (-1) := by decide +kernel
theorem ci_0 : Int32.ofInt 0 = nI 0 := by decide +kernel
theorem ci_1 : Int32.ofInt 1 = nI 1 := by decide +kernel
theorem ci_2 : Int32.ofInt 2 = nI 2 := by decide +kernel
theorem ci_3 : Int32.ofInt 3 = nI 3 := by decide +kernel
theorem ci_4 : Int32.ofInt 4 = nI 4 := by decide +kernel
theorem ci_5 : Int32.ofInt 5 = nI 5 := by decide +kernel
theorem cs_128 : (Int16.ofInt 128).toInt32 = nI 128 := by decide +kernel
theorem cs_255 : (Int16.ofInt 255).toInt32 = nI 255 := by decide +kernel
theorem cs_256 : (Int16.ofInt 256).toInt32 = nI 256 := by decide +kernel
theorem cs_1000 : (Int16.ofInt 1000).toInt32 = nI 1000 := by decide +kernel
theorem cs_2048 : (Int16.ofInt 2048).toInt32 = nI 2048 := by decide +kernel
theorem cs_4129 : (Int16.ofInt 4129).toInt32 = nI 4129 := by decide +kernel
theorem ii_1 : Int32.ofInt 1 = nI 1 := by decide +kernel
theorem wc_S_79 : Cond.constant "SessionTables" 79 (nI 65535) ∈ aw_Ts := aw_mem (List.mem_of_getElem? (i := 198) (by decide +kernel)) rfl
theorem wc_M_48 : Cond.constant "SessionTables$Medium" 48 (nI 65535) ∈ aw_Ts := aw_mem (List.mem_of_getElem? (i := 220) (by decide +kernel)) rfl
theorem wc_M_55 : Cond.constant "SessionTables$Medium" 55 (nI 32768) ∈ aw_Ts := aw_mem (List.mem_of_getElem? (i := 231) (by decide +kernel)) rfl
theorem wc_M_56 : Cond.constant "SessionTables$Medium" 56 (nI 65536) ∈ aw_Ts := aw_mem (List.mem_of_getElem? (i := 232) (by decide +kernel)) rfl
theorem wc_R_51 : Cond.constant "SessionTablesModel" 51 (nI 32768) ∈ aw_Ts := aw_mem (List.mem_of_getElem? (i := 492) (by decide +kernel)) rfl
theorem wc_R_52 : Cond.constant "SessionTablesModel" 52 (nI 65536) ∈ aw_Ts := aw_mem (List.mem_of_getElem? (i := 493) (by decide +kernel)) rfl
theorem wc_R_53 : Cond.constant "SessionTablesModel" 53 (nI 65535) ∈ aw_Ts := aw_mem (List.mem_of_getElem? (i := 476) (by decide +kernel)) rfl
theorem cv_S_37 : aw_cv "SessionTables" 37 Y_T_becomeEmpty 2 0 := ⟨F_T, rfl, aw_mem (List.mem_of_getElem? (i := 123) (by decide +kernel)) rfl, aw_mem (List.mem_of_getElem? (i := 120) (by decide +kernel)) rfl, aw_mem (List.mem_of_getElem? (i := 121) (by decide +kernel)) rfl, aw_mem (List.mem_of_getElem? (i := 122) (by decide +kernel)) rfl, aw_mem (List.mem_of_getElem? (i := 37) (by decide +kernel)) rfl, ⟨by decide +kernel, by decide +kernel, by decide +kernel⟩, by decide⟩ -- SessionTables$Tree.becomeEmpty
theorem cv_S_40 : aw_cv "SessionTables" 40 Y_T_directoryAt 2 1 := ⟨F_T, rfl, aw_mem (List.mem_of_getElem? (i := 153) (by decide +kernel)) rfl, aw_mem (List.mem_of_getElem? (i := 150) (by decide +kernel)) rfl, aw_mem (List.mem_of_getElem? (i := 151) (by decide +kernel)) rfl, aw_mem (List.mem_of_getElem? (i := 152) (by decide +kernel)) rfl, aw_mem (List.mem_of_getElem? (i := 37) (by decide +kernel)) rfl, ⟨by decide +kernel, by decide +kernel, by decide +kernel⟩, by decide⟩ -- SessionTables$Tree.directoryAt
theorem cv_S_44 : aw_cs "SessionTables" 44 Y_S_isName 1 := ⟨aw_mem (List.mem_of_getElem? (i := 160) (by decide +kernel)) rfl, aw_mem (List.mem_of_getElem? (i := 158) (by decide +kernel)) rfl, aw_mem (List.mem_of_getElem? (i := 159) (by decide +kernel)) rfl, aw_mem (List.mem_of_getElem? (i := 34) (by decide +kernel)) rfl, ⟨by decide +kernel, by decide +kernel, by decide +kernel⟩, by decide⟩ -- SessionTables.isName
theorem cv_S_48 : aw_cv "SessionTables" 48 Y_N_indexOfName 1 1 := ⟨F_N, rfl, aw_mem (List.mem_of_getElem? (i := 164) (by decide +kernel)) rfl, aw_mem (List.mem_of_getElem? (i := 161) (by decide +kernel)) rfl, aw_mem (List.mem_of_getElem? (i := 162) (by decide +kernel)) rfl, aw_mem (List.mem_of_getElem? (i := 163) (by decide +kernel)) rfl, aw_mem (List.mem_of_getElem? (i := 38) (by decide +kernel)) rfl, ⟨by decide +kernel, by decide +kernel, by decide +kernel⟩, by decide⟩ -- SessionTables$Node.indexOfName
theorem cv_S_54 : aw_cv "SessionTables" 54 Y_T_leastAbsent 2 0 := ⟨F_T, rfl, aw_mem (List.mem_of_getElem? (i := 168) (by decide +kernel)) rfl, aw_mem (List.mem_of_getElem? (i := 165) (by decide +kernel)) rfl, aw_mem (List.mem_of_getElem? (i := 166) (by decide +kernel)) rfl, aw_mem (List.mem_of_getElem? (i := 167) (by decide +kernel)) rfl, aw_mem (List.mem_of_getElem? (i := 37) (by decide +kernel)) rfl, ⟨by decide +kernel, by decide +kernel, by decide +kernel⟩, by decide⟩ -- SessionTables$Tree.leastAbsent
theorem cv_S_58 : aw_cv "SessionTables" 58 Y_N_ifUnchanged 1 0 := ⟨F_N, rfl, aw_mem (List.mem_of_getElem? (i := 172) (by decide +kernel)) rfl, aw_mem (List.mem_of_getElem? (i := 169) (by decide +kernel)) rfl, aw_mem (List.mem_of_getElem? (i := 170) (by decide +kernel)) rfl, aw_mem (List.mem_of_getElem? (i := 171) (by decide +kernel)) rfl, aw_mem (List.mem_of_getElem? (i := 38) (by decide +kernel)) rfl, ⟨by decide +kernel, by decide +kernel, by decide +kernel⟩, by decide⟩ -- SessionTables$Node.ifUnchanged
theorem cv_S_61 : aw_cv "SessionTables" 61 Y_S_isTooFull 3 2 := ⟨F_S, rfl, aw_mem (List.mem_of_getElem? (i := 176) (by decide +kernel)) rfl, aw_mem (List.mem_of_getElem? (i := 173) (by decide +kernel)) rfl, aw_mem (List.mem_of_getElem? (i := 175) (by decide +kernel)) rfl, aw_mem (List.mem_of_getElem? (i := 0) (by decide +kernel)) rfl, aw_mem (List.mem_of_getElem? (i := 34) (by decide +kernel)) rfl, ⟨by decide +kernel, by decide +kernel, by decide +kernel⟩, by decide⟩ -- SessionTables.isTooFull
theorem cv_S_69 : aw_cv "SessionTables" 69 Y_N_becomeNew 1 1 := ⟨F_N, rfl, aw_mem (List.mem_of_getElem? (i := 135) (by decide +kernel)) rfl, aw_mem (List.mem_of_getElem? (i := 185) (by decide +kernel)) rfl, aw_mem (List.mem_of_getElem? (i := 133) (by decide +kernel)) rfl, aw_mem (List.mem_of_getElem? (i := 134) (by decide +kernel)) rfl, aw_mem (List.mem_of_getElem? (i := 38) (by decide +kernel)) rfl, ⟨by decide +kernel, by decide +kernel, by decide +kernel⟩, by decide⟩ -- SessionTables$Node.becomeNew
theorem cv_S_72 : aw_cv "SessionTables" 72 Y_N_addItem 1 2 := ⟨F_N, rfl, aw_mem (List.mem_of_getElem? (i := 189) (by decide +kernel)) rfl, aw_mem (List.mem_of_getElem? (i := 186) (by decide +kernel)) rfl, aw_mem (List.mem_of_getElem? (i := 187) (by decide +kernel)) rfl, aw_mem (List.mem_of_getElem? (i := 188) (by decide +kernel)) rfl, aw_mem (List.mem_of_getElem? (i := 38) (by decide +kernel)) rfl, ⟨by decide +kernel, by decide +kernel, by decide +kernel⟩, by decide⟩ -- SessionTables$Node.addItem
theorem cv_S_76 : aw_cv "SessionTables" 76 Y_T_fileAt 2 1 := ⟨F_T, rfl, aw_mem (List.mem_of_getElem? (i := 197) (by decide +kernel)) rfl, aw_mem (List.mem_of_getElem? (i := 194) (by decide +kernel)) rfl, aw_mem (List.mem_of_getElem? (i := 195) (by decide +kernel)) rfl, aw_mem (List.mem_of_getElem? (i := 196) (by decide +kernel)) rfl, aw_mem (List.mem_of_getElem? (i := 37) (by decide +kernel)) rfl, ⟨by decide +kernel, by decide +kernel, by decide +kernel⟩, by decide⟩ -- SessionTables$Tree.fileAt
theorem cv_S_87 : aw_cv "SessionTables" 87 Y_M_begin 0 2 := ⟨F_M, rfl, aw_mem (List.mem_of_getElem? (i := 202) (by decide +kernel)) rfl, aw_mem (List.mem_of_getElem? (i := 199) (by decide +kernel)) rfl, aw_mem (List.mem_of_getElem? (i := 200) (by decide +kernel)) rfl, aw_mem (List.mem_of_getElem? (i := 201) (by decide +kernel)) rfl, aw_mem (List.mem_of_getElem? (i := 35) (by decide +kernel)) rfl, ⟨by decide +kernel, by decide +kernel, by decide +kernel⟩, by decide⟩ -- SessionTables$Medium.begin
theorem cv_S_90 : aw_cv "SessionTables" 90 Y_M_put 0 2 := ⟨F_M, rfl, aw_mem (List.mem_of_getElem? (i := 206) (by decide +kernel)) rfl, aw_mem (List.mem_of_getElem? (i := 211) (by decide +kernel)) rfl, aw_mem (List.mem_of_getElem? (i := 204) (by decide +kernel)) rfl, aw_mem (List.mem_of_getElem? (i := 205) (by decide +kernel)) rfl, aw_mem (List.mem_of_getElem? (i := 35) (by decide +kernel)) rfl, ⟨by decide +kernel, by decide +kernel, by decide +kernel⟩, by decide⟩ -- SessionTables$Medium.put
theorem cv_S_93 : aw_cv "SessionTables" 93 Y_M_finish 0 0 := ⟨F_M, rfl, aw_mem (List.mem_of_getElem? (i := 215) (by decide +kernel)) rfl, aw_mem (List.mem_of_getElem? (i := 212) (by decide +kernel)) rfl, aw_mem (List.mem_of_getElem? (i := 213) (by decide +kernel)) rfl, aw_mem (List.mem_of_getElem? (i := 214) (by decide +kernel)) rfl, aw_mem (List.mem_of_getElem? (i := 35) (by decide +kernel)) rfl, ⟨by decide +kernel, by decide +kernel, by decide +kernel⟩, by decide⟩ -- SessionTables$Medium.finish
theorem cv_S_97 : aw_cv "SessionTables" 97 Y_S_readBack 3 0 := ⟨F_S, rfl, aw_mem (List.mem_of_getElem? (i := 236) (by decide +kernel)) rfl, aw_mem (List.mem_of_getElem? (i := 233) (by decide +kernel)) rfl, aw_mem (List.mem_of_getElem? (i := 235) (by decide +kernel)) rfl, aw_mem (List.mem_of_getElem? (i := 2) (by decide +kernel)) rfl, aw_mem (List.mem_of_getElem? (i := 34) (by decide +kernel)) rfl, ⟨by decide +kernel, by decide +kernel, by decide +kernel⟩, by decide⟩ -- SessionTables.readBack
theorem cv_S_100 : aw_cv "SessionTables" 100 Y_N_setBlock 1 2 := ⟨F_N, rfl, aw_mem (List.mem_of_getElem? (i := 269) (by decide +kernel)) rfl, aw_mem (List.mem_of_getElem? (i := 266) (by decide +kernel)) rfl, aw_mem (List.mem_of_getElem? (i := 267) (by decide +kernel)) rfl, aw_mem (List.mem_of_getElem? (i := 268) (by decide +kernel)) rfl, aw_mem (List.mem_of_getElem? (i := 38) (by decide +kernel)) rfl, ⟨by decide +kernel, by decide +kernel, by decide +kernel⟩, by decide⟩ -- SessionTables$Node.setBlock
theorem cv_S_103 : aw_cv "SessionTables" 103 Y_N_nodeOfItem 1 1 := ⟨F_N, rfl, aw_mem (List.mem_of_getElem? (i := 277) (by decide +kernel)) rfl, aw_mem (List.mem_of_getElem? (i := 274) (by decide +kernel)) rfl, aw_mem (List.mem_of_getElem? (i := 275) (by decide +kernel)) rfl, aw_mem (List.mem_of_getElem? (i := 276) (by decide +kernel)) rfl, aw_mem (List.mem_of_getElem? (i := 38) (by decide +kernel)) rfl, ⟨by decide +kernel, by decide +kernel, by decide +kernel⟩, by decide⟩ -- SessionTables$Node.nodeOfItem
theorem cv_S_106 : aw_cv "SessionTables" 106 Y_T_nodeAt 2 1 := ⟨F_T, rfl, aw_mem (List.mem_of_getElem? (i := 157) (by decide +kernel)) rfl, aw_mem (List.mem_of_getElem? (i := 282) (by decide +kernel)) rfl, aw_mem (List.mem_of_getElem? (i := 155) (by decide +kernel)) rfl, aw_mem (List.mem_of_getElem? (i := 156) (by decide +kernel)) rfl, aw_mem (List.mem_of_getElem? (i := 37) (by decide +kernel)) rfl, ⟨by decide +kernel, by decide +kernel, by decide +kernel⟩, by decide⟩ -- SessionTables$Tree.nodeAt
theorem cv_S_116 : aw_cv "SessionTables" 116 Y_N_dropItem 1 1 := ⟨F_N, rfl, aw_mem (List.mem_of_getElem? (i := 286) (by decide +kernel)) rfl, aw_mem (List.mem_of_getElem? (i := 283) (by decide +kernel)) rfl, aw_mem (List.mem_of_getElem? (i := 284) (by decide +kernel)) rfl, aw_mem (List.mem_of_getElem? (i := 285) (by decide +kernel)) rfl, aw_mem (List.mem_of_getElem? (i := 38) (by decide +kernel)) rfl, ⟨by decide +kernel, by decide +kernel, by decide +kernel⟩, by decide⟩ -- SessionTables$Node.dropItem
theorem cv_S_119 : aw_cv "SessionTables" 119 Y_N_becomeAbsent 1 0 := ⟨F_N, rfl, aw_mem (List.mem_of_getElem? (i := 131) (by decide +kernel)) rfl, aw_mem (List.mem_of_getElem? (i := 287) (by decide +kernel)) rfl, aw_mem (List.mem_of_getElem? (i := 129) (by decide +kernel)) rfl, aw_mem (List.mem_of_getElem? (i := 130) (by decide +kernel)) rfl, aw_mem (List.mem_of_getElem? (i := 38) (by decide +kernel)) rfl, ⟨by decide +kernel, by decide +kernel, by decide +kernel⟩, by decide⟩ -- SessionTables$Node.becomeAbsent
theorem cv_S_122 : aw_cv "SessionTables" 122 Y_T_isAtOrBelow 2 2 := ⟨F_T, rfl, aw_mem (List.mem_of_getElem? (i := 295) (by decide +kernel)) rfl, aw_mem (List.mem_of_getElem? (i := 292) (by decide +kernel)) rfl, aw_mem (List.mem_of_getElem? (i := 293) (by decide +kernel)) rfl, aw_mem (List.mem_of_getElem? (i := 294) (by decide +kernel)) rfl, aw_mem (List.mem_of_getElem? (i := 37) (by decide +kernel)) rfl, ⟨by decide +kernel, by decide +kernel, by decide +kernel⟩, by decide⟩ -- SessionTables$Tree.isAtOrBelow
theorem cv_S_125 : aw_cv "SessionTables" 125 Y_T_countChanged 2 0 := ⟨F_T, rfl, aw_mem (List.mem_of_getElem? (i := 184) (by decide +kernel)) rfl, aw_mem (List.mem_of_getElem? (i := 181) (by decide +kernel)) rfl, aw_mem (List.mem_of_getElem? (i := 182) (by decide +kernel)) rfl, aw_mem (List.mem_of_getElem? (i := 183) (by decide +kernel)) rfl, aw_mem (List.mem_of_getElem? (i := 37) (by decide +kernel)) rfl, ⟨by decide +kernel, by decide +kernel, by decide +kernel⟩, by decide⟩ -- SessionTables$Tree.countChanged
theorem cv_S_128 : aw_cv "SessionTables" 128 Y_S_writeEntries 3 0 := ⟨F_S, rfl, aw_mem (List.mem_of_getElem? (i := 311) (by decide +kernel)) rfl, aw_mem (List.mem_of_getElem? (i := 308) (by decide +kernel)) rfl, aw_mem (List.mem_of_getElem? (i := 310) (by decide +kernel)) rfl, aw_mem (List.mem_of_getElem? (i := 6) (by decide +kernel)) rfl, aw_mem (List.mem_of_getElem? (i := 34) (by decide +kernel)) rfl, ⟨by decide +kernel, by decide +kernel, by decide +kernel⟩, by decide⟩ -- SessionTables.writeEntries
theorem cv_S_131 : aw_cv "SessionTables" 131 Y_S_newestNumber 3 0 := ⟨F_S, rfl, aw_mem (List.mem_of_getElem? (i := 319) (by decide +kernel)) rfl, aw_mem (List.mem_of_getElem? (i := 316) (by decide +kernel)) rfl, aw_mem (List.mem_of_getElem? (i := 318) (by decide +kernel)) rfl, aw_mem (List.mem_of_getElem? (i := 8) (by decide +kernel)) rfl, aw_mem (List.mem_of_getElem? (i := 34) (by decide +kernel)) rfl, ⟨by decide +kernel, by decide +kernel, by decide +kernel⟩, by decide⟩ -- SessionTables.newestNumber
theorem cv_S_134 : aw_cv "SessionTables" 134 Y_S_writeTable 3 1 := ⟨F_S, rfl, aw_mem (List.mem_of_getElem? (i := 323) (by decide +kernel)) rfl, aw_mem (List.mem_of_getElem? (i := 320) (by decide +kernel)) rfl, aw_mem (List.mem_of_getElem? (i := 322) (by decide +kernel)) rfl, aw_mem (List.mem_of_getElem? (i := 9) (by decide +kernel)) rfl, aw_mem (List.mem_of_getElem? (i := 34) (by decide +kernel)) rfl, ⟨by decide +kernel, by decide +kernel, by decide +kernel⟩, by decide⟩ -- SessionTables.writeTable
theorem cv_S_140 : aw_cv "SessionTables" 140 Y_M_isWritten 0 1 := ⟨F_M, rfl, aw_mem (List.mem_of_getElem? (i := 253) (by decide +kernel)) rfl, aw_mem (List.mem_of_getElem? (i := 336) (by decide +kernel)) rfl, aw_mem (List.mem_of_getElem? (i := 251) (by decide +kernel)) rfl, aw_mem (List.mem_of_getElem? (i := 252) (by decide +kernel)) rfl, aw_mem (List.mem_of_getElem? (i := 35) (by decide +kernel)) rfl, ⟨by decide +kernel, by decide +kernel, by decide +kernel⟩, by decide⟩ -- SessionTables$Medium.isWritten
theorem cv_S_143 : aw_cv "SessionTables" 143 Y_M_flipCheck 0 1 := ⟨F_M, rfl, aw_mem (List.mem_of_getElem? (i := 340) (by decide +kernel)) rfl, aw_mem (List.mem_of_getElem? (i := 337) (by decide +kernel)) rfl, aw_mem (List.mem_of_getElem? (i := 338) (by decide +kernel)) rfl, aw_mem (List.mem_of_getElem? (i := 339) (by decide +kernel)) rfl, aw_mem (List.mem_of_getElem? (i := 35) (by decide +kernel)) rfl, ⟨by decide +kernel, by decide +kernel, by decide +kernel⟩, by decide⟩ -- SessionTables$Medium.flipCheck
theorem cv_S_146 : aw_cv "SessionTables" 146 Y_M_unwritten 0 0 := ⟨F_M, rfl, aw_mem (List.mem_of_getElem? (i := 180) (by decide +kernel)) rfl, aw_mem (List.mem_of_getElem? (i := 177) (by decide +kernel)) rfl, aw_mem (List.mem_of_getElem? (i := 178) (by decide +kernel)) rfl, aw_mem (List.mem_of_getElem? (i := 179) (by decide +kernel)) rfl, aw_mem (List.mem_of_getElem? (i := 35) (by decide +kernel)) rfl, ⟨by decide +kernel, by decide +kernel, by decide +kernel⟩, by decide⟩ -- SessionTables$Medium.unwritten
theorem cv_S_149 : aw_cv "SessionTables" 149 Y_S_isValidTable 3 1 := ⟨F_S, rfl, aw_mem (List.mem_of_getElem? (i := 244) (by decide +kernel)) rfl, aw_mem (List.mem_of_getElem? (i := 241) (by decide +kernel)) rfl, aw_mem (List.mem_of_getElem? (i := 243) (by decide +kernel)) rfl, aw_mem (List.mem_of_getElem? (i := 4) (by decide +kernel)) rfl, aw_mem (List.mem_of_getElem? (i := 34) (by decide +kernel)) rfl, ⟨by decide +kernel, by decide +kernel, by decide +kernel⟩, by decide⟩ -- SessionTables.isValidTable
theorem cv_S_152 : aw_cv "SessionTables" 152 Y_S_treeAt 3 1 := ⟨F_S, rfl, aw_mem (List.mem_of_getElem? (i := 360) (by decide +kernel)) rfl, aw_mem (List.mem_of_getElem? (i := 357) (by decide +kernel)) rfl, aw_mem (List.mem_of_getElem? (i := 359) (by decide +kernel)) rfl, aw_mem (List.mem_of_getElem? (i := 10) (by decide +kernel)) rfl, aw_mem (List.mem_of_getElem? (i := 34) (by decide +kernel)) rfl, ⟨by decide +kernel, by decide +kernel, by decide +kernel⟩, by decide⟩ -- SessionTables.treeAt
theorem cv_S_156 : aw_cv "SessionTables" 156 Y_N_has 1 1 := ⟨F_N, rfl, aw_mem (List.mem_of_getElem? (i := 281) (by decide +kernel)) rfl, aw_mem (List.mem_of_getElem? (i := 378) (by decide +kernel)) rfl, aw_mem (List.mem_of_getElem? (i := 279) (by decide +kernel)) rfl, aw_mem (List.mem_of_getElem? (i := 280) (by decide +kernel)) rfl, aw_mem (List.mem_of_getElem? (i := 38) (by decide +kernel)) rfl, ⟨by decide +kernel, by decide +kernel, by decide +kernel⟩, by decide⟩ -- SessionTables$Node.has
theorem cv_S_163 : aw_cv "SessionTables" 163 Y_M_isGood 0 1 := ⟨F_M, rfl, aw_mem (List.mem_of_getElem? (i := 249) (by decide +kernel)) rfl, aw_mem (List.mem_of_getElem? (i := 246) (by decide +kernel)) rfl, aw_mem (List.mem_of_getElem? (i := 247) (by decide +kernel)) rfl, aw_mem (List.mem_of_getElem? (i := 248) (by decide +kernel)) rfl, aw_mem (List.mem_of_getElem? (i := 35) (by decide +kernel)) rfl, ⟨by decide +kernel, by decide +kernel, by decide +kernel⟩, by decide⟩ -- SessionTables$Medium.isGood
theorem cv_S_166 : aw_cv "SessionTables" 166 Y_M_wordAt 0 2 := ⟨F_M, rfl, aw_mem (List.mem_of_getElem? (i := 224) (by decide +kernel)) rfl, aw_mem (List.mem_of_getElem? (i := 245) (by decide +kernel)) rfl, aw_mem (List.mem_of_getElem? (i := 222) (by decide +kernel)) rfl, aw_mem (List.mem_of_getElem? (i := 223) (by decide +kernel)) rfl, aw_mem (List.mem_of_getElem? (i := 35) (by decide +kernel)) rfl, ⟨by decide +kernel, by decide +kernel, by decide +kernel⟩, by decide⟩ -- SessionTables$Medium.wordAt
theorem cv_S_169 : aw_cv "SessionTables" 169 Y_M_hasWord 0 2 := ⟨F_M, rfl, aw_mem (List.mem_of_getElem? (i := 210) (by decide +kernel)) rfl, aw_mem (List.mem_of_getElem? (i := 387) (by decide +kernel)) rfl, aw_mem (List.mem_of_getElem? (i := 208) (by decide +kernel)) rfl, aw_mem (List.mem_of_getElem? (i := 209) (by decide +kernel)) rfl, aw_mem (List.mem_of_getElem? (i := 35) (by decide +kernel)) rfl, ⟨by decide +kernel, by decide +kernel, by decide +kernel⟩, by decide⟩ -- SessionTables$Medium.hasWord
theorem cv_S_172 : aw_cv "SessionTables" 172 Y_S_writeEntry 3 2 := ⟨F_S, rfl, aw_mem (List.mem_of_getElem? (i := 315) (by decide +kernel)) rfl, aw_mem (List.mem_of_getElem? (i := 312) (by decide +kernel)) rfl, aw_mem (List.mem_of_getElem? (i := 314) (by decide +kernel)) rfl, aw_mem (List.mem_of_getElem? (i := 7) (by decide +kernel)) rfl, aw_mem (List.mem_of_getElem? (i := 34) (by decide +kernel)) rfl, ⟨by decide +kernel, by decide +kernel, by decide +kernel⟩, by decide⟩ -- SessionTables.writeEntry
theorem cv_S_179 : aw_cv "SessionTables" 179 Y_S_newestTable 3 0 := ⟨F_S, rfl, aw_mem (List.mem_of_getElem? (i := 240) (by decide +kernel)) rfl, aw_mem (List.mem_of_getElem? (i := 237) (by decide +kernel)) rfl, aw_mem (List.mem_of_getElem? (i := 239) (by decide +kernel)) rfl, aw_mem (List.mem_of_getElem? (i := 3) (by decide +kernel)) rfl, aw_mem (List.mem_of_getElem? (i := 34) (by decide +kernel)) rfl, ⟨by decide +kernel, by decide +kernel, by decide +kernel⟩, by decide⟩ -- SessionTables.newestTable
theorem cv_S_182 : aw_cv "SessionTables" 182 Y_T_become 2 2 := ⟨F_T, rfl, aw_mem (List.mem_of_getElem? (i := 257) (by decide +kernel)) rfl, aw_mem (List.mem_of_getElem? (i := 254) (by decide +kernel)) rfl, aw_mem (List.mem_of_getElem? (i := 255) (by decide +kernel)) rfl, aw_mem (List.mem_of_getElem? (i := 256) (by decide +kernel)) rfl, aw_mem (List.mem_of_getElem? (i := 37) (by decide +kernel)) rfl, ⟨by decide +kernel, by decide +kernel, by decide +kernel⟩, by decide⟩ -- SessionTables$Tree.become
theorem cv_S_186 : aw_cv "SessionTables" 186 Y_S_tablePlace 3 1 := ⟨F_S, rfl, aw_mem (List.mem_of_getElem? (i := 364) (by decide +kernel)) rfl, aw_mem (List.mem_of_getElem? (i := 361) (by decide +kernel)) rfl, aw_mem (List.mem_of_getElem? (i := 363) (by decide +kernel)) rfl, aw_mem (List.mem_of_getElem? (i := 11) (by decide +kernel)) rfl, aw_mem (List.mem_of_getElem? (i := 34) (by decide +kernel)) rfl, ⟨by decide +kernel, by decide +kernel, by decide +kernel⟩, by decide⟩ -- SessionTables.tablePlace
theorem cv_S_189 : aw_cv "SessionTables" 189 Y_T_becomeNothing 2 0 := ⟨F_T, rfl, aw_mem (List.mem_of_getElem? (i := 127) (by decide +kernel)) rfl, aw_mem (List.mem_of_getElem? (i := 365) (by decide +kernel)) rfl, aw_mem (List.mem_of_getElem? (i := 125) (by decide +kernel)) rfl, aw_mem (List.mem_of_getElem? (i := 126) (by decide +kernel)) rfl, aw_mem (List.mem_of_getElem? (i := 37) (by decide +kernel)) rfl, ⟨by decide +kernel, by decide +kernel, by decide +kernel⟩, by decide⟩ -- SessionTables$Tree.becomeNothing
theorem cv_M_28 : aw_cv "SessionTables$Medium" 28 Y_M_hasWord 0 2 := ⟨F_M, rfl, aw_mem (List.mem_of_getElem? (i := 210) (by decide +kernel)) rfl, aw_mem (List.mem_of_getElem? (i := 207) (by decide +kernel)) rfl, aw_mem (List.mem_of_getElem? (i := 208) (by decide +kernel)) rfl, aw_mem (List.mem_of_getElem? (i := 209) (by decide +kernel)) rfl, aw_mem (List.mem_of_getElem? (i := 35) (by decide +kernel)) rfl, ⟨by decide +kernel, by decide +kernel, by decide +kernel⟩, by decide⟩ -- SessionTables$Medium.hasWord
theorem cv_M_32 : aw_cv "SessionTables$Medium" 32 Y_M_isWritten 0 1 := ⟨F_M, rfl, aw_mem (List.mem_of_getElem? (i := 253) (by decide +kernel)) rfl, aw_mem (List.mem_of_getElem? (i := 250) (by decide +kernel)) rfl, aw_mem (List.mem_of_getElem? (i := 251) (by decide +kernel)) rfl, aw_mem (List.mem_of_getElem? (i := 252) (by decide +kernel)) rfl, aw_mem (List.mem_of_getElem? (i := 35) (by decide +kernel)) rfl, ⟨by decide +kernel, by decide +kernel, by decide +kernel⟩, by decide⟩ -- SessionTables$Medium.isWritten
theorem cv_M_36 : aw_cv "SessionTables$Medium" 36 Y_M_wordAt 0 2 := ⟨F_M, rfl, aw_mem (List.mem_of_getElem? (i := 224) (by decide +kernel)) rfl, aw_mem (List.mem_of_getElem? (i := 221) (by decide +kernel)) rfl, aw_mem (List.mem_of_getElem? (i := 222) (by decide +kernel)) rfl, aw_mem (List.mem_of_getElem? (i := 223) (by decide +kernel)) rfl, aw_mem (List.mem_of_getElem? (i := 35) (by decide +kernel)) rfl, ⟨by decide +kernel, by decide +kernel, by decide +kernel⟩, by decide⟩ -- SessionTables$Medium.wordAt
theorem cv_M_40 : aw_cv "SessionTables$Medium" 40 Y_M_put 0 2 := ⟨F_M, rfl, aw_mem (List.mem_of_getElem? (i := 206) (by decide +kernel)) rfl, aw_mem (List.mem_of_getElem? (i := 203) (by decide +kernel)) rfl, aw_mem (List.mem_of_getElem? (i := 204) (by decide +kernel)) rfl, aw_mem (List.mem_of_getElem? (i := 205) (by decide +kernel)) rfl, aw_mem (List.mem_of_getElem? (i := 35) (by decide +kernel)) rfl, ⟨by decide +kernel, by decide +kernel, by decide +kernel⟩, by decide⟩ -- SessionTables$Medium.put
theorem cv_M_44 : aw_cv "SessionTables$Medium" 44 Y_M_checkOf 0 1 := ⟨F_M, rfl, aw_mem (List.mem_of_getElem? (i := 219) (by decide +kernel)) rfl, aw_mem (List.mem_of_getElem? (i := 216) (by decide +kernel)) rfl, aw_mem (List.mem_of_getElem? (i := 218) (by decide +kernel)) rfl, aw_mem (List.mem_of_getElem? (i := 1) (by decide +kernel)) rfl, aw_mem (List.mem_of_getElem? (i := 35) (by decide +kernel)) rfl, ⟨by decide +kernel, by decide +kernel, by decide +kernel⟩, by decide⟩ -- SessionTables$Medium.checkOf
theorem cv_M_49 : aw_cs "SessionTables$Medium" 49 Y_M_checkWithWord 2 := ⟨aw_mem (List.mem_of_getElem? (i := 227) (by decide +kernel)) rfl, aw_mem (List.mem_of_getElem? (i := 225) (by decide +kernel)) rfl, aw_mem (List.mem_of_getElem? (i := 226) (by decide +kernel)) rfl, aw_mem (List.mem_of_getElem? (i := 35) (by decide +kernel)) rfl, ⟨by decide +kernel, by decide +kernel, by decide +kernel⟩, by decide⟩ -- SessionTables$Medium.checkWithWord
theorem cv_M_52 : aw_cs "SessionTables$Medium" 52 Y_M_checkWithByte 2 := ⟨aw_mem (List.mem_of_getElem? (i := 230) (by decide +kernel)) rfl, aw_mem (List.mem_of_getElem? (i := 228) (by decide +kernel)) rfl, aw_mem (List.mem_of_getElem? (i := 229) (by decide +kernel)) rfl, aw_mem (List.mem_of_getElem? (i := 35) (by decide +kernel)) rfl, ⟨by decide +kernel, by decide +kernel, by decide +kernel⟩, by decide⟩ -- SessionTables$Medium.checkWithByte
theorem cv_N_29 : aw_cv "SessionTables$Node" 29 Y_M_wordAt 0 2 := ⟨F_M, rfl, aw_mem (List.mem_of_getElem? (i := 224) (by decide +kernel)) rfl, aw_mem (List.mem_of_getElem? (i := 263) (by decide +kernel)) rfl, aw_mem (List.mem_of_getElem? (i := 222) (by decide +kernel)) rfl, aw_mem (List.mem_of_getElem? (i := 223) (by decide +kernel)) rfl, aw_mem (List.mem_of_getElem? (i := 35) (by decide +kernel)) rfl, ⟨by decide +kernel, by decide +kernel, by decide +kernel⟩, by decide⟩ -- SessionTables$Medium.wordAt
theorem cv_N_43 : aw_cv "SessionTables$Node" 43 Y_N_has 1 1 := ⟨F_N, rfl, aw_mem (List.mem_of_getElem? (i := 281) (by decide +kernel)) rfl, aw_mem (List.mem_of_getElem? (i := 278) (by decide +kernel)) rfl, aw_mem (List.mem_of_getElem? (i := 279) (by decide +kernel)) rfl, aw_mem (List.mem_of_getElem? (i := 280) (by decide +kernel)) rfl, aw_mem (List.mem_of_getElem? (i := 38) (by decide +kernel)) rfl, ⟨by decide +kernel, by decide +kernel, by decide +kernel⟩, by decide⟩ -- SessionTables$Node.has
theorem cv_T_18 : aw_cv "SessionTables$Tree" 18 Y_N_becomeAbsent 1 0 := ⟨F_N, rfl, aw_mem (List.mem_of_getElem? (i := 131) (by decide +kernel)) rfl, aw_mem (List.mem_of_getElem? (i := 128) (by decide +kernel)) rfl, aw_mem (List.mem_of_getElem? (i := 129) (by decide +kernel)) rfl, aw_mem (List.mem_of_getElem? (i := 130) (by decide +kernel)) rfl, aw_mem (List.mem_of_getElem? (i := 38) (by decide +kernel)) rfl, ⟨by decide +kernel, by decide +kernel, by decide +kernel⟩, by decide⟩ -- SessionTables$Node.becomeAbsent
theorem cv_T_21 : aw_cv "SessionTables$Tree" 21 Y_T_becomeNothing 2 0 := ⟨F_T, rfl, aw_mem (List.mem_of_getElem? (i := 127) (by decide +kernel)) rfl, aw_mem (List.mem_of_getElem? (i := 124) (by decide +kernel)) rfl, aw_mem (List.mem_of_getElem? (i := 125) (by decide +kernel)) rfl, aw_mem (List.mem_of_getElem? (i := 126) (by decide +kernel)) rfl, aw_mem (List.mem_of_getElem? (i := 37) (by decide +kernel)) rfl, ⟨by decide +kernel, by decide +kernel, by decide +kernel⟩, by decide⟩ -- SessionTables$Tree.becomeNothing
theorem cv_T_24 : aw_cv "SessionTables$Tree" 24 Y_N_becomeNew 1 1 := ⟨F_N, rfl, aw_mem (List.mem_of_getElem? (i := 135) (by decide +kernel)) rfl, aw_mem (List.mem_of_getElem? (i := 132) (by decide +kernel)) rfl, aw_mem (List.mem_of_getElem? (i := 133) (by decide +kernel)) rfl, aw_mem (List.mem_of_getElem? (i := 134) (by decide +kernel)) rfl, aw_mem (List.mem_of_getElem? (i := 38) (by decide +kernel)) rfl, ⟨by decide +kernel, by decide +kernel, by decide +kernel⟩, by decide⟩ -- SessionTables$Node.becomeNew
theorem cv_T_28 : aw_cv "SessionTables$Tree" 28 Y_M_wordAt 0 2 := ⟨F_M, rfl, aw_mem (List.mem_of_getElem? (i := 224) (by decide +kernel)) rfl, aw_mem (List.mem_of_getElem? (i := 258) (by decide +kernel)) rfl, aw_mem (List.mem_of_getElem? (i := 222) (by decide +kernel)) rfl, aw_mem (List.mem_of_getElem? (i := 223) (by decide +kernel)) rfl, aw_mem (List.mem_of_getElem? (i := 35) (by decide +kernel)) rfl, ⟨by decide +kernel, by decide +kernel, by decide +kernel⟩, by decide⟩ -- SessionTables$Medium.wordAt
theorem cv_T_34 : aw_cv "SessionTables$Tree" 34 Y_N_become 1 2 := ⟨F_N, rfl, aw_mem (List.mem_of_getElem? (i := 262) (by decide +kernel)) rfl, aw_mem (List.mem_of_getElem? (i := 259) (by decide +kernel)) rfl, aw_mem (List.mem_of_getElem? (i := 260) (by decide +kernel)) rfl, aw_mem (List.mem_of_getElem? (i := 261) (by decide +kernel)) rfl, aw_mem (List.mem_of_getElem? (i := 38) (by decide +kernel)) rfl, ⟨by decide +kernel, by decide +kernel, by decide +kernel⟩, by decide⟩ -- SessionTables$Node.become
theorem cv_T_42 : aw_cv "SessionTables$Tree" 42 Y_T_nodeAt 2 1 := ⟨F_T, rfl, aw_mem (List.mem_of_getElem? (i := 157) (by decide +kernel)) rfl, aw_mem (List.mem_of_getElem? (i := 154) (by decide +kernel)) rfl, aw_mem (List.mem_of_getElem? (i := 155) (by decide +kernel)) rfl, aw_mem (List.mem_of_getElem? (i := 156) (by decide +kernel)) rfl, aw_mem (List.mem_of_getElem? (i := 37) (by decide +kernel)) rfl, ⟨by decide +kernel, by decide +kernel, by decide +kernel⟩, by decide⟩ -- SessionTables$Tree.nodeAt
theorem cv_T_50 : aw_cv "SessionTables$Tree" 50 Y_T_parentOf 2 1 := ⟨F_T, rfl, aw_mem (List.mem_of_getElem? (i := 299) (by decide +kernel)) rfl, aw_mem (List.mem_of_getElem? (i := 296) (by decide +kernel)) rfl, aw_mem (List.mem_of_getElem? (i := 298) (by decide +kernel)) rfl, aw_mem (List.mem_of_getElem? (i := 5) (by decide +kernel)) rfl, aw_mem (List.mem_of_getElem? (i := 37) (by decide +kernel)) rfl, ⟨by decide +kernel, by decide +kernel, by decide +kernel⟩, by decide⟩ -- SessionTables$Tree.parentOf
theorem cv_T_54 : aw_cv "SessionTables$Tree" 54 Y_N_holds 1 1 := ⟨F_N, rfl, aw_mem (List.mem_of_getElem? (i := 303) (by decide +kernel)) rfl, aw_mem (List.mem_of_getElem? (i := 300) (by decide +kernel)) rfl, aw_mem (List.mem_of_getElem? (i := 301) (by decide +kernel)) rfl, aw_mem (List.mem_of_getElem? (i := 302) (by decide +kernel)) rfl, aw_mem (List.mem_of_getElem? (i := 38) (by decide +kernel)) rfl, ⟨by decide +kernel, by decide +kernel, by decide +kernel⟩, by decide⟩ -- SessionTables$Node.holds
theorem cv_R_48 : aw_cv "SessionTablesModel" 48 Y_R_empty 4 0 := ⟨F_R, rfl, aw_mem (List.mem_of_getElem? (i := 400) (by decide +kernel)) rfl, aw_mem (List.mem_of_getElem? (i := 397) (by decide +kernel)) rfl, aw_mem (List.mem_of_getElem? (i := 399) (by decide +kernel)) rfl, aw_mem (List.mem_of_getElem? (i := 12) (by decide +kernel)) rfl, aw_mem (List.mem_of_getElem? (i := 39) (by decide +kernel)) rfl, ⟨by decide +kernel, by decide +kernel, by decide +kernel⟩, by decide⟩ -- SessionTablesModel.empty
theorem cv_R_54 : aw_cs "SessionTablesModel" 54 Y_R_step 2 := ⟨aw_mem (List.mem_of_getElem? (i := 491) (by decide +kernel)) rfl, aw_mem (List.mem_of_getElem? (i := 489) (by decide +kernel)) rfl, aw_mem (List.mem_of_getElem? (i := 490) (by decide +kernel)) rfl, aw_mem (List.mem_of_getElem? (i := 39) (by decide +kernel)) rfl, ⟨by decide +kernel, by decide +kernel, by decide +kernel⟩, by decide⟩ -- SessionTablesModel.step
theorem cv_R_58 : aw_cv "SessionTablesModel" 58 Y_R_checkOf 4 1 := ⟨F_R, rfl, aw_mem (List.mem_of_getElem? (i := 488) (by decide +kernel)) rfl, aw_mem (List.mem_of_getElem? (i := 485) (by decide +kernel)) rfl, aw_mem (List.mem_of_getElem? (i := 487) (by decide +kernel)) rfl, aw_mem (List.mem_of_getElem? (i := 20) (by decide +kernel)) rfl, aw_mem (List.mem_of_getElem? (i := 39) (by decide +kernel)) rfl, ⟨by decide +kernel, by decide +kernel, by decide +kernel⟩, by decide⟩ -- SessionTablesModel.checkOf
theorem cv_R_62 : aw_cv "SessionTablesModel" 62 Y_R_isGood 4 1 := ⟨F_R, rfl, aw_mem (List.mem_of_getElem? (i := 509) (by decide +kernel)) rfl, aw_mem (List.mem_of_getElem? (i := 506) (by decide +kernel)) rfl, aw_mem (List.mem_of_getElem? (i := 508) (by decide +kernel)) rfl, aw_mem (List.mem_of_getElem? (i := 24) (by decide +kernel)) rfl, aw_mem (List.mem_of_getElem? (i := 39) (by decide +kernel)) rfl, ⟨by decide +kernel, by decide +kernel, by decide +kernel⟩, by decide⟩ -- SessionTablesModel.isGood
theorem cv_R_69 : aw_cv "SessionTablesModel" 69 Y_R_isValid 4 1 := ⟨F_R, rfl, aw_mem (List.mem_of_getElem? (i := 505) (by decide +kernel)) rfl, aw_mem (List.mem_of_getElem? (i := 502) (by decide +kernel)) rfl, aw_mem (List.mem_of_getElem? (i := 504) (by decide +kernel)) rfl, aw_mem (List.mem_of_getElem? (i := 23) (by decide +kernel)) rfl, aw_mem (List.mem_of_getElem? (i := 39) (by decide +kernel)) rfl, ⟨by decide +kernel, by decide +kernel, by decide +kernel⟩, by decide⟩ -- SessionTablesModel.isValid
theorem cv_R_79 : aw_cv "SessionTablesModel" 79 Y_R_readBack 4 0 := ⟨F_R, rfl, aw_mem (List.mem_of_getElem? (i := 497) (by decide +kernel)) rfl, aw_mem (List.mem_of_getElem? (i := 494) (by decide +kernel)) rfl, aw_mem (List.mem_of_getElem? (i := 496) (by decide +kernel)) rfl, aw_mem (List.mem_of_getElem? (i := 21) (by decide +kernel)) rfl, aw_mem (List.mem_of_getElem? (i := 39) (by decide +kernel)) rfl, ⟨by decide +kernel, by decide +kernel, by decide +kernel⟩, by decide⟩ -- SessionTablesModel.readBack
theorem cv_R_82 : aw_cv "SessionTablesModel" 82 Y_R_lookAtHand 4 0 := ⟨F_R, rfl, aw_mem (List.mem_of_getElem? (i := 577) (by decide +kernel)) rfl, aw_mem (List.mem_of_getElem? (i := 574) (by decide +kernel)) rfl, aw_mem (List.mem_of_getElem? (i := 576) (by decide +kernel)) rfl, aw_mem (List.mem_of_getElem? (i := 31) (by decide +kernel)) rfl, aw_mem (List.mem_of_getElem? (i := 39) (by decide +kernel)) rfl, ⟨by decide +kernel, by decide +kernel, by decide +kernel⟩, by decide⟩ -- SessionTablesModel.lookAtHand
theorem cv_R_85 : aw_cv "SessionTablesModel" 85 Y_R_tableAt 4 1 := ⟨F_R, rfl, aw_mem (List.mem_of_getElem? (i := 581) (by decide +kernel)) rfl, aw_mem (List.mem_of_getElem? (i := 578) (by decide +kernel)) rfl, aw_mem (List.mem_of_getElem? (i := 580) (by decide +kernel)) rfl, aw_mem (List.mem_of_getElem? (i := 32) (by decide +kernel)) rfl, aw_mem (List.mem_of_getElem? (i := 39) (by decide +kernel)) rfl, ⟨by decide +kernel, by decide +kernel, by decide +kernel⟩, by decide⟩ -- SessionTablesModel.tableAt
theorem cv_R_88 : aw_cv "SessionTablesModel" 88 Y_R_lookAtTable 4 1 := ⟨F_R, rfl, aw_mem (List.mem_of_getElem? (i := 513) (by decide +kernel)) rfl, aw_mem (List.mem_of_getElem? (i := 510) (by decide +kernel)) rfl, aw_mem (List.mem_of_getElem? (i := 512) (by decide +kernel)) rfl, aw_mem (List.mem_of_getElem? (i := 25) (by decide +kernel)) rfl, aw_mem (List.mem_of_getElem? (i := 39) (by decide +kernel)) rfl, ⟨by decide +kernel, by decide +kernel, by decide +kernel⟩, by decide⟩ -- SessionTablesModel.lookAtTable
theorem cv_R_92 : aw_cv "SessionTablesModel" 92 Y_R_newest 4 0 := ⟨F_R, rfl, aw_mem (List.mem_of_getElem? (i := 501) (by decide +kernel)) rfl, aw_mem (List.mem_of_getElem? (i := 498) (by decide +kernel)) rfl, aw_mem (List.mem_of_getElem? (i := 500) (by decide +kernel)) rfl, aw_mem (List.mem_of_getElem? (i := 22) (by decide +kernel)) rfl, aw_mem (List.mem_of_getElem? (i := 39) (by decide +kernel)) rfl, ⟨by decide +kernel, by decide +kernel, by decide +kernel⟩, by decide⟩ -- SessionTablesModel.newest
theorem cv_R_96 : aw_cv "SessionTablesModel" 96 Y_R_isKind 4 2 := ⟨F_R, rfl, aw_mem (List.mem_of_getElem? (i := 455) (by decide +kernel)) rfl, aw_mem (List.mem_of_getElem? (i := 452) (by decide +kernel)) rfl, aw_mem (List.mem_of_getElem? (i := 454) (by decide +kernel)) rfl, aw_mem (List.mem_of_getElem? (i := 13) (by decide +kernel)) rfl, aw_mem (List.mem_of_getElem? (i := 39) (by decide +kernel)) rfl, ⟨by decide +kernel, by decide +kernel, by decide +kernel⟩, by decide⟩ -- SessionTablesModel.isKind
theorem cv_R_100 : aw_cv "SessionTablesModel" 100 Y_R_itemOf 4 2 := ⟨F_R, rfl, aw_mem (List.mem_of_getElem? (i := 459) (by decide +kernel)) rfl, aw_mem (List.mem_of_getElem? (i := 456) (by decide +kernel)) rfl, aw_mem (List.mem_of_getElem? (i := 458) (by decide +kernel)) rfl, aw_mem (List.mem_of_getElem? (i := 14) (by decide +kernel)) rfl, aw_mem (List.mem_of_getElem? (i := 39) (by decide +kernel)) rfl, ⟨by decide +kernel, by decide +kernel, by decide +kernel⟩, by decide⟩ -- SessionTablesModel.itemOf
theorem cv_R_103 : aw_cv "SessionTablesModel" 103 Y_R_changedWith 4 3 := ⟨F_R, rfl, aw_mem (List.mem_of_getElem? (i := 463) (by decide +kernel)) rfl, aw_mem (List.mem_of_getElem? (i := 460) (by decide +kernel)) rfl, aw_mem (List.mem_of_getElem? (i := 462) (by decide +kernel)) rfl, aw_mem (List.mem_of_getElem? (i := 15) (by decide +kernel)) rfl, aw_mem (List.mem_of_getElem? (i := 39) (by decide +kernel)) rfl, ⟨by decide +kernel, by decide +kernel, by decide +kernel⟩, by decide⟩ -- SessionTablesModel.changedWith
theorem cv_R_107 : aw_cv "SessionTablesModel" 107 Y_R_tooFew 4 2 := ⟨F_R, rfl, aw_mem (List.mem_of_getElem? (i := 467) (by decide +kernel)) rfl, aw_mem (List.mem_of_getElem? (i := 464) (by decide +kernel)) rfl, aw_mem (List.mem_of_getElem? (i := 466) (by decide +kernel)) rfl, aw_mem (List.mem_of_getElem? (i := 16) (by decide +kernel)) rfl, aw_mem (List.mem_of_getElem? (i := 39) (by decide +kernel)) rfl, ⟨by decide +kernel, by decide +kernel, by decide +kernel⟩, by decide⟩ -- SessionTablesModel.tooFew
theorem cv_R_110 : aw_cv "SessionTablesModel" 110 Y_R_add 4 2 := ⟨F_R, rfl, aw_mem (List.mem_of_getElem? (i := 471) (by decide +kernel)) rfl, aw_mem (List.mem_of_getElem? (i := 468) (by decide +kernel)) rfl, aw_mem (List.mem_of_getElem? (i := 470) (by decide +kernel)) rfl, aw_mem (List.mem_of_getElem? (i := 17) (by decide +kernel)) rfl, aw_mem (List.mem_of_getElem? (i := 39) (by decide +kernel)) rfl, ⟨by decide +kernel, by decide +kernel, by decide +kernel⟩, by decide⟩ -- SessionTablesModel.add
theorem cv_R_114 : aw_cv "SessionTablesModel" 114 Y_R_clearSector 4 2 := ⟨F_R, rfl, aw_mem (List.mem_of_getElem? (i := 480) (by decide +kernel)) rfl, aw_mem (List.mem_of_getElem? (i := 477) (by decide +kernel)) rfl, aw_mem (List.mem_of_getElem? (i := 479) (by decide +kernel)) rfl, aw_mem (List.mem_of_getElem? (i := 18) (by decide +kernel)) rfl, aw_mem (List.mem_of_getElem? (i := 39) (by decide +kernel)) rfl, ⟨by decide +kernel, by decide +kernel, by decide +kernel⟩, by decide⟩ -- SessionTablesModel.clearSector
theorem cv_R_117 : aw_cv "SessionTablesModel" 117 Y_R_writeSector 4 0 := ⟨F_R, rfl, aw_mem (List.mem_of_getElem? (i := 484) (by decide +kernel)) rfl, aw_mem (List.mem_of_getElem? (i := 481) (by decide +kernel)) rfl, aw_mem (List.mem_of_getElem? (i := 483) (by decide +kernel)) rfl, aw_mem (List.mem_of_getElem? (i := 19) (by decide +kernel)) rfl, aw_mem (List.mem_of_getElem? (i := 39) (by decide +kernel)) rfl, ⟨by decide +kernel, by decide +kernel, by decide +kernel⟩, by decide⟩ -- SessionTablesModel.writeSector
theorem cv_R_121 : aw_cv "SessionTablesModel" 121 Y_R_take 4 2 := ⟨F_R, rfl, aw_mem (List.mem_of_getElem? (i := 521) (by decide +kernel)) rfl, aw_mem (List.mem_of_getElem? (i := 518) (by decide +kernel)) rfl, aw_mem (List.mem_of_getElem? (i := 520) (by decide +kernel)) rfl, aw_mem (List.mem_of_getElem? (i := 26) (by decide +kernel)) rfl, aw_mem (List.mem_of_getElem? (i := 39) (by decide +kernel)) rfl, ⟨by decide +kernel, by decide +kernel, by decide +kernel⟩, by decide⟩ -- SessionTablesModel.take
theorem cv_R_124 : aw_cv "SessionTablesModel" 124 Y_R_isBelow 4 2 := ⟨F_R, rfl, aw_mem (List.mem_of_getElem? (i := 529) (by decide +kernel)) rfl, aw_mem (List.mem_of_getElem? (i := 526) (by decide +kernel)) rfl, aw_mem (List.mem_of_getElem? (i := 528) (by decide +kernel)) rfl, aw_mem (List.mem_of_getElem? (i := 27) (by decide +kernel)) rfl, aw_mem (List.mem_of_getElem? (i := 39) (by decide +kernel)) rfl, ⟨by decide +kernel, by decide +kernel, by decide +kernel⟩, by decide⟩ -- SessionTablesModel.isBelow
theorem cv_R_127 : aw_cv "SessionTablesModel" 127 Y_R_writeEntry 4 1 := ⟨F_R, rfl, aw_mem (List.mem_of_getElem? (i := 537) (by decide +kernel)) rfl, aw_mem (List.mem_of_getElem? (i := 534) (by decide +kernel)) rfl, aw_mem (List.mem_of_getElem? (i := 536) (by decide +kernel)) rfl, aw_mem (List.mem_of_getElem? (i := 28) (by decide +kernel)) rfl, aw_mem (List.mem_of_getElem? (i := 39) (by decide +kernel)) rfl, ⟨by decide +kernel, by decide +kernel, by decide +kernel⟩, by decide⟩ -- SessionTablesModel.writeEntry
theorem cv_R_130 : aw_cv "SessionTablesModel" 130 Y_R_look 4 1 := ⟨F_R, rfl, aw_mem (List.mem_of_getElem? (i := 573) (by decide +kernel)) rfl, aw_mem (List.mem_of_getElem? (i := 570) (by decide +kernel)) rfl, aw_mem (List.mem_of_getElem? (i := 572) (by decide +kernel)) rfl, aw_mem (List.mem_of_getElem? (i := 30) (by decide +kernel)) rfl, aw_mem (List.mem_of_getElem? (i := 39) (by decide +kernel)) rfl, ⟨by decide +kernel, by decide +kernel, by decide +kernel⟩, by decide⟩ -- SessionTablesModel.look
theorem cv_R_133 : aw_cv "SessionTablesModel" 133 Y_R_sees 4 3 := ⟨F_R, rfl, aw_mem (List.mem_of_getElem? (i := 569) (by decide +kernel)) rfl, aw_mem (List.mem_of_getElem? (i := 566) (by decide +kernel)) rfl, aw_mem (List.mem_of_getElem? (i := 568) (by decide +kernel)) rfl, aw_mem (List.mem_of_getElem? (i := 29) (by decide +kernel)) rfl, aw_mem (List.mem_of_getElem? (i := 39) (by decide +kernel)) rfl, ⟨by decide +kernel, by decide +kernel, by decide +kernel⟩, by decide⟩ -- SessionTablesModel.sees
end
section
theorem d_M_init_0 : decode prog_2_method_1_code 0 = .ok (.aload_n 0, 1) := by decide +kernel
theorem d_M_init_1 : decode prog_2_method_1_code 1 = .ok (.invokespecial 3, 3) := by decide +kernel
theorem d_M_init_4 : decode prog_2_method_1_code 4 = .ok (.aload_n 0, 1) := by decide +kernel
theorem d_M_init_5 : decode prog_2_method_1_code 5 = .ok (.iload_n 1, 1) := by decide +kernel
theorem d_M_init_6 : decode prog_2_method_1_code 6 = .ok (.putfield 9, 3) := by decide +kernel
theorem d_M_init_9 : decode prog_2_method_1_code 9 = .ok (.aload_n 0, 1) := by decide +kernel
theorem d_M_init_10 : decode prog_2_method_1_code 10 = .ok (.iload_n 1, 1) := by decide +kernel
theorem d_M_init_11 : decode prog_2_method_1_code 11 = .ok (.bipush 16, 2) := by decide +kernel
theorem d_M_init_13 : decode prog_2_method_1_code 13 = .ok (.imul, 1) := by decide +kernel
theorem d_M_init_14 : decode prog_2_method_1_code 14 = .ok (.newarray .int, 2) := by decide +kernel
theorem d_M_init_16 : decode prog_2_method_1_code 16 = .ok (.putfield 15, 3) := by decide +kernel
theorem d_M_init_19 : decode prog_2_method_1_code 19 = .ok (.aload_n 0, 1) := by decide +kernel
theorem d_M_init_20 : decode prog_2_method_1_code 20 = .ok (.iload_n 1, 1) := by decide +kernel
theorem d_M_init_21 : decode prog_2_method_1_code 21 = .ok (.newarray .int, 2) := by decide +kernel
theorem d_M_init_23 : decode prog_2_method_1_code 23 = .ok (.putfield 19, 3) := by decide +kernel
theorem d_M_init_26 : decode prog_2_method_1_code 26 = .ok (.aload_n 0, 1) := by decide +kernel
theorem d_M_init_27 : decode prog_2_method_1_code 27 = .ok (.iconst 0, 1) := by decide +kernel
theorem d_M_init_28 : decode prog_2_method_1_code 28 = .ok (.putfield 22, 3) := by decide +kernel
theorem d_M_init_31 : decode prog_2_method_1_code 31 = .ok (.aload_n 0, 1) := by decide +kernel
theorem d_M_init_32 : decode prog_2_method_1_code 32 = .ok (.iconst (-1), 1) := by decide +kernel
theorem d_M_init_33 : decode prog_2_method_1_code 33 = .ok (.putfield 25, 3) := by decide +kernel
theorem d_M_init_36 : decode prog_2_method_1_code 36 = .ok (.return_, 1) := by decide +kernel
theorem d_M_unwritten_0 : decode prog_2_method_2_code 0 = .ok (.aload_n 0, 1) := by decide +kernel
theorem d_M_unwritten_1 : decode prog_2_method_2_code 1 = .ok (.getfield 9, 3) := by decide +kernel
theorem d_M_unwritten_4 : decode prog_2_method_2_code 4 = .ok (.aload_n 0, 1) := by decide +kernel
theorem d_M_unwritten_5 : decode prog_2_method_2_code 5 = .ok (.getfield 22, 3) := by decide +kernel
theorem d_M_unwritten_8 : decode prog_2_method_2_code 8 = .ok (.isub, 1) := by decide +kernel
theorem d_M_unwritten_9 : decode prog_2_method_2_code 9 = .ok (.ireturn, 1) := by decide +kernel
theorem d_M_isWritten_0 : decode prog_2_method_3_code 0 = .ok (.iload_n 1, 1) := by decide +kernel
theorem d_M_isWritten_1 : decode prog_2_method_3_code 1 = .ok (.ifCond .lt 15, 3) := by decide +kernel
theorem d_M_isWritten_4 : decode prog_2_method_3_code 4 = .ok (.iload_n 1, 1) := by decide +kernel
theorem d_M_isWritten_5 : decode prog_2_method_3_code 5 = .ok (.aload_n 0, 1) := by decide +kernel
theorem d_M_isWritten_6 : decode prog_2_method_3_code 6 = .ok (.getfield 22, 3) := by decide +kernel
theorem d_M_isWritten_9 : decode prog_2_method_3_code 9 = .ok (.if_icmp .ge 7, 3) := by decide +kernel
theorem d_M_isWritten_12 : decode prog_2_method_3_code 12 = .ok (.iconst 1, 1) := by decide +kernel
theorem d_M_isWritten_13 : decode prog_2_method_3_code 13 = .ok (.goto 4, 3) := by decide +kernel
theorem d_M_isWritten_16 : decode prog_2_method_3_code 16 = .ok (.iconst 0, 1) := by decide +kernel
theorem d_M_isWritten_17 : decode prog_2_method_3_code 17 = .ok (.ireturn, 1) := by decide +kernel
theorem d_M_hasWord_0 : decode prog_2_method_4_code 0 = .ok (.iload_n 1, 1) := by decide +kernel
theorem d_M_hasWord_1 : decode prog_2_method_4_code 1 = .ok (.ifCond .lt 25, 3) := by decide +kernel
theorem d_M_hasWord_4 : decode prog_2_method_4_code 4 = .ok (.iload_n 1, 1) := by decide +kernel
theorem d_M_hasWord_5 : decode prog_2_method_4_code 5 = .ok (.aload_n 0, 1) := by decide +kernel
theorem d_M_hasWord_6 : decode prog_2_method_4_code 6 = .ok (.getfield 9, 3) := by decide +kernel
theorem d_M_hasWord_9 : decode prog_2_method_4_code 9 = .ok (.if_icmp .ge 17, 3) := by decide +kernel
theorem d_M_hasWord_12 : decode prog_2_method_4_code 12 = .ok (.iload_n 2, 1) := by decide +kernel
theorem d_M_hasWord_13 : decode prog_2_method_4_code 13 = .ok (.ifCond .lt 13, 3) := by decide +kernel
theorem d_M_hasWord_16 : decode prog_2_method_4_code 16 = .ok (.iload_n 2, 1) := by decide +kernel
theorem d_M_hasWord_17 : decode prog_2_method_4_code 17 = .ok (.bipush 16, 2) := by decide +kernel
theorem d_M_hasWord_19 : decode prog_2_method_4_code 19 = .ok (.if_icmp .ge 7, 3) := by decide +kernel
theorem d_M_hasWord_22 : decode prog_2_method_4_code 22 = .ok (.iconst 1, 1) := by decide +kernel
theorem d_M_hasWord_23 : decode prog_2_method_4_code 23 = .ok (.goto 4, 3) := by decide +kernel
theorem d_M_hasWord_26 : decode prog_2_method_4_code 26 = .ok (.iconst 0, 1) := by decide +kernel
theorem d_M_hasWord_27 : decode prog_2_method_4_code 27 = .ok (.ireturn, 1) := by decide +kernel
theorem d_M_wordAt_0 : decode prog_2_method_5_code 0 = .ok (.aload_n 0, 1) := by decide +kernel
theorem d_M_wordAt_1 : decode prog_2_method_5_code 1 = .ok (.iload_n 1, 1) := by decide +kernel
theorem d_M_wordAt_2 : decode prog_2_method_5_code 2 = .ok (.iload_n 2, 1) := by decide +kernel
theorem d_M_wordAt_3 : decode prog_2_method_5_code 3 = .ok (.invokevirtual 28, 3) := by decide +kernel
theorem d_M_wordAt_6 : decode prog_2_method_5_code 6 = .ok (.ifCond .eq 17, 3) := by decide +kernel
theorem d_M_wordAt_9 : decode prog_2_method_5_code 9 = .ok (.aload_n 0, 1) := by decide +kernel
theorem d_M_wordAt_10 : decode prog_2_method_5_code 10 = .ok (.getfield 15, 3) := by decide +kernel
theorem d_M_wordAt_13 : decode prog_2_method_5_code 13 = .ok (.iload_n 1, 1) := by decide +kernel
theorem d_M_wordAt_14 : decode prog_2_method_5_code 14 = .ok (.bipush 16, 2) := by decide +kernel
theorem d_M_wordAt_16 : decode prog_2_method_5_code 16 = .ok (.imul, 1) := by decide +kernel
theorem d_M_wordAt_17 : decode prog_2_method_5_code 17 = .ok (.iload_n 2, 1) := by decide +kernel
theorem d_M_wordAt_18 : decode prog_2_method_5_code 18 = .ok (.iadd, 1) := by decide +kernel
theorem d_M_wordAt_19 : decode prog_2_method_5_code 19 = .ok (.iaload, 1) := by decide +kernel
theorem d_M_wordAt_20 : decode prog_2_method_5_code 20 = .ok (.goto 4, 3) := by decide +kernel
theorem d_M_wordAt_23 : decode prog_2_method_5_code 23 = .ok (.iconst 0, 1) := by decide +kernel
theorem d_M_wordAt_24 : decode prog_2_method_5_code 24 = .ok (.ireturn, 1) := by decide +kernel
theorem d_M_isGood_0 : decode prog_2_method_6_code 0 = .ok (.aload_n 0, 1) := by decide +kernel
theorem d_M_isGood_1 : decode prog_2_method_6_code 1 = .ok (.iload_n 1, 1) := by decide +kernel
theorem d_M_isGood_2 : decode prog_2_method_6_code 2 = .ok (.invokevirtual 32, 3) := by decide +kernel
theorem d_M_isGood_5 : decode prog_2_method_6_code 5 = .ok (.ifCond .eq 22, 3) := by decide +kernel
theorem d_M_isGood_8 : decode prog_2_method_6_code 8 = .ok (.aload_n 0, 1) := by decide +kernel
theorem d_M_isGood_9 : decode prog_2_method_6_code 9 = .ok (.iload_n 1, 1) := by decide +kernel
theorem d_M_isGood_10 : decode prog_2_method_6_code 10 = .ok (.iconst 1, 1) := by decide +kernel
theorem d_M_isGood_11 : decode prog_2_method_6_code 11 = .ok (.invokevirtual 36, 3) := by decide +kernel
theorem d_M_isGood_14 : decode prog_2_method_6_code 14 = .ok (.aload_n 0, 1) := by decide +kernel
theorem d_M_isGood_15 : decode prog_2_method_6_code 15 = .ok (.getfield 19, 3) := by decide +kernel
theorem d_M_isGood_18 : decode prog_2_method_6_code 18 = .ok (.iload_n 1, 1) := by decide +kernel
theorem d_M_isGood_19 : decode prog_2_method_6_code 19 = .ok (.iaload, 1) := by decide +kernel
theorem d_M_isGood_20 : decode prog_2_method_6_code 20 = .ok (.if_icmp .ne 7, 3) := by decide +kernel
theorem d_M_isGood_23 : decode prog_2_method_6_code 23 = .ok (.iconst 1, 1) := by decide +kernel
theorem d_M_isGood_24 : decode prog_2_method_6_code 24 = .ok (.goto 4, 3) := by decide +kernel
theorem d_M_isGood_27 : decode prog_2_method_6_code 27 = .ok (.iconst 0, 1) := by decide +kernel
theorem d_M_isGood_28 : decode prog_2_method_6_code 28 = .ok (.ireturn, 1) := by decide +kernel
theorem d_M_flipCheck_0 : decode prog_2_method_7_code 0 = .ok (.aload_n 0, 1) := by decide +kernel
theorem d_M_flipCheck_1 : decode prog_2_method_7_code 1 = .ok (.iload_n 1, 1) := by decide +kernel
theorem d_M_flipCheck_2 : decode prog_2_method_7_code 2 = .ok (.invokevirtual 32, 3) := by decide +kernel
theorem d_M_flipCheck_5 : decode prog_2_method_7_code 5 = .ok (.ifCond .eq 18, 3) := by decide +kernel
theorem d_M_flipCheck_8 : decode prog_2_method_7_code 8 = .ok (.aload_n 0, 1) := by decide +kernel
theorem d_M_flipCheck_9 : decode prog_2_method_7_code 9 = .ok (.getfield 15, 3) := by decide +kernel
theorem d_M_flipCheck_12 : decode prog_2_method_7_code 12 = .ok (.iload_n 1, 1) := by decide +kernel
theorem d_M_flipCheck_13 : decode prog_2_method_7_code 13 = .ok (.bipush 16, 2) := by decide +kernel
theorem d_M_flipCheck_15 : decode prog_2_method_7_code 15 = .ok (.imul, 1) := by decide +kernel
theorem d_M_flipCheck_16 : decode prog_2_method_7_code 16 = .ok (.iconst 1, 1) := by decide +kernel
theorem d_M_flipCheck_17 : decode prog_2_method_7_code 17 = .ok (.iadd, 1) := by decide +kernel
theorem d_M_flipCheck_18 : decode prog_2_method_7_code 18 = .ok (.dup2, 1) := by decide +kernel
theorem d_M_flipCheck_19 : decode prog_2_method_7_code 19 = .ok (.iaload, 1) := by decide +kernel
theorem d_M_flipCheck_20 : decode prog_2_method_7_code 20 = .ok (.iconst 1, 1) := by decide +kernel
theorem d_M_flipCheck_21 : decode prog_2_method_7_code 21 = .ok (.ixor, 1) := by decide +kernel
theorem d_M_flipCheck_22 : decode prog_2_method_7_code 22 = .ok (.iastore, 1) := by decide +kernel
theorem d_M_flipCheck_23 : decode prog_2_method_7_code 23 = .ok (.return_, 1) := by decide +kernel
theorem d_M_begin_0 : decode prog_2_method_8_code 0 = .ok (.aload_n 0, 1) := by decide +kernel
theorem d_M_begin_1 : decode prog_2_method_8_code 1 = .ok (.iconst 0, 1) := by decide +kernel
theorem d_M_begin_2 : decode prog_2_method_8_code 2 = .ok (.iload_n 1, 1) := by decide +kernel
theorem d_M_begin_3 : decode prog_2_method_8_code 3 = .ok (.invokevirtual 40, 3) := by decide +kernel
theorem d_M_begin_6 : decode prog_2_method_8_code 6 = .ok (.aload_n 0, 1) := by decide +kernel
theorem d_M_begin_7 : decode prog_2_method_8_code 7 = .ok (.iconst 2, 1) := by decide +kernel
theorem d_M_begin_8 : decode prog_2_method_8_code 8 = .ok (.aload_n 0, 1) := by decide +kernel
theorem d_M_begin_9 : decode prog_2_method_8_code 9 = .ok (.getfield 22, 3) := by decide +kernel
theorem d_M_begin_12 : decode prog_2_method_8_code 12 = .ok (.invokevirtual 40, 3) := by decide +kernel
theorem d_M_begin_15 : decode prog_2_method_8_code 15 = .ok (.aload_n 0, 1) := by decide +kernel
theorem d_M_begin_16 : decode prog_2_method_8_code 16 = .ok (.iconst 3, 1) := by decide +kernel
theorem d_M_begin_17 : decode prog_2_method_8_code 17 = .ok (.iload_n 2, 1) := by decide +kernel
theorem d_M_begin_18 : decode prog_2_method_8_code 18 = .ok (.invokevirtual 40, 3) := by decide +kernel
theorem d_M_begin_21 : decode prog_2_method_8_code 21 = .ok (.return_, 1) := by decide +kernel
theorem d_M_put_0 : decode prog_2_method_9_code 0 = .ok (.aload_n 0, 1) := by decide +kernel
theorem d_M_put_1 : decode prog_2_method_9_code 1 = .ok (.aload_n 0, 1) := by decide +kernel
theorem d_M_put_2 : decode prog_2_method_9_code 2 = .ok (.getfield 22, 3) := by decide +kernel
theorem d_M_put_5 : decode prog_2_method_9_code 5 = .ok (.iload_n 1, 1) := by decide +kernel
theorem d_M_put_6 : decode prog_2_method_9_code 6 = .ok (.invokevirtual 28, 3) := by decide +kernel
theorem d_M_put_9 : decode prog_2_method_9_code 9 = .ok (.ifCond .eq 18, 3) := by decide +kernel
theorem d_M_put_12 : decode prog_2_method_9_code 12 = .ok (.aload_n 0, 1) := by decide +kernel
theorem d_M_put_13 : decode prog_2_method_9_code 13 = .ok (.getfield 15, 3) := by decide +kernel
theorem d_M_put_16 : decode prog_2_method_9_code 16 = .ok (.aload_n 0, 1) := by decide +kernel
theorem d_M_put_17 : decode prog_2_method_9_code 17 = .ok (.getfield 22, 3) := by decide +kernel
theorem d_M_put_20 : decode prog_2_method_9_code 20 = .ok (.bipush 16, 2) := by decide +kernel
theorem d_M_put_22 : decode prog_2_method_9_code 22 = .ok (.imul, 1) := by decide +kernel
theorem d_M_put_23 : decode prog_2_method_9_code 23 = .ok (.iload_n 1, 1) := by decide +kernel
theorem d_M_put_24 : decode prog_2_method_9_code 24 = .ok (.iadd, 1) := by decide +kernel
theorem d_M_put_25 : decode prog_2_method_9_code 25 = .ok (.iload_n 2, 1) := by decide +kernel
theorem d_M_put_26 : decode prog_2_method_9_code 26 = .ok (.iastore, 1) := by decide +kernel
theorem d_M_put_27 : decode prog_2_method_9_code 27 = .ok (.return_, 1) := by decide +kernel
theorem d_M_finish_0 : decode prog_2_method_10_code 0 = .ok (.aload_n 0, 1) := by decide +kernel
theorem d_M_finish_1 : decode prog_2_method_10_code 1 = .ok (.getfield 22, 3) := by decide +kernel
theorem d_M_finish_4 : decode prog_2_method_10_code 4 = .ok (.aload_n 0, 1) := by decide +kernel
theorem d_M_finish_5 : decode prog_2_method_10_code 5 = .ok (.getfield 9, 3) := by decide +kernel
theorem d_M_finish_8 : decode prog_2_method_10_code 8 = .ok (.if_icmp .lt 5, 3) := by decide +kernel
theorem d_M_finish_11 : decode prog_2_method_10_code 11 = .ok (.iconst 0, 1) := by decide +kernel
theorem d_M_finish_12 : decode prog_2_method_10_code 12 = .ok (.ireturn, 1) := by decide +kernel
theorem d_M_finish_13 : decode prog_2_method_10_code 13 = .ok (.aload_n 0, 1) := by decide +kernel
theorem d_M_finish_14 : decode prog_2_method_10_code 14 = .ok (.getfield 25, 3) := by decide +kernel
theorem d_M_finish_17 : decode prog_2_method_10_code 17 = .ok (.ifCond .ne 7, 3) := by decide +kernel
theorem d_M_finish_20 : decode prog_2_method_10_code 20 = .ok (.iconst 1, 1) := by decide +kernel
theorem d_M_finish_21 : decode prog_2_method_10_code 21 = .ok (.goto 4, 3) := by decide +kernel
theorem d_M_finish_24 : decode prog_2_method_10_code 24 = .ok (.iconst 0, 1) := by decide +kernel
theorem d_M_finish_25 : decode prog_2_method_10_code 25 = .ok (.istore_n 1, 1) := by decide +kernel
theorem d_M_finish_26 : decode prog_2_method_10_code 26 = .ok (.aload_n 0, 1) := by decide +kernel
theorem d_M_finish_27 : decode prog_2_method_10_code 27 = .ok (.aload_n 0, 1) := by decide +kernel
theorem d_M_finish_28 : decode prog_2_method_10_code 28 = .ok (.getfield 22, 3) := by decide +kernel
theorem d_M_finish_31 : decode prog_2_method_10_code 31 = .ok (.invokevirtual 44, 3) := by decide +kernel
theorem d_M_finish_34 : decode prog_2_method_10_code 34 = .ok (.istore_n 2, 1) := by decide +kernel
theorem d_M_finish_35 : decode prog_2_method_10_code 35 = .ok (.aload_n 0, 1) := by decide +kernel
theorem d_M_finish_36 : decode prog_2_method_10_code 36 = .ok (.getfield 19, 3) := by decide +kernel
theorem d_M_finish_39 : decode prog_2_method_10_code 39 = .ok (.aload_n 0, 1) := by decide +kernel
theorem d_M_finish_40 : decode prog_2_method_10_code 40 = .ok (.getfield 22, 3) := by decide +kernel
theorem d_M_finish_43 : decode prog_2_method_10_code 43 = .ok (.iload_n 2, 1) := by decide +kernel
theorem d_M_finish_44 : decode prog_2_method_10_code 44 = .ok (.iastore, 1) := by decide +kernel
theorem d_M_finish_45 : decode prog_2_method_10_code 45 = .ok (.aload_n 0, 1) := by decide +kernel
theorem d_M_finish_46 : decode prog_2_method_10_code 46 = .ok (.iconst 1, 1) := by decide +kernel
theorem d_M_finish_47 : decode prog_2_method_10_code 47 = .ok (.iload_n 1, 1) := by decide +kernel
theorem d_M_finish_48 : decode prog_2_method_10_code 48 = .ok (.ifCond .eq 9, 3) := by decide +kernel
theorem d_M_finish_51 : decode prog_2_method_10_code 51 = .ok (.iload_n 2, 1) := by decide +kernel
theorem d_M_finish_52 : decode prog_2_method_10_code 52 = .ok (.iconst 1, 1) := by decide +kernel
theorem d_M_finish_53 : decode prog_2_method_10_code 53 = .ok (.ixor, 1) := by decide +kernel
theorem d_M_finish_54 : decode prog_2_method_10_code 54 = .ok (.goto 4, 3) := by decide +kernel
theorem d_M_finish_57 : decode prog_2_method_10_code 57 = .ok (.iload_n 2, 1) := by decide +kernel
theorem d_M_finish_58 : decode prog_2_method_10_code 58 = .ok (.invokevirtual 40, 3) := by decide +kernel
theorem d_M_finish_61 : decode prog_2_method_10_code 61 = .ok (.aload_n 0, 1) := by decide +kernel
theorem d_M_finish_62 : decode prog_2_method_10_code 62 = .ok (.dup, 1) := by decide +kernel
theorem d_M_finish_63 : decode prog_2_method_10_code 63 = .ok (.getfield 22, 3) := by decide +kernel
theorem d_M_finish_66 : decode prog_2_method_10_code 66 = .ok (.iconst 1, 1) := by decide +kernel
theorem d_M_finish_67 : decode prog_2_method_10_code 67 = .ok (.iadd, 1) := by decide +kernel
theorem d_M_finish_68 : decode prog_2_method_10_code 68 = .ok (.putfield 22, 3) := by decide +kernel
theorem d_M_finish_71 : decode prog_2_method_10_code 71 = .ok (.aload_n 0, 1) := by decide +kernel
theorem d_M_finish_72 : decode prog_2_method_10_code 72 = .ok (.getfield 25, 3) := by decide +kernel
theorem d_M_finish_75 : decode prog_2_method_10_code 75 = .ok (.iconst (-1), 1) := by decide +kernel
theorem d_M_finish_76 : decode prog_2_method_10_code 76 = .ok (.if_icmp .eq 13, 3) := by decide +kernel
theorem d_M_finish_79 : decode prog_2_method_10_code 79 = .ok (.aload_n 0, 1) := by decide +kernel
theorem d_M_finish_80 : decode prog_2_method_10_code 80 = .ok (.dup, 1) := by decide +kernel
theorem d_M_finish_81 : decode prog_2_method_10_code 81 = .ok (.getfield 25, 3) := by decide +kernel
theorem d_M_finish_84 : decode prog_2_method_10_code 84 = .ok (.iconst 1, 1) := by decide +kernel
theorem d_M_finish_85 : decode prog_2_method_10_code 85 = .ok (.isub, 1) := by decide +kernel
theorem d_M_finish_86 : decode prog_2_method_10_code 86 = .ok (.putfield 25, 3) := by decide +kernel
theorem d_M_finish_89 : decode prog_2_method_10_code 89 = .ok (.iload_n 1, 1) := by decide +kernel
theorem d_M_finish_90 : decode prog_2_method_10_code 90 = .ok (.ifCond .ne 7, 3) := by decide +kernel
theorem d_M_finish_93 : decode prog_2_method_10_code 93 = .ok (.iconst 1, 1) := by decide +kernel
theorem d_M_finish_94 : decode prog_2_method_10_code 94 = .ok (.goto 4, 3) := by decide +kernel
theorem d_M_finish_97 : decode prog_2_method_10_code 97 = .ok (.iconst 0, 1) := by decide +kernel
theorem d_M_finish_98 : decode prog_2_method_10_code 98 = .ok (.ireturn, 1) := by decide +kernel
theorem d_M_checkOf_0 : decode prog_2_method_11_code 0 = .ok (.ldc 48, 2) := by decide +kernel
theorem d_M_checkOf_2 : decode prog_2_method_11_code 2 = .ok (.istore_n 2, 1) := by decide +kernel
theorem d_M_checkOf_3 : decode prog_2_method_11_code 3 = .ok (.iconst 0, 1) := by decide +kernel
theorem d_M_checkOf_4 : decode prog_2_method_11_code 4 = .ok (.istore_n 3, 1) := by decide +kernel
theorem d_M_checkOf_5 : decode prog_2_method_11_code 5 = .ok (.iload_n 3, 1) := by decide +kernel
theorem d_M_checkOf_6 : decode prog_2_method_11_code 6 = .ok (.bipush 16, 2) := by decide +kernel
theorem d_M_checkOf_8 : decode prog_2_method_11_code 8 = .ok (.if_icmp .ge 25, 3) := by decide +kernel
theorem d_M_checkOf_11 : decode prog_2_method_11_code 11 = .ok (.iload_n 3, 1) := by decide +kernel
theorem d_M_checkOf_12 : decode prog_2_method_11_code 12 = .ok (.iconst 1, 1) := by decide +kernel
theorem d_M_checkOf_13 : decode prog_2_method_11_code 13 = .ok (.if_icmp .eq 14, 3) := by decide +kernel
theorem d_M_checkOf_16 : decode prog_2_method_11_code 16 = .ok (.iload_n 2, 1) := by decide +kernel
theorem d_M_checkOf_17 : decode prog_2_method_11_code 17 = .ok (.aload_n 0, 1) := by decide +kernel
theorem d_M_checkOf_18 : decode prog_2_method_11_code 18 = .ok (.iload_n 1, 1) := by decide +kernel
theorem d_M_checkOf_19 : decode prog_2_method_11_code 19 = .ok (.iload_n 3, 1) := by decide +kernel
theorem d_M_checkOf_20 : decode prog_2_method_11_code 20 = .ok (.invokevirtual 36, 3) := by decide +kernel
theorem d_M_checkOf_23 : decode prog_2_method_11_code 23 = .ok (.invokestatic 49, 3) := by decide +kernel
theorem d_M_checkOf_26 : decode prog_2_method_11_code 26 = .ok (.istore_n 2, 1) := by decide +kernel
theorem d_M_checkOf_27 : decode prog_2_method_11_code 27 = .ok (.iinc 3 1, 3) := by decide +kernel
theorem d_M_checkOf_30 : decode prog_2_method_11_code 30 = .ok (.goto (-25), 3) := by decide +kernel
theorem d_M_checkOf_33 : decode prog_2_method_11_code 33 = .ok (.iload_n 2, 1) := by decide +kernel
theorem d_M_checkOf_34 : decode prog_2_method_11_code 34 = .ok (.ireturn, 1) := by decide +kernel
theorem d_M_checkWithWord_0 : decode prog_2_method_12_code 0 = .ok (.iload_n 0, 1) := by decide +kernel
theorem d_M_checkWithWord_1 : decode prog_2_method_12_code 1 = .ok (.istore_n 2, 1) := by decide +kernel
theorem d_M_checkWithWord_2 : decode prog_2_method_12_code 2 = .ok (.bipush 24, 2) := by decide +kernel
theorem d_M_checkWithWord_4 : decode prog_2_method_12_code 4 = .ok (.istore_n 3, 1) := by decide +kernel
theorem d_M_checkWithWord_5 : decode prog_2_method_12_code 5 = .ok (.iload_n 3, 1) := by decide +kernel
theorem d_M_checkWithWord_6 : decode prog_2_method_12_code 6 = .ok (.ifCond .lt 21, 3) := by decide +kernel
theorem d_M_checkWithWord_9 : decode prog_2_method_12_code 9 = .ok (.iload_n 2, 1) := by decide +kernel
theorem d_M_checkWithWord_10 : decode prog_2_method_12_code 10 = .ok (.iload_n 1, 1) := by decide +kernel
theorem d_M_checkWithWord_11 : decode prog_2_method_12_code 11 = .ok (.iload_n 3, 1) := by decide +kernel
theorem d_M_checkWithWord_12 : decode prog_2_method_12_code 12 = .ok (.iushr, 1) := by decide +kernel
theorem d_M_checkWithWord_13 : decode prog_2_method_12_code 13 = .ok (.sipush 255, 3) := by decide +kernel
theorem d_M_checkWithWord_16 : decode prog_2_method_12_code 16 = .ok (.iand, 1) := by decide +kernel
theorem d_M_checkWithWord_17 : decode prog_2_method_12_code 17 = .ok (.invokestatic 52, 3) := by decide +kernel
theorem d_M_checkWithWord_20 : decode prog_2_method_12_code 20 = .ok (.istore_n 2, 1) := by decide +kernel
theorem d_M_checkWithWord_21 : decode prog_2_method_12_code 21 = .ok (.iinc 3 (-8), 3) := by decide +kernel
theorem d_M_checkWithWord_24 : decode prog_2_method_12_code 24 = .ok (.goto (-19), 3) := by decide +kernel
theorem d_M_checkWithWord_27 : decode prog_2_method_12_code 27 = .ok (.iload_n 2, 1) := by decide +kernel
theorem d_M_checkWithWord_28 : decode prog_2_method_12_code 28 = .ok (.ireturn, 1) := by decide +kernel
theorem d_M_checkWithByte_0 : decode prog_2_method_13_code 0 = .ok (.iload_n 0, 1) := by decide +kernel
theorem d_M_checkWithByte_1 : decode prog_2_method_13_code 1 = .ok (.sipush 256, 3) := by decide +kernel
theorem d_M_checkWithByte_4 : decode prog_2_method_13_code 4 = .ok (.iload_n 1, 1) := by decide +kernel
theorem d_M_checkWithByte_5 : decode prog_2_method_13_code 5 = .ok (.imul, 1) := by decide +kernel
theorem d_M_checkWithByte_6 : decode prog_2_method_13_code 6 = .ok (.ixor, 1) := by decide +kernel
theorem d_M_checkWithByte_7 : decode prog_2_method_13_code 7 = .ok (.istore_n 2, 1) := by decide +kernel
theorem d_M_checkWithByte_8 : decode prog_2_method_13_code 8 = .ok (.iconst 0, 1) := by decide +kernel
theorem d_M_checkWithByte_9 : decode prog_2_method_13_code 9 = .ok (.istore_n 3, 1) := by decide +kernel
theorem d_M_checkWithByte_10 : decode prog_2_method_13_code 10 = .ok (.iload_n 3, 1) := by decide +kernel
theorem d_M_checkWithByte_11 : decode prog_2_method_13_code 11 = .ok (.bipush 8, 2) := by decide +kernel
theorem d_M_checkWithByte_13 : decode prog_2_method_13_code 13 = .ok (.if_icmp .ge 32, 3) := by decide +kernel
theorem d_M_checkWithByte_16 : decode prog_2_method_13_code 16 = .ok (.iload_n 2, 1) := by decide +kernel
theorem d_M_checkWithByte_17 : decode prog_2_method_13_code 17 = .ok (.ldc 55, 2) := by decide +kernel
theorem d_M_checkWithByte_19 : decode prog_2_method_13_code 19 = .ok (.if_icmp .ge 9, 3) := by decide +kernel
theorem d_M_checkWithByte_22 : decode prog_2_method_13_code 22 = .ok (.iconst 2, 1) := by decide +kernel
theorem d_M_checkWithByte_23 : decode prog_2_method_13_code 23 = .ok (.iload_n 2, 1) := by decide +kernel
theorem d_M_checkWithByte_24 : decode prog_2_method_13_code 24 = .ok (.imul, 1) := by decide +kernel
theorem d_M_checkWithByte_25 : decode prog_2_method_13_code 25 = .ok (.goto 13, 3) := by decide +kernel
theorem d_M_checkWithByte_28 : decode prog_2_method_13_code 28 = .ok (.iconst 2, 1) := by decide +kernel
theorem d_M_checkWithByte_29 : decode prog_2_method_13_code 29 = .ok (.iload_n 2, 1) := by decide +kernel
theorem d_M_checkWithByte_30 : decode prog_2_method_13_code 30 = .ok (.imul, 1) := by decide +kernel
theorem d_M_checkWithByte_31 : decode prog_2_method_13_code 31 = .ok (.ldc 56, 2) := by decide +kernel
theorem d_M_checkWithByte_33 : decode prog_2_method_13_code 33 = .ok (.isub, 1) := by decide +kernel
theorem d_M_checkWithByte_34 : decode prog_2_method_13_code 34 = .ok (.sipush 4129, 3) := by decide +kernel
theorem d_M_checkWithByte_37 : decode prog_2_method_13_code 37 = .ok (.ixor, 1) := by decide +kernel
theorem d_M_checkWithByte_38 : decode prog_2_method_13_code 38 = .ok (.istore_n 2, 1) := by decide +kernel
theorem d_M_checkWithByte_39 : decode prog_2_method_13_code 39 = .ok (.iinc 3 1, 3) := by decide +kernel
theorem d_M_checkWithByte_42 : decode prog_2_method_13_code 42 = .ok (.goto (-32), 3) := by decide +kernel
theorem d_M_checkWithByte_45 : decode prog_2_method_13_code 45 = .ok (.iload_n 2, 1) := by decide +kernel
theorem d_M_checkWithByte_46 : decode prog_2_method_13_code 46 = .ok (.ireturn, 1) := by decide +kernel
theorem d_N_init_0 : decode prog_3_method_1_code 0 = .ok (.aload_n 0, 1) := by decide +kernel
theorem d_N_init_1 : decode prog_3_method_1_code 1 = .ok (.invokespecial 3, 3) := by decide +kernel
theorem d_N_init_4 : decode prog_3_method_1_code 4 = .ok (.aload_n 0, 1) := by decide +kernel
theorem d_N_init_5 : decode prog_3_method_1_code 5 = .ok (.bipush 10, 2) := by decide +kernel
theorem d_N_init_7 : decode prog_3_method_1_code 7 = .ok (.newarray .int, 2) := by decide +kernel
theorem d_N_init_9 : decode prog_3_method_1_code 9 = .ok (.putfield 9, 3) := by decide +kernel
theorem d_N_init_12 : decode prog_3_method_1_code 12 = .ok (.aload_n 0, 1) := by decide +kernel
theorem d_N_init_13 : decode prog_3_method_1_code 13 = .ok (.iconst 0, 1) := by decide +kernel
theorem d_N_init_14 : decode prog_3_method_1_code 14 = .ok (.putfield 15, 3) := by decide +kernel
theorem d_N_init_17 : decode prog_3_method_1_code 17 = .ok (.aload_n 0, 1) := by decide +kernel
theorem d_N_init_18 : decode prog_3_method_1_code 18 = .ok (.iconst 0, 1) := by decide +kernel
theorem d_N_init_19 : decode prog_3_method_1_code 19 = .ok (.putfield 19, 3) := by decide +kernel
theorem d_N_init_22 : decode prog_3_method_1_code 22 = .ok (.aload_n 0, 1) := by decide +kernel
theorem d_N_init_23 : decode prog_3_method_1_code 23 = .ok (.iconst (-1), 1) := by decide +kernel
theorem d_N_init_24 : decode prog_3_method_1_code 24 = .ok (.putfield 22, 3) := by decide +kernel
theorem d_N_init_27 : decode prog_3_method_1_code 27 = .ok (.aload_n 0, 1) := by decide +kernel
theorem d_N_init_28 : decode prog_3_method_1_code 28 = .ok (.iconst 0, 1) := by decide +kernel
theorem d_N_init_29 : decode prog_3_method_1_code 29 = .ok (.putfield 25, 3) := by decide +kernel
theorem d_N_init_32 : decode prog_3_method_1_code 32 = .ok (.return_, 1) := by decide +kernel
theorem d_N_becomeAbsent_0 : decode prog_3_method_2_code 0 = .ok (.aload_n 0, 1) := by decide +kernel
theorem d_N_becomeAbsent_1 : decode prog_3_method_2_code 1 = .ok (.iconst 0, 1) := by decide +kernel
theorem d_N_becomeAbsent_2 : decode prog_3_method_2_code 2 = .ok (.putfield 15, 3) := by decide +kernel
theorem d_N_becomeAbsent_5 : decode prog_3_method_2_code 5 = .ok (.aload_n 0, 1) := by decide +kernel
theorem d_N_becomeAbsent_6 : decode prog_3_method_2_code 6 = .ok (.iconst 0, 1) := by decide +kernel
theorem d_N_becomeAbsent_7 : decode prog_3_method_2_code 7 = .ok (.putfield 19, 3) := by decide +kernel
theorem d_N_becomeAbsent_10 : decode prog_3_method_2_code 10 = .ok (.aload_n 0, 1) := by decide +kernel
theorem d_N_becomeAbsent_11 : decode prog_3_method_2_code 11 = .ok (.iconst (-1), 1) := by decide +kernel
theorem d_N_becomeAbsent_12 : decode prog_3_method_2_code 12 = .ok (.putfield 22, 3) := by decide +kernel
theorem d_N_becomeAbsent_15 : decode prog_3_method_2_code 15 = .ok (.aload_n 0, 1) := by decide +kernel
theorem d_N_becomeAbsent_16 : decode prog_3_method_2_code 16 = .ok (.iconst 0, 1) := by decide +kernel
theorem d_N_becomeAbsent_17 : decode prog_3_method_2_code 17 = .ok (.putfield 25, 3) := by decide +kernel
theorem d_N_becomeAbsent_20 : decode prog_3_method_2_code 20 = .ok (.return_, 1) := by decide +kernel
theorem d_N_becomeNew_0 : decode prog_3_method_3_code 0 = .ok (.aload_n 0, 1) := by decide +kernel
theorem d_N_becomeNew_1 : decode prog_3_method_3_code 1 = .ok (.iload_n 1, 1) := by decide +kernel
theorem d_N_becomeNew_2 : decode prog_3_method_3_code 2 = .ok (.putfield 15, 3) := by decide +kernel
theorem d_N_becomeNew_5 : decode prog_3_method_3_code 5 = .ok (.aload_n 0, 1) := by decide +kernel
theorem d_N_becomeNew_6 : decode prog_3_method_3_code 6 = .ok (.iconst 0, 1) := by decide +kernel
theorem d_N_becomeNew_7 : decode prog_3_method_3_code 7 = .ok (.putfield 19, 3) := by decide +kernel
theorem d_N_becomeNew_10 : decode prog_3_method_3_code 10 = .ok (.aload_n 0, 1) := by decide +kernel
theorem d_N_becomeNew_11 : decode prog_3_method_3_code 11 = .ok (.iconst (-1), 1) := by decide +kernel
theorem d_N_becomeNew_12 : decode prog_3_method_3_code 12 = .ok (.putfield 22, 3) := by decide +kernel
theorem d_N_becomeNew_15 : decode prog_3_method_3_code 15 = .ok (.aload_n 0, 1) := by decide +kernel
theorem d_N_becomeNew_16 : decode prog_3_method_3_code 16 = .ok (.iconst 1, 1) := by decide +kernel
theorem d_N_becomeNew_17 : decode prog_3_method_3_code 17 = .ok (.putfield 25, 3) := by decide +kernel
theorem d_N_becomeNew_20 : decode prog_3_method_3_code 20 = .ok (.return_, 1) := by decide +kernel
theorem d_N_become_0 : decode prog_3_method_4_code 0 = .ok (.aload_n 0, 1) := by decide +kernel
theorem d_N_become_1 : decode prog_3_method_4_code 1 = .ok (.aload_n 1, 1) := by decide +kernel
theorem d_N_become_2 : decode prog_3_method_4_code 2 = .ok (.iload_n 2, 1) := by decide +kernel
theorem d_N_become_3 : decode prog_3_method_4_code 3 = .ok (.iconst 4, 1) := by decide +kernel
theorem d_N_become_4 : decode prog_3_method_4_code 4 = .ok (.invokevirtual 29, 3) := by decide +kernel
theorem d_N_become_7 : decode prog_3_method_4_code 7 = .ok (.putfield 15, 3) := by decide +kernel
theorem d_N_become_10 : decode prog_3_method_4_code 10 = .ok (.aload_n 0, 1) := by decide +kernel
theorem d_N_become_11 : decode prog_3_method_4_code 11 = .ok (.iconst 0, 1) := by decide +kernel
theorem d_N_become_12 : decode prog_3_method_4_code 12 = .ok (.bipush 10, 2) := by decide +kernel
theorem d_N_become_14 : decode prog_3_method_4_code 14 = .ok (.aload_n 1, 1) := by decide +kernel
theorem d_N_become_15 : decode prog_3_method_4_code 15 = .ok (.iload_n 2, 1) := by decide +kernel
theorem d_N_become_16 : decode prog_3_method_4_code 16 = .ok (.iconst 5, 1) := by decide +kernel
theorem d_N_become_17 : decode prog_3_method_4_code 17 = .ok (.invokevirtual 29, 3) := by decide +kernel
theorem d_N_become_20 : decode prog_3_method_4_code 20 = .ok (.invokestatic 35, 3) := by decide +kernel
theorem d_N_become_23 : decode prog_3_method_4_code 23 = .ok (.invokestatic 40, 3) := by decide +kernel
theorem d_N_become_26 : decode prog_3_method_4_code 26 = .ok (.putfield 19, 3) := by decide +kernel
theorem d_N_become_29 : decode prog_3_method_4_code 29 = .ok (.iconst 0, 1) := by decide +kernel
theorem d_N_become_30 : decode prog_3_method_4_code 30 = .ok (.istore_n 3, 1) := by decide +kernel
theorem d_N_become_31 : decode prog_3_method_4_code 31 = .ok (.iload_n 3, 1) := by decide +kernel
theorem d_N_become_32 : decode prog_3_method_4_code 32 = .ok (.aload_n 0, 1) := by decide +kernel
theorem d_N_become_33 : decode prog_3_method_4_code 33 = .ok (.getfield 19, 3) := by decide +kernel
theorem d_N_become_36 : decode prog_3_method_4_code 36 = .ok (.if_icmp .ge 24, 3) := by decide +kernel
theorem d_N_become_39 : decode prog_3_method_4_code 39 = .ok (.aload_n 0, 1) := by decide +kernel
theorem d_N_become_40 : decode prog_3_method_4_code 40 = .ok (.getfield 9, 3) := by decide +kernel
theorem d_N_become_43 : decode prog_3_method_4_code 43 = .ok (.iload_n 3, 1) := by decide +kernel
theorem d_N_become_44 : decode prog_3_method_4_code 44 = .ok (.aload_n 1, 1) := by decide +kernel
theorem d_N_become_45 : decode prog_3_method_4_code 45 = .ok (.iload_n 2, 1) := by decide +kernel
theorem d_N_become_46 : decode prog_3_method_4_code 46 = .ok (.bipush 6, 2) := by decide +kernel
theorem d_N_become_48 : decode prog_3_method_4_code 48 = .ok (.iload_n 3, 1) := by decide +kernel
theorem d_N_become_49 : decode prog_3_method_4_code 49 = .ok (.iadd, 1) := by decide +kernel
theorem d_N_become_50 : decode prog_3_method_4_code 50 = .ok (.invokevirtual 29, 3) := by decide +kernel
theorem d_N_become_53 : decode prog_3_method_4_code 53 = .ok (.iastore, 1) := by decide +kernel
theorem d_N_become_54 : decode prog_3_method_4_code 54 = .ok (.iinc 3 1, 3) := by decide +kernel
theorem d_N_become_57 : decode prog_3_method_4_code 57 = .ok (.goto (-26), 3) := by decide +kernel
theorem d_N_become_60 : decode prog_3_method_4_code 60 = .ok (.aload_n 0, 1) := by decide +kernel
theorem d_N_become_61 : decode prog_3_method_4_code 61 = .ok (.iload_n 2, 1) := by decide +kernel
theorem d_N_become_62 : decode prog_3_method_4_code 62 = .ok (.putfield 22, 3) := by decide +kernel
theorem d_N_become_65 : decode prog_3_method_4_code 65 = .ok (.aload_n 0, 1) := by decide +kernel
theorem d_N_become_66 : decode prog_3_method_4_code 66 = .ok (.iconst 0, 1) := by decide +kernel
theorem d_N_become_67 : decode prog_3_method_4_code 67 = .ok (.putfield 25, 3) := by decide +kernel
theorem d_N_become_70 : decode prog_3_method_4_code 70 = .ok (.return_, 1) := by decide +kernel
theorem d_N_ifUnchanged_0 : decode prog_3_method_5_code 0 = .ok (.aload_n 0, 1) := by decide +kernel
theorem d_N_ifUnchanged_1 : decode prog_3_method_5_code 1 = .ok (.getfield 25, 3) := by decide +kernel
theorem d_N_ifUnchanged_4 : decode prog_3_method_5_code 4 = .ok (.ifCond .eq 7, 3) := by decide +kernel
theorem d_N_ifUnchanged_7 : decode prog_3_method_5_code 7 = .ok (.iconst 0, 1) := by decide +kernel
theorem d_N_ifUnchanged_8 : decode prog_3_method_5_code 8 = .ok (.goto 4, 3) := by decide +kernel
theorem d_N_ifUnchanged_11 : decode prog_3_method_5_code 11 = .ok (.iconst 1, 1) := by decide +kernel
theorem d_N_ifUnchanged_12 : decode prog_3_method_5_code 12 = .ok (.ireturn, 1) := by decide +kernel
theorem d_N_has_0 : decode prog_3_method_6_code 0 = .ok (.iload_n 1, 1) := by decide +kernel
theorem d_N_has_1 : decode prog_3_method_6_code 1 = .ok (.ifCond .lt 15, 3) := by decide +kernel
theorem d_N_has_4 : decode prog_3_method_6_code 4 = .ok (.iload_n 1, 1) := by decide +kernel
theorem d_N_has_5 : decode prog_3_method_6_code 5 = .ok (.aload_n 0, 1) := by decide +kernel
theorem d_N_has_6 : decode prog_3_method_6_code 6 = .ok (.getfield 19, 3) := by decide +kernel
theorem d_N_has_9 : decode prog_3_method_6_code 9 = .ok (.if_icmp .ge 7, 3) := by decide +kernel
theorem d_N_has_12 : decode prog_3_method_6_code 12 = .ok (.iconst 1, 1) := by decide +kernel
theorem d_N_has_13 : decode prog_3_method_6_code 13 = .ok (.goto 4, 3) := by decide +kernel
theorem d_N_has_16 : decode prog_3_method_6_code 16 = .ok (.iconst 0, 1) := by decide +kernel
theorem d_N_has_17 : decode prog_3_method_6_code 17 = .ok (.ireturn, 1) := by decide +kernel
theorem d_N_indexOfName_0 : decode prog_3_method_7_code 0 = .ok (.iconst 0, 1) := by decide +kernel
theorem d_N_indexOfName_1 : decode prog_3_method_7_code 1 = .ok (.istore_n 2, 1) := by decide +kernel
theorem d_N_indexOfName_2 : decode prog_3_method_7_code 2 = .ok (.iload_n 2, 1) := by decide +kernel
theorem d_N_indexOfName_3 : decode prog_3_method_7_code 3 = .ok (.aload_n 0, 1) := by decide +kernel
theorem d_N_indexOfName_4 : decode prog_3_method_7_code 4 = .ok (.getfield 19, 3) := by decide +kernel
theorem d_N_indexOfName_7 : decode prog_3_method_7_code 7 = .ok (.if_icmp .ge 23, 3) := by decide +kernel
theorem d_N_indexOfName_10 : decode prog_3_method_7_code 10 = .ok (.aload_n 0, 1) := by decide +kernel
theorem d_N_indexOfName_11 : decode prog_3_method_7_code 11 = .ok (.getfield 9, 3) := by decide +kernel
theorem d_N_indexOfName_14 : decode prog_3_method_7_code 14 = .ok (.iload_n 2, 1) := by decide +kernel
theorem d_N_indexOfName_15 : decode prog_3_method_7_code 15 = .ok (.iaload, 1) := by decide +kernel
theorem d_N_indexOfName_16 : decode prog_3_method_7_code 16 = .ok (.iconst 4, 1) := by decide +kernel
theorem d_N_indexOfName_17 : decode prog_3_method_7_code 17 = .ok (.ishr, 1) := by decide +kernel
theorem d_N_indexOfName_18 : decode prog_3_method_7_code 18 = .ok (.iload_n 1, 1) := by decide +kernel
theorem d_N_indexOfName_19 : decode prog_3_method_7_code 19 = .ok (.if_icmp .ne 5, 3) := by decide +kernel
theorem d_N_indexOfName_22 : decode prog_3_method_7_code 22 = .ok (.iload_n 2, 1) := by decide +kernel
theorem d_N_indexOfName_23 : decode prog_3_method_7_code 23 = .ok (.ireturn, 1) := by decide +kernel
theorem d_N_indexOfName_24 : decode prog_3_method_7_code 24 = .ok (.iinc 2 1, 3) := by decide +kernel
theorem d_N_indexOfName_27 : decode prog_3_method_7_code 27 = .ok (.goto (-25), 3) := by decide +kernel
theorem d_N_indexOfName_30 : decode prog_3_method_7_code 30 = .ok (.iconst (-1), 1) := by decide +kernel
theorem d_N_indexOfName_31 : decode prog_3_method_7_code 31 = .ok (.ireturn, 1) := by decide +kernel
theorem d_N_nodeOfItem_0 : decode prog_3_method_8_code 0 = .ok (.aload_n 0, 1) := by decide +kernel
theorem d_N_nodeOfItem_1 : decode prog_3_method_8_code 1 = .ok (.iload_n 1, 1) := by decide +kernel
theorem d_N_nodeOfItem_2 : decode prog_3_method_8_code 2 = .ok (.invokevirtual 43, 3) := by decide +kernel
theorem d_N_nodeOfItem_5 : decode prog_3_method_8_code 5 = .ok (.ifCond .eq 15, 3) := by decide +kernel
theorem d_N_nodeOfItem_8 : decode prog_3_method_8_code 8 = .ok (.aload_n 0, 1) := by decide +kernel
theorem d_N_nodeOfItem_9 : decode prog_3_method_8_code 9 = .ok (.getfield 9, 3) := by decide +kernel
theorem d_N_nodeOfItem_12 : decode prog_3_method_8_code 12 = .ok (.iload_n 1, 1) := by decide +kernel
theorem d_N_nodeOfItem_13 : decode prog_3_method_8_code 13 = .ok (.iaload, 1) := by decide +kernel
theorem d_N_nodeOfItem_14 : decode prog_3_method_8_code 14 = .ok (.bipush 15, 2) := by decide +kernel
theorem d_N_nodeOfItem_16 : decode prog_3_method_8_code 16 = .ok (.iand, 1) := by decide +kernel
theorem d_N_nodeOfItem_17 : decode prog_3_method_8_code 17 = .ok (.goto 4, 3) := by decide +kernel
theorem d_N_nodeOfItem_20 : decode prog_3_method_8_code 20 = .ok (.iconst (-1), 1) := by decide +kernel
theorem d_N_nodeOfItem_21 : decode prog_3_method_8_code 21 = .ok (.ireturn, 1) := by decide +kernel
theorem d_N_holds_0 : decode prog_3_method_9_code 0 = .ok (.iconst 0, 1) := by decide +kernel
theorem d_N_holds_1 : decode prog_3_method_9_code 1 = .ok (.istore_n 2, 1) := by decide +kernel
theorem d_N_holds_2 : decode prog_3_method_9_code 2 = .ok (.iload_n 2, 1) := by decide +kernel
theorem d_N_holds_3 : decode prog_3_method_9_code 3 = .ok (.aload_n 0, 1) := by decide +kernel
theorem d_N_holds_4 : decode prog_3_method_9_code 4 = .ok (.getfield 19, 3) := by decide +kernel
theorem d_N_holds_7 : decode prog_3_method_9_code 7 = .ok (.if_icmp .ge 24, 3) := by decide +kernel
theorem d_N_holds_10 : decode prog_3_method_9_code 10 = .ok (.aload_n 0, 1) := by decide +kernel
theorem d_N_holds_11 : decode prog_3_method_9_code 11 = .ok (.getfield 9, 3) := by decide +kernel
theorem d_N_holds_14 : decode prog_3_method_9_code 14 = .ok (.iload_n 2, 1) := by decide +kernel
theorem d_N_holds_15 : decode prog_3_method_9_code 15 = .ok (.iaload, 1) := by decide +kernel
theorem d_N_holds_16 : decode prog_3_method_9_code 16 = .ok (.bipush 15, 2) := by decide +kernel
theorem d_N_holds_18 : decode prog_3_method_9_code 18 = .ok (.iand, 1) := by decide +kernel
theorem d_N_holds_19 : decode prog_3_method_9_code 19 = .ok (.iload_n 1, 1) := by decide +kernel
theorem d_N_holds_20 : decode prog_3_method_9_code 20 = .ok (.if_icmp .ne 5, 3) := by decide +kernel
theorem d_N_holds_23 : decode prog_3_method_9_code 23 = .ok (.iconst 1, 1) := by decide +kernel
theorem d_N_holds_24 : decode prog_3_method_9_code 24 = .ok (.ireturn, 1) := by decide +kernel
theorem d_N_holds_25 : decode prog_3_method_9_code 25 = .ok (.iinc 2 1, 3) := by decide +kernel
theorem d_N_holds_28 : decode prog_3_method_9_code 28 = .ok (.goto (-26), 3) := by decide +kernel
theorem d_N_holds_31 : decode prog_3_method_9_code 31 = .ok (.iconst 0, 1) := by decide +kernel
theorem d_N_holds_32 : decode prog_3_method_9_code 32 = .ok (.ireturn, 1) := by decide +kernel
theorem d_N_addItem_0 : decode prog_3_method_10_code 0 = .ok (.aload_n 0, 1) := by decide +kernel
theorem d_N_addItem_1 : decode prog_3_method_10_code 1 = .ok (.getfield 19, 3) := by decide +kernel
theorem d_N_addItem_4 : decode prog_3_method_10_code 4 = .ok (.bipush 10, 2) := by decide +kernel
theorem d_N_addItem_6 : decode prog_3_method_10_code 6 = .ok (.if_icmp .ge 28, 3) := by decide +kernel
theorem d_N_addItem_9 : decode prog_3_method_10_code 9 = .ok (.aload_n 0, 1) := by decide +kernel
theorem d_N_addItem_10 : decode prog_3_method_10_code 10 = .ok (.getfield 9, 3) := by decide +kernel
theorem d_N_addItem_13 : decode prog_3_method_10_code 13 = .ok (.aload_n 0, 1) := by decide +kernel
theorem d_N_addItem_14 : decode prog_3_method_10_code 14 = .ok (.getfield 19, 3) := by decide +kernel
theorem d_N_addItem_17 : decode prog_3_method_10_code 17 = .ok (.iload_n 1, 1) := by decide +kernel
theorem d_N_addItem_18 : decode prog_3_method_10_code 18 = .ok (.bipush 16, 2) := by decide +kernel
theorem d_N_addItem_20 : decode prog_3_method_10_code 20 = .ok (.imul, 1) := by decide +kernel
theorem d_N_addItem_21 : decode prog_3_method_10_code 21 = .ok (.iload_n 2, 1) := by decide +kernel
theorem d_N_addItem_22 : decode prog_3_method_10_code 22 = .ok (.iadd, 1) := by decide +kernel
theorem d_N_addItem_23 : decode prog_3_method_10_code 23 = .ok (.iastore, 1) := by decide +kernel
theorem d_N_addItem_24 : decode prog_3_method_10_code 24 = .ok (.aload_n 0, 1) := by decide +kernel
theorem d_N_addItem_25 : decode prog_3_method_10_code 25 = .ok (.dup, 1) := by decide +kernel
theorem d_N_addItem_26 : decode prog_3_method_10_code 26 = .ok (.getfield 19, 3) := by decide +kernel
theorem d_N_addItem_29 : decode prog_3_method_10_code 29 = .ok (.iconst 1, 1) := by decide +kernel
theorem d_N_addItem_30 : decode prog_3_method_10_code 30 = .ok (.iadd, 1) := by decide +kernel
theorem d_N_addItem_31 : decode prog_3_method_10_code 31 = .ok (.putfield 19, 3) := by decide +kernel
theorem d_N_addItem_34 : decode prog_3_method_10_code 34 = .ok (.aload_n 0, 1) := by decide +kernel
theorem d_N_addItem_35 : decode prog_3_method_10_code 35 = .ok (.iconst 1, 1) := by decide +kernel
theorem d_N_addItem_36 : decode prog_3_method_10_code 36 = .ok (.putfield 25, 3) := by decide +kernel
theorem d_N_addItem_39 : decode prog_3_method_10_code 39 = .ok (.return_, 1) := by decide +kernel
theorem d_N_dropItem_0 : decode prog_3_method_11_code 0 = .ok (.aload_n 0, 1) := by decide +kernel
theorem d_N_dropItem_1 : decode prog_3_method_11_code 1 = .ok (.iload_n 1, 1) := by decide +kernel
theorem d_N_dropItem_2 : decode prog_3_method_11_code 2 = .ok (.invokevirtual 43, 3) := by decide +kernel
theorem d_N_dropItem_5 : decode prog_3_method_11_code 5 = .ok (.ifCond .eq 43, 3) := by decide +kernel
theorem d_N_dropItem_8 : decode prog_3_method_11_code 8 = .ok (.aload_n 0, 1) := by decide +kernel
theorem d_N_dropItem_9 : decode prog_3_method_11_code 9 = .ok (.dup, 1) := by decide +kernel
theorem d_N_dropItem_10 : decode prog_3_method_11_code 10 = .ok (.getfield 19, 3) := by decide +kernel
theorem d_N_dropItem_13 : decode prog_3_method_11_code 13 = .ok (.iconst 1, 1) := by decide +kernel
theorem d_N_dropItem_14 : decode prog_3_method_11_code 14 = .ok (.isub, 1) := by decide +kernel
theorem d_N_dropItem_15 : decode prog_3_method_11_code 15 = .ok (.putfield 19, 3) := by decide +kernel
theorem d_N_dropItem_18 : decode prog_3_method_11_code 18 = .ok (.iload_n 1, 1) := by decide +kernel
theorem d_N_dropItem_19 : decode prog_3_method_11_code 19 = .ok (.istore_n 2, 1) := by decide +kernel
theorem d_N_dropItem_20 : decode prog_3_method_11_code 20 = .ok (.iload_n 2, 1) := by decide +kernel
theorem d_N_dropItem_21 : decode prog_3_method_11_code 21 = .ok (.aload_n 0, 1) := by decide +kernel
theorem d_N_dropItem_22 : decode prog_3_method_11_code 22 = .ok (.getfield 19, 3) := by decide +kernel
theorem d_N_dropItem_25 : decode prog_3_method_11_code 25 = .ok (.if_icmp .ge 23, 3) := by decide +kernel
theorem d_N_dropItem_28 : decode prog_3_method_11_code 28 = .ok (.aload_n 0, 1) := by decide +kernel
theorem d_N_dropItem_29 : decode prog_3_method_11_code 29 = .ok (.getfield 9, 3) := by decide +kernel
theorem d_N_dropItem_32 : decode prog_3_method_11_code 32 = .ok (.iload_n 2, 1) := by decide +kernel
theorem d_N_dropItem_33 : decode prog_3_method_11_code 33 = .ok (.aload_n 0, 1) := by decide +kernel
theorem d_N_dropItem_34 : decode prog_3_method_11_code 34 = .ok (.getfield 9, 3) := by decide +kernel
theorem d_N_dropItem_37 : decode prog_3_method_11_code 37 = .ok (.iload_n 2, 1) := by decide +kernel
theorem d_N_dropItem_38 : decode prog_3_method_11_code 38 = .ok (.iconst 1, 1) := by decide +kernel
theorem d_N_dropItem_39 : decode prog_3_method_11_code 39 = .ok (.iadd, 1) := by decide +kernel
theorem d_N_dropItem_40 : decode prog_3_method_11_code 40 = .ok (.iaload, 1) := by decide +kernel
theorem d_N_dropItem_41 : decode prog_3_method_11_code 41 = .ok (.iastore, 1) := by decide +kernel
theorem d_N_dropItem_42 : decode prog_3_method_11_code 42 = .ok (.iinc 2 1, 3) := by decide +kernel
theorem d_N_dropItem_45 : decode prog_3_method_11_code 45 = .ok (.goto (-25), 3) := by decide +kernel
theorem d_N_dropItem_48 : decode prog_3_method_11_code 48 = .ok (.aload_n 0, 1) := by decide +kernel
theorem d_N_dropItem_49 : decode prog_3_method_11_code 49 = .ok (.iconst 1, 1) := by decide +kernel
theorem d_N_dropItem_50 : decode prog_3_method_11_code 50 = .ok (.putfield 25, 3) := by decide +kernel
theorem d_N_dropItem_53 : decode prog_3_method_11_code 53 = .ok (.return_, 1) := by decide +kernel
theorem d_N_setBlock_0 : decode prog_3_method_12_code 0 = .ok (.iload_n 1, 1) := by decide +kernel
theorem d_N_setBlock_1 : decode prog_3_method_12_code 1 = .ok (.ifCond .lt 30, 3) := by decide +kernel
theorem d_N_setBlock_4 : decode prog_3_method_12_code 4 = .ok (.iload_n 1, 1) := by decide +kernel
theorem d_N_setBlock_5 : decode prog_3_method_12_code 5 = .ok (.bipush 10, 2) := by decide +kernel
theorem d_N_setBlock_7 : decode prog_3_method_12_code 7 = .ok (.if_icmp .ge 24, 3) := by decide +kernel
theorem d_N_setBlock_10 : decode prog_3_method_12_code 10 = .ok (.aload_n 0, 1) := by decide +kernel
theorem d_N_setBlock_11 : decode prog_3_method_12_code 11 = .ok (.getfield 9, 3) := by decide +kernel
theorem d_N_setBlock_14 : decode prog_3_method_12_code 14 = .ok (.iload_n 1, 1) := by decide +kernel
theorem d_N_setBlock_15 : decode prog_3_method_12_code 15 = .ok (.iload_n 2, 1) := by decide +kernel
theorem d_N_setBlock_16 : decode prog_3_method_12_code 16 = .ok (.iastore, 1) := by decide +kernel
theorem d_N_setBlock_17 : decode prog_3_method_12_code 17 = .ok (.aload_n 0, 1) := by decide +kernel
theorem d_N_setBlock_18 : decode prog_3_method_12_code 18 = .ok (.aload_n 0, 1) := by decide +kernel
theorem d_N_setBlock_19 : decode prog_3_method_12_code 19 = .ok (.getfield 19, 3) := by decide +kernel
theorem d_N_setBlock_22 : decode prog_3_method_12_code 22 = .ok (.iload_n 1, 1) := by decide +kernel
theorem d_N_setBlock_23 : decode prog_3_method_12_code 23 = .ok (.iconst 1, 1) := by decide +kernel
theorem d_N_setBlock_24 : decode prog_3_method_12_code 24 = .ok (.iadd, 1) := by decide +kernel
theorem d_N_setBlock_25 : decode prog_3_method_12_code 25 = .ok (.invokestatic 40, 3) := by decide +kernel
theorem d_N_setBlock_28 : decode prog_3_method_12_code 28 = .ok (.putfield 19, 3) := by decide +kernel
theorem d_N_setBlock_31 : decode prog_3_method_12_code 31 = .ok (.aload_n 0, 1) := by decide +kernel
theorem d_N_setBlock_32 : decode prog_3_method_12_code 32 = .ok (.iconst 1, 1) := by decide +kernel
theorem d_N_setBlock_33 : decode prog_3_method_12_code 33 = .ok (.putfield 25, 3) := by decide +kernel
theorem d_N_setBlock_36 : decode prog_3_method_12_code 36 = .ok (.return_, 1) := by decide +kernel
theorem d_T_init_0 : decode prog_4_method_1_code 0 = .ok (.aload_n 0, 1) := by decide +kernel
theorem d_T_init_1 : decode prog_4_method_1_code 1 = .ok (.invokespecial 3, 3) := by decide +kernel
theorem d_T_init_4 : decode prog_4_method_1_code 4 = .ok (.aload_n 0, 1) := by decide +kernel
theorem d_T_init_5 : decode prog_4_method_1_code 5 = .ok (.bipush 8, 2) := by decide +kernel
theorem d_T_init_7 : decode prog_4_method_1_code 7 = .ok (.anewarray 9, 3) := by decide +kernel
theorem d_T_init_10 : decode prog_4_method_1_code 10 = .ok (.putfield 11, 3) := by decide +kernel
theorem d_T_init_13 : decode prog_4_method_1_code 13 = .ok (.iconst 0, 1) := by decide +kernel
theorem d_T_init_14 : decode prog_4_method_1_code 14 = .ok (.istore_n 1, 1) := by decide +kernel
theorem d_T_init_15 : decode prog_4_method_1_code 15 = .ok (.iload_n 1, 1) := by decide +kernel
theorem d_T_init_16 : decode prog_4_method_1_code 16 = .ok (.bipush 8, 2) := by decide +kernel
theorem d_T_init_18 : decode prog_4_method_1_code 18 = .ok (.if_icmp .ge 22, 3) := by decide +kernel
theorem d_T_init_21 : decode prog_4_method_1_code 21 = .ok (.aload_n 0, 1) := by decide +kernel
theorem d_T_init_22 : decode prog_4_method_1_code 22 = .ok (.getfield 11, 3) := by decide +kernel
theorem d_T_init_25 : decode prog_4_method_1_code 25 = .ok (.iload_n 1, 1) := by decide +kernel
theorem d_T_init_26 : decode prog_4_method_1_code 26 = .ok (.new 9, 3) := by decide +kernel
theorem d_T_init_29 : decode prog_4_method_1_code 29 = .ok (.dup, 1) := by decide +kernel
theorem d_T_init_30 : decode prog_4_method_1_code 30 = .ok (.invokespecial 17, 3) := by decide +kernel
theorem d_T_init_33 : decode prog_4_method_1_code 33 = .ok (.aastore, 1) := by decide +kernel
theorem d_T_init_34 : decode prog_4_method_1_code 34 = .ok (.iinc 1 1, 3) := by decide +kernel
theorem d_T_init_37 : decode prog_4_method_1_code 37 = .ok (.goto (-22), 3) := by decide +kernel
theorem d_T_init_40 : decode prog_4_method_1_code 40 = .ok (.return_, 1) := by decide +kernel
theorem d_T_becomeNothing_0 : decode prog_4_method_2_code 0 = .ok (.iconst 0, 1) := by decide +kernel
theorem d_T_becomeNothing_1 : decode prog_4_method_2_code 1 = .ok (.istore_n 1, 1) := by decide +kernel
theorem d_T_becomeNothing_2 : decode prog_4_method_2_code 2 = .ok (.iload_n 1, 1) := by decide +kernel
theorem d_T_becomeNothing_3 : decode prog_4_method_2_code 3 = .ok (.bipush 8, 2) := by decide +kernel
theorem d_T_becomeNothing_5 : decode prog_4_method_2_code 5 = .ok (.if_icmp .ge 18, 3) := by decide +kernel
theorem d_T_becomeNothing_8 : decode prog_4_method_2_code 8 = .ok (.aload_n 0, 1) := by decide +kernel
theorem d_T_becomeNothing_9 : decode prog_4_method_2_code 9 = .ok (.getfield 11, 3) := by decide +kernel
theorem d_T_becomeNothing_12 : decode prog_4_method_2_code 12 = .ok (.iload_n 1, 1) := by decide +kernel
theorem d_T_becomeNothing_13 : decode prog_4_method_2_code 13 = .ok (.aaload, 1) := by decide +kernel
theorem d_T_becomeNothing_14 : decode prog_4_method_2_code 14 = .ok (.invokevirtual 18, 3) := by decide +kernel
theorem d_T_becomeNothing_17 : decode prog_4_method_2_code 17 = .ok (.iinc 1 1, 3) := by decide +kernel
theorem d_T_becomeNothing_20 : decode prog_4_method_2_code 20 = .ok (.goto (-18), 3) := by decide +kernel
theorem d_T_becomeNothing_23 : decode prog_4_method_2_code 23 = .ok (.return_, 1) := by decide +kernel
theorem d_T_becomeEmpty_0 : decode prog_4_method_3_code 0 = .ok (.aload_n 0, 1) := by decide +kernel
theorem d_T_becomeEmpty_1 : decode prog_4_method_3_code 1 = .ok (.invokevirtual 21, 3) := by decide +kernel
theorem d_T_becomeEmpty_4 : decode prog_4_method_3_code 4 = .ok (.aload_n 0, 1) := by decide +kernel
theorem d_T_becomeEmpty_5 : decode prog_4_method_3_code 5 = .ok (.getfield 11, 3) := by decide +kernel
theorem d_T_becomeEmpty_8 : decode prog_4_method_3_code 8 = .ok (.iconst 0, 1) := by decide +kernel
theorem d_T_becomeEmpty_9 : decode prog_4_method_3_code 9 = .ok (.aaload, 1) := by decide +kernel
theorem d_T_becomeEmpty_10 : decode prog_4_method_3_code 10 = .ok (.iconst 1, 1) := by decide +kernel
theorem d_T_becomeEmpty_11 : decode prog_4_method_3_code 11 = .ok (.invokevirtual 24, 3) := by decide +kernel
theorem d_T_becomeEmpty_14 : decode prog_4_method_3_code 14 = .ok (.return_, 1) := by decide +kernel
theorem d_T_become_0 : decode prog_4_method_4_code 0 = .ok (.iconst 0, 1) := by decide +kernel
theorem d_T_become_1 : decode prog_4_method_4_code 1 = .ok (.istore_n 3, 1) := by decide +kernel
theorem d_T_become_2 : decode prog_4_method_4_code 2 = .ok (.iload_n 3, 1) := by decide +kernel
theorem d_T_become_3 : decode prog_4_method_4_code 3 = .ok (.bipush 8, 2) := by decide +kernel
theorem d_T_become_5 : decode prog_4_method_4_code 5 = .ok (.if_icmp .ge 50, 3) := by decide +kernel
theorem d_T_become_8 : decode prog_4_method_4_code 8 = .ok (.aload_n 1, 1) := by decide +kernel
theorem d_T_become_9 : decode prog_4_method_4_code 9 = .ok (.iload_n 2, 1) := by decide +kernel
theorem d_T_become_10 : decode prog_4_method_4_code 10 = .ok (.iconst 4, 1) := by decide +kernel
theorem d_T_become_11 : decode prog_4_method_4_code 11 = .ok (.iload_n 3, 1) := by decide +kernel
theorem d_T_become_12 : decode prog_4_method_4_code 12 = .ok (.iadd, 1) := by decide +kernel
theorem d_T_become_13 : decode prog_4_method_4_code 13 = .ok (.invokevirtual 28, 3) := by decide +kernel
theorem d_T_become_16 : decode prog_4_method_4_code 16 = .ok (.istore 4, 2) := by decide +kernel
theorem d_T_become_18 : decode prog_4_method_4_code 18 = .ok (.iload 4, 2) := by decide +kernel
theorem d_T_become_20 : decode prog_4_method_4_code 20 = .ok (.ifCond .ne 15, 3) := by decide +kernel
theorem d_T_become_23 : decode prog_4_method_4_code 23 = .ok (.aload_n 0, 1) := by decide +kernel
theorem d_T_become_24 : decode prog_4_method_4_code 24 = .ok (.getfield 11, 3) := by decide +kernel
theorem d_T_become_27 : decode prog_4_method_4_code 27 = .ok (.iload_n 3, 1) := by decide +kernel
theorem d_T_become_28 : decode prog_4_method_4_code 28 = .ok (.aaload, 1) := by decide +kernel
theorem d_T_become_29 : decode prog_4_method_4_code 29 = .ok (.invokevirtual 18, 3) := by decide +kernel
theorem d_T_become_32 : decode prog_4_method_4_code 32 = .ok (.goto 17, 3) := by decide +kernel
theorem d_T_become_35 : decode prog_4_method_4_code 35 = .ok (.aload_n 0, 1) := by decide +kernel
theorem d_T_become_36 : decode prog_4_method_4_code 36 = .ok (.getfield 11, 3) := by decide +kernel
theorem d_T_become_39 : decode prog_4_method_4_code 39 = .ok (.iload_n 3, 1) := by decide +kernel
theorem d_T_become_40 : decode prog_4_method_4_code 40 = .ok (.aaload, 1) := by decide +kernel
theorem d_T_become_41 : decode prog_4_method_4_code 41 = .ok (.aload_n 1, 1) := by decide +kernel
theorem d_T_become_42 : decode prog_4_method_4_code 42 = .ok (.iload 4, 2) := by decide +kernel
theorem d_T_become_44 : decode prog_4_method_4_code 44 = .ok (.iconst 1, 1) := by decide +kernel
theorem d_T_become_45 : decode prog_4_method_4_code 45 = .ok (.isub, 1) := by decide +kernel
theorem d_T_become_46 : decode prog_4_method_4_code 46 = .ok (.invokevirtual 34, 3) := by decide +kernel
theorem d_T_become_49 : decode prog_4_method_4_code 49 = .ok (.iinc 3 1, 3) := by decide +kernel
theorem d_T_become_52 : decode prog_4_method_4_code 52 = .ok (.goto (-50), 3) := by decide +kernel
theorem d_T_become_55 : decode prog_4_method_4_code 55 = .ok (.return_, 1) := by decide +kernel
theorem d_T_nodeAt_0 : decode prog_4_method_5_code 0 = .ok (.iload_n 1, 1) := by decide +kernel
theorem d_T_nodeAt_1 : decode prog_4_method_5_code 1 = .ok (.ifCond .lt 21, 3) := by decide +kernel
theorem d_T_nodeAt_4 : decode prog_4_method_5_code 4 = .ok (.iload_n 1, 1) := by decide +kernel
theorem d_T_nodeAt_5 : decode prog_4_method_5_code 5 = .ok (.bipush 8, 2) := by decide +kernel
theorem d_T_nodeAt_7 : decode prog_4_method_5_code 7 = .ok (.if_icmp .ge 15, 3) := by decide +kernel
theorem d_T_nodeAt_10 : decode prog_4_method_5_code 10 = .ok (.aload_n 0, 1) := by decide +kernel
theorem d_T_nodeAt_11 : decode prog_4_method_5_code 11 = .ok (.getfield 11, 3) := by decide +kernel
theorem d_T_nodeAt_14 : decode prog_4_method_5_code 14 = .ok (.iload_n 1, 1) := by decide +kernel
theorem d_T_nodeAt_15 : decode prog_4_method_5_code 15 = .ok (.aaload, 1) := by decide +kernel
theorem d_T_nodeAt_16 : decode prog_4_method_5_code 16 = .ok (.getfield 38, 3) := by decide +kernel
theorem d_T_nodeAt_19 : decode prog_4_method_5_code 19 = .ok (.ifCond .ne 5, 3) := by decide +kernel
theorem d_T_nodeAt_22 : decode prog_4_method_5_code 22 = .ok (.aconst_null, 1) := by decide +kernel
theorem d_T_nodeAt_23 : decode prog_4_method_5_code 23 = .ok (.areturn, 1) := by decide +kernel
theorem d_T_nodeAt_24 : decode prog_4_method_5_code 24 = .ok (.aload_n 0, 1) := by decide +kernel
theorem d_T_nodeAt_25 : decode prog_4_method_5_code 25 = .ok (.getfield 11, 3) := by decide +kernel
theorem d_T_nodeAt_28 : decode prog_4_method_5_code 28 = .ok (.iload_n 1, 1) := by decide +kernel
theorem d_T_nodeAt_29 : decode prog_4_method_5_code 29 = .ok (.aaload, 1) := by decide +kernel
theorem d_T_nodeAt_30 : decode prog_4_method_5_code 30 = .ok (.areturn, 1) := by decide +kernel
theorem d_T_directoryAt_0 : decode prog_4_method_6_code 0 = .ok (.aload_n 0, 1) := by decide +kernel
theorem d_T_directoryAt_1 : decode prog_4_method_6_code 1 = .ok (.iload_n 1, 1) := by decide +kernel
theorem d_T_directoryAt_2 : decode prog_4_method_6_code 2 = .ok (.invokevirtual 42, 3) := by decide +kernel
theorem d_T_directoryAt_5 : decode prog_4_method_6_code 5 = .ok (.astore_n 2, 1) := by decide +kernel
theorem d_T_directoryAt_6 : decode prog_4_method_6_code 6 = .ok (.aload_n 2, 1) := by decide +kernel
theorem d_T_directoryAt_7 : decode prog_4_method_6_code 7 = .ok (.ifnull 15, 3) := by decide +kernel
theorem d_T_directoryAt_10 : decode prog_4_method_6_code 10 = .ok (.aload_n 2, 1) := by decide +kernel
theorem d_T_directoryAt_11 : decode prog_4_method_6_code 11 = .ok (.getfield 38, 3) := by decide +kernel
theorem d_T_directoryAt_14 : decode prog_4_method_6_code 14 = .ok (.iconst 1, 1) := by decide +kernel
theorem d_T_directoryAt_15 : decode prog_4_method_6_code 15 = .ok (.if_icmp .ne 7, 3) := by decide +kernel
theorem d_T_directoryAt_18 : decode prog_4_method_6_code 18 = .ok (.aload_n 2, 1) := by decide +kernel
theorem d_T_directoryAt_19 : decode prog_4_method_6_code 19 = .ok (.goto 4, 3) := by decide +kernel
theorem d_T_directoryAt_22 : decode prog_4_method_6_code 22 = .ok (.aconst_null, 1) := by decide +kernel
theorem d_T_directoryAt_23 : decode prog_4_method_6_code 23 = .ok (.areturn, 1) := by decide +kernel
theorem d_T_fileAt_0 : decode prog_4_method_7_code 0 = .ok (.aload_n 0, 1) := by decide +kernel
theorem d_T_fileAt_1 : decode prog_4_method_7_code 1 = .ok (.iload_n 1, 1) := by decide +kernel
theorem d_T_fileAt_2 : decode prog_4_method_7_code 2 = .ok (.invokevirtual 42, 3) := by decide +kernel
theorem d_T_fileAt_5 : decode prog_4_method_7_code 5 = .ok (.astore_n 2, 1) := by decide +kernel
theorem d_T_fileAt_6 : decode prog_4_method_7_code 6 = .ok (.aload_n 2, 1) := by decide +kernel
theorem d_T_fileAt_7 : decode prog_4_method_7_code 7 = .ok (.ifnull 15, 3) := by decide +kernel
theorem d_T_fileAt_10 : decode prog_4_method_7_code 10 = .ok (.aload_n 2, 1) := by decide +kernel
theorem d_T_fileAt_11 : decode prog_4_method_7_code 11 = .ok (.getfield 38, 3) := by decide +kernel
theorem d_T_fileAt_14 : decode prog_4_method_7_code 14 = .ok (.iconst 2, 1) := by decide +kernel
theorem d_T_fileAt_15 : decode prog_4_method_7_code 15 = .ok (.if_icmp .ne 7, 3) := by decide +kernel
theorem d_T_fileAt_18 : decode prog_4_method_7_code 18 = .ok (.aload_n 2, 1) := by decide +kernel
theorem d_T_fileAt_19 : decode prog_4_method_7_code 19 = .ok (.goto 4, 3) := by decide +kernel
theorem d_T_fileAt_22 : decode prog_4_method_7_code 22 = .ok (.aconst_null, 1) := by decide +kernel
theorem d_T_fileAt_23 : decode prog_4_method_7_code 23 = .ok (.areturn, 1) := by decide +kernel
theorem d_T_leastAbsent_0 : decode prog_4_method_8_code 0 = .ok (.iconst 0, 1) := by decide +kernel
theorem d_T_leastAbsent_1 : decode prog_4_method_8_code 1 = .ok (.istore_n 1, 1) := by decide +kernel
theorem d_T_leastAbsent_2 : decode prog_4_method_8_code 2 = .ok (.iload_n 1, 1) := by decide +kernel
theorem d_T_leastAbsent_3 : decode prog_4_method_8_code 3 = .ok (.bipush 8, 2) := by decide +kernel
theorem d_T_leastAbsent_5 : decode prog_4_method_8_code 5 = .ok (.if_icmp .ge 23, 3) := by decide +kernel
theorem d_T_leastAbsent_8 : decode prog_4_method_8_code 8 = .ok (.aload_n 0, 1) := by decide +kernel
theorem d_T_leastAbsent_9 : decode prog_4_method_8_code 9 = .ok (.getfield 11, 3) := by decide +kernel
theorem d_T_leastAbsent_12 : decode prog_4_method_8_code 12 = .ok (.iload_n 1, 1) := by decide +kernel
theorem d_T_leastAbsent_13 : decode prog_4_method_8_code 13 = .ok (.aaload, 1) := by decide +kernel
theorem d_T_leastAbsent_14 : decode prog_4_method_8_code 14 = .ok (.getfield 38, 3) := by decide +kernel
theorem d_T_leastAbsent_17 : decode prog_4_method_8_code 17 = .ok (.ifCond .ne 5, 3) := by decide +kernel
theorem d_T_leastAbsent_20 : decode prog_4_method_8_code 20 = .ok (.iload_n 1, 1) := by decide +kernel
theorem d_T_leastAbsent_21 : decode prog_4_method_8_code 21 = .ok (.ireturn, 1) := by decide +kernel
theorem d_T_leastAbsent_22 : decode prog_4_method_8_code 22 = .ok (.iinc 1 1, 3) := by decide +kernel
theorem d_T_leastAbsent_25 : decode prog_4_method_8_code 25 = .ok (.goto (-23), 3) := by decide +kernel
theorem d_T_leastAbsent_28 : decode prog_4_method_8_code 28 = .ok (.iconst (-1), 1) := by decide +kernel
theorem d_T_leastAbsent_29 : decode prog_4_method_8_code 29 = .ok (.ireturn, 1) := by decide +kernel
theorem d_T_countChanged_0 : decode prog_4_method_9_code 0 = .ok (.iconst 0, 1) := by decide +kernel
theorem d_T_countChanged_1 : decode prog_4_method_9_code 1 = .ok (.istore_n 1, 1) := by decide +kernel
theorem d_T_countChanged_2 : decode prog_4_method_9_code 2 = .ok (.iconst 0, 1) := by decide +kernel
theorem d_T_countChanged_3 : decode prog_4_method_9_code 3 = .ok (.istore_n 2, 1) := by decide +kernel
theorem d_T_countChanged_4 : decode prog_4_method_9_code 4 = .ok (.iload_n 2, 1) := by decide +kernel
theorem d_T_countChanged_5 : decode prog_4_method_9_code 5 = .ok (.bipush 8, 2) := by decide +kernel
theorem d_T_countChanged_7 : decode prog_4_method_9_code 7 = .ok (.if_icmp .ge 24, 3) := by decide +kernel
theorem d_T_countChanged_10 : decode prog_4_method_9_code 10 = .ok (.aload_n 0, 1) := by decide +kernel
theorem d_T_countChanged_11 : decode prog_4_method_9_code 11 = .ok (.getfield 11, 3) := by decide +kernel
theorem d_T_countChanged_14 : decode prog_4_method_9_code 14 = .ok (.iload_n 2, 1) := by decide +kernel
theorem d_T_countChanged_15 : decode prog_4_method_9_code 15 = .ok (.aaload, 1) := by decide +kernel
theorem d_T_countChanged_16 : decode prog_4_method_9_code 16 = .ok (.getfield 46, 3) := by decide +kernel
theorem d_T_countChanged_19 : decode prog_4_method_9_code 19 = .ok (.ifCond .eq 6, 3) := by decide +kernel
theorem d_T_countChanged_22 : decode prog_4_method_9_code 22 = .ok (.iinc 1 1, 3) := by decide +kernel
theorem d_T_countChanged_25 : decode prog_4_method_9_code 25 = .ok (.iinc 2 1, 3) := by decide +kernel
theorem d_T_countChanged_28 : decode prog_4_method_9_code 28 = .ok (.goto (-24), 3) := by decide +kernel
theorem d_T_countChanged_31 : decode prog_4_method_9_code 31 = .ok (.iload_n 1, 1) := by decide +kernel
theorem d_T_countChanged_32 : decode prog_4_method_9_code 32 = .ok (.ireturn, 1) := by decide +kernel
theorem d_T_isAtOrBelow_0 : decode prog_4_method_10_code 0 = .ok (.iload_n 1, 1) := by decide +kernel
theorem d_T_isAtOrBelow_1 : decode prog_4_method_10_code 1 = .ok (.istore_n 3, 1) := by decide +kernel
theorem d_T_isAtOrBelow_2 : decode prog_4_method_10_code 2 = .ok (.iconst 0, 1) := by decide +kernel
theorem d_T_isAtOrBelow_3 : decode prog_4_method_10_code 3 = .ok (.istore 4, 2) := by decide +kernel
theorem d_T_isAtOrBelow_5 : decode prog_4_method_10_code 5 = .ok (.iload 4, 2) := by decide +kernel
theorem d_T_isAtOrBelow_7 : decode prog_4_method_10_code 7 = .ok (.bipush 8, 2) := by decide +kernel
theorem d_T_isAtOrBelow_9 : decode prog_4_method_10_code 9 = .ok (.if_icmp .ge 27, 3) := by decide +kernel
theorem d_T_isAtOrBelow_12 : decode prog_4_method_10_code 12 = .ok (.iload_n 3, 1) := by decide +kernel
theorem d_T_isAtOrBelow_13 : decode prog_4_method_10_code 13 = .ok (.iconst (-1), 1) := by decide +kernel
theorem d_T_isAtOrBelow_14 : decode prog_4_method_10_code 14 = .ok (.if_icmp .eq 22, 3) := by decide +kernel
theorem d_T_isAtOrBelow_17 : decode prog_4_method_10_code 17 = .ok (.iload_n 3, 1) := by decide +kernel
theorem d_T_isAtOrBelow_18 : decode prog_4_method_10_code 18 = .ok (.iload_n 2, 1) := by decide +kernel
theorem d_T_isAtOrBelow_19 : decode prog_4_method_10_code 19 = .ok (.if_icmp .ne 5, 3) := by decide +kernel
theorem d_T_isAtOrBelow_22 : decode prog_4_method_10_code 22 = .ok (.iconst 1, 1) := by decide +kernel
theorem d_T_isAtOrBelow_23 : decode prog_4_method_10_code 23 = .ok (.ireturn, 1) := by decide +kernel
theorem d_T_isAtOrBelow_24 : decode prog_4_method_10_code 24 = .ok (.aload_n 0, 1) := by decide +kernel
theorem d_T_isAtOrBelow_25 : decode prog_4_method_10_code 25 = .ok (.iload_n 3, 1) := by decide +kernel
theorem d_T_isAtOrBelow_26 : decode prog_4_method_10_code 26 = .ok (.invokevirtual 50, 3) := by decide +kernel
theorem d_T_isAtOrBelow_29 : decode prog_4_method_10_code 29 = .ok (.istore_n 3, 1) := by decide +kernel
theorem d_T_isAtOrBelow_30 : decode prog_4_method_10_code 30 = .ok (.iinc 4 1, 3) := by decide +kernel
theorem d_T_isAtOrBelow_33 : decode prog_4_method_10_code 33 = .ok (.goto (-28), 3) := by decide +kernel
theorem d_T_isAtOrBelow_36 : decode prog_4_method_10_code 36 = .ok (.iconst 0, 1) := by decide +kernel
theorem d_T_isAtOrBelow_37 : decode prog_4_method_10_code 37 = .ok (.ireturn, 1) := by decide +kernel
theorem d_T_parentOf_0 : decode prog_4_method_11_code 0 = .ok (.iconst 0, 1) := by decide +kernel
theorem d_T_parentOf_1 : decode prog_4_method_11_code 1 = .ok (.istore_n 2, 1) := by decide +kernel
theorem d_T_parentOf_2 : decode prog_4_method_11_code 2 = .ok (.iload_n 2, 1) := by decide +kernel
theorem d_T_parentOf_3 : decode prog_4_method_11_code 3 = .ok (.bipush 8, 2) := by decide +kernel
theorem d_T_parentOf_5 : decode prog_4_method_11_code 5 = .ok (.if_icmp .ge 37, 3) := by decide +kernel
theorem d_T_parentOf_8 : decode prog_4_method_11_code 8 = .ok (.aload_n 0, 1) := by decide +kernel
theorem d_T_parentOf_9 : decode prog_4_method_11_code 9 = .ok (.getfield 11, 3) := by decide +kernel
theorem d_T_parentOf_12 : decode prog_4_method_11_code 12 = .ok (.iload_n 2, 1) := by decide +kernel
theorem d_T_parentOf_13 : decode prog_4_method_11_code 13 = .ok (.aaload, 1) := by decide +kernel
theorem d_T_parentOf_14 : decode prog_4_method_11_code 14 = .ok (.getfield 38, 3) := by decide +kernel
theorem d_T_parentOf_17 : decode prog_4_method_11_code 17 = .ok (.iconst 1, 1) := by decide +kernel
theorem d_T_parentOf_18 : decode prog_4_method_11_code 18 = .ok (.if_icmp .ne 18, 3) := by decide +kernel
theorem d_T_parentOf_21 : decode prog_4_method_11_code 21 = .ok (.aload_n 0, 1) := by decide +kernel
theorem d_T_parentOf_22 : decode prog_4_method_11_code 22 = .ok (.getfield 11, 3) := by decide +kernel
theorem d_T_parentOf_25 : decode prog_4_method_11_code 25 = .ok (.iload_n 2, 1) := by decide +kernel
theorem d_T_parentOf_26 : decode prog_4_method_11_code 26 = .ok (.aaload, 1) := by decide +kernel
theorem d_T_parentOf_27 : decode prog_4_method_11_code 27 = .ok (.iload_n 1, 1) := by decide +kernel
theorem d_T_parentOf_28 : decode prog_4_method_11_code 28 = .ok (.invokevirtual 54, 3) := by decide +kernel
theorem d_T_parentOf_31 : decode prog_4_method_11_code 31 = .ok (.ifCond .eq 5, 3) := by decide +kernel
theorem d_T_parentOf_34 : decode prog_4_method_11_code 34 = .ok (.iload_n 2, 1) := by decide +kernel
theorem d_T_parentOf_35 : decode prog_4_method_11_code 35 = .ok (.ireturn, 1) := by decide +kernel
theorem d_T_parentOf_36 : decode prog_4_method_11_code 36 = .ok (.iinc 2 1, 3) := by decide +kernel
theorem d_T_parentOf_39 : decode prog_4_method_11_code 39 = .ok (.goto (-37), 3) := by decide +kernel
theorem d_T_parentOf_42 : decode prog_4_method_11_code 42 = .ok (.iconst (-1), 1) := by decide +kernel
theorem d_T_parentOf_43 : decode prog_4_method_11_code 43 = .ok (.ireturn, 1) := by decide +kernel
end
section
theorem d_S_init_0 : decode prog_1_method_1_code 0 = .ok (.aload_n 0, 1) := by decide +kernel
theorem d_S_init_1 : decode prog_1_method_1_code 1 = .ok (.invokespecial 1, 3) := by decide +kernel
theorem d_S_init_4 : decode prog_1_method_1_code 4 = .ok (.aload_n 0, 1) := by decide +kernel
theorem d_S_init_5 : decode prog_1_method_1_code 5 = .ok (.new 7, 3) := by decide +kernel
theorem d_S_init_8 : decode prog_1_method_1_code 8 = .ok (.dup, 1) := by decide +kernel
theorem d_S_init_9 : decode prog_1_method_1_code 9 = .ok (.bipush 16, 2) := by decide +kernel
theorem d_S_init_11 : decode prog_1_method_1_code 11 = .ok (.sipush 128, 3) := by decide +kernel
theorem d_S_init_14 : decode prog_1_method_1_code 14 = .ok (.iload_n 1, 1) := by decide +kernel
theorem d_S_init_15 : decode prog_1_method_1_code 15 = .ok (.invokestatic 11, 3) := by decide +kernel
theorem d_S_init_18 : decode prog_1_method_1_code 18 = .ok (.invokestatic 17, 3) := by decide +kernel
theorem d_S_init_21 : decode prog_1_method_1_code 21 = .ok (.invokespecial 20, 3) := by decide +kernel
theorem d_S_init_24 : decode prog_1_method_1_code 24 = .ok (.putfield 23, 3) := by decide +kernel
theorem d_S_init_27 : decode prog_1_method_1_code 27 = .ok (.aload_n 0, 1) := by decide +kernel
theorem d_S_init_28 : decode prog_1_method_1_code 28 = .ok (.new 27, 3) := by decide +kernel
theorem d_S_init_31 : decode prog_1_method_1_code 31 = .ok (.dup, 1) := by decide +kernel
theorem d_S_init_32 : decode prog_1_method_1_code 32 = .ok (.invokespecial 29, 3) := by decide +kernel
theorem d_S_init_35 : decode prog_1_method_1_code 35 = .ok (.putfield 30, 3) := by decide +kernel
theorem d_S_init_38 : decode prog_1_method_1_code 38 = .ok (.aload_n 0, 1) := by decide +kernel
theorem d_S_init_39 : decode prog_1_method_1_code 39 = .ok (.new 27, 3) := by decide +kernel
theorem d_S_init_42 : decode prog_1_method_1_code 42 = .ok (.dup, 1) := by decide +kernel
theorem d_S_init_43 : decode prog_1_method_1_code 43 = .ok (.invokespecial 29, 3) := by decide +kernel
theorem d_S_init_46 : decode prog_1_method_1_code 46 = .ok (.putfield 34, 3) := by decide +kernel
theorem d_S_init_49 : decode prog_1_method_1_code 49 = .ok (.aload_n 0, 1) := by decide +kernel
theorem d_S_init_50 : decode prog_1_method_1_code 50 = .ok (.getfield 30, 3) := by decide +kernel
theorem d_S_init_53 : decode prog_1_method_1_code 53 = .ok (.invokevirtual 37, 3) := by decide +kernel
theorem d_S_init_56 : decode prog_1_method_1_code 56 = .ok (.return_, 1) := by decide +kernel
theorem d_S_make_0 : decode prog_1_method_2_code 0 = .ok (.aload_n 0, 1) := by decide +kernel
theorem d_S_make_1 : decode prog_1_method_2_code 1 = .ok (.getfield 30, 3) := by decide +kernel
theorem d_S_make_4 : decode prog_1_method_2_code 4 = .ok (.iload_n 1, 1) := by decide +kernel
theorem d_S_make_5 : decode prog_1_method_2_code 5 = .ok (.invokevirtual 40, 3) := by decide +kernel
theorem d_S_make_8 : decode prog_1_method_2_code 8 = .ok (.astore 4, 2) := by decide +kernel
theorem d_S_make_10 : decode prog_1_method_2_code 10 = .ok (.aload 4, 2) := by decide +kernel
theorem d_S_make_12 : decode prog_1_method_2_code 12 = .ok (.ifnull 10, 3) := by decide +kernel
theorem d_S_make_15 : decode prog_1_method_2_code 15 = .ok (.iload_n 2, 1) := by decide +kernel
theorem d_S_make_16 : decode prog_1_method_2_code 16 = .ok (.invokestatic 44, 3) := by decide +kernel
theorem d_S_make_19 : decode prog_1_method_2_code 19 = .ok (.ifCond .ne 5, 3) := by decide +kernel
theorem d_S_make_22 : decode prog_1_method_2_code 22 = .ok (.iconst (-1), 1) := by decide +kernel
theorem d_S_make_23 : decode prog_1_method_2_code 23 = .ok (.ireturn, 1) := by decide +kernel
theorem d_S_make_24 : decode prog_1_method_2_code 24 = .ok (.aload 4, 2) := by decide +kernel
theorem d_S_make_26 : decode prog_1_method_2_code 26 = .ok (.iload_n 2, 1) := by decide +kernel
theorem d_S_make_27 : decode prog_1_method_2_code 27 = .ok (.invokevirtual 48, 3) := by decide +kernel
theorem d_S_make_30 : decode prog_1_method_2_code 30 = .ok (.iconst (-1), 1) := by decide +kernel
theorem d_S_make_31 : decode prog_1_method_2_code 31 = .ok (.if_icmp .eq 6, 3) := by decide +kernel
theorem d_S_make_34 : decode prog_1_method_2_code 34 = .ok (.bipush (-2), 2) := by decide +kernel
theorem d_S_make_36 : decode prog_1_method_2_code 36 = .ok (.ireturn, 1) := by decide +kernel
theorem d_S_make_37 : decode prog_1_method_2_code 37 = .ok (.aload_n 0, 1) := by decide +kernel
theorem d_S_make_38 : decode prog_1_method_2_code 38 = .ok (.getfield 30, 3) := by decide +kernel
theorem d_S_make_41 : decode prog_1_method_2_code 41 = .ok (.invokevirtual 54, 3) := by decide +kernel
theorem d_S_make_44 : decode prog_1_method_2_code 44 = .ok (.istore 5, 2) := by decide +kernel
theorem d_S_make_46 : decode prog_1_method_2_code 46 = .ok (.iload 5, 2) := by decide +kernel
theorem d_S_make_48 : decode prog_1_method_2_code 48 = .ok (.iconst (-1), 1) := by decide +kernel
theorem d_S_make_49 : decode prog_1_method_2_code 49 = .ok (.if_icmp .ne 6, 3) := by decide +kernel
theorem d_S_make_52 : decode prog_1_method_2_code 52 = .ok (.bipush (-3), 2) := by decide +kernel
theorem d_S_make_54 : decode prog_1_method_2_code 54 = .ok (.ireturn, 1) := by decide +kernel
theorem d_S_make_55 : decode prog_1_method_2_code 55 = .ok (.aload_n 0, 1) := by decide +kernel
theorem d_S_make_56 : decode prog_1_method_2_code 56 = .ok (.iconst 0, 1) := by decide +kernel
theorem d_S_make_57 : decode prog_1_method_2_code 57 = .ok (.iconst 1, 1) := by decide +kernel
theorem d_S_make_58 : decode prog_1_method_2_code 58 = .ok (.aload 4, 2) := by decide +kernel
theorem d_S_make_60 : decode prog_1_method_2_code 60 = .ok (.invokevirtual 58, 3) := by decide +kernel
theorem d_S_make_63 : decode prog_1_method_2_code 63 = .ok (.iadd, 1) := by decide +kernel
theorem d_S_make_64 : decode prog_1_method_2_code 64 = .ok (.invokevirtual 61, 3) := by decide +kernel
theorem d_S_make_67 : decode prog_1_method_2_code 67 = .ok (.ifCond .eq 6, 3) := by decide +kernel
theorem d_S_make_70 : decode prog_1_method_2_code 70 = .ok (.bipush (-4), 2) := by decide +kernel
theorem d_S_make_72 : decode prog_1_method_2_code 72 = .ok (.ireturn, 1) := by decide +kernel
theorem d_S_make_73 : decode prog_1_method_2_code 73 = .ok (.aload_n 0, 1) := by decide +kernel
theorem d_S_make_74 : decode prog_1_method_2_code 74 = .ok (.getfield 30, 3) := by decide +kernel
theorem d_S_make_77 : decode prog_1_method_2_code 77 = .ok (.getfield 65, 3) := by decide +kernel
theorem d_S_make_80 : decode prog_1_method_2_code 80 = .ok (.iload 5, 2) := by decide +kernel
theorem d_S_make_82 : decode prog_1_method_2_code 82 = .ok (.aaload, 1) := by decide +kernel
theorem d_S_make_83 : decode prog_1_method_2_code 83 = .ok (.iload_n 3, 1) := by decide +kernel
theorem d_S_make_84 : decode prog_1_method_2_code 84 = .ok (.ifCond .eq 7, 3) := by decide +kernel
theorem d_S_make_87 : decode prog_1_method_2_code 87 = .ok (.iconst 1, 1) := by decide +kernel
theorem d_S_make_88 : decode prog_1_method_2_code 88 = .ok (.goto 4, 3) := by decide +kernel
theorem d_S_make_91 : decode prog_1_method_2_code 91 = .ok (.iconst 2, 1) := by decide +kernel
theorem d_S_make_92 : decode prog_1_method_2_code 92 = .ok (.invokevirtual 69, 3) := by decide +kernel
theorem d_S_make_95 : decode prog_1_method_2_code 95 = .ok (.aload 4, 2) := by decide +kernel
theorem d_S_make_97 : decode prog_1_method_2_code 97 = .ok (.iload_n 2, 1) := by decide +kernel
theorem d_S_make_98 : decode prog_1_method_2_code 98 = .ok (.iload 5, 2) := by decide +kernel
theorem d_S_make_100 : decode prog_1_method_2_code 100 = .ok (.invokevirtual 72, 3) := by decide +kernel
theorem d_S_make_103 : decode prog_1_method_2_code 103 = .ok (.iload 5, 2) := by decide +kernel
theorem d_S_make_105 : decode prog_1_method_2_code 105 = .ok (.ireturn, 1) := by decide +kernel
theorem d_S_write_0 : decode prog_1_method_3_code 0 = .ok (.aload_n 0, 1) := by decide +kernel
theorem d_S_write_1 : decode prog_1_method_3_code 1 = .ok (.getfield 30, 3) := by decide +kernel
theorem d_S_write_4 : decode prog_1_method_3_code 4 = .ok (.iload_n 1, 1) := by decide +kernel
theorem d_S_write_5 : decode prog_1_method_3_code 5 = .ok (.invokevirtual 76, 3) := by decide +kernel
theorem d_S_write_8 : decode prog_1_method_3_code 8 = .ok (.astore 4, 2) := by decide +kernel
theorem d_S_write_10 : decode prog_1_method_3_code 10 = .ok (.aload 4, 2) := by decide +kernel
theorem d_S_write_12 : decode prog_1_method_3_code 12 = .ok (.ifnull 13, 3) := by decide +kernel
theorem d_S_write_15 : decode prog_1_method_3_code 15 = .ok (.iload_n 3, 1) := by decide +kernel
theorem d_S_write_16 : decode prog_1_method_3_code 16 = .ok (.ifCond .lt 9, 3) := by decide +kernel
theorem d_S_write_19 : decode prog_1_method_3_code 19 = .ok (.iload_n 3, 1) := by decide +kernel
theorem d_S_write_20 : decode prog_1_method_3_code 20 = .ok (.ldc 79, 2) := by decide +kernel
theorem d_S_write_22 : decode prog_1_method_3_code 22 = .ok (.if_icmp .le 5, 3) := by decide +kernel
theorem d_S_write_25 : decode prog_1_method_3_code 25 = .ok (.iconst (-1), 1) := by decide +kernel
theorem d_S_write_26 : decode prog_1_method_3_code 26 = .ok (.ireturn, 1) := by decide +kernel
theorem d_S_write_27 : decode prog_1_method_3_code 27 = .ok (.iload_n 2, 1) := by decide +kernel
theorem d_S_write_28 : decode prog_1_method_3_code 28 = .ok (.ifCond .lt 18, 3) := by decide +kernel
theorem d_S_write_31 : decode prog_1_method_3_code 31 = .ok (.iload_n 2, 1) := by decide +kernel
theorem d_S_write_32 : decode prog_1_method_3_code 32 = .ok (.aload 4, 2) := by decide +kernel
theorem d_S_write_34 : decode prog_1_method_3_code 34 = .ok (.getfield 80, 3) := by decide +kernel
theorem d_S_write_37 : decode prog_1_method_3_code 37 = .ok (.if_icmp .gt 9, 3) := by decide +kernel
theorem d_S_write_40 : decode prog_1_method_3_code 40 = .ok (.iload_n 2, 1) := by decide +kernel
theorem d_S_write_41 : decode prog_1_method_3_code 41 = .ok (.bipush 10, 2) := by decide +kernel
theorem d_S_write_43 : decode prog_1_method_3_code 43 = .ok (.if_icmp .lt 5, 3) := by decide +kernel
theorem d_S_write_46 : decode prog_1_method_3_code 46 = .ok (.iconst (-1), 1) := by decide +kernel
theorem d_S_write_47 : decode prog_1_method_3_code 47 = .ok (.ireturn, 1) := by decide +kernel
theorem d_S_write_48 : decode prog_1_method_3_code 48 = .ok (.aload_n 0, 1) := by decide +kernel
theorem d_S_write_49 : decode prog_1_method_3_code 49 = .ok (.iconst 1, 1) := by decide +kernel
theorem d_S_write_50 : decode prog_1_method_3_code 50 = .ok (.aload 4, 2) := by decide +kernel
theorem d_S_write_52 : decode prog_1_method_3_code 52 = .ok (.invokevirtual 58, 3) := by decide +kernel
theorem d_S_write_55 : decode prog_1_method_3_code 55 = .ok (.invokevirtual 61, 3) := by decide +kernel
theorem d_S_write_58 : decode prog_1_method_3_code 58 = .ok (.ifCond .eq 6, 3) := by decide +kernel
theorem d_S_write_61 : decode prog_1_method_3_code 61 = .ok (.bipush (-4), 2) := by decide +kernel
theorem d_S_write_63 : decode prog_1_method_3_code 63 = .ok (.ireturn, 1) := by decide +kernel
theorem d_S_write_64 : decode prog_1_method_3_code 64 = .ok (.aload_n 0, 1) := by decide +kernel
theorem d_S_write_65 : decode prog_1_method_3_code 65 = .ok (.getfield 23, 3) := by decide +kernel
theorem d_S_write_68 : decode prog_1_method_3_code 68 = .ok (.getfield 84, 3) := by decide +kernel
theorem d_S_write_71 : decode prog_1_method_3_code 71 = .ok (.istore 5, 2) := by decide +kernel
theorem d_S_write_73 : decode prog_1_method_3_code 73 = .ok (.aload_n 0, 1) := by decide +kernel
theorem d_S_write_74 : decode prog_1_method_3_code 74 = .ok (.getfield 23, 3) := by decide +kernel
theorem d_S_write_77 : decode prog_1_method_3_code 77 = .ok (.iconst 1, 1) := by decide +kernel
theorem d_S_write_78 : decode prog_1_method_3_code 78 = .ok (.iload_n 1, 1) := by decide +kernel
theorem d_S_write_79 : decode prog_1_method_3_code 79 = .ok (.invokevirtual 87, 3) := by decide +kernel
theorem d_S_write_82 : decode prog_1_method_3_code 82 = .ok (.aload_n 0, 1) := by decide +kernel
theorem d_S_write_83 : decode prog_1_method_3_code 83 = .ok (.getfield 23, 3) := by decide +kernel
theorem d_S_write_86 : decode prog_1_method_3_code 86 = .ok (.iconst 4, 1) := by decide +kernel
theorem d_S_write_87 : decode prog_1_method_3_code 87 = .ok (.iload_n 3, 1) := by decide +kernel
theorem d_S_write_88 : decode prog_1_method_3_code 88 = .ok (.invokevirtual 90, 3) := by decide +kernel
theorem d_S_write_91 : decode prog_1_method_3_code 91 = .ok (.aload_n 0, 1) := by decide +kernel
theorem d_S_write_92 : decode prog_1_method_3_code 92 = .ok (.getfield 23, 3) := by decide +kernel
theorem d_S_write_95 : decode prog_1_method_3_code 95 = .ok (.invokevirtual 93, 3) := by decide +kernel
theorem d_S_write_98 : decode prog_1_method_3_code 98 = .ok (.ifCond .ne 10, 3) := by decide +kernel
theorem d_S_write_101 : decode prog_1_method_3_code 101 = .ok (.aload_n 0, 1) := by decide +kernel
theorem d_S_write_102 : decode prog_1_method_3_code 102 = .ok (.invokevirtual 97, 3) := by decide +kernel
theorem d_S_write_105 : decode prog_1_method_3_code 105 = .ok (.bipush (-5), 2) := by decide +kernel
theorem d_S_write_107 : decode prog_1_method_3_code 107 = .ok (.ireturn, 1) := by decide +kernel
theorem d_S_write_108 : decode prog_1_method_3_code 108 = .ok (.aload 4, 2) := by decide +kernel
theorem d_S_write_110 : decode prog_1_method_3_code 110 = .ok (.iload_n 2, 1) := by decide +kernel
theorem d_S_write_111 : decode prog_1_method_3_code 111 = .ok (.iload 5, 2) := by decide +kernel
theorem d_S_write_113 : decode prog_1_method_3_code 113 = .ok (.invokevirtual 100, 3) := by decide +kernel
theorem d_S_write_116 : decode prog_1_method_3_code 116 = .ok (.iload 5, 2) := by decide +kernel
theorem d_S_write_118 : decode prog_1_method_3_code 118 = .ok (.ireturn, 1) := by decide +kernel
theorem d_S_remove_0 : decode prog_1_method_4_code 0 = .ok (.aload_n 0, 1) := by decide +kernel
theorem d_S_remove_1 : decode prog_1_method_4_code 1 = .ok (.getfield 30, 3) := by decide +kernel
theorem d_S_remove_4 : decode prog_1_method_4_code 4 = .ok (.iload_n 1, 1) := by decide +kernel
theorem d_S_remove_5 : decode prog_1_method_4_code 5 = .ok (.invokevirtual 40, 3) := by decide +kernel
theorem d_S_remove_8 : decode prog_1_method_4_code 8 = .ok (.astore_n 3, 1) := by decide +kernel
theorem d_S_remove_9 : decode prog_1_method_4_code 9 = .ok (.aload_n 3, 1) := by decide +kernel
theorem d_S_remove_10 : decode prog_1_method_4_code 10 = .ok (.ifnonnull 5, 3) := by decide +kernel
theorem d_S_remove_13 : decode prog_1_method_4_code 13 = .ok (.iconst (-1), 1) := by decide +kernel
theorem d_S_remove_14 : decode prog_1_method_4_code 14 = .ok (.ireturn, 1) := by decide +kernel
theorem d_S_remove_15 : decode prog_1_method_4_code 15 = .ok (.aload_n 3, 1) := by decide +kernel
theorem d_S_remove_16 : decode prog_1_method_4_code 16 = .ok (.iload_n 2, 1) := by decide +kernel
theorem d_S_remove_17 : decode prog_1_method_4_code 17 = .ok (.invokevirtual 48, 3) := by decide +kernel
theorem d_S_remove_20 : decode prog_1_method_4_code 20 = .ok (.istore 4, 2) := by decide +kernel
theorem d_S_remove_22 : decode prog_1_method_4_code 22 = .ok (.aload_n 0, 1) := by decide +kernel
theorem d_S_remove_23 : decode prog_1_method_4_code 23 = .ok (.getfield 30, 3) := by decide +kernel
theorem d_S_remove_26 : decode prog_1_method_4_code 26 = .ok (.aload_n 3, 1) := by decide +kernel
theorem d_S_remove_27 : decode prog_1_method_4_code 27 = .ok (.iload 4, 2) := by decide +kernel
theorem d_S_remove_29 : decode prog_1_method_4_code 29 = .ok (.invokevirtual 103, 3) := by decide +kernel
theorem d_S_remove_32 : decode prog_1_method_4_code 32 = .ok (.invokevirtual 106, 3) := by decide +kernel
theorem d_S_remove_35 : decode prog_1_method_4_code 35 = .ok (.astore 5, 2) := by decide +kernel
theorem d_S_remove_37 : decode prog_1_method_4_code 37 = .ok (.aload 5, 2) := by decide +kernel
theorem d_S_remove_39 : decode prog_1_method_4_code 39 = .ok (.ifnonnull 5, 3) := by decide +kernel
theorem d_S_remove_42 : decode prog_1_method_4_code 42 = .ok (.iconst (-1), 1) := by decide +kernel
theorem d_S_remove_43 : decode prog_1_method_4_code 43 = .ok (.ireturn, 1) := by decide +kernel
theorem d_S_remove_44 : decode prog_1_method_4_code 44 = .ok (.aload 5, 2) := by decide +kernel
theorem d_S_remove_46 : decode prog_1_method_4_code 46 = .ok (.getfield 109, 3) := by decide +kernel
theorem d_S_remove_49 : decode prog_1_method_4_code 49 = .ok (.iconst 1, 1) := by decide +kernel
theorem d_S_remove_50 : decode prog_1_method_4_code 50 = .ok (.if_icmp .ne 14, 3) := by decide +kernel
theorem d_S_remove_53 : decode prog_1_method_4_code 53 = .ok (.aload 5, 2) := by decide +kernel
theorem d_S_remove_55 : decode prog_1_method_4_code 55 = .ok (.getfield 80, 3) := by decide +kernel
theorem d_S_remove_58 : decode prog_1_method_4_code 58 = .ok (.ifCond .le 6, 3) := by decide +kernel
theorem d_S_remove_61 : decode prog_1_method_4_code 61 = .ok (.bipush (-6), 2) := by decide +kernel
theorem d_S_remove_63 : decode prog_1_method_4_code 63 = .ok (.ireturn, 1) := by decide +kernel
theorem d_S_remove_64 : decode prog_1_method_4_code 64 = .ok (.aload 5, 2) := by decide +kernel
theorem d_S_remove_66 : decode prog_1_method_4_code 66 = .ok (.getfield 112, 3) := by decide +kernel
theorem d_S_remove_69 : decode prog_1_method_4_code 69 = .ok (.ifCond .eq 7, 3) := by decide +kernel
theorem d_S_remove_72 : decode prog_1_method_4_code 72 = .ok (.iconst 1, 1) := by decide +kernel
theorem d_S_remove_73 : decode prog_1_method_4_code 73 = .ok (.goto 4, 3) := by decide +kernel
theorem d_S_remove_76 : decode prog_1_method_4_code 76 = .ok (.iconst 0, 1) := by decide +kernel
theorem d_S_remove_77 : decode prog_1_method_4_code 77 = .ok (.istore 6, 2) := by decide +kernel
theorem d_S_remove_79 : decode prog_1_method_4_code 79 = .ok (.aload_n 0, 1) := by decide +kernel
theorem d_S_remove_80 : decode prog_1_method_4_code 80 = .ok (.iconst 0, 1) := by decide +kernel
theorem d_S_remove_81 : decode prog_1_method_4_code 81 = .ok (.aload_n 3, 1) := by decide +kernel
theorem d_S_remove_82 : decode prog_1_method_4_code 82 = .ok (.invokevirtual 58, 3) := by decide +kernel
theorem d_S_remove_85 : decode prog_1_method_4_code 85 = .ok (.iload 6, 2) := by decide +kernel
theorem d_S_remove_87 : decode prog_1_method_4_code 87 = .ok (.isub, 1) := by decide +kernel
theorem d_S_remove_88 : decode prog_1_method_4_code 88 = .ok (.invokevirtual 61, 3) := by decide +kernel
theorem d_S_remove_91 : decode prog_1_method_4_code 91 = .ok (.ifCond .eq 6, 3) := by decide +kernel
theorem d_S_remove_94 : decode prog_1_method_4_code 94 = .ok (.bipush (-4), 2) := by decide +kernel
theorem d_S_remove_96 : decode prog_1_method_4_code 96 = .ok (.ireturn, 1) := by decide +kernel
theorem d_S_remove_97 : decode prog_1_method_4_code 97 = .ok (.aload_n 3, 1) := by decide +kernel
theorem d_S_remove_98 : decode prog_1_method_4_code 98 = .ok (.iload 4, 2) := by decide +kernel
theorem d_S_remove_100 : decode prog_1_method_4_code 100 = .ok (.invokevirtual 103, 3) := by decide +kernel
theorem d_S_remove_103 : decode prog_1_method_4_code 103 = .ok (.istore 7, 2) := by decide +kernel
theorem d_S_remove_105 : decode prog_1_method_4_code 105 = .ok (.aload_n 3, 1) := by decide +kernel
theorem d_S_remove_106 : decode prog_1_method_4_code 106 = .ok (.iload 4, 2) := by decide +kernel
theorem d_S_remove_108 : decode prog_1_method_4_code 108 = .ok (.invokevirtual 116, 3) := by decide +kernel
theorem d_S_remove_111 : decode prog_1_method_4_code 111 = .ok (.aload 5, 2) := by decide +kernel
theorem d_S_remove_113 : decode prog_1_method_4_code 113 = .ok (.invokevirtual 119, 3) := by decide +kernel
theorem d_S_remove_116 : decode prog_1_method_4_code 116 = .ok (.iload 7, 2) := by decide +kernel
theorem d_S_remove_118 : decode prog_1_method_4_code 118 = .ok (.ireturn, 1) := by decide +kernel
theorem d_S_move_0 : decode prog_1_method_5_code 0 = .ok (.aload_n 0, 1) := by decide +kernel
theorem d_S_move_1 : decode prog_1_method_5_code 1 = .ok (.getfield 30, 3) := by decide +kernel
theorem d_S_move_4 : decode prog_1_method_5_code 4 = .ok (.iload_n 1, 1) := by decide +kernel
theorem d_S_move_5 : decode prog_1_method_5_code 5 = .ok (.invokevirtual 40, 3) := by decide +kernel
theorem d_S_move_8 : decode prog_1_method_5_code 8 = .ok (.astore 5, 2) := by decide +kernel
theorem d_S_move_10 : decode prog_1_method_5_code 10 = .ok (.aload_n 0, 1) := by decide +kernel
theorem d_S_move_11 : decode prog_1_method_5_code 11 = .ok (.getfield 30, 3) := by decide +kernel
theorem d_S_move_14 : decode prog_1_method_5_code 14 = .ok (.iload_n 3, 1) := by decide +kernel
theorem d_S_move_15 : decode prog_1_method_5_code 15 = .ok (.invokevirtual 40, 3) := by decide +kernel
theorem d_S_move_18 : decode prog_1_method_5_code 18 = .ok (.astore 6, 2) := by decide +kernel
theorem d_S_move_20 : decode prog_1_method_5_code 20 = .ok (.aload 5, 2) := by decide +kernel
theorem d_S_move_22 : decode prog_1_method_5_code 22 = .ok (.ifnull 16, 3) := by decide +kernel
theorem d_S_move_25 : decode prog_1_method_5_code 25 = .ok (.aload 6, 2) := by decide +kernel
theorem d_S_move_27 : decode prog_1_method_5_code 27 = .ok (.ifnull 11, 3) := by decide +kernel
theorem d_S_move_30 : decode prog_1_method_5_code 30 = .ok (.iload 4, 2) := by decide +kernel
theorem d_S_move_32 : decode prog_1_method_5_code 32 = .ok (.invokestatic 44, 3) := by decide +kernel
theorem d_S_move_35 : decode prog_1_method_5_code 35 = .ok (.ifCond .ne 5, 3) := by decide +kernel
theorem d_S_move_38 : decode prog_1_method_5_code 38 = .ok (.iconst (-1), 1) := by decide +kernel
theorem d_S_move_39 : decode prog_1_method_5_code 39 = .ok (.ireturn, 1) := by decide +kernel
theorem d_S_move_40 : decode prog_1_method_5_code 40 = .ok (.aload 5, 2) := by decide +kernel
theorem d_S_move_42 : decode prog_1_method_5_code 42 = .ok (.iload_n 2, 1) := by decide +kernel
theorem d_S_move_43 : decode prog_1_method_5_code 43 = .ok (.invokevirtual 48, 3) := by decide +kernel
theorem d_S_move_46 : decode prog_1_method_5_code 46 = .ok (.istore 7, 2) := by decide +kernel
theorem d_S_move_48 : decode prog_1_method_5_code 48 = .ok (.iload 7, 2) := by decide +kernel
theorem d_S_move_50 : decode prog_1_method_5_code 50 = .ok (.iconst (-1), 1) := by decide +kernel
theorem d_S_move_51 : decode prog_1_method_5_code 51 = .ok (.if_icmp .ne 5, 3) := by decide +kernel
theorem d_S_move_54 : decode prog_1_method_5_code 54 = .ok (.iconst (-1), 1) := by decide +kernel
theorem d_S_move_55 : decode prog_1_method_5_code 55 = .ok (.ireturn, 1) := by decide +kernel
theorem d_S_move_56 : decode prog_1_method_5_code 56 = .ok (.aload 6, 2) := by decide +kernel
theorem d_S_move_58 : decode prog_1_method_5_code 58 = .ok (.iload 4, 2) := by decide +kernel
theorem d_S_move_60 : decode prog_1_method_5_code 60 = .ok (.invokevirtual 48, 3) := by decide +kernel
theorem d_S_move_63 : decode prog_1_method_5_code 63 = .ok (.iconst (-1), 1) := by decide +kernel
theorem d_S_move_64 : decode prog_1_method_5_code 64 = .ok (.if_icmp .eq 6, 3) := by decide +kernel
theorem d_S_move_67 : decode prog_1_method_5_code 67 = .ok (.bipush (-2), 2) := by decide +kernel
theorem d_S_move_69 : decode prog_1_method_5_code 69 = .ok (.ireturn, 1) := by decide +kernel
theorem d_S_move_70 : decode prog_1_method_5_code 70 = .ok (.aload 5, 2) := by decide +kernel
theorem d_S_move_72 : decode prog_1_method_5_code 72 = .ok (.iload 7, 2) := by decide +kernel
theorem d_S_move_74 : decode prog_1_method_5_code 74 = .ok (.invokevirtual 103, 3) := by decide +kernel
theorem d_S_move_77 : decode prog_1_method_5_code 77 = .ok (.istore 8, 2) := by decide +kernel
theorem d_S_move_79 : decode prog_1_method_5_code 79 = .ok (.aload_n 0, 1) := by decide +kernel
theorem d_S_move_80 : decode prog_1_method_5_code 80 = .ok (.getfield 30, 3) := by decide +kernel
theorem d_S_move_83 : decode prog_1_method_5_code 83 = .ok (.iload_n 3, 1) := by decide +kernel
theorem d_S_move_84 : decode prog_1_method_5_code 84 = .ok (.iload 8, 2) := by decide +kernel
theorem d_S_move_86 : decode prog_1_method_5_code 86 = .ok (.invokevirtual 122, 3) := by decide +kernel
theorem d_S_move_89 : decode prog_1_method_5_code 89 = .ok (.ifCond .eq 6, 3) := by decide +kernel
theorem d_S_move_92 : decode prog_1_method_5_code 92 = .ok (.bipush (-7), 2) := by decide +kernel
theorem d_S_move_94 : decode prog_1_method_5_code 94 = .ok (.ireturn, 1) := by decide +kernel
theorem d_S_move_95 : decode prog_1_method_5_code 95 = .ok (.iload_n 3, 1) := by decide +kernel
theorem d_S_move_96 : decode prog_1_method_5_code 96 = .ok (.iload_n 1, 1) := by decide +kernel
theorem d_S_move_97 : decode prog_1_method_5_code 97 = .ok (.if_icmp .ne 7, 3) := by decide +kernel
theorem d_S_move_100 : decode prog_1_method_5_code 100 = .ok (.iconst 0, 1) := by decide +kernel
theorem d_S_move_101 : decode prog_1_method_5_code 101 = .ok (.goto 8, 3) := by decide +kernel
theorem d_S_move_104 : decode prog_1_method_5_code 104 = .ok (.aload 6, 2) := by decide +kernel
theorem d_S_move_106 : decode prog_1_method_5_code 106 = .ok (.invokevirtual 58, 3) := by decide +kernel
theorem d_S_move_109 : decode prog_1_method_5_code 109 = .ok (.istore 9, 2) := by decide +kernel
theorem d_S_move_111 : decode prog_1_method_5_code 111 = .ok (.aload_n 0, 1) := by decide +kernel
theorem d_S_move_112 : decode prog_1_method_5_code 112 = .ok (.iconst 0, 1) := by decide +kernel
theorem d_S_move_113 : decode prog_1_method_5_code 113 = .ok (.aload 5, 2) := by decide +kernel
theorem d_S_move_115 : decode prog_1_method_5_code 115 = .ok (.invokevirtual 58, 3) := by decide +kernel
theorem d_S_move_118 : decode prog_1_method_5_code 118 = .ok (.iload 9, 2) := by decide +kernel
theorem d_S_move_120 : decode prog_1_method_5_code 120 = .ok (.iadd, 1) := by decide +kernel
theorem d_S_move_121 : decode prog_1_method_5_code 121 = .ok (.invokevirtual 61, 3) := by decide +kernel
theorem d_S_move_124 : decode prog_1_method_5_code 124 = .ok (.ifCond .eq 6, 3) := by decide +kernel
theorem d_S_move_127 : decode prog_1_method_5_code 127 = .ok (.bipush (-4), 2) := by decide +kernel
theorem d_S_move_129 : decode prog_1_method_5_code 129 = .ok (.ireturn, 1) := by decide +kernel
theorem d_S_move_130 : decode prog_1_method_5_code 130 = .ok (.aload 5, 2) := by decide +kernel
theorem d_S_move_132 : decode prog_1_method_5_code 132 = .ok (.iload 7, 2) := by decide +kernel
theorem d_S_move_134 : decode prog_1_method_5_code 134 = .ok (.invokevirtual 116, 3) := by decide +kernel
theorem d_S_move_137 : decode prog_1_method_5_code 137 = .ok (.aload 6, 2) := by decide +kernel
theorem d_S_move_139 : decode prog_1_method_5_code 139 = .ok (.iload 4, 2) := by decide +kernel
theorem d_S_move_141 : decode prog_1_method_5_code 141 = .ok (.iload 8, 2) := by decide +kernel
theorem d_S_move_143 : decode prog_1_method_5_code 143 = .ok (.invokevirtual 72, 3) := by decide +kernel
theorem d_S_move_146 : decode prog_1_method_5_code 146 = .ok (.iload 8, 2) := by decide +kernel
theorem d_S_move_148 : decode prog_1_method_5_code 148 = .ok (.ireturn, 1) := by decide +kernel
theorem d_S_close_0 : decode prog_1_method_6_code 0 = .ok (.aload_n 0, 1) := by decide +kernel
theorem d_S_close_1 : decode prog_1_method_6_code 1 = .ok (.getfield 30, 3) := by decide +kernel
theorem d_S_close_4 : decode prog_1_method_6_code 4 = .ok (.invokevirtual 125, 3) := by decide +kernel
theorem d_S_close_7 : decode prog_1_method_6_code 7 = .ok (.istore_n 1, 1) := by decide +kernel
theorem d_S_close_8 : decode prog_1_method_6_code 8 = .ok (.iload_n 1, 1) := by decide +kernel
theorem d_S_close_9 : decode prog_1_method_6_code 9 = .ok (.ifCond .ne 5, 3) := by decide +kernel
theorem d_S_close_12 : decode prog_1_method_6_code 12 = .ok (.iconst 0, 1) := by decide +kernel
theorem d_S_close_13 : decode prog_1_method_6_code 13 = .ok (.ireturn, 1) := by decide +kernel
theorem d_S_close_14 : decode prog_1_method_6_code 14 = .ok (.aload_n 0, 1) := by decide +kernel
theorem d_S_close_15 : decode prog_1_method_6_code 15 = .ok (.iconst 0, 1) := by decide +kernel
theorem d_S_close_16 : decode prog_1_method_6_code 16 = .ok (.iconst 0, 1) := by decide +kernel
theorem d_S_close_17 : decode prog_1_method_6_code 17 = .ok (.invokevirtual 61, 3) := by decide +kernel
theorem d_S_close_20 : decode prog_1_method_6_code 20 = .ok (.ifCond .eq 6, 3) := by decide +kernel
theorem d_S_close_23 : decode prog_1_method_6_code 23 = .ok (.bipush (-4), 2) := by decide +kernel
theorem d_S_close_25 : decode prog_1_method_6_code 25 = .ok (.ireturn, 1) := by decide +kernel
theorem d_S_close_26 : decode prog_1_method_6_code 26 = .ok (.aload_n 0, 1) := by decide +kernel
theorem d_S_close_27 : decode prog_1_method_6_code 27 = .ok (.invokevirtual 128, 3) := by decide +kernel
theorem d_S_close_30 : decode prog_1_method_6_code 30 = .ok (.ifCond .eq 16, 3) := by decide +kernel
theorem d_S_close_33 : decode prog_1_method_6_code 33 = .ok (.aload_n 0, 1) := by decide +kernel
theorem d_S_close_34 : decode prog_1_method_6_code 34 = .ok (.aload_n 0, 1) := by decide +kernel
theorem d_S_close_35 : decode prog_1_method_6_code 35 = .ok (.invokevirtual 131, 3) := by decide +kernel
theorem d_S_close_38 : decode prog_1_method_6_code 38 = .ok (.iconst 1, 1) := by decide +kernel
theorem d_S_close_39 : decode prog_1_method_6_code 39 = .ok (.iadd, 1) := by decide +kernel
theorem d_S_close_40 : decode prog_1_method_6_code 40 = .ok (.invokevirtual 134, 3) := by decide +kernel
theorem d_S_close_43 : decode prog_1_method_6_code 43 = .ok (.ifCond .ne 10, 3) := by decide +kernel
theorem d_S_close_46 : decode prog_1_method_6_code 46 = .ok (.aload_n 0, 1) := by decide +kernel
theorem d_S_close_47 : decode prog_1_method_6_code 47 = .ok (.invokevirtual 97, 3) := by decide +kernel
theorem d_S_close_50 : decode prog_1_method_6_code 50 = .ok (.bipush (-5), 2) := by decide +kernel
theorem d_S_close_52 : decode prog_1_method_6_code 52 = .ok (.ireturn, 1) := by decide +kernel
theorem d_S_close_53 : decode prog_1_method_6_code 53 = .ok (.iload_n 1, 1) := by decide +kernel
theorem d_S_close_54 : decode prog_1_method_6_code 54 = .ok (.iconst 1, 1) := by decide +kernel
theorem d_S_close_55 : decode prog_1_method_6_code 55 = .ok (.iadd, 1) := by decide +kernel
theorem d_S_close_56 : decode prog_1_method_6_code 56 = .ok (.ireturn, 1) := by decide +kernel
theorem d_S_arm_0 : decode prog_1_method_7_code 0 = .ok (.iload_n 1, 1) := by decide +kernel
theorem d_S_arm_1 : decode prog_1_method_7_code 1 = .ok (.ifCond .lt 10, 3) := by decide +kernel
theorem d_S_arm_4 : decode prog_1_method_7_code 4 = .ok (.iload_n 1, 1) := by decide +kernel
theorem d_S_arm_5 : decode prog_1_method_7_code 5 = .ok (.sipush 1000, 3) := by decide +kernel
theorem d_S_arm_8 : decode prog_1_method_7_code 8 = .ok (.if_icmp .le 5, 3) := by decide +kernel
theorem d_S_arm_11 : decode prog_1_method_7_code 11 = .ok (.iconst 0, 1) := by decide +kernel
theorem d_S_arm_12 : decode prog_1_method_7_code 12 = .ok (.ireturn, 1) := by decide +kernel
theorem d_S_arm_13 : decode prog_1_method_7_code 13 = .ok (.aload_n 0, 1) := by decide +kernel
theorem d_S_arm_14 : decode prog_1_method_7_code 14 = .ok (.getfield 23, 3) := by decide +kernel
theorem d_S_arm_17 : decode prog_1_method_7_code 17 = .ok (.iload_n 1, 1) := by decide +kernel
theorem d_S_arm_18 : decode prog_1_method_7_code 18 = .ok (.putfield 137, 3) := by decide +kernel
theorem d_S_arm_21 : decode prog_1_method_7_code 21 = .ok (.iconst 1, 1) := by decide +kernel
theorem d_S_arm_22 : decode prog_1_method_7_code 22 = .ok (.ireturn, 1) := by decide +kernel
theorem d_S_crash_0 : decode prog_1_method_8_code 0 = .ok (.aload_n 0, 1) := by decide +kernel
theorem d_S_crash_1 : decode prog_1_method_8_code 1 = .ok (.invokevirtual 97, 3) := by decide +kernel
theorem d_S_crash_4 : decode prog_1_method_8_code 4 = .ok (.aload_n 0, 1) := by decide +kernel
theorem d_S_crash_5 : decode prog_1_method_8_code 5 = .ok (.getfield 23, 3) := by decide +kernel
theorem d_S_crash_8 : decode prog_1_method_8_code 8 = .ok (.iconst (-1), 1) := by decide +kernel
theorem d_S_crash_9 : decode prog_1_method_8_code 9 = .ok (.putfield 137, 3) := by decide +kernel
theorem d_S_crash_12 : decode prog_1_method_8_code 12 = .ok (.aload_n 0, 1) := by decide +kernel
theorem d_S_crash_13 : decode prog_1_method_8_code 13 = .ok (.invokevirtual 131, 3) := by decide +kernel
theorem d_S_crash_16 : decode prog_1_method_8_code 16 = .ok (.ireturn, 1) := by decide +kernel
theorem d_S_spoil_0 : decode prog_1_method_9_code 0 = .ok (.aload_n 0, 1) := by decide +kernel
theorem d_S_spoil_1 : decode prog_1_method_9_code 1 = .ok (.getfield 23, 3) := by decide +kernel
theorem d_S_spoil_4 : decode prog_1_method_9_code 4 = .ok (.iload_n 1, 1) := by decide +kernel
theorem d_S_spoil_5 : decode prog_1_method_9_code 5 = .ok (.invokevirtual 140, 3) := by decide +kernel
theorem d_S_spoil_8 : decode prog_1_method_9_code 8 = .ok (.ifCond .ne 5, 3) := by decide +kernel
theorem d_S_spoil_11 : decode prog_1_method_9_code 11 = .ok (.iconst 0, 1) := by decide +kernel
theorem d_S_spoil_12 : decode prog_1_method_9_code 12 = .ok (.ireturn, 1) := by decide +kernel
theorem d_S_spoil_13 : decode prog_1_method_9_code 13 = .ok (.aload_n 0, 1) := by decide +kernel
theorem d_S_spoil_14 : decode prog_1_method_9_code 14 = .ok (.getfield 23, 3) := by decide +kernel
theorem d_S_spoil_17 : decode prog_1_method_9_code 17 = .ok (.iload_n 1, 1) := by decide +kernel
theorem d_S_spoil_18 : decode prog_1_method_9_code 18 = .ok (.invokevirtual 143, 3) := by decide +kernel
theorem d_S_spoil_21 : decode prog_1_method_9_code 21 = .ok (.iconst 1, 1) := by decide +kernel
theorem d_S_spoil_22 : decode prog_1_method_9_code 22 = .ok (.ireturn, 1) := by decide +kernel
theorem d_S_left_0 : decode prog_1_method_10_code 0 = .ok (.aload_n 0, 1) := by decide +kernel
theorem d_S_left_1 : decode prog_1_method_10_code 1 = .ok (.getfield 23, 3) := by decide +kernel
theorem d_S_left_4 : decode prog_1_method_10_code 4 = .ok (.invokevirtual 146, 3) := by decide +kernel
theorem d_S_left_7 : decode prog_1_method_10_code 7 = .ok (.ireturn, 1) := by decide +kernel
theorem d_S_changed_0 : decode prog_1_method_11_code 0 = .ok (.aload_n 0, 1) := by decide +kernel
theorem d_S_changed_1 : decode prog_1_method_11_code 1 = .ok (.getfield 30, 3) := by decide +kernel
theorem d_S_changed_4 : decode prog_1_method_11_code 4 = .ok (.invokevirtual 125, 3) := by decide +kernel
theorem d_S_changed_7 : decode prog_1_method_11_code 7 = .ok (.ireturn, 1) := by decide +kernel
theorem d_S_tables_0 : decode prog_1_method_12_code 0 = .ok (.iconst 0, 1) := by decide +kernel
theorem d_S_tables_1 : decode prog_1_method_12_code 1 = .ok (.istore_n 1, 1) := by decide +kernel
theorem d_S_tables_2 : decode prog_1_method_12_code 2 = .ok (.iconst 0, 1) := by decide +kernel
theorem d_S_tables_3 : decode prog_1_method_12_code 3 = .ok (.istore_n 2, 1) := by decide +kernel
theorem d_S_tables_4 : decode prog_1_method_12_code 4 = .ok (.iload_n 2, 1) := by decide +kernel
theorem d_S_tables_5 : decode prog_1_method_12_code 5 = .ok (.aload_n 0, 1) := by decide +kernel
theorem d_S_tables_6 : decode prog_1_method_12_code 6 = .ok (.getfield 23, 3) := by decide +kernel
theorem d_S_tables_9 : decode prog_1_method_12_code 9 = .ok (.getfield 84, 3) := by decide +kernel
theorem d_S_tables_12 : decode prog_1_method_12_code 12 = .ok (.if_icmp .ge 20, 3) := by decide +kernel
theorem d_S_tables_15 : decode prog_1_method_12_code 15 = .ok (.aload_n 0, 1) := by decide +kernel
theorem d_S_tables_16 : decode prog_1_method_12_code 16 = .ok (.iload_n 2, 1) := by decide +kernel
theorem d_S_tables_17 : decode prog_1_method_12_code 17 = .ok (.invokevirtual 149, 3) := by decide +kernel
theorem d_S_tables_20 : decode prog_1_method_12_code 20 = .ok (.ifCond .eq 6, 3) := by decide +kernel
theorem d_S_tables_23 : decode prog_1_method_12_code 23 = .ok (.iinc 1 1, 3) := by decide +kernel
theorem d_S_tables_26 : decode prog_1_method_12_code 26 = .ok (.iinc 2 1, 3) := by decide +kernel
theorem d_S_tables_29 : decode prog_1_method_12_code 29 = .ok (.goto (-25), 3) := by decide +kernel
theorem d_S_tables_32 : decode prog_1_method_12_code 32 = .ok (.iload_n 1, 1) := by decide +kernel
theorem d_S_tables_33 : decode prog_1_method_12_code 33 = .ok (.ireturn, 1) := by decide +kernel
theorem d_S_kind_0 : decode prog_1_method_13_code 0 = .ok (.aload_n 0, 1) := by decide +kernel
theorem d_S_kind_1 : decode prog_1_method_13_code 1 = .ok (.iload_n 1, 1) := by decide +kernel
theorem d_S_kind_2 : decode prog_1_method_13_code 2 = .ok (.invokevirtual 152, 3) := by decide +kernel
theorem d_S_kind_5 : decode prog_1_method_13_code 5 = .ok (.iload_n 2, 1) := by decide +kernel
theorem d_S_kind_6 : decode prog_1_method_13_code 6 = .ok (.invokevirtual 106, 3) := by decide +kernel
theorem d_S_kind_9 : decode prog_1_method_13_code 9 = .ok (.astore_n 3, 1) := by decide +kernel
theorem d_S_kind_10 : decode prog_1_method_13_code 10 = .ok (.aload_n 3, 1) := by decide +kernel
theorem d_S_kind_11 : decode prog_1_method_13_code 11 = .ok (.ifnonnull 7, 3) := by decide +kernel
theorem d_S_kind_14 : decode prog_1_method_13_code 14 = .ok (.iconst (-1), 1) := by decide +kernel
theorem d_S_kind_15 : decode prog_1_method_13_code 15 = .ok (.goto 7, 3) := by decide +kernel
theorem d_S_kind_18 : decode prog_1_method_13_code 18 = .ok (.aload_n 3, 1) := by decide +kernel
theorem d_S_kind_19 : decode prog_1_method_13_code 19 = .ok (.getfield 109, 3) := by decide +kernel
theorem d_S_kind_22 : decode prog_1_method_13_code 22 = .ok (.ireturn, 1) := by decide +kernel
theorem d_S_items_0 : decode prog_1_method_14_code 0 = .ok (.aload_n 0, 1) := by decide +kernel
theorem d_S_items_1 : decode prog_1_method_14_code 1 = .ok (.iload_n 1, 1) := by decide +kernel
theorem d_S_items_2 : decode prog_1_method_14_code 2 = .ok (.invokevirtual 152, 3) := by decide +kernel
theorem d_S_items_5 : decode prog_1_method_14_code 5 = .ok (.iload_n 2, 1) := by decide +kernel
theorem d_S_items_6 : decode prog_1_method_14_code 6 = .ok (.invokevirtual 106, 3) := by decide +kernel
theorem d_S_items_9 : decode prog_1_method_14_code 9 = .ok (.astore_n 3, 1) := by decide +kernel
theorem d_S_items_10 : decode prog_1_method_14_code 10 = .ok (.aload_n 3, 1) := by decide +kernel
theorem d_S_items_11 : decode prog_1_method_14_code 11 = .ok (.ifnonnull 7, 3) := by decide +kernel
theorem d_S_items_14 : decode prog_1_method_14_code 14 = .ok (.iconst (-1), 1) := by decide +kernel
theorem d_S_items_15 : decode prog_1_method_14_code 15 = .ok (.goto 7, 3) := by decide +kernel
theorem d_S_items_18 : decode prog_1_method_14_code 18 = .ok (.aload_n 3, 1) := by decide +kernel
theorem d_S_items_19 : decode prog_1_method_14_code 19 = .ok (.getfield 80, 3) := by decide +kernel
theorem d_S_items_22 : decode prog_1_method_14_code 22 = .ok (.ireturn, 1) := by decide +kernel
theorem d_S_find_0 : decode prog_1_method_15_code 0 = .ok (.aload_n 0, 1) := by decide +kernel
theorem d_S_find_1 : decode prog_1_method_15_code 1 = .ok (.iload_n 1, 1) := by decide +kernel
theorem d_S_find_2 : decode prog_1_method_15_code 2 = .ok (.invokevirtual 152, 3) := by decide +kernel
theorem d_S_find_5 : decode prog_1_method_15_code 5 = .ok (.iload_n 2, 1) := by decide +kernel
theorem d_S_find_6 : decode prog_1_method_15_code 6 = .ok (.invokevirtual 40, 3) := by decide +kernel
theorem d_S_find_9 : decode prog_1_method_15_code 9 = .ok (.astore 4, 2) := by decide +kernel
theorem d_S_find_11 : decode prog_1_method_15_code 11 = .ok (.aload 4, 2) := by decide +kernel
theorem d_S_find_13 : decode prog_1_method_15_code 13 = .ok (.ifnonnull 5, 3) := by decide +kernel
theorem d_S_find_16 : decode prog_1_method_15_code 16 = .ok (.iconst (-1), 1) := by decide +kernel
theorem d_S_find_17 : decode prog_1_method_15_code 17 = .ok (.ireturn, 1) := by decide +kernel
theorem d_S_find_18 : decode prog_1_method_15_code 18 = .ok (.aload 4, 2) := by decide +kernel
theorem d_S_find_20 : decode prog_1_method_15_code 20 = .ok (.iload_n 3, 1) := by decide +kernel
theorem d_S_find_21 : decode prog_1_method_15_code 21 = .ok (.invokevirtual 48, 3) := by decide +kernel
theorem d_S_find_24 : decode prog_1_method_15_code 24 = .ok (.istore 5, 2) := by decide +kernel
theorem d_S_find_26 : decode prog_1_method_15_code 26 = .ok (.iload 5, 2) := by decide +kernel
theorem d_S_find_28 : decode prog_1_method_15_code 28 = .ok (.iconst (-1), 1) := by decide +kernel
theorem d_S_find_29 : decode prog_1_method_15_code 29 = .ok (.if_icmp .ne 7, 3) := by decide +kernel
theorem d_S_find_32 : decode prog_1_method_15_code 32 = .ok (.iconst (-1), 1) := by decide +kernel
theorem d_S_find_33 : decode prog_1_method_15_code 33 = .ok (.goto 10, 3) := by decide +kernel
theorem d_S_find_36 : decode prog_1_method_15_code 36 = .ok (.aload 4, 2) := by decide +kernel
theorem d_S_find_38 : decode prog_1_method_15_code 38 = .ok (.iload 5, 2) := by decide +kernel
theorem d_S_find_40 : decode prog_1_method_15_code 40 = .ok (.invokevirtual 103, 3) := by decide +kernel
theorem d_S_find_43 : decode prog_1_method_15_code 43 = .ok (.ireturn, 1) := by decide +kernel
theorem d_S_item_0 : decode prog_1_method_16_code 0 = .ok (.aload_n 0, 1) := by decide +kernel
theorem d_S_item_1 : decode prog_1_method_16_code 1 = .ok (.iload_n 1, 1) := by decide +kernel
theorem d_S_item_2 : decode prog_1_method_16_code 2 = .ok (.invokevirtual 152, 3) := by decide +kernel
theorem d_S_item_5 : decode prog_1_method_16_code 5 = .ok (.iload_n 2, 1) := by decide +kernel
theorem d_S_item_6 : decode prog_1_method_16_code 6 = .ok (.invokevirtual 40, 3) := by decide +kernel
theorem d_S_item_9 : decode prog_1_method_16_code 9 = .ok (.astore 4, 2) := by decide +kernel
theorem d_S_item_11 : decode prog_1_method_16_code 11 = .ok (.aload 4, 2) := by decide +kernel
theorem d_S_item_13 : decode prog_1_method_16_code 13 = .ok (.ifnull 12, 3) := by decide +kernel
theorem d_S_item_16 : decode prog_1_method_16_code 16 = .ok (.aload 4, 2) := by decide +kernel
theorem d_S_item_18 : decode prog_1_method_16_code 18 = .ok (.iload_n 3, 1) := by decide +kernel
theorem d_S_item_19 : decode prog_1_method_16_code 19 = .ok (.invokevirtual 156, 3) := by decide +kernel
theorem d_S_item_22 : decode prog_1_method_16_code 22 = .ok (.ifCond .ne 7, 3) := by decide +kernel
theorem d_S_item_25 : decode prog_1_method_16_code 25 = .ok (.iconst (-1), 1) := by decide +kernel
theorem d_S_item_26 : decode prog_1_method_16_code 26 = .ok (.goto 10, 3) := by decide +kernel
theorem d_S_item_29 : decode prog_1_method_16_code 29 = .ok (.aload 4, 2) := by decide +kernel
theorem d_S_item_31 : decode prog_1_method_16_code 31 = .ok (.getfield 159, 3) := by decide +kernel
theorem d_S_item_34 : decode prog_1_method_16_code 34 = .ok (.iload_n 3, 1) := by decide +kernel
theorem d_S_item_35 : decode prog_1_method_16_code 35 = .ok (.iaload, 1) := by decide +kernel
theorem d_S_item_36 : decode prog_1_method_16_code 36 = .ok (.ireturn, 1) := by decide +kernel
theorem d_S_block_0 : decode prog_1_method_17_code 0 = .ok (.aload_n 0, 1) := by decide +kernel
theorem d_S_block_1 : decode prog_1_method_17_code 1 = .ok (.iload_n 1, 1) := by decide +kernel
theorem d_S_block_2 : decode prog_1_method_17_code 2 = .ok (.invokevirtual 152, 3) := by decide +kernel
theorem d_S_block_5 : decode prog_1_method_17_code 5 = .ok (.iload_n 2, 1) := by decide +kernel
theorem d_S_block_6 : decode prog_1_method_17_code 6 = .ok (.invokevirtual 76, 3) := by decide +kernel
theorem d_S_block_9 : decode prog_1_method_17_code 9 = .ok (.astore 4, 2) := by decide +kernel
theorem d_S_block_11 : decode prog_1_method_17_code 11 = .ok (.aload 4, 2) := by decide +kernel
theorem d_S_block_13 : decode prog_1_method_17_code 13 = .ok (.ifnull 12, 3) := by decide +kernel
theorem d_S_block_16 : decode prog_1_method_17_code 16 = .ok (.aload 4, 2) := by decide +kernel
theorem d_S_block_18 : decode prog_1_method_17_code 18 = .ok (.iload_n 3, 1) := by decide +kernel
theorem d_S_block_19 : decode prog_1_method_17_code 19 = .ok (.invokevirtual 156, 3) := by decide +kernel
theorem d_S_block_22 : decode prog_1_method_17_code 22 = .ok (.ifCond .ne 5, 3) := by decide +kernel
theorem d_S_block_25 : decode prog_1_method_17_code 25 = .ok (.iconst (-1), 1) := by decide +kernel
theorem d_S_block_26 : decode prog_1_method_17_code 26 = .ok (.ireturn, 1) := by decide +kernel
theorem d_S_block_27 : decode prog_1_method_17_code 27 = .ok (.aload 4, 2) := by decide +kernel
theorem d_S_block_29 : decode prog_1_method_17_code 29 = .ok (.getfield 159, 3) := by decide +kernel
theorem d_S_block_32 : decode prog_1_method_17_code 32 = .ok (.iload_n 3, 1) := by decide +kernel
theorem d_S_block_33 : decode prog_1_method_17_code 33 = .ok (.iaload, 1) := by decide +kernel
theorem d_S_block_34 : decode prog_1_method_17_code 34 = .ok (.istore 5, 2) := by decide +kernel
theorem d_S_block_36 : decode prog_1_method_17_code 36 = .ok (.aload_n 0, 1) := by decide +kernel
theorem d_S_block_37 : decode prog_1_method_17_code 37 = .ok (.getfield 23, 3) := by decide +kernel
theorem d_S_block_40 : decode prog_1_method_17_code 40 = .ok (.iload 5, 2) := by decide +kernel
theorem d_S_block_42 : decode prog_1_method_17_code 42 = .ok (.invokevirtual 163, 3) := by decide +kernel
theorem d_S_block_45 : decode prog_1_method_17_code 45 = .ok (.ifCond .eq 16, 3) := by decide +kernel
theorem d_S_block_48 : decode prog_1_method_17_code 48 = .ok (.aload_n 0, 1) := by decide +kernel
theorem d_S_block_49 : decode prog_1_method_17_code 49 = .ok (.getfield 23, 3) := by decide +kernel
theorem d_S_block_52 : decode prog_1_method_17_code 52 = .ok (.iload 5, 2) := by decide +kernel
theorem d_S_block_54 : decode prog_1_method_17_code 54 = .ok (.iconst 4, 1) := by decide +kernel
theorem d_S_block_55 : decode prog_1_method_17_code 55 = .ok (.invokevirtual 166, 3) := by decide +kernel
theorem d_S_block_58 : decode prog_1_method_17_code 58 = .ok (.goto 5, 3) := by decide +kernel
theorem d_S_block_61 : decode prog_1_method_17_code 61 = .ok (.bipush (-8), 2) := by decide +kernel
theorem d_S_block_63 : decode prog_1_method_17_code 63 = .ok (.ireturn, 1) := by decide +kernel
theorem d_S_word_0 : decode prog_1_method_18_code 0 = .ok (.aload_n 0, 1) := by decide +kernel
theorem d_S_word_1 : decode prog_1_method_18_code 1 = .ok (.getfield 23, 3) := by decide +kernel
theorem d_S_word_4 : decode prog_1_method_18_code 4 = .ok (.iload_n 1, 1) := by decide +kernel
theorem d_S_word_5 : decode prog_1_method_18_code 5 = .ok (.iload_n 2, 1) := by decide +kernel
theorem d_S_word_6 : decode prog_1_method_18_code 6 = .ok (.invokevirtual 169, 3) := by decide +kernel
theorem d_S_word_9 : decode prog_1_method_18_code 9 = .ok (.ifCond .eq 15, 3) := by decide +kernel
theorem d_S_word_12 : decode prog_1_method_18_code 12 = .ok (.aload_n 0, 1) := by decide +kernel
theorem d_S_word_13 : decode prog_1_method_18_code 13 = .ok (.getfield 23, 3) := by decide +kernel
theorem d_S_word_16 : decode prog_1_method_18_code 16 = .ok (.iload_n 1, 1) := by decide +kernel
theorem d_S_word_17 : decode prog_1_method_18_code 17 = .ok (.iload_n 2, 1) := by decide +kernel
theorem d_S_word_18 : decode prog_1_method_18_code 18 = .ok (.invokevirtual 166, 3) := by decide +kernel
theorem d_S_word_21 : decode prog_1_method_18_code 21 = .ok (.goto 4, 3) := by decide +kernel
theorem d_S_word_24 : decode prog_1_method_18_code 24 = .ok (.iconst (-1), 1) := by decide +kernel
theorem d_S_word_25 : decode prog_1_method_18_code 25 = .ok (.ireturn, 1) := by decide +kernel
theorem d_S_isName_0 : decode prog_1_method_19_code 0 = .ok (.iload_n 0, 1) := by decide +kernel
theorem d_S_isName_1 : decode prog_1_method_19_code 1 = .ok (.ifCond .lt 13, 3) := by decide +kernel
theorem d_S_isName_4 : decode prog_1_method_19_code 4 = .ok (.iload_n 0, 1) := by decide +kernel
theorem d_S_isName_5 : decode prog_1_method_19_code 5 = .ok (.bipush 100, 2) := by decide +kernel
theorem d_S_isName_7 : decode prog_1_method_19_code 7 = .ok (.if_icmp .ge 7, 3) := by decide +kernel
theorem d_S_isName_10 : decode prog_1_method_19_code 10 = .ok (.iconst 1, 1) := by decide +kernel
theorem d_S_isName_11 : decode prog_1_method_19_code 11 = .ok (.goto 4, 3) := by decide +kernel
theorem d_S_isName_14 : decode prog_1_method_19_code 14 = .ok (.iconst 0, 1) := by decide +kernel
theorem d_S_isName_15 : decode prog_1_method_19_code 15 = .ok (.ireturn, 1) := by decide +kernel
theorem d_S_isTooFull_0 : decode prog_1_method_20_code 0 = .ok (.aload_n 0, 1) := by decide +kernel
theorem d_S_isTooFull_1 : decode prog_1_method_20_code 1 = .ok (.getfield 23, 3) := by decide +kernel
theorem d_S_isTooFull_4 : decode prog_1_method_20_code 4 = .ok (.invokevirtual 146, 3) := by decide +kernel
theorem d_S_isTooFull_7 : decode prog_1_method_20_code 7 = .ok (.iload_n 1, 1) := by decide +kernel
theorem d_S_isTooFull_8 : decode prog_1_method_20_code 8 = .ok (.isub, 1) := by decide +kernel
theorem d_S_isTooFull_9 : decode prog_1_method_20_code 9 = .ok (.aload_n 0, 1) := by decide +kernel
theorem d_S_isTooFull_10 : decode prog_1_method_20_code 10 = .ok (.getfield 30, 3) := by decide +kernel
theorem d_S_isTooFull_13 : decode prog_1_method_20_code 13 = .ok (.invokevirtual 125, 3) := by decide +kernel
theorem d_S_isTooFull_16 : decode prog_1_method_20_code 16 = .ok (.iload_n 2, 1) := by decide +kernel
theorem d_S_isTooFull_17 : decode prog_1_method_20_code 17 = .ok (.iadd, 1) := by decide +kernel
theorem d_S_isTooFull_18 : decode prog_1_method_20_code 18 = .ok (.iconst 1, 1) := by decide +kernel
theorem d_S_isTooFull_19 : decode prog_1_method_20_code 19 = .ok (.iadd, 1) := by decide +kernel
theorem d_S_isTooFull_20 : decode prog_1_method_20_code 20 = .ok (.if_icmp .ge 7, 3) := by decide +kernel
theorem d_S_isTooFull_23 : decode prog_1_method_20_code 23 = .ok (.iconst 1, 1) := by decide +kernel
theorem d_S_isTooFull_24 : decode prog_1_method_20_code 24 = .ok (.goto 4, 3) := by decide +kernel
theorem d_S_isTooFull_27 : decode prog_1_method_20_code 27 = .ok (.iconst 0, 1) := by decide +kernel
theorem d_S_isTooFull_28 : decode prog_1_method_20_code 28 = .ok (.ireturn, 1) := by decide +kernel
theorem d_S_writeEntries_0 : decode prog_1_method_21_code 0 = .ok (.iconst 0, 1) := by decide +kernel
theorem d_S_writeEntries_1 : decode prog_1_method_21_code 1 = .ok (.istore_n 1, 1) := by decide +kernel
theorem d_S_writeEntries_2 : decode prog_1_method_21_code 2 = .ok (.iload_n 1, 1) := by decide +kernel
theorem d_S_writeEntries_3 : decode prog_1_method_21_code 3 = .ok (.bipush 8, 2) := by decide +kernel
theorem d_S_writeEntries_5 : decode prog_1_method_21_code 5 = .ok (.if_icmp .ge 37, 3) := by decide +kernel
theorem d_S_writeEntries_8 : decode prog_1_method_21_code 8 = .ok (.aload_n 0, 1) := by decide +kernel
theorem d_S_writeEntries_9 : decode prog_1_method_21_code 9 = .ok (.getfield 30, 3) := by decide +kernel
theorem d_S_writeEntries_12 : decode prog_1_method_21_code 12 = .ok (.getfield 65, 3) := by decide +kernel
theorem d_S_writeEntries_15 : decode prog_1_method_21_code 15 = .ok (.iload_n 1, 1) := by decide +kernel
theorem d_S_writeEntries_16 : decode prog_1_method_21_code 16 = .ok (.aaload, 1) := by decide +kernel
theorem d_S_writeEntries_17 : decode prog_1_method_21_code 17 = .ok (.astore_n 2, 1) := by decide +kernel
theorem d_S_writeEntries_18 : decode prog_1_method_21_code 18 = .ok (.aload_n 2, 1) := by decide +kernel
theorem d_S_writeEntries_19 : decode prog_1_method_21_code 19 = .ok (.getfield 112, 3) := by decide +kernel
theorem d_S_writeEntries_22 : decode prog_1_method_21_code 22 = .ok (.ifCond .eq 14, 3) := by decide +kernel
theorem d_S_writeEntries_25 : decode prog_1_method_21_code 25 = .ok (.aload_n 0, 1) := by decide +kernel
theorem d_S_writeEntries_26 : decode prog_1_method_21_code 26 = .ok (.iload_n 1, 1) := by decide +kernel
theorem d_S_writeEntries_27 : decode prog_1_method_21_code 27 = .ok (.aload_n 2, 1) := by decide +kernel
theorem d_S_writeEntries_28 : decode prog_1_method_21_code 28 = .ok (.invokevirtual 172, 3) := by decide +kernel
theorem d_S_writeEntries_31 : decode prog_1_method_21_code 31 = .ok (.ifCond .ne 5, 3) := by decide +kernel
theorem d_S_writeEntries_34 : decode prog_1_method_21_code 34 = .ok (.iconst 0, 1) := by decide +kernel
theorem d_S_writeEntries_35 : decode prog_1_method_21_code 35 = .ok (.ireturn, 1) := by decide +kernel
theorem d_S_writeEntries_36 : decode prog_1_method_21_code 36 = .ok (.iinc 1 1, 3) := by decide +kernel
theorem d_S_writeEntries_39 : decode prog_1_method_21_code 39 = .ok (.goto (-37), 3) := by decide +kernel
theorem d_S_writeEntries_42 : decode prog_1_method_21_code 42 = .ok (.iconst 1, 1) := by decide +kernel
theorem d_S_writeEntries_43 : decode prog_1_method_21_code 43 = .ok (.ireturn, 1) := by decide +kernel
theorem d_S_writeEntry_0 : decode prog_1_method_22_code 0 = .ok (.aload_n 2, 1) := by decide +kernel
theorem d_S_writeEntry_1 : decode prog_1_method_22_code 1 = .ok (.aload_n 0, 1) := by decide +kernel
theorem d_S_writeEntry_2 : decode prog_1_method_22_code 2 = .ok (.getfield 23, 3) := by decide +kernel
theorem d_S_writeEntry_5 : decode prog_1_method_22_code 5 = .ok (.getfield 84, 3) := by decide +kernel
theorem d_S_writeEntry_8 : decode prog_1_method_22_code 8 = .ok (.putfield 176, 3) := by decide +kernel
theorem d_S_writeEntry_11 : decode prog_1_method_22_code 11 = .ok (.aload_n 2, 1) := by decide +kernel
theorem d_S_writeEntry_12 : decode prog_1_method_22_code 12 = .ok (.iconst 0, 1) := by decide +kernel
theorem d_S_writeEntry_13 : decode prog_1_method_22_code 13 = .ok (.putfield 112, 3) := by decide +kernel
theorem d_S_writeEntry_16 : decode prog_1_method_22_code 16 = .ok (.aload_n 0, 1) := by decide +kernel
theorem d_S_writeEntry_17 : decode prog_1_method_22_code 17 = .ok (.getfield 23, 3) := by decide +kernel
theorem d_S_writeEntry_20 : decode prog_1_method_22_code 20 = .ok (.iconst 2, 1) := by decide +kernel
theorem d_S_writeEntry_21 : decode prog_1_method_22_code 21 = .ok (.iload_n 1, 1) := by decide +kernel
theorem d_S_writeEntry_22 : decode prog_1_method_22_code 22 = .ok (.invokevirtual 87, 3) := by decide +kernel
theorem d_S_writeEntry_25 : decode prog_1_method_22_code 25 = .ok (.aload_n 0, 1) := by decide +kernel
theorem d_S_writeEntry_26 : decode prog_1_method_22_code 26 = .ok (.getfield 23, 3) := by decide +kernel
theorem d_S_writeEntry_29 : decode prog_1_method_22_code 29 = .ok (.iconst 4, 1) := by decide +kernel
theorem d_S_writeEntry_30 : decode prog_1_method_22_code 30 = .ok (.aload_n 2, 1) := by decide +kernel
theorem d_S_writeEntry_31 : decode prog_1_method_22_code 31 = .ok (.getfield 109, 3) := by decide +kernel
theorem d_S_writeEntry_34 : decode prog_1_method_22_code 34 = .ok (.invokevirtual 90, 3) := by decide +kernel
theorem d_S_writeEntry_37 : decode prog_1_method_22_code 37 = .ok (.aload_n 0, 1) := by decide +kernel
theorem d_S_writeEntry_38 : decode prog_1_method_22_code 38 = .ok (.getfield 23, 3) := by decide +kernel
theorem d_S_writeEntry_41 : decode prog_1_method_22_code 41 = .ok (.iconst 5, 1) := by decide +kernel
theorem d_S_writeEntry_42 : decode prog_1_method_22_code 42 = .ok (.aload_n 2, 1) := by decide +kernel
theorem d_S_writeEntry_43 : decode prog_1_method_22_code 43 = .ok (.getfield 80, 3) := by decide +kernel
theorem d_S_writeEntry_46 : decode prog_1_method_22_code 46 = .ok (.invokevirtual 90, 3) := by decide +kernel
theorem d_S_writeEntry_49 : decode prog_1_method_22_code 49 = .ok (.iconst 0, 1) := by decide +kernel
theorem d_S_writeEntry_50 : decode prog_1_method_22_code 50 = .ok (.istore_n 3, 1) := by decide +kernel
theorem d_S_writeEntry_51 : decode prog_1_method_22_code 51 = .ok (.iload_n 3, 1) := by decide +kernel
theorem d_S_writeEntry_52 : decode prog_1_method_22_code 52 = .ok (.aload_n 2, 1) := by decide +kernel
theorem d_S_writeEntry_53 : decode prog_1_method_22_code 53 = .ok (.getfield 80, 3) := by decide +kernel
theorem d_S_writeEntry_56 : decode prog_1_method_22_code 56 = .ok (.if_icmp .ge 26, 3) := by decide +kernel
theorem d_S_writeEntry_59 : decode prog_1_method_22_code 59 = .ok (.aload_n 0, 1) := by decide +kernel
theorem d_S_writeEntry_60 : decode prog_1_method_22_code 60 = .ok (.getfield 23, 3) := by decide +kernel
theorem d_S_writeEntry_63 : decode prog_1_method_22_code 63 = .ok (.bipush 6, 2) := by decide +kernel
theorem d_S_writeEntry_65 : decode prog_1_method_22_code 65 = .ok (.iload_n 3, 1) := by decide +kernel
theorem d_S_writeEntry_66 : decode prog_1_method_22_code 66 = .ok (.iadd, 1) := by decide +kernel
theorem d_S_writeEntry_67 : decode prog_1_method_22_code 67 = .ok (.aload_n 2, 1) := by decide +kernel
theorem d_S_writeEntry_68 : decode prog_1_method_22_code 68 = .ok (.getfield 159, 3) := by decide +kernel
theorem d_S_writeEntry_71 : decode prog_1_method_22_code 71 = .ok (.iload_n 3, 1) := by decide +kernel
theorem d_S_writeEntry_72 : decode prog_1_method_22_code 72 = .ok (.iaload, 1) := by decide +kernel
theorem d_S_writeEntry_73 : decode prog_1_method_22_code 73 = .ok (.invokevirtual 90, 3) := by decide +kernel
theorem d_S_writeEntry_76 : decode prog_1_method_22_code 76 = .ok (.iinc 3 1, 3) := by decide +kernel
theorem d_S_writeEntry_79 : decode prog_1_method_22_code 79 = .ok (.goto (-28), 3) := by decide +kernel
theorem d_S_writeEntry_82 : decode prog_1_method_22_code 82 = .ok (.aload_n 0, 1) := by decide +kernel
theorem d_S_writeEntry_83 : decode prog_1_method_22_code 83 = .ok (.getfield 23, 3) := by decide +kernel
theorem d_S_writeEntry_86 : decode prog_1_method_22_code 86 = .ok (.invokevirtual 93, 3) := by decide +kernel
theorem d_S_writeEntry_89 : decode prog_1_method_22_code 89 = .ok (.ireturn, 1) := by decide +kernel
theorem d_S_writeTable_0 : decode prog_1_method_23_code 0 = .ok (.aload_n 0, 1) := by decide +kernel
theorem d_S_writeTable_1 : decode prog_1_method_23_code 1 = .ok (.getfield 23, 3) := by decide +kernel
theorem d_S_writeTable_4 : decode prog_1_method_23_code 4 = .ok (.iconst 3, 1) := by decide +kernel
theorem d_S_writeTable_5 : decode prog_1_method_23_code 5 = .ok (.iload_n 1, 1) := by decide +kernel
theorem d_S_writeTable_6 : decode prog_1_method_23_code 6 = .ok (.invokevirtual 87, 3) := by decide +kernel
theorem d_S_writeTable_9 : decode prog_1_method_23_code 9 = .ok (.iconst 0, 1) := by decide +kernel
theorem d_S_writeTable_10 : decode prog_1_method_23_code 10 = .ok (.istore_n 2, 1) := by decide +kernel
theorem d_S_writeTable_11 : decode prog_1_method_23_code 11 = .ok (.iload_n 2, 1) := by decide +kernel
theorem d_S_writeTable_12 : decode prog_1_method_23_code 12 = .ok (.bipush 8, 2) := by decide +kernel
theorem d_S_writeTable_14 : decode prog_1_method_23_code 14 = .ok (.if_icmp .ge 33, 3) := by decide +kernel
theorem d_S_writeTable_17 : decode prog_1_method_23_code 17 = .ok (.aload_n 0, 1) := by decide +kernel
theorem d_S_writeTable_18 : decode prog_1_method_23_code 18 = .ok (.getfield 23, 3) := by decide +kernel
theorem d_S_writeTable_21 : decode prog_1_method_23_code 21 = .ok (.iconst 4, 1) := by decide +kernel
theorem d_S_writeTable_22 : decode prog_1_method_23_code 22 = .ok (.iload_n 2, 1) := by decide +kernel
theorem d_S_writeTable_23 : decode prog_1_method_23_code 23 = .ok (.iadd, 1) := by decide +kernel
theorem d_S_writeTable_24 : decode prog_1_method_23_code 24 = .ok (.aload_n 0, 1) := by decide +kernel
theorem d_S_writeTable_25 : decode prog_1_method_23_code 25 = .ok (.getfield 30, 3) := by decide +kernel
theorem d_S_writeTable_28 : decode prog_1_method_23_code 28 = .ok (.getfield 65, 3) := by decide +kernel
theorem d_S_writeTable_31 : decode prog_1_method_23_code 31 = .ok (.iload_n 2, 1) := by decide +kernel
theorem d_S_writeTable_32 : decode prog_1_method_23_code 32 = .ok (.aaload, 1) := by decide +kernel
theorem d_S_writeTable_33 : decode prog_1_method_23_code 33 = .ok (.getfield 176, 3) := by decide +kernel
theorem d_S_writeTable_36 : decode prog_1_method_23_code 36 = .ok (.iconst 1, 1) := by decide +kernel
theorem d_S_writeTable_37 : decode prog_1_method_23_code 37 = .ok (.iadd, 1) := by decide +kernel
theorem d_S_writeTable_38 : decode prog_1_method_23_code 38 = .ok (.invokevirtual 90, 3) := by decide +kernel
theorem d_S_writeTable_41 : decode prog_1_method_23_code 41 = .ok (.iinc 2 1, 3) := by decide +kernel
theorem d_S_writeTable_44 : decode prog_1_method_23_code 44 = .ok (.goto (-33), 3) := by decide +kernel
theorem d_S_writeTable_47 : decode prog_1_method_23_code 47 = .ok (.aload_n 0, 1) := by decide +kernel
theorem d_S_writeTable_48 : decode prog_1_method_23_code 48 = .ok (.getfield 23, 3) := by decide +kernel
theorem d_S_writeTable_51 : decode prog_1_method_23_code 51 = .ok (.invokevirtual 93, 3) := by decide +kernel
theorem d_S_writeTable_54 : decode prog_1_method_23_code 54 = .ok (.ireturn, 1) := by decide +kernel
theorem d_S_readBack_0 : decode prog_1_method_24_code 0 = .ok (.aload_n 0, 1) := by decide +kernel
theorem d_S_readBack_1 : decode prog_1_method_24_code 1 = .ok (.invokevirtual 179, 3) := by decide +kernel
theorem d_S_readBack_4 : decode prog_1_method_24_code 4 = .ok (.istore_n 1, 1) := by decide +kernel
theorem d_S_readBack_5 : decode prog_1_method_24_code 5 = .ok (.iload_n 1, 1) := by decide +kernel
theorem d_S_readBack_6 : decode prog_1_method_24_code 6 = .ok (.iconst (-1), 1) := by decide +kernel
theorem d_S_readBack_7 : decode prog_1_method_24_code 7 = .ok (.if_icmp .ne 13, 3) := by decide +kernel
theorem d_S_readBack_10 : decode prog_1_method_24_code 10 = .ok (.aload_n 0, 1) := by decide +kernel
theorem d_S_readBack_11 : decode prog_1_method_24_code 11 = .ok (.getfield 30, 3) := by decide +kernel
theorem d_S_readBack_14 : decode prog_1_method_24_code 14 = .ok (.invokevirtual 37, 3) := by decide +kernel
theorem d_S_readBack_17 : decode prog_1_method_24_code 17 = .ok (.goto 15, 3) := by decide +kernel
theorem d_S_readBack_20 : decode prog_1_method_24_code 20 = .ok (.aload_n 0, 1) := by decide +kernel
theorem d_S_readBack_21 : decode prog_1_method_24_code 21 = .ok (.getfield 30, 3) := by decide +kernel
theorem d_S_readBack_24 : decode prog_1_method_24_code 24 = .ok (.aload_n 0, 1) := by decide +kernel
theorem d_S_readBack_25 : decode prog_1_method_24_code 25 = .ok (.getfield 23, 3) := by decide +kernel
theorem d_S_readBack_28 : decode prog_1_method_24_code 28 = .ok (.iload_n 1, 1) := by decide +kernel
theorem d_S_readBack_29 : decode prog_1_method_24_code 29 = .ok (.invokevirtual 182, 3) := by decide +kernel
theorem d_S_readBack_32 : decode prog_1_method_24_code 32 = .ok (.return_, 1) := by decide +kernel
theorem d_S_treeAt_0 : decode prog_1_method_25_code 0 = .ok (.iload_n 1, 1) := by decide +kernel
theorem d_S_treeAt_1 : decode prog_1_method_25_code 1 = .ok (.ifCond .ne 8, 3) := by decide +kernel
theorem d_S_treeAt_4 : decode prog_1_method_25_code 4 = .ok (.aload_n 0, 1) := by decide +kernel
theorem d_S_treeAt_5 : decode prog_1_method_25_code 5 = .ok (.getfield 30, 3) := by decide +kernel
theorem d_S_treeAt_8 : decode prog_1_method_25_code 8 = .ok (.areturn, 1) := by decide +kernel
theorem d_S_treeAt_9 : decode prog_1_method_25_code 9 = .ok (.aload_n 0, 1) := by decide +kernel
theorem d_S_treeAt_10 : decode prog_1_method_25_code 10 = .ok (.iload_n 1, 1) := by decide +kernel
theorem d_S_treeAt_11 : decode prog_1_method_25_code 11 = .ok (.invokevirtual 186, 3) := by decide +kernel
theorem d_S_treeAt_14 : decode prog_1_method_25_code 14 = .ok (.istore_n 2, 1) := by decide +kernel
theorem d_S_treeAt_15 : decode prog_1_method_25_code 15 = .ok (.iload_n 2, 1) := by decide +kernel
theorem d_S_treeAt_16 : decode prog_1_method_25_code 16 = .ok (.iconst (-1), 1) := by decide +kernel
theorem d_S_treeAt_17 : decode prog_1_method_25_code 17 = .ok (.if_icmp .ne 13, 3) := by decide +kernel
theorem d_S_treeAt_20 : decode prog_1_method_25_code 20 = .ok (.aload_n 0, 1) := by decide +kernel
theorem d_S_treeAt_21 : decode prog_1_method_25_code 21 = .ok (.getfield 34, 3) := by decide +kernel
theorem d_S_treeAt_24 : decode prog_1_method_25_code 24 = .ok (.invokevirtual 189, 3) := by decide +kernel
theorem d_S_treeAt_27 : decode prog_1_method_25_code 27 = .ok (.goto 15, 3) := by decide +kernel
theorem d_S_treeAt_30 : decode prog_1_method_25_code 30 = .ok (.aload_n 0, 1) := by decide +kernel
theorem d_S_treeAt_31 : decode prog_1_method_25_code 31 = .ok (.getfield 34, 3) := by decide +kernel
theorem d_S_treeAt_34 : decode prog_1_method_25_code 34 = .ok (.aload_n 0, 1) := by decide +kernel
theorem d_S_treeAt_35 : decode prog_1_method_25_code 35 = .ok (.getfield 23, 3) := by decide +kernel
theorem d_S_treeAt_38 : decode prog_1_method_25_code 38 = .ok (.iload_n 2, 1) := by decide +kernel
theorem d_S_treeAt_39 : decode prog_1_method_25_code 39 = .ok (.invokevirtual 182, 3) := by decide +kernel
theorem d_S_treeAt_42 : decode prog_1_method_25_code 42 = .ok (.aload_n 0, 1) := by decide +kernel
theorem d_S_treeAt_43 : decode prog_1_method_25_code 43 = .ok (.getfield 34, 3) := by decide +kernel
theorem d_S_treeAt_46 : decode prog_1_method_25_code 46 = .ok (.areturn, 1) := by decide +kernel
theorem d_S_tablePlace_0 : decode prog_1_method_26_code 0 = .ok (.iconst 0, 1) := by decide +kernel
theorem d_S_tablePlace_1 : decode prog_1_method_26_code 1 = .ok (.istore_n 2, 1) := by decide +kernel
theorem d_S_tablePlace_2 : decode prog_1_method_26_code 2 = .ok (.iconst 0, 1) := by decide +kernel
theorem d_S_tablePlace_3 : decode prog_1_method_26_code 3 = .ok (.istore_n 3, 1) := by decide +kernel
theorem d_S_tablePlace_4 : decode prog_1_method_26_code 4 = .ok (.iload_n 3, 1) := by decide +kernel
theorem d_S_tablePlace_5 : decode prog_1_method_26_code 5 = .ok (.aload_n 0, 1) := by decide +kernel
theorem d_S_tablePlace_6 : decode prog_1_method_26_code 6 = .ok (.getfield 23, 3) := by decide +kernel
theorem d_S_tablePlace_9 : decode prog_1_method_26_code 9 = .ok (.getfield 84, 3) := by decide +kernel
theorem d_S_tablePlace_12 : decode prog_1_method_26_code 12 = .ok (.if_icmp .ge 27, 3) := by decide +kernel
theorem d_S_tablePlace_15 : decode prog_1_method_26_code 15 = .ok (.aload_n 0, 1) := by decide +kernel
theorem d_S_tablePlace_16 : decode prog_1_method_26_code 16 = .ok (.iload_n 3, 1) := by decide +kernel
theorem d_S_tablePlace_17 : decode prog_1_method_26_code 17 = .ok (.invokevirtual 149, 3) := by decide +kernel
theorem d_S_tablePlace_20 : decode prog_1_method_26_code 20 = .ok (.ifCond .eq 13, 3) := by decide +kernel
theorem d_S_tablePlace_23 : decode prog_1_method_26_code 23 = .ok (.iinc 2 1, 3) := by decide +kernel
theorem d_S_tablePlace_26 : decode prog_1_method_26_code 26 = .ok (.iload_n 2, 1) := by decide +kernel
theorem d_S_tablePlace_27 : decode prog_1_method_26_code 27 = .ok (.iload_n 1, 1) := by decide +kernel
theorem d_S_tablePlace_28 : decode prog_1_method_26_code 28 = .ok (.if_icmp .ne 5, 3) := by decide +kernel
theorem d_S_tablePlace_31 : decode prog_1_method_26_code 31 = .ok (.iload_n 3, 1) := by decide +kernel
theorem d_S_tablePlace_32 : decode prog_1_method_26_code 32 = .ok (.ireturn, 1) := by decide +kernel
theorem d_S_tablePlace_33 : decode prog_1_method_26_code 33 = .ok (.iinc 3 1, 3) := by decide +kernel
theorem d_S_tablePlace_36 : decode prog_1_method_26_code 36 = .ok (.goto (-32), 3) := by decide +kernel
theorem d_S_tablePlace_39 : decode prog_1_method_26_code 39 = .ok (.iconst (-1), 1) := by decide +kernel
theorem d_S_tablePlace_40 : decode prog_1_method_26_code 40 = .ok (.ireturn, 1) := by decide +kernel
theorem d_S_newestTable_0 : decode prog_1_method_27_code 0 = .ok (.aload_n 0, 1) := by decide +kernel
theorem d_S_newestTable_1 : decode prog_1_method_27_code 1 = .ok (.getfield 23, 3) := by decide +kernel
theorem d_S_newestTable_4 : decode prog_1_method_27_code 4 = .ok (.getfield 84, 3) := by decide +kernel
theorem d_S_newestTable_7 : decode prog_1_method_27_code 7 = .ok (.iconst 1, 1) := by decide +kernel
theorem d_S_newestTable_8 : decode prog_1_method_27_code 8 = .ok (.isub, 1) := by decide +kernel
theorem d_S_newestTable_9 : decode prog_1_method_27_code 9 = .ok (.istore_n 1, 1) := by decide +kernel
theorem d_S_newestTable_10 : decode prog_1_method_27_code 10 = .ok (.iload_n 1, 1) := by decide +kernel
theorem d_S_newestTable_11 : decode prog_1_method_27_code 11 = .ok (.ifCond .lt 19, 3) := by decide +kernel
theorem d_S_newestTable_14 : decode prog_1_method_27_code 14 = .ok (.aload_n 0, 1) := by decide +kernel
theorem d_S_newestTable_15 : decode prog_1_method_27_code 15 = .ok (.iload_n 1, 1) := by decide +kernel
theorem d_S_newestTable_16 : decode prog_1_method_27_code 16 = .ok (.invokevirtual 149, 3) := by decide +kernel
theorem d_S_newestTable_19 : decode prog_1_method_27_code 19 = .ok (.ifCond .eq 5, 3) := by decide +kernel
theorem d_S_newestTable_22 : decode prog_1_method_27_code 22 = .ok (.iload_n 1, 1) := by decide +kernel
theorem d_S_newestTable_23 : decode prog_1_method_27_code 23 = .ok (.ireturn, 1) := by decide +kernel
theorem d_S_newestTable_24 : decode prog_1_method_27_code 24 = .ok (.iinc 1 (-1), 3) := by decide +kernel
theorem d_S_newestTable_27 : decode prog_1_method_27_code 27 = .ok (.goto (-17), 3) := by decide +kernel
theorem d_S_newestTable_30 : decode prog_1_method_27_code 30 = .ok (.iconst (-1), 1) := by decide +kernel
theorem d_S_newestTable_31 : decode prog_1_method_27_code 31 = .ok (.ireturn, 1) := by decide +kernel
theorem d_S_newestNumber_0 : decode prog_1_method_28_code 0 = .ok (.aload_n 0, 1) := by decide +kernel
theorem d_S_newestNumber_1 : decode prog_1_method_28_code 1 = .ok (.invokevirtual 179, 3) := by decide +kernel
theorem d_S_newestNumber_4 : decode prog_1_method_28_code 4 = .ok (.istore_n 1, 1) := by decide +kernel
theorem d_S_newestNumber_5 : decode prog_1_method_28_code 5 = .ok (.iload_n 1, 1) := by decide +kernel
theorem d_S_newestNumber_6 : decode prog_1_method_28_code 6 = .ok (.iconst (-1), 1) := by decide +kernel
theorem d_S_newestNumber_7 : decode prog_1_method_28_code 7 = .ok (.if_icmp .ne 7, 3) := by decide +kernel
theorem d_S_newestNumber_10 : decode prog_1_method_28_code 10 = .ok (.iconst 0, 1) := by decide +kernel
theorem d_S_newestNumber_11 : decode prog_1_method_28_code 11 = .ok (.goto 12, 3) := by decide +kernel
theorem d_S_newestNumber_14 : decode prog_1_method_28_code 14 = .ok (.aload_n 0, 1) := by decide +kernel
theorem d_S_newestNumber_15 : decode prog_1_method_28_code 15 = .ok (.getfield 23, 3) := by decide +kernel
theorem d_S_newestNumber_18 : decode prog_1_method_28_code 18 = .ok (.iload_n 1, 1) := by decide +kernel
theorem d_S_newestNumber_19 : decode prog_1_method_28_code 19 = .ok (.iconst 3, 1) := by decide +kernel
theorem d_S_newestNumber_20 : decode prog_1_method_28_code 20 = .ok (.invokevirtual 166, 3) := by decide +kernel
theorem d_S_newestNumber_23 : decode prog_1_method_28_code 23 = .ok (.ireturn, 1) := by decide +kernel
theorem d_S_isValidTable_0 : decode prog_1_method_29_code 0 = .ok (.aload_n 0, 1) := by decide +kernel
theorem d_S_isValidTable_1 : decode prog_1_method_29_code 1 = .ok (.getfield 23, 3) := by decide +kernel
theorem d_S_isValidTable_4 : decode prog_1_method_29_code 4 = .ok (.iload_n 1, 1) := by decide +kernel
theorem d_S_isValidTable_5 : decode prog_1_method_29_code 5 = .ok (.iconst 0, 1) := by decide +kernel
theorem d_S_isValidTable_6 : decode prog_1_method_29_code 6 = .ok (.invokevirtual 166, 3) := by decide +kernel
theorem d_S_isValidTable_9 : decode prog_1_method_29_code 9 = .ok (.iconst 3, 1) := by decide +kernel
theorem d_S_isValidTable_10 : decode prog_1_method_29_code 10 = .ok (.if_icmp .ne 14, 3) := by decide +kernel
theorem d_S_isValidTable_13 : decode prog_1_method_29_code 13 = .ok (.aload_n 0, 1) := by decide +kernel
theorem d_S_isValidTable_14 : decode prog_1_method_29_code 14 = .ok (.getfield 23, 3) := by decide +kernel
theorem d_S_isValidTable_17 : decode prog_1_method_29_code 17 = .ok (.iload_n 1, 1) := by decide +kernel
theorem d_S_isValidTable_18 : decode prog_1_method_29_code 18 = .ok (.invokevirtual 163, 3) := by decide +kernel
theorem d_S_isValidTable_21 : decode prog_1_method_29_code 21 = .ok (.ifCond .ne 5, 3) := by decide +kernel
theorem d_S_isValidTable_24 : decode prog_1_method_29_code 24 = .ok (.iconst 0, 1) := by decide +kernel
theorem d_S_isValidTable_25 : decode prog_1_method_29_code 25 = .ok (.ireturn, 1) := by decide +kernel
theorem d_S_isValidTable_26 : decode prog_1_method_29_code 26 = .ok (.iconst 0, 1) := by decide +kernel
theorem d_S_isValidTable_27 : decode prog_1_method_29_code 27 = .ok (.istore_n 2, 1) := by decide +kernel
theorem d_S_isValidTable_28 : decode prog_1_method_29_code 28 = .ok (.iload_n 2, 1) := by decide +kernel
theorem d_S_isValidTable_29 : decode prog_1_method_29_code 29 = .ok (.bipush 8, 2) := by decide +kernel
theorem d_S_isValidTable_31 : decode prog_1_method_29_code 31 = .ok (.if_icmp .ge 40, 3) := by decide +kernel
theorem d_S_isValidTable_34 : decode prog_1_method_29_code 34 = .ok (.aload_n 0, 1) := by decide +kernel
theorem d_S_isValidTable_35 : decode prog_1_method_29_code 35 = .ok (.getfield 23, 3) := by decide +kernel
theorem d_S_isValidTable_38 : decode prog_1_method_29_code 38 = .ok (.iload_n 1, 1) := by decide +kernel
theorem d_S_isValidTable_39 : decode prog_1_method_29_code 39 = .ok (.iconst 4, 1) := by decide +kernel
theorem d_S_isValidTable_40 : decode prog_1_method_29_code 40 = .ok (.iload_n 2, 1) := by decide +kernel
theorem d_S_isValidTable_41 : decode prog_1_method_29_code 41 = .ok (.iadd, 1) := by decide +kernel
theorem d_S_isValidTable_42 : decode prog_1_method_29_code 42 = .ok (.invokevirtual 166, 3) := by decide +kernel
theorem d_S_isValidTable_45 : decode prog_1_method_29_code 45 = .ok (.istore_n 3, 1) := by decide +kernel
theorem d_S_isValidTable_46 : decode prog_1_method_29_code 46 = .ok (.iload_n 3, 1) := by decide +kernel
theorem d_S_isValidTable_47 : decode prog_1_method_29_code 47 = .ok (.ifCond .eq 18, 3) := by decide +kernel
theorem d_S_isValidTable_50 : decode prog_1_method_29_code 50 = .ok (.aload_n 0, 1) := by decide +kernel
theorem d_S_isValidTable_51 : decode prog_1_method_29_code 51 = .ok (.getfield 23, 3) := by decide +kernel
theorem d_S_isValidTable_54 : decode prog_1_method_29_code 54 = .ok (.iload_n 3, 1) := by decide +kernel
theorem d_S_isValidTable_55 : decode prog_1_method_29_code 55 = .ok (.iconst 1, 1) := by decide +kernel
theorem d_S_isValidTable_56 : decode prog_1_method_29_code 56 = .ok (.isub, 1) := by decide +kernel
theorem d_S_isValidTable_57 : decode prog_1_method_29_code 57 = .ok (.invokevirtual 163, 3) := by decide +kernel
theorem d_S_isValidTable_60 : decode prog_1_method_29_code 60 = .ok (.ifCond .ne 5, 3) := by decide +kernel
theorem d_S_isValidTable_63 : decode prog_1_method_29_code 63 = .ok (.iconst 0, 1) := by decide +kernel
theorem d_S_isValidTable_64 : decode prog_1_method_29_code 64 = .ok (.ireturn, 1) := by decide +kernel
theorem d_S_isValidTable_65 : decode prog_1_method_29_code 65 = .ok (.iinc 2 1, 3) := by decide +kernel
theorem d_S_isValidTable_68 : decode prog_1_method_29_code 68 = .ok (.goto (-40), 3) := by decide +kernel
theorem d_S_isValidTable_71 : decode prog_1_method_29_code 71 = .ok (.iconst 1, 1) := by decide +kernel
theorem d_S_isValidTable_72 : decode prog_1_method_29_code 72 = .ok (.ireturn, 1) := by decide +kernel
end
section
theorem d_R_init_0 : decode prog_6_method_1_code 0 = .ok (.aload_n 0, 1) := by decide +kernel
theorem d_R_init_1 : decode prog_6_method_1_code 1 = .ok (.invokespecial 1, 3) := by decide +kernel
theorem d_R_init_4 : decode prog_6_method_1_code 4 = .ok (.aload_n 0, 1) := by decide +kernel
theorem d_R_init_5 : decode prog_6_method_1_code 5 = .ok (.sipush 2048, 3) := by decide +kernel
theorem d_R_init_8 : decode prog_6_method_1_code 8 = .ok (.newarray .int, 2) := by decide +kernel
theorem d_R_init_10 : decode prog_6_method_1_code 10 = .ok (.putfield 7, 3) := by decide +kernel
theorem d_R_init_13 : decode prog_6_method_1_code 13 = .ok (.aload_n 0, 1) := by decide +kernel
theorem d_R_init_14 : decode prog_6_method_1_code 14 = .ok (.bipush 8, 2) := by decide +kernel
theorem d_R_init_16 : decode prog_6_method_1_code 16 = .ok (.newarray .int, 2) := by decide +kernel
theorem d_R_init_18 : decode prog_6_method_1_code 18 = .ok (.putfield 13, 3) := by decide +kernel
theorem d_R_init_21 : decode prog_6_method_1_code 21 = .ok (.aload_n 0, 1) := by decide +kernel
theorem d_R_init_22 : decode prog_6_method_1_code 22 = .ok (.bipush 8, 2) := by decide +kernel
theorem d_R_init_24 : decode prog_6_method_1_code 24 = .ok (.newarray .int, 2) := by decide +kernel
theorem d_R_init_26 : decode prog_6_method_1_code 26 = .ok (.putfield 16, 3) := by decide +kernel
theorem d_R_init_29 : decode prog_6_method_1_code 29 = .ok (.aload_n 0, 1) := by decide +kernel
theorem d_R_init_30 : decode prog_6_method_1_code 30 = .ok (.bipush 80, 2) := by decide +kernel
theorem d_R_init_32 : decode prog_6_method_1_code 32 = .ok (.newarray .int, 2) := by decide +kernel
theorem d_R_init_34 : decode prog_6_method_1_code 34 = .ok (.putfield 19, 3) := by decide +kernel
theorem d_R_init_37 : decode prog_6_method_1_code 37 = .ok (.aload_n 0, 1) := by decide +kernel
theorem d_R_init_38 : decode prog_6_method_1_code 38 = .ok (.bipush 8, 2) := by decide +kernel
theorem d_R_init_40 : decode prog_6_method_1_code 40 = .ok (.newarray .boolean, 2) := by decide +kernel
theorem d_R_init_42 : decode prog_6_method_1_code 42 = .ok (.putfield 22, 3) := by decide +kernel
theorem d_R_init_45 : decode prog_6_method_1_code 45 = .ok (.aload_n 0, 1) := by decide +kernel
theorem d_R_init_46 : decode prog_6_method_1_code 46 = .ok (.bipush 8, 2) := by decide +kernel
theorem d_R_init_48 : decode prog_6_method_1_code 48 = .ok (.newarray .int, 2) := by decide +kernel
theorem d_R_init_50 : decode prog_6_method_1_code 50 = .ok (.putfield 26, 3) := by decide +kernel
theorem d_R_init_53 : decode prog_6_method_1_code 53 = .ok (.aload_n 0, 1) := by decide +kernel
theorem d_R_init_54 : decode prog_6_method_1_code 54 = .ok (.bipush 8, 2) := by decide +kernel
theorem d_R_init_56 : decode prog_6_method_1_code 56 = .ok (.newarray .int, 2) := by decide +kernel
theorem d_R_init_58 : decode prog_6_method_1_code 58 = .ok (.putfield 29, 3) := by decide +kernel
theorem d_R_init_61 : decode prog_6_method_1_code 61 = .ok (.aload_n 0, 1) := by decide +kernel
theorem d_R_init_62 : decode prog_6_method_1_code 62 = .ok (.bipush 8, 2) := by decide +kernel
theorem d_R_init_64 : decode prog_6_method_1_code 64 = .ok (.newarray .int, 2) := by decide +kernel
theorem d_R_init_66 : decode prog_6_method_1_code 66 = .ok (.putfield 32, 3) := by decide +kernel
theorem d_R_init_69 : decode prog_6_method_1_code 69 = .ok (.aload_n 0, 1) := by decide +kernel
theorem d_R_init_70 : decode prog_6_method_1_code 70 = .ok (.bipush 80, 2) := by decide +kernel
theorem d_R_init_72 : decode prog_6_method_1_code 72 = .ok (.newarray .int, 2) := by decide +kernel
theorem d_R_init_74 : decode prog_6_method_1_code 74 = .ok (.putfield 35, 3) := by decide +kernel
theorem d_R_init_77 : decode prog_6_method_1_code 77 = .ok (.aload_n 0, 1) := by decide +kernel
theorem d_R_init_78 : decode prog_6_method_1_code 78 = .ok (.bipush 16, 2) := by decide +kernel
theorem d_R_init_80 : decode prog_6_method_1_code 80 = .ok (.newarray .int, 2) := by decide +kernel
theorem d_R_init_82 : decode prog_6_method_1_code 82 = .ok (.putfield 38, 3) := by decide +kernel
theorem d_R_init_85 : decode prog_6_method_1_code 85 = .ok (.aload_n 0, 1) := by decide +kernel
theorem d_R_init_86 : decode prog_6_method_1_code 86 = .ok (.bipush 8, 2) := by decide +kernel
theorem d_R_init_88 : decode prog_6_method_1_code 88 = .ok (.newarray .boolean, 2) := by decide +kernel
theorem d_R_init_90 : decode prog_6_method_1_code 90 = .ok (.putfield 41, 3) := by decide +kernel
theorem d_R_init_93 : decode prog_6_method_1_code 93 = .ok (.aload_n 0, 1) := by decide +kernel
theorem d_R_init_94 : decode prog_6_method_1_code 94 = .ok (.iload_n 1, 1) := by decide +kernel
theorem d_R_init_95 : decode prog_6_method_1_code 95 = .ok (.bipush 16, 2) := by decide +kernel
theorem d_R_init_97 : decode prog_6_method_1_code 97 = .ok (.if_icmp .ge 8, 3) := by decide +kernel
theorem d_R_init_100 : decode prog_6_method_1_code 100 = .ok (.bipush 16, 2) := by decide +kernel
theorem d_R_init_102 : decode prog_6_method_1_code 102 = .ok (.goto 17, 3) := by decide +kernel
theorem d_R_init_105 : decode prog_6_method_1_code 105 = .ok (.iload_n 1, 1) := by decide +kernel
theorem d_R_init_106 : decode prog_6_method_1_code 106 = .ok (.sipush 128, 3) := by decide +kernel
theorem d_R_init_109 : decode prog_6_method_1_code 109 = .ok (.if_icmp .le 9, 3) := by decide +kernel
theorem d_R_init_112 : decode prog_6_method_1_code 112 = .ok (.sipush 128, 3) := by decide +kernel
theorem d_R_init_115 : decode prog_6_method_1_code 115 = .ok (.goto 4, 3) := by decide +kernel
theorem d_R_init_118 : decode prog_6_method_1_code 118 = .ok (.iload_n 1, 1) := by decide +kernel
theorem d_R_init_119 : decode prog_6_method_1_code 119 = .ok (.putfield 44, 3) := by decide +kernel
theorem d_R_init_122 : decode prog_6_method_1_code 122 = .ok (.aload_n 0, 1) := by decide +kernel
theorem d_R_init_123 : decode prog_6_method_1_code 123 = .ok (.invokevirtual 48, 3) := by decide +kernel
theorem d_R_init_126 : decode prog_6_method_1_code 126 = .ok (.return_, 1) := by decide +kernel
theorem d_R_step_0 : decode prog_6_method_2_code 0 = .ok (.iload_n 0, 1) := by decide +kernel
theorem d_R_step_1 : decode prog_6_method_2_code 1 = .ok (.sipush 256, 3) := by decide +kernel
theorem d_R_step_4 : decode prog_6_method_2_code 4 = .ok (.iload_n 1, 1) := by decide +kernel
theorem d_R_step_5 : decode prog_6_method_2_code 5 = .ok (.imul, 1) := by decide +kernel
theorem d_R_step_6 : decode prog_6_method_2_code 6 = .ok (.ixor, 1) := by decide +kernel
theorem d_R_step_7 : decode prog_6_method_2_code 7 = .ok (.istore_n 2, 1) := by decide +kernel
theorem d_R_step_8 : decode prog_6_method_2_code 8 = .ok (.iconst 0, 1) := by decide +kernel
theorem d_R_step_9 : decode prog_6_method_2_code 9 = .ok (.istore_n 3, 1) := by decide +kernel
theorem d_R_step_10 : decode prog_6_method_2_code 10 = .ok (.iload_n 3, 1) := by decide +kernel
theorem d_R_step_11 : decode prog_6_method_2_code 11 = .ok (.bipush 8, 2) := by decide +kernel
theorem d_R_step_13 : decode prog_6_method_2_code 13 = .ok (.if_icmp .ge 32, 3) := by decide +kernel
theorem d_R_step_16 : decode prog_6_method_2_code 16 = .ok (.iload_n 2, 1) := by decide +kernel
theorem d_R_step_17 : decode prog_6_method_2_code 17 = .ok (.ldc 51, 2) := by decide +kernel
theorem d_R_step_19 : decode prog_6_method_2_code 19 = .ok (.if_icmp .ge 9, 3) := by decide +kernel
theorem d_R_step_22 : decode prog_6_method_2_code 22 = .ok (.iconst 2, 1) := by decide +kernel
theorem d_R_step_23 : decode prog_6_method_2_code 23 = .ok (.iload_n 2, 1) := by decide +kernel
theorem d_R_step_24 : decode prog_6_method_2_code 24 = .ok (.imul, 1) := by decide +kernel
theorem d_R_step_25 : decode prog_6_method_2_code 25 = .ok (.goto 13, 3) := by decide +kernel
theorem d_R_step_28 : decode prog_6_method_2_code 28 = .ok (.iconst 2, 1) := by decide +kernel
theorem d_R_step_29 : decode prog_6_method_2_code 29 = .ok (.iload_n 2, 1) := by decide +kernel
theorem d_R_step_30 : decode prog_6_method_2_code 30 = .ok (.imul, 1) := by decide +kernel
theorem d_R_step_31 : decode prog_6_method_2_code 31 = .ok (.ldc 52, 2) := by decide +kernel
theorem d_R_step_33 : decode prog_6_method_2_code 33 = .ok (.isub, 1) := by decide +kernel
theorem d_R_step_34 : decode prog_6_method_2_code 34 = .ok (.sipush 4129, 3) := by decide +kernel
theorem d_R_step_37 : decode prog_6_method_2_code 37 = .ok (.ixor, 1) := by decide +kernel
theorem d_R_step_38 : decode prog_6_method_2_code 38 = .ok (.istore_n 2, 1) := by decide +kernel
theorem d_R_step_39 : decode prog_6_method_2_code 39 = .ok (.iinc 3 1, 3) := by decide +kernel
theorem d_R_step_42 : decode prog_6_method_2_code 42 = .ok (.goto (-32), 3) := by decide +kernel
theorem d_R_step_45 : decode prog_6_method_2_code 45 = .ok (.iload_n 2, 1) := by decide +kernel
theorem d_R_step_46 : decode prog_6_method_2_code 46 = .ok (.ireturn, 1) := by decide +kernel
theorem d_R_checkOf_0 : decode prog_6_method_3_code 0 = .ok (.ldc 53, 2) := by decide +kernel
theorem d_R_checkOf_2 : decode prog_6_method_3_code 2 = .ok (.istore_n 2, 1) := by decide +kernel
theorem d_R_checkOf_3 : decode prog_6_method_3_code 3 = .ok (.iconst 0, 1) := by decide +kernel
theorem d_R_checkOf_4 : decode prog_6_method_3_code 4 = .ok (.istore_n 3, 1) := by decide +kernel
theorem d_R_checkOf_5 : decode prog_6_method_3_code 5 = .ok (.iload_n 3, 1) := by decide +kernel
theorem d_R_checkOf_6 : decode prog_6_method_3_code 6 = .ok (.bipush 16, 2) := by decide +kernel
theorem d_R_checkOf_8 : decode prog_6_method_3_code 8 = .ok (.if_icmp .ge 56, 3) := by decide +kernel
theorem d_R_checkOf_11 : decode prog_6_method_3_code 11 = .ok (.aload_n 0, 1) := by decide +kernel
theorem d_R_checkOf_12 : decode prog_6_method_3_code 12 = .ok (.getfield 7, 3) := by decide +kernel
theorem d_R_checkOf_15 : decode prog_6_method_3_code 15 = .ok (.bipush 16, 2) := by decide +kernel
theorem d_R_checkOf_17 : decode prog_6_method_3_code 17 = .ok (.iload_n 1, 1) := by decide +kernel
theorem d_R_checkOf_18 : decode prog_6_method_3_code 18 = .ok (.imul, 1) := by decide +kernel
theorem d_R_checkOf_19 : decode prog_6_method_3_code 19 = .ok (.iload_n 3, 1) := by decide +kernel
theorem d_R_checkOf_20 : decode prog_6_method_3_code 20 = .ok (.iadd, 1) := by decide +kernel
theorem d_R_checkOf_21 : decode prog_6_method_3_code 21 = .ok (.iaload, 1) := by decide +kernel
theorem d_R_checkOf_22 : decode prog_6_method_3_code 22 = .ok (.istore 4, 2) := by decide +kernel
theorem d_R_checkOf_24 : decode prog_6_method_3_code 24 = .ok (.bipush 24, 2) := by decide +kernel
theorem d_R_checkOf_26 : decode prog_6_method_3_code 26 = .ok (.istore 5, 2) := by decide +kernel
theorem d_R_checkOf_28 : decode prog_6_method_3_code 28 = .ok (.iload 5, 2) := by decide +kernel
theorem d_R_checkOf_30 : decode prog_6_method_3_code 30 = .ok (.ifCond .lt 28, 3) := by decide +kernel
theorem d_R_checkOf_33 : decode prog_6_method_3_code 33 = .ok (.iload_n 3, 1) := by decide +kernel
theorem d_R_checkOf_34 : decode prog_6_method_3_code 34 = .ok (.iconst 1, 1) := by decide +kernel
theorem d_R_checkOf_35 : decode prog_6_method_3_code 35 = .ok (.if_icmp .eq 23, 3) := by decide +kernel
theorem d_R_checkOf_38 : decode prog_6_method_3_code 38 = .ok (.iload_n 2, 1) := by decide +kernel
theorem d_R_checkOf_39 : decode prog_6_method_3_code 39 = .ok (.iload 4, 2) := by decide +kernel
theorem d_R_checkOf_41 : decode prog_6_method_3_code 41 = .ok (.iload 5, 2) := by decide +kernel
theorem d_R_checkOf_43 : decode prog_6_method_3_code 43 = .ok (.ishr, 1) := by decide +kernel
theorem d_R_checkOf_44 : decode prog_6_method_3_code 44 = .ok (.sipush 255, 3) := by decide +kernel
theorem d_R_checkOf_47 : decode prog_6_method_3_code 47 = .ok (.iand, 1) := by decide +kernel
theorem d_R_checkOf_48 : decode prog_6_method_3_code 48 = .ok (.invokestatic 54, 3) := by decide +kernel
theorem d_R_checkOf_51 : decode prog_6_method_3_code 51 = .ok (.istore_n 2, 1) := by decide +kernel
theorem d_R_checkOf_52 : decode prog_6_method_3_code 52 = .ok (.iinc 5 (-8), 3) := by decide +kernel
theorem d_R_checkOf_55 : decode prog_6_method_3_code 55 = .ok (.goto (-27), 3) := by decide +kernel
theorem d_R_checkOf_58 : decode prog_6_method_3_code 58 = .ok (.iinc 3 1, 3) := by decide +kernel
theorem d_R_checkOf_61 : decode prog_6_method_3_code 61 = .ok (.goto (-56), 3) := by decide +kernel
theorem d_R_checkOf_64 : decode prog_6_method_3_code 64 = .ok (.iload_n 2, 1) := by decide +kernel
theorem d_R_checkOf_65 : decode prog_6_method_3_code 65 = .ok (.ireturn, 1) := by decide +kernel
theorem d_R_isGood_0 : decode prog_6_method_4_code 0 = .ok (.aload_n 0, 1) := by decide +kernel
theorem d_R_isGood_1 : decode prog_6_method_4_code 1 = .ok (.iload_n 1, 1) := by decide +kernel
theorem d_R_isGood_2 : decode prog_6_method_4_code 2 = .ok (.invokevirtual 58, 3) := by decide +kernel
theorem d_R_isGood_5 : decode prog_6_method_4_code 5 = .ok (.istore_n 2, 1) := by decide +kernel
theorem d_R_isGood_6 : decode prog_6_method_4_code 6 = .ok (.aload_n 0, 1) := by decide +kernel
theorem d_R_isGood_7 : decode prog_6_method_4_code 7 = .ok (.getfield 7, 3) := by decide +kernel
theorem d_R_isGood_10 : decode prog_6_method_4_code 10 = .ok (.bipush 16, 2) := by decide +kernel
theorem d_R_isGood_12 : decode prog_6_method_4_code 12 = .ok (.iload_n 1, 1) := by decide +kernel
theorem d_R_isGood_13 : decode prog_6_method_4_code 13 = .ok (.imul, 1) := by decide +kernel
theorem d_R_isGood_14 : decode prog_6_method_4_code 14 = .ok (.iconst 1, 1) := by decide +kernel
theorem d_R_isGood_15 : decode prog_6_method_4_code 15 = .ok (.iadd, 1) := by decide +kernel
theorem d_R_isGood_16 : decode prog_6_method_4_code 16 = .ok (.iaload, 1) := by decide +kernel
theorem d_R_isGood_17 : decode prog_6_method_4_code 17 = .ok (.iload_n 2, 1) := by decide +kernel
theorem d_R_isGood_18 : decode prog_6_method_4_code 18 = .ok (.if_icmp .ne 7, 3) := by decide +kernel
theorem d_R_isGood_21 : decode prog_6_method_4_code 21 = .ok (.iconst 1, 1) := by decide +kernel
theorem d_R_isGood_22 : decode prog_6_method_4_code 22 = .ok (.goto 4, 3) := by decide +kernel
theorem d_R_isGood_25 : decode prog_6_method_4_code 25 = .ok (.iconst 0, 1) := by decide +kernel
theorem d_R_isGood_26 : decode prog_6_method_4_code 26 = .ok (.ireturn, 1) := by decide +kernel
theorem d_R_isValid_0 : decode prog_6_method_5_code 0 = .ok (.aload_n 0, 1) := by decide +kernel
theorem d_R_isValid_1 : decode prog_6_method_5_code 1 = .ok (.getfield 7, 3) := by decide +kernel
theorem d_R_isValid_4 : decode prog_6_method_5_code 4 = .ok (.bipush 16, 2) := by decide +kernel
theorem d_R_isValid_6 : decode prog_6_method_5_code 6 = .ok (.iload_n 1, 1) := by decide +kernel
theorem d_R_isValid_7 : decode prog_6_method_5_code 7 = .ok (.imul, 1) := by decide +kernel
theorem d_R_isValid_8 : decode prog_6_method_5_code 8 = .ok (.iaload, 1) := by decide +kernel
theorem d_R_isValid_9 : decode prog_6_method_5_code 9 = .ok (.iconst 3, 1) := by decide +kernel
theorem d_R_isValid_10 : decode prog_6_method_5_code 10 = .ok (.if_icmp .ne 11, 3) := by decide +kernel
theorem d_R_isValid_13 : decode prog_6_method_5_code 13 = .ok (.aload_n 0, 1) := by decide +kernel
theorem d_R_isValid_14 : decode prog_6_method_5_code 14 = .ok (.iload_n 1, 1) := by decide +kernel
theorem d_R_isValid_15 : decode prog_6_method_5_code 15 = .ok (.invokevirtual 62, 3) := by decide +kernel
theorem d_R_isValid_18 : decode prog_6_method_5_code 18 = .ok (.ifCond .ne 5, 3) := by decide +kernel
theorem d_R_isValid_21 : decode prog_6_method_5_code 21 = .ok (.iconst 0, 1) := by decide +kernel
theorem d_R_isValid_22 : decode prog_6_method_5_code 22 = .ok (.ireturn, 1) := by decide +kernel
theorem d_R_isValid_23 : decode prog_6_method_5_code 23 = .ok (.iconst 0, 1) := by decide +kernel
theorem d_R_isValid_24 : decode prog_6_method_5_code 24 = .ok (.istore_n 2, 1) := by decide +kernel
theorem d_R_isValid_25 : decode prog_6_method_5_code 25 = .ok (.iload_n 2, 1) := by decide +kernel
theorem d_R_isValid_26 : decode prog_6_method_5_code 26 = .ok (.bipush 8, 2) := by decide +kernel
theorem d_R_isValid_28 : decode prog_6_method_5_code 28 = .ok (.if_icmp .ge 39, 3) := by decide +kernel
theorem d_R_isValid_31 : decode prog_6_method_5_code 31 = .ok (.aload_n 0, 1) := by decide +kernel
theorem d_R_isValid_32 : decode prog_6_method_5_code 32 = .ok (.getfield 7, 3) := by decide +kernel
theorem d_R_isValid_35 : decode prog_6_method_5_code 35 = .ok (.bipush 16, 2) := by decide +kernel
theorem d_R_isValid_37 : decode prog_6_method_5_code 37 = .ok (.iload_n 1, 1) := by decide +kernel
theorem d_R_isValid_38 : decode prog_6_method_5_code 38 = .ok (.imul, 1) := by decide +kernel
theorem d_R_isValid_39 : decode prog_6_method_5_code 39 = .ok (.iconst 4, 1) := by decide +kernel
theorem d_R_isValid_40 : decode prog_6_method_5_code 40 = .ok (.iadd, 1) := by decide +kernel
theorem d_R_isValid_41 : decode prog_6_method_5_code 41 = .ok (.iload_n 2, 1) := by decide +kernel
theorem d_R_isValid_42 : decode prog_6_method_5_code 42 = .ok (.iadd, 1) := by decide +kernel
theorem d_R_isValid_43 : decode prog_6_method_5_code 43 = .ok (.iaload, 1) := by decide +kernel
theorem d_R_isValid_44 : decode prog_6_method_5_code 44 = .ok (.istore_n 3, 1) := by decide +kernel
theorem d_R_isValid_45 : decode prog_6_method_5_code 45 = .ok (.iload_n 3, 1) := by decide +kernel
theorem d_R_isValid_46 : decode prog_6_method_5_code 46 = .ok (.ifCond .le 15, 3) := by decide +kernel
theorem d_R_isValid_49 : decode prog_6_method_5_code 49 = .ok (.aload_n 0, 1) := by decide +kernel
theorem d_R_isValid_50 : decode prog_6_method_5_code 50 = .ok (.iload_n 3, 1) := by decide +kernel
theorem d_R_isValid_51 : decode prog_6_method_5_code 51 = .ok (.iconst 1, 1) := by decide +kernel
theorem d_R_isValid_52 : decode prog_6_method_5_code 52 = .ok (.isub, 1) := by decide +kernel
theorem d_R_isValid_53 : decode prog_6_method_5_code 53 = .ok (.invokevirtual 62, 3) := by decide +kernel
theorem d_R_isValid_56 : decode prog_6_method_5_code 56 = .ok (.ifCond .ne 5, 3) := by decide +kernel
theorem d_R_isValid_59 : decode prog_6_method_5_code 59 = .ok (.iconst 0, 1) := by decide +kernel
theorem d_R_isValid_60 : decode prog_6_method_5_code 60 = .ok (.ireturn, 1) := by decide +kernel
theorem d_R_isValid_61 : decode prog_6_method_5_code 61 = .ok (.iinc 2 1, 3) := by decide +kernel
theorem d_R_isValid_64 : decode prog_6_method_5_code 64 = .ok (.goto (-39), 3) := by decide +kernel
theorem d_R_isValid_67 : decode prog_6_method_5_code 67 = .ok (.iconst 1, 1) := by decide +kernel
theorem d_R_isValid_68 : decode prog_6_method_5_code 68 = .ok (.ireturn, 1) := by decide +kernel
theorem d_R_tableAt_0 : decode prog_6_method_6_code 0 = .ok (.iconst 0, 1) := by decide +kernel
theorem d_R_tableAt_1 : decode prog_6_method_6_code 1 = .ok (.istore_n 2, 1) := by decide +kernel
theorem d_R_tableAt_2 : decode prog_6_method_6_code 2 = .ok (.iconst 0, 1) := by decide +kernel
theorem d_R_tableAt_3 : decode prog_6_method_6_code 3 = .ok (.istore_n 3, 1) := by decide +kernel
theorem d_R_tableAt_4 : decode prog_6_method_6_code 4 = .ok (.iload_n 3, 1) := by decide +kernel
theorem d_R_tableAt_5 : decode prog_6_method_6_code 5 = .ok (.aload_n 0, 1) := by decide +kernel
theorem d_R_tableAt_6 : decode prog_6_method_6_code 6 = .ok (.getfield 66, 3) := by decide +kernel
theorem d_R_tableAt_9 : decode prog_6_method_6_code 9 = .ok (.if_icmp .ge 27, 3) := by decide +kernel
theorem d_R_tableAt_12 : decode prog_6_method_6_code 12 = .ok (.aload_n 0, 1) := by decide +kernel
theorem d_R_tableAt_13 : decode prog_6_method_6_code 13 = .ok (.iload_n 3, 1) := by decide +kernel
theorem d_R_tableAt_14 : decode prog_6_method_6_code 14 = .ok (.invokevirtual 69, 3) := by decide +kernel
theorem d_R_tableAt_17 : decode prog_6_method_6_code 17 = .ok (.ifCond .eq 13, 3) := by decide +kernel
theorem d_R_tableAt_20 : decode prog_6_method_6_code 20 = .ok (.iinc 2 1, 3) := by decide +kernel
theorem d_R_tableAt_23 : decode prog_6_method_6_code 23 = .ok (.iload_n 2, 1) := by decide +kernel
theorem d_R_tableAt_24 : decode prog_6_method_6_code 24 = .ok (.iload_n 1, 1) := by decide +kernel
theorem d_R_tableAt_25 : decode prog_6_method_6_code 25 = .ok (.if_icmp .ne 5, 3) := by decide +kernel
theorem d_R_tableAt_28 : decode prog_6_method_6_code 28 = .ok (.iload_n 3, 1) := by decide +kernel
theorem d_R_tableAt_29 : decode prog_6_method_6_code 29 = .ok (.ireturn, 1) := by decide +kernel
theorem d_R_tableAt_30 : decode prog_6_method_6_code 30 = .ok (.iinc 3 1, 3) := by decide +kernel
theorem d_R_tableAt_33 : decode prog_6_method_6_code 33 = .ok (.goto (-29), 3) := by decide +kernel
theorem d_R_tableAt_36 : decode prog_6_method_6_code 36 = .ok (.iconst (-1), 1) := by decide +kernel
theorem d_R_tableAt_37 : decode prog_6_method_6_code 37 = .ok (.ireturn, 1) := by decide +kernel
theorem d_R_newest_0 : decode prog_6_method_7_code 0 = .ok (.aload_n 0, 1) := by decide +kernel
theorem d_R_newest_1 : decode prog_6_method_7_code 1 = .ok (.getfield 66, 3) := by decide +kernel
theorem d_R_newest_4 : decode prog_6_method_7_code 4 = .ok (.iconst 1, 1) := by decide +kernel
theorem d_R_newest_5 : decode prog_6_method_7_code 5 = .ok (.isub, 1) := by decide +kernel
theorem d_R_newest_6 : decode prog_6_method_7_code 6 = .ok (.istore_n 1, 1) := by decide +kernel
theorem d_R_newest_7 : decode prog_6_method_7_code 7 = .ok (.iload_n 1, 1) := by decide +kernel
theorem d_R_newest_8 : decode prog_6_method_7_code 8 = .ok (.ifCond .lt 19, 3) := by decide +kernel
theorem d_R_newest_11 : decode prog_6_method_7_code 11 = .ok (.aload_n 0, 1) := by decide +kernel
theorem d_R_newest_12 : decode prog_6_method_7_code 12 = .ok (.iload_n 1, 1) := by decide +kernel
theorem d_R_newest_13 : decode prog_6_method_7_code 13 = .ok (.invokevirtual 69, 3) := by decide +kernel
theorem d_R_newest_16 : decode prog_6_method_7_code 16 = .ok (.ifCond .eq 5, 3) := by decide +kernel
theorem d_R_newest_19 : decode prog_6_method_7_code 19 = .ok (.iload_n 1, 1) := by decide +kernel
theorem d_R_newest_20 : decode prog_6_method_7_code 20 = .ok (.ireturn, 1) := by decide +kernel
theorem d_R_newest_21 : decode prog_6_method_7_code 21 = .ok (.iinc 1 (-1), 3) := by decide +kernel
theorem d_R_newest_24 : decode prog_6_method_7_code 24 = .ok (.goto (-17), 3) := by decide +kernel
theorem d_R_newest_27 : decode prog_6_method_7_code 27 = .ok (.iconst (-1), 1) := by decide +kernel
theorem d_R_newest_28 : decode prog_6_method_7_code 28 = .ok (.ireturn, 1) := by decide +kernel
theorem d_R_clearSector_0 : decode prog_6_method_8_code 0 = .ok (.iconst 0, 1) := by decide +kernel
theorem d_R_clearSector_1 : decode prog_6_method_8_code 1 = .ok (.istore_n 3, 1) := by decide +kernel
theorem d_R_clearSector_2 : decode prog_6_method_8_code 2 = .ok (.iload_n 3, 1) := by decide +kernel
theorem d_R_clearSector_3 : decode prog_6_method_8_code 3 = .ok (.bipush 16, 2) := by decide +kernel
theorem d_R_clearSector_5 : decode prog_6_method_8_code 5 = .ok (.if_icmp .ge 16, 3) := by decide +kernel
theorem d_R_clearSector_8 : decode prog_6_method_8_code 8 = .ok (.aload_n 0, 1) := by decide +kernel
theorem d_R_clearSector_9 : decode prog_6_method_8_code 9 = .ok (.getfield 38, 3) := by decide +kernel
theorem d_R_clearSector_12 : decode prog_6_method_8_code 12 = .ok (.iload_n 3, 1) := by decide +kernel
theorem d_R_clearSector_13 : decode prog_6_method_8_code 13 = .ok (.iconst 0, 1) := by decide +kernel
theorem d_R_clearSector_14 : decode prog_6_method_8_code 14 = .ok (.iastore, 1) := by decide +kernel
theorem d_R_clearSector_15 : decode prog_6_method_8_code 15 = .ok (.iinc 3 1, 3) := by decide +kernel
theorem d_R_clearSector_18 : decode prog_6_method_8_code 18 = .ok (.goto (-16), 3) := by decide +kernel
theorem d_R_clearSector_21 : decode prog_6_method_8_code 21 = .ok (.aload_n 0, 1) := by decide +kernel
theorem d_R_clearSector_22 : decode prog_6_method_8_code 22 = .ok (.getfield 38, 3) := by decide +kernel
theorem d_R_clearSector_25 : decode prog_6_method_8_code 25 = .ok (.iconst 0, 1) := by decide +kernel
theorem d_R_clearSector_26 : decode prog_6_method_8_code 26 = .ok (.iload_n 1, 1) := by decide +kernel
theorem d_R_clearSector_27 : decode prog_6_method_8_code 27 = .ok (.iastore, 1) := by decide +kernel
theorem d_R_clearSector_28 : decode prog_6_method_8_code 28 = .ok (.aload_n 0, 1) := by decide +kernel
theorem d_R_clearSector_29 : decode prog_6_method_8_code 29 = .ok (.getfield 38, 3) := by decide +kernel
theorem d_R_clearSector_32 : decode prog_6_method_8_code 32 = .ok (.iconst 2, 1) := by decide +kernel
theorem d_R_clearSector_33 : decode prog_6_method_8_code 33 = .ok (.aload_n 0, 1) := by decide +kernel
theorem d_R_clearSector_34 : decode prog_6_method_8_code 34 = .ok (.getfield 66, 3) := by decide +kernel
theorem d_R_clearSector_37 : decode prog_6_method_8_code 37 = .ok (.iastore, 1) := by decide +kernel
theorem d_R_clearSector_38 : decode prog_6_method_8_code 38 = .ok (.aload_n 0, 1) := by decide +kernel
theorem d_R_clearSector_39 : decode prog_6_method_8_code 39 = .ok (.getfield 38, 3) := by decide +kernel
theorem d_R_clearSector_42 : decode prog_6_method_8_code 42 = .ok (.iconst 3, 1) := by decide +kernel
theorem d_R_clearSector_43 : decode prog_6_method_8_code 43 = .ok (.iload_n 2, 1) := by decide +kernel
theorem d_R_clearSector_44 : decode prog_6_method_8_code 44 = .ok (.iastore, 1) := by decide +kernel
theorem d_R_clearSector_45 : decode prog_6_method_8_code 45 = .ok (.return_, 1) := by decide +kernel
theorem d_R_writeSector_0 : decode prog_6_method_9_code 0 = .ok (.bipush 16, 2) := by decide +kernel
theorem d_R_writeSector_2 : decode prog_6_method_9_code 2 = .ok (.aload_n 0, 1) := by decide +kernel
theorem d_R_writeSector_3 : decode prog_6_method_9_code 3 = .ok (.getfield 66, 3) := by decide +kernel
theorem d_R_writeSector_6 : decode prog_6_method_9_code 6 = .ok (.imul, 1) := by decide +kernel
theorem d_R_writeSector_7 : decode prog_6_method_9_code 7 = .ok (.istore_n 1, 1) := by decide +kernel
theorem d_R_writeSector_8 : decode prog_6_method_9_code 8 = .ok (.iconst 0, 1) := by decide +kernel
theorem d_R_writeSector_9 : decode prog_6_method_9_code 9 = .ok (.istore_n 2, 1) := by decide +kernel
theorem d_R_writeSector_10 : decode prog_6_method_9_code 10 = .ok (.iload_n 2, 1) := by decide +kernel
theorem d_R_writeSector_11 : decode prog_6_method_9_code 11 = .ok (.bipush 16, 2) := by decide +kernel
theorem d_R_writeSector_13 : decode prog_6_method_9_code 13 = .ok (.if_icmp .ge 23, 3) := by decide +kernel
theorem d_R_writeSector_16 : decode prog_6_method_9_code 16 = .ok (.aload_n 0, 1) := by decide +kernel
theorem d_R_writeSector_17 : decode prog_6_method_9_code 17 = .ok (.getfield 7, 3) := by decide +kernel
theorem d_R_writeSector_20 : decode prog_6_method_9_code 20 = .ok (.iload_n 1, 1) := by decide +kernel
theorem d_R_writeSector_21 : decode prog_6_method_9_code 21 = .ok (.iload_n 2, 1) := by decide +kernel
theorem d_R_writeSector_22 : decode prog_6_method_9_code 22 = .ok (.iadd, 1) := by decide +kernel
theorem d_R_writeSector_23 : decode prog_6_method_9_code 23 = .ok (.aload_n 0, 1) := by decide +kernel
theorem d_R_writeSector_24 : decode prog_6_method_9_code 24 = .ok (.getfield 38, 3) := by decide +kernel
theorem d_R_writeSector_27 : decode prog_6_method_9_code 27 = .ok (.iload_n 2, 1) := by decide +kernel
theorem d_R_writeSector_28 : decode prog_6_method_9_code 28 = .ok (.iaload, 1) := by decide +kernel
theorem d_R_writeSector_29 : decode prog_6_method_9_code 29 = .ok (.iastore, 1) := by decide +kernel
theorem d_R_writeSector_30 : decode prog_6_method_9_code 30 = .ok (.iinc 2 1, 3) := by decide +kernel
theorem d_R_writeSector_33 : decode prog_6_method_9_code 33 = .ok (.goto (-23), 3) := by decide +kernel
theorem d_R_writeSector_36 : decode prog_6_method_9_code 36 = .ok (.aload_n 0, 1) := by decide +kernel
theorem d_R_writeSector_37 : decode prog_6_method_9_code 37 = .ok (.getfield 7, 3) := by decide +kernel
theorem d_R_writeSector_40 : decode prog_6_method_9_code 40 = .ok (.iload_n 1, 1) := by decide +kernel
theorem d_R_writeSector_41 : decode prog_6_method_9_code 41 = .ok (.iconst 1, 1) := by decide +kernel
theorem d_R_writeSector_42 : decode prog_6_method_9_code 42 = .ok (.iadd, 1) := by decide +kernel
theorem d_R_writeSector_43 : decode prog_6_method_9_code 43 = .ok (.aload_n 0, 1) := by decide +kernel
theorem d_R_writeSector_44 : decode prog_6_method_9_code 44 = .ok (.aload_n 0, 1) := by decide +kernel
theorem d_R_writeSector_45 : decode prog_6_method_9_code 45 = .ok (.getfield 66, 3) := by decide +kernel
theorem d_R_writeSector_48 : decode prog_6_method_9_code 48 = .ok (.invokevirtual 58, 3) := by decide +kernel
theorem d_R_writeSector_51 : decode prog_6_method_9_code 51 = .ok (.iastore, 1) := by decide +kernel
theorem d_R_writeSector_52 : decode prog_6_method_9_code 52 = .ok (.aload_n 0, 1) := by decide +kernel
theorem d_R_writeSector_53 : decode prog_6_method_9_code 53 = .ok (.getfield 72, 3) := by decide +kernel
theorem d_R_writeSector_56 : decode prog_6_method_9_code 56 = .ok (.ifCond .eq 14, 3) := by decide +kernel
theorem d_R_writeSector_59 : decode prog_6_method_9_code 59 = .ok (.aload_n 0, 1) := by decide +kernel
theorem d_R_writeSector_60 : decode prog_6_method_9_code 60 = .ok (.getfield 76, 3) := by decide +kernel
theorem d_R_writeSector_63 : decode prog_6_method_9_code 63 = .ok (.ifCond .ne 7, 3) := by decide +kernel
theorem d_R_writeSector_66 : decode prog_6_method_9_code 66 = .ok (.iconst 1, 1) := by decide +kernel
theorem d_R_writeSector_67 : decode prog_6_method_9_code 67 = .ok (.goto 4, 3) := by decide +kernel
theorem d_R_writeSector_70 : decode prog_6_method_9_code 70 = .ok (.iconst 0, 1) := by decide +kernel
theorem d_R_writeSector_71 : decode prog_6_method_9_code 71 = .ok (.istore_n 2, 1) := by decide +kernel
theorem d_R_writeSector_72 : decode prog_6_method_9_code 72 = .ok (.iload_n 2, 1) := by decide +kernel
theorem d_R_writeSector_73 : decode prog_6_method_9_code 73 = .ok (.ifCond .eq 21, 3) := by decide +kernel
theorem d_R_writeSector_76 : decode prog_6_method_9_code 76 = .ok (.aload_n 0, 1) := by decide +kernel
theorem d_R_writeSector_77 : decode prog_6_method_9_code 77 = .ok (.getfield 7, 3) := by decide +kernel
theorem d_R_writeSector_80 : decode prog_6_method_9_code 80 = .ok (.iload_n 1, 1) := by decide +kernel
theorem d_R_writeSector_81 : decode prog_6_method_9_code 81 = .ok (.iconst 1, 1) := by decide +kernel
theorem d_R_writeSector_82 : decode prog_6_method_9_code 82 = .ok (.iadd, 1) := by decide +kernel
theorem d_R_writeSector_83 : decode prog_6_method_9_code 83 = .ok (.aload_n 0, 1) := by decide +kernel
theorem d_R_writeSector_84 : decode prog_6_method_9_code 84 = .ok (.getfield 7, 3) := by decide +kernel
theorem d_R_writeSector_87 : decode prog_6_method_9_code 87 = .ok (.iload_n 1, 1) := by decide +kernel
theorem d_R_writeSector_88 : decode prog_6_method_9_code 88 = .ok (.iconst 1, 1) := by decide +kernel
theorem d_R_writeSector_89 : decode prog_6_method_9_code 89 = .ok (.iadd, 1) := by decide +kernel
theorem d_R_writeSector_90 : decode prog_6_method_9_code 90 = .ok (.iaload, 1) := by decide +kernel
theorem d_R_writeSector_91 : decode prog_6_method_9_code 91 = .ok (.iconst 1, 1) := by decide +kernel
theorem d_R_writeSector_92 : decode prog_6_method_9_code 92 = .ok (.ixor, 1) := by decide +kernel
theorem d_R_writeSector_93 : decode prog_6_method_9_code 93 = .ok (.iastore, 1) := by decide +kernel
theorem d_R_writeSector_94 : decode prog_6_method_9_code 94 = .ok (.aload_n 0, 1) := by decide +kernel
theorem d_R_writeSector_95 : decode prog_6_method_9_code 95 = .ok (.dup, 1) := by decide +kernel
theorem d_R_writeSector_96 : decode prog_6_method_9_code 96 = .ok (.getfield 76, 3) := by decide +kernel
theorem d_R_writeSector_99 : decode prog_6_method_9_code 99 = .ok (.iconst 1, 1) := by decide +kernel
theorem d_R_writeSector_100 : decode prog_6_method_9_code 100 = .ok (.isub, 1) := by decide +kernel
theorem d_R_writeSector_101 : decode prog_6_method_9_code 101 = .ok (.putfield 76, 3) := by decide +kernel
theorem d_R_writeSector_104 : decode prog_6_method_9_code 104 = .ok (.aload_n 0, 1) := by decide +kernel
theorem d_R_writeSector_105 : decode prog_6_method_9_code 105 = .ok (.dup, 1) := by decide +kernel
theorem d_R_writeSector_106 : decode prog_6_method_9_code 106 = .ok (.getfield 66, 3) := by decide +kernel
theorem d_R_writeSector_109 : decode prog_6_method_9_code 109 = .ok (.iconst 1, 1) := by decide +kernel
theorem d_R_writeSector_110 : decode prog_6_method_9_code 110 = .ok (.iadd, 1) := by decide +kernel
theorem d_R_writeSector_111 : decode prog_6_method_9_code 111 = .ok (.putfield 66, 3) := by decide +kernel
theorem d_R_writeSector_114 : decode prog_6_method_9_code 114 = .ok (.iload_n 2, 1) := by decide +kernel
theorem d_R_writeSector_115 : decode prog_6_method_9_code 115 = .ok (.ifCond .eq 12, 3) := by decide +kernel
theorem d_R_writeSector_118 : decode prog_6_method_9_code 118 = .ok (.aload_n 0, 1) := by decide +kernel
theorem d_R_writeSector_119 : decode prog_6_method_9_code 119 = .ok (.invokevirtual 79, 3) := by decide +kernel
theorem d_R_writeSector_122 : decode prog_6_method_9_code 122 = .ok (.aload_n 0, 1) := by decide +kernel
theorem d_R_writeSector_123 : decode prog_6_method_9_code 123 = .ok (.iconst 0, 1) := by decide +kernel
theorem d_R_writeSector_124 : decode prog_6_method_9_code 124 = .ok (.putfield 72, 3) := by decide +kernel
theorem d_R_writeSector_127 : decode prog_6_method_9_code 127 = .ok (.iload_n 2, 1) := by decide +kernel
theorem d_R_writeSector_128 : decode prog_6_method_9_code 128 = .ok (.ifCond .ne 7, 3) := by decide +kernel
theorem d_R_writeSector_131 : decode prog_6_method_9_code 131 = .ok (.iconst 1, 1) := by decide +kernel
theorem d_R_writeSector_132 : decode prog_6_method_9_code 132 = .ok (.goto 4, 3) := by decide +kernel
theorem d_R_writeSector_135 : decode prog_6_method_9_code 135 = .ok (.iconst 0, 1) := by decide +kernel
theorem d_R_writeSector_136 : decode prog_6_method_9_code 136 = .ok (.ireturn, 1) := by decide +kernel
theorem d_R_empty_0 : decode prog_6_method_10_code 0 = .ok (.iconst 0, 1) := by decide +kernel
theorem d_R_empty_1 : decode prog_6_method_10_code 1 = .ok (.istore_n 1, 1) := by decide +kernel
theorem d_R_empty_2 : decode prog_6_method_10_code 2 = .ok (.iload_n 1, 1) := by decide +kernel
theorem d_R_empty_3 : decode prog_6_method_10_code 3 = .ok (.bipush 8, 2) := by decide +kernel
theorem d_R_empty_5 : decode prog_6_method_10_code 5 = .ok (.if_icmp .ge 30, 3) := by decide +kernel
theorem d_R_empty_8 : decode prog_6_method_10_code 8 = .ok (.aload_n 0, 1) := by decide +kernel
theorem d_R_empty_9 : decode prog_6_method_10_code 9 = .ok (.getfield 13, 3) := by decide +kernel
theorem d_R_empty_12 : decode prog_6_method_10_code 12 = .ok (.iload_n 1, 1) := by decide +kernel
theorem d_R_empty_13 : decode prog_6_method_10_code 13 = .ok (.iconst 0, 1) := by decide +kernel
theorem d_R_empty_14 : decode prog_6_method_10_code 14 = .ok (.iastore, 1) := by decide +kernel
theorem d_R_empty_15 : decode prog_6_method_10_code 15 = .ok (.aload_n 0, 1) := by decide +kernel
theorem d_R_empty_16 : decode prog_6_method_10_code 16 = .ok (.getfield 16, 3) := by decide +kernel
theorem d_R_empty_19 : decode prog_6_method_10_code 19 = .ok (.iload_n 1, 1) := by decide +kernel
theorem d_R_empty_20 : decode prog_6_method_10_code 20 = .ok (.iconst 0, 1) := by decide +kernel
theorem d_R_empty_21 : decode prog_6_method_10_code 21 = .ok (.iastore, 1) := by decide +kernel
theorem d_R_empty_22 : decode prog_6_method_10_code 22 = .ok (.aload_n 0, 1) := by decide +kernel
theorem d_R_empty_23 : decode prog_6_method_10_code 23 = .ok (.getfield 22, 3) := by decide +kernel
theorem d_R_empty_26 : decode prog_6_method_10_code 26 = .ok (.iload_n 1, 1) := by decide +kernel
theorem d_R_empty_27 : decode prog_6_method_10_code 27 = .ok (.iconst 0, 1) := by decide +kernel
theorem d_R_empty_28 : decode prog_6_method_10_code 28 = .ok (.bastore, 1) := by decide +kernel
theorem d_R_empty_29 : decode prog_6_method_10_code 29 = .ok (.iinc 1 1, 3) := by decide +kernel
theorem d_R_empty_32 : decode prog_6_method_10_code 32 = .ok (.goto (-30), 3) := by decide +kernel
theorem d_R_empty_35 : decode prog_6_method_10_code 35 = .ok (.aload_n 0, 1) := by decide +kernel
theorem d_R_empty_36 : decode prog_6_method_10_code 36 = .ok (.getfield 13, 3) := by decide +kernel
theorem d_R_empty_39 : decode prog_6_method_10_code 39 = .ok (.iconst 0, 1) := by decide +kernel
theorem d_R_empty_40 : decode prog_6_method_10_code 40 = .ok (.iconst 1, 1) := by decide +kernel
theorem d_R_empty_41 : decode prog_6_method_10_code 41 = .ok (.iastore, 1) := by decide +kernel
theorem d_R_empty_42 : decode prog_6_method_10_code 42 = .ok (.aload_n 0, 1) := by decide +kernel
theorem d_R_empty_43 : decode prog_6_method_10_code 43 = .ok (.getfield 22, 3) := by decide +kernel
theorem d_R_empty_46 : decode prog_6_method_10_code 46 = .ok (.iconst 0, 1) := by decide +kernel
theorem d_R_empty_47 : decode prog_6_method_10_code 47 = .ok (.iconst 1, 1) := by decide +kernel
theorem d_R_empty_48 : decode prog_6_method_10_code 48 = .ok (.bastore, 1) := by decide +kernel
theorem d_R_empty_49 : decode prog_6_method_10_code 49 = .ok (.return_, 1) := by decide +kernel
theorem d_R_lookAtTable_0 : decode prog_6_method_11_code 0 = .ok (.iconst 0, 1) := by decide +kernel
theorem d_R_lookAtTable_1 : decode prog_6_method_11_code 1 = .ok (.istore_n 2, 1) := by decide +kernel
theorem d_R_lookAtTable_2 : decode prog_6_method_11_code 2 = .ok (.iload_n 2, 1) := by decide +kernel
theorem d_R_lookAtTable_3 : decode prog_6_method_11_code 3 = .ok (.bipush 8, 2) := by decide +kernel
theorem d_R_lookAtTable_5 : decode prog_6_method_11_code 5 = .ok (.if_icmp .ge 129, 3) := by decide +kernel
theorem d_R_lookAtTable_8 : decode prog_6_method_11_code 8 = .ok (.bipush 16, 2) := by decide +kernel
theorem d_R_lookAtTable_10 : decode prog_6_method_11_code 10 = .ok (.aload_n 0, 1) := by decide +kernel
theorem d_R_lookAtTable_11 : decode prog_6_method_11_code 11 = .ok (.getfield 7, 3) := by decide +kernel
theorem d_R_lookAtTable_14 : decode prog_6_method_11_code 14 = .ok (.bipush 16, 2) := by decide +kernel
theorem d_R_lookAtTable_16 : decode prog_6_method_11_code 16 = .ok (.iload_n 1, 1) := by decide +kernel
theorem d_R_lookAtTable_17 : decode prog_6_method_11_code 17 = .ok (.imul, 1) := by decide +kernel
theorem d_R_lookAtTable_18 : decode prog_6_method_11_code 18 = .ok (.iconst 4, 1) := by decide +kernel
theorem d_R_lookAtTable_19 : decode prog_6_method_11_code 19 = .ok (.iadd, 1) := by decide +kernel
theorem d_R_lookAtTable_20 : decode prog_6_method_11_code 20 = .ok (.iload_n 2, 1) := by decide +kernel
theorem d_R_lookAtTable_21 : decode prog_6_method_11_code 21 = .ok (.iadd, 1) := by decide +kernel
theorem d_R_lookAtTable_22 : decode prog_6_method_11_code 22 = .ok (.iaload, 1) := by decide +kernel
theorem d_R_lookAtTable_23 : decode prog_6_method_11_code 23 = .ok (.iconst 1, 1) := by decide +kernel
theorem d_R_lookAtTable_24 : decode prog_6_method_11_code 24 = .ok (.isub, 1) := by decide +kernel
theorem d_R_lookAtTable_25 : decode prog_6_method_11_code 25 = .ok (.imul, 1) := by decide +kernel
theorem d_R_lookAtTable_26 : decode prog_6_method_11_code 26 = .ok (.istore_n 3, 1) := by decide +kernel
theorem d_R_lookAtTable_27 : decode prog_6_method_11_code 27 = .ok (.iload_n 3, 1) := by decide +kernel
theorem d_R_lookAtTable_28 : decode prog_6_method_11_code 28 = .ok (.ifCond .lt 7, 3) := by decide +kernel
theorem d_R_lookAtTable_31 : decode prog_6_method_11_code 31 = .ok (.iconst 1, 1) := by decide +kernel
theorem d_R_lookAtTable_32 : decode prog_6_method_11_code 32 = .ok (.goto 4, 3) := by decide +kernel
theorem d_R_lookAtTable_35 : decode prog_6_method_11_code 35 = .ok (.iconst 0, 1) := by decide +kernel
theorem d_R_lookAtTable_36 : decode prog_6_method_11_code 36 = .ok (.istore 4, 2) := by decide +kernel
theorem d_R_lookAtTable_38 : decode prog_6_method_11_code 38 = .ok (.aload_n 0, 1) := by decide +kernel
theorem d_R_lookAtTable_39 : decode prog_6_method_11_code 39 = .ok (.getfield 29, 3) := by decide +kernel
theorem d_R_lookAtTable_42 : decode prog_6_method_11_code 42 = .ok (.iload_n 2, 1) := by decide +kernel
theorem d_R_lookAtTable_43 : decode prog_6_method_11_code 43 = .ok (.iload 4, 2) := by decide +kernel
theorem d_R_lookAtTable_45 : decode prog_6_method_11_code 45 = .ok (.ifCond .eq 14, 3) := by decide +kernel
theorem d_R_lookAtTable_48 : decode prog_6_method_11_code 48 = .ok (.aload_n 0, 1) := by decide +kernel
theorem d_R_lookAtTable_49 : decode prog_6_method_11_code 49 = .ok (.getfield 7, 3) := by decide +kernel
theorem d_R_lookAtTable_52 : decode prog_6_method_11_code 52 = .ok (.iload_n 3, 1) := by decide +kernel
theorem d_R_lookAtTable_53 : decode prog_6_method_11_code 53 = .ok (.iconst 4, 1) := by decide +kernel
theorem d_R_lookAtTable_54 : decode prog_6_method_11_code 54 = .ok (.iadd, 1) := by decide +kernel
theorem d_R_lookAtTable_55 : decode prog_6_method_11_code 55 = .ok (.iaload, 1) := by decide +kernel
theorem d_R_lookAtTable_56 : decode prog_6_method_11_code 56 = .ok (.goto 4, 3) := by decide +kernel
theorem d_R_lookAtTable_59 : decode prog_6_method_11_code 59 = .ok (.iconst 0, 1) := by decide +kernel
theorem d_R_lookAtTable_60 : decode prog_6_method_11_code 60 = .ok (.iastore, 1) := by decide +kernel
theorem d_R_lookAtTable_61 : decode prog_6_method_11_code 61 = .ok (.aload_n 0, 1) := by decide +kernel
theorem d_R_lookAtTable_62 : decode prog_6_method_11_code 62 = .ok (.getfield 32, 3) := by decide +kernel
theorem d_R_lookAtTable_65 : decode prog_6_method_11_code 65 = .ok (.iload_n 2, 1) := by decide +kernel
theorem d_R_lookAtTable_66 : decode prog_6_method_11_code 66 = .ok (.iload 4, 2) := by decide +kernel
theorem d_R_lookAtTable_68 : decode prog_6_method_11_code 68 = .ok (.ifCond .eq 14, 3) := by decide +kernel
theorem d_R_lookAtTable_71 : decode prog_6_method_11_code 71 = .ok (.aload_n 0, 1) := by decide +kernel
theorem d_R_lookAtTable_72 : decode prog_6_method_11_code 72 = .ok (.getfield 7, 3) := by decide +kernel
theorem d_R_lookAtTable_75 : decode prog_6_method_11_code 75 = .ok (.iload_n 3, 1) := by decide +kernel
theorem d_R_lookAtTable_76 : decode prog_6_method_11_code 76 = .ok (.iconst 5, 1) := by decide +kernel
theorem d_R_lookAtTable_77 : decode prog_6_method_11_code 77 = .ok (.iadd, 1) := by decide +kernel
theorem d_R_lookAtTable_78 : decode prog_6_method_11_code 78 = .ok (.iaload, 1) := by decide +kernel
theorem d_R_lookAtTable_79 : decode prog_6_method_11_code 79 = .ok (.goto 4, 3) := by decide +kernel
theorem d_R_lookAtTable_82 : decode prog_6_method_11_code 82 = .ok (.iconst 0, 1) := by decide +kernel
theorem d_R_lookAtTable_83 : decode prog_6_method_11_code 83 = .ok (.iastore, 1) := by decide +kernel
theorem d_R_lookAtTable_84 : decode prog_6_method_11_code 84 = .ok (.iconst 0, 1) := by decide +kernel
theorem d_R_lookAtTable_85 : decode prog_6_method_11_code 85 = .ok (.istore 5, 2) := by decide +kernel
theorem d_R_lookAtTable_87 : decode prog_6_method_11_code 87 = .ok (.iload 5, 2) := by decide +kernel
theorem d_R_lookAtTable_89 : decode prog_6_method_11_code 89 = .ok (.aload_n 0, 1) := by decide +kernel
theorem d_R_lookAtTable_90 : decode prog_6_method_11_code 90 = .ok (.getfield 32, 3) := by decide +kernel
theorem d_R_lookAtTable_93 : decode prog_6_method_11_code 93 = .ok (.iload_n 2, 1) := by decide +kernel
theorem d_R_lookAtTable_94 : decode prog_6_method_11_code 94 = .ok (.iaload, 1) := by decide +kernel
theorem d_R_lookAtTable_95 : decode prog_6_method_11_code 95 = .ok (.if_icmp .ge 33, 3) := by decide +kernel
theorem d_R_lookAtTable_98 : decode prog_6_method_11_code 98 = .ok (.aload_n 0, 1) := by decide +kernel
theorem d_R_lookAtTable_99 : decode prog_6_method_11_code 99 = .ok (.getfield 35, 3) := by decide +kernel
theorem d_R_lookAtTable_102 : decode prog_6_method_11_code 102 = .ok (.bipush 10, 2) := by decide +kernel
theorem d_R_lookAtTable_104 : decode prog_6_method_11_code 104 = .ok (.iload_n 2, 1) := by decide +kernel
theorem d_R_lookAtTable_105 : decode prog_6_method_11_code 105 = .ok (.imul, 1) := by decide +kernel
theorem d_R_lookAtTable_106 : decode prog_6_method_11_code 106 = .ok (.iload 5, 2) := by decide +kernel
theorem d_R_lookAtTable_108 : decode prog_6_method_11_code 108 = .ok (.iadd, 1) := by decide +kernel
theorem d_R_lookAtTable_109 : decode prog_6_method_11_code 109 = .ok (.aload_n 0, 1) := by decide +kernel
theorem d_R_lookAtTable_110 : decode prog_6_method_11_code 110 = .ok (.getfield 7, 3) := by decide +kernel
theorem d_R_lookAtTable_113 : decode prog_6_method_11_code 113 = .ok (.iload_n 3, 1) := by decide +kernel
theorem d_R_lookAtTable_114 : decode prog_6_method_11_code 114 = .ok (.bipush 6, 2) := by decide +kernel
theorem d_R_lookAtTable_116 : decode prog_6_method_11_code 116 = .ok (.iadd, 1) := by decide +kernel
theorem d_R_lookAtTable_117 : decode prog_6_method_11_code 117 = .ok (.iload 5, 2) := by decide +kernel
theorem d_R_lookAtTable_119 : decode prog_6_method_11_code 119 = .ok (.iadd, 1) := by decide +kernel
theorem d_R_lookAtTable_120 : decode prog_6_method_11_code 120 = .ok (.iaload, 1) := by decide +kernel
theorem d_R_lookAtTable_121 : decode prog_6_method_11_code 121 = .ok (.iastore, 1) := by decide +kernel
theorem d_R_lookAtTable_122 : decode prog_6_method_11_code 122 = .ok (.iinc 5 1, 3) := by decide +kernel
theorem d_R_lookAtTable_125 : decode prog_6_method_11_code 125 = .ok (.goto (-38), 3) := by decide +kernel
theorem d_R_lookAtTable_128 : decode prog_6_method_11_code 128 = .ok (.iinc 2 1, 3) := by decide +kernel
theorem d_R_lookAtTable_131 : decode prog_6_method_11_code 131 = .ok (.goto (-129), 3) := by decide +kernel
theorem d_R_lookAtTable_134 : decode prog_6_method_11_code 134 = .ok (.return_, 1) := by decide +kernel
theorem d_R_lookAtHand_0 : decode prog_6_method_12_code 0 = .ok (.iconst 0, 1) := by decide +kernel
theorem d_R_lookAtHand_1 : decode prog_6_method_12_code 1 = .ok (.istore_n 1, 1) := by decide +kernel
theorem d_R_lookAtHand_2 : decode prog_6_method_12_code 2 = .ok (.iload_n 1, 1) := by decide +kernel
theorem d_R_lookAtHand_3 : decode prog_6_method_12_code 3 = .ok (.bipush 8, 2) := by decide +kernel
theorem d_R_lookAtHand_5 : decode prog_6_method_12_code 5 = .ok (.if_icmp .ge 33, 3) := by decide +kernel
theorem d_R_lookAtHand_8 : decode prog_6_method_12_code 8 = .ok (.aload_n 0, 1) := by decide +kernel
theorem d_R_lookAtHand_9 : decode prog_6_method_12_code 9 = .ok (.getfield 29, 3) := by decide +kernel
theorem d_R_lookAtHand_12 : decode prog_6_method_12_code 12 = .ok (.iload_n 1, 1) := by decide +kernel
theorem d_R_lookAtHand_13 : decode prog_6_method_12_code 13 = .ok (.aload_n 0, 1) := by decide +kernel
theorem d_R_lookAtHand_14 : decode prog_6_method_12_code 14 = .ok (.getfield 13, 3) := by decide +kernel
theorem d_R_lookAtHand_17 : decode prog_6_method_12_code 17 = .ok (.iload_n 1, 1) := by decide +kernel
theorem d_R_lookAtHand_18 : decode prog_6_method_12_code 18 = .ok (.iaload, 1) := by decide +kernel
theorem d_R_lookAtHand_19 : decode prog_6_method_12_code 19 = .ok (.iastore, 1) := by decide +kernel
theorem d_R_lookAtHand_20 : decode prog_6_method_12_code 20 = .ok (.aload_n 0, 1) := by decide +kernel
theorem d_R_lookAtHand_21 : decode prog_6_method_12_code 21 = .ok (.getfield 32, 3) := by decide +kernel
theorem d_R_lookAtHand_24 : decode prog_6_method_12_code 24 = .ok (.iload_n 1, 1) := by decide +kernel
theorem d_R_lookAtHand_25 : decode prog_6_method_12_code 25 = .ok (.aload_n 0, 1) := by decide +kernel
theorem d_R_lookAtHand_26 : decode prog_6_method_12_code 26 = .ok (.getfield 16, 3) := by decide +kernel
theorem d_R_lookAtHand_29 : decode prog_6_method_12_code 29 = .ok (.iload_n 1, 1) := by decide +kernel
theorem d_R_lookAtHand_30 : decode prog_6_method_12_code 30 = .ok (.iaload, 1) := by decide +kernel
theorem d_R_lookAtHand_31 : decode prog_6_method_12_code 31 = .ok (.iastore, 1) := by decide +kernel
theorem d_R_lookAtHand_32 : decode prog_6_method_12_code 32 = .ok (.iinc 1 1, 3) := by decide +kernel
theorem d_R_lookAtHand_35 : decode prog_6_method_12_code 35 = .ok (.goto (-33), 3) := by decide +kernel
theorem d_R_lookAtHand_38 : decode prog_6_method_12_code 38 = .ok (.iconst 0, 1) := by decide +kernel
theorem d_R_lookAtHand_39 : decode prog_6_method_12_code 39 = .ok (.istore_n 1, 1) := by decide +kernel
theorem d_R_lookAtHand_40 : decode prog_6_method_12_code 40 = .ok (.iload_n 1, 1) := by decide +kernel
theorem d_R_lookAtHand_41 : decode prog_6_method_12_code 41 = .ok (.bipush 80, 2) := by decide +kernel
theorem d_R_lookAtHand_43 : decode prog_6_method_12_code 43 = .ok (.if_icmp .ge 21, 3) := by decide +kernel
theorem d_R_lookAtHand_46 : decode prog_6_method_12_code 46 = .ok (.aload_n 0, 1) := by decide +kernel
theorem d_R_lookAtHand_47 : decode prog_6_method_12_code 47 = .ok (.getfield 35, 3) := by decide +kernel
theorem d_R_lookAtHand_50 : decode prog_6_method_12_code 50 = .ok (.iload_n 1, 1) := by decide +kernel
theorem d_R_lookAtHand_51 : decode prog_6_method_12_code 51 = .ok (.aload_n 0, 1) := by decide +kernel
theorem d_R_lookAtHand_52 : decode prog_6_method_12_code 52 = .ok (.getfield 19, 3) := by decide +kernel
theorem d_R_lookAtHand_55 : decode prog_6_method_12_code 55 = .ok (.iload_n 1, 1) := by decide +kernel
theorem d_R_lookAtHand_56 : decode prog_6_method_12_code 56 = .ok (.iaload, 1) := by decide +kernel
theorem d_R_lookAtHand_57 : decode prog_6_method_12_code 57 = .ok (.iastore, 1) := by decide +kernel
theorem d_R_lookAtHand_58 : decode prog_6_method_12_code 58 = .ok (.iinc 1 1, 3) := by decide +kernel
theorem d_R_lookAtHand_61 : decode prog_6_method_12_code 61 = .ok (.goto (-21), 3) := by decide +kernel
theorem d_R_lookAtHand_64 : decode prog_6_method_12_code 64 = .ok (.return_, 1) := by decide +kernel
theorem d_R_look_0 : decode prog_6_method_13_code 0 = .ok (.iload_n 1, 1) := by decide +kernel
theorem d_R_look_1 : decode prog_6_method_13_code 1 = .ok (.ifCond .ne 9, 3) := by decide +kernel
theorem d_R_look_4 : decode prog_6_method_13_code 4 = .ok (.aload_n 0, 1) := by decide +kernel
theorem d_R_look_5 : decode prog_6_method_13_code 5 = .ok (.invokevirtual 82, 3) := by decide +kernel
theorem d_R_look_8 : decode prog_6_method_13_code 8 = .ok (.iconst 1, 1) := by decide +kernel
theorem d_R_look_9 : decode prog_6_method_13_code 9 = .ok (.ireturn, 1) := by decide +kernel
theorem d_R_look_10 : decode prog_6_method_13_code 10 = .ok (.iload_n 1, 1) := by decide +kernel
theorem d_R_look_11 : decode prog_6_method_13_code 11 = .ok (.ifCond .ge 7, 3) := by decide +kernel
theorem d_R_look_14 : decode prog_6_method_13_code 14 = .ok (.iconst (-1), 1) := by decide +kernel
theorem d_R_look_15 : decode prog_6_method_13_code 15 = .ok (.goto 8, 3) := by decide +kernel
theorem d_R_look_18 : decode prog_6_method_13_code 18 = .ok (.aload_n 0, 1) := by decide +kernel
theorem d_R_look_19 : decode prog_6_method_13_code 19 = .ok (.iload_n 1, 1) := by decide +kernel
theorem d_R_look_20 : decode prog_6_method_13_code 20 = .ok (.invokevirtual 85, 3) := by decide +kernel
theorem d_R_look_23 : decode prog_6_method_13_code 23 = .ok (.istore_n 2, 1) := by decide +kernel
theorem d_R_look_24 : decode prog_6_method_13_code 24 = .ok (.iload_n 2, 1) := by decide +kernel
theorem d_R_look_25 : decode prog_6_method_13_code 25 = .ok (.ifCond .ge 5, 3) := by decide +kernel
theorem d_R_look_28 : decode prog_6_method_13_code 28 = .ok (.iconst 0, 1) := by decide +kernel
theorem d_R_look_29 : decode prog_6_method_13_code 29 = .ok (.ireturn, 1) := by decide +kernel
theorem d_R_look_30 : decode prog_6_method_13_code 30 = .ok (.aload_n 0, 1) := by decide +kernel
theorem d_R_look_31 : decode prog_6_method_13_code 31 = .ok (.iload_n 2, 1) := by decide +kernel
theorem d_R_look_32 : decode prog_6_method_13_code 32 = .ok (.invokevirtual 88, 3) := by decide +kernel
theorem d_R_look_35 : decode prog_6_method_13_code 35 = .ok (.iconst 1, 1) := by decide +kernel
theorem d_R_look_36 : decode prog_6_method_13_code 36 = .ok (.ireturn, 1) := by decide +kernel
theorem d_R_readBack_0 : decode prog_6_method_14_code 0 = .ok (.aload_n 0, 1) := by decide +kernel
theorem d_R_readBack_1 : decode prog_6_method_14_code 1 = .ok (.invokevirtual 92, 3) := by decide +kernel
theorem d_R_readBack_4 : decode prog_6_method_14_code 4 = .ok (.istore_n 1, 1) := by decide +kernel
theorem d_R_readBack_5 : decode prog_6_method_14_code 5 = .ok (.iload_n 1, 1) := by decide +kernel
theorem d_R_readBack_6 : decode prog_6_method_14_code 6 = .ok (.ifCond .ge 8, 3) := by decide +kernel
theorem d_R_readBack_9 : decode prog_6_method_14_code 9 = .ok (.aload_n 0, 1) := by decide +kernel
theorem d_R_readBack_10 : decode prog_6_method_14_code 10 = .ok (.invokevirtual 48, 3) := by decide +kernel
theorem d_R_readBack_13 : decode prog_6_method_14_code 13 = .ok (.return_, 1) := by decide +kernel
theorem d_R_readBack_14 : decode prog_6_method_14_code 14 = .ok (.aload_n 0, 1) := by decide +kernel
theorem d_R_readBack_15 : decode prog_6_method_14_code 15 = .ok (.iload_n 1, 1) := by decide +kernel
theorem d_R_readBack_16 : decode prog_6_method_14_code 16 = .ok (.invokevirtual 88, 3) := by decide +kernel
theorem d_R_readBack_19 : decode prog_6_method_14_code 19 = .ok (.iconst 0, 1) := by decide +kernel
theorem d_R_readBack_20 : decode prog_6_method_14_code 20 = .ok (.istore_n 2, 1) := by decide +kernel
theorem d_R_readBack_21 : decode prog_6_method_14_code 21 = .ok (.iload_n 2, 1) := by decide +kernel
theorem d_R_readBack_22 : decode prog_6_method_14_code 22 = .ok (.bipush 8, 2) := by decide +kernel
theorem d_R_readBack_24 : decode prog_6_method_14_code 24 = .ok (.if_icmp .ge 61, 3) := by decide +kernel
theorem d_R_readBack_27 : decode prog_6_method_14_code 27 = .ok (.aload_n 0, 1) := by decide +kernel
theorem d_R_readBack_28 : decode prog_6_method_14_code 28 = .ok (.getfield 13, 3) := by decide +kernel
theorem d_R_readBack_31 : decode prog_6_method_14_code 31 = .ok (.iload_n 2, 1) := by decide +kernel
theorem d_R_readBack_32 : decode prog_6_method_14_code 32 = .ok (.aload_n 0, 1) := by decide +kernel
theorem d_R_readBack_33 : decode prog_6_method_14_code 33 = .ok (.getfield 29, 3) := by decide +kernel
theorem d_R_readBack_36 : decode prog_6_method_14_code 36 = .ok (.iload_n 2, 1) := by decide +kernel
theorem d_R_readBack_37 : decode prog_6_method_14_code 37 = .ok (.iaload, 1) := by decide +kernel
theorem d_R_readBack_38 : decode prog_6_method_14_code 38 = .ok (.iastore, 1) := by decide +kernel
theorem d_R_readBack_39 : decode prog_6_method_14_code 39 = .ok (.aload_n 0, 1) := by decide +kernel
theorem d_R_readBack_40 : decode prog_6_method_14_code 40 = .ok (.getfield 16, 3) := by decide +kernel
theorem d_R_readBack_43 : decode prog_6_method_14_code 43 = .ok (.iload_n 2, 1) := by decide +kernel
theorem d_R_readBack_44 : decode prog_6_method_14_code 44 = .ok (.aload_n 0, 1) := by decide +kernel
theorem d_R_readBack_45 : decode prog_6_method_14_code 45 = .ok (.getfield 32, 3) := by decide +kernel
theorem d_R_readBack_48 : decode prog_6_method_14_code 48 = .ok (.iload_n 2, 1) := by decide +kernel
theorem d_R_readBack_49 : decode prog_6_method_14_code 49 = .ok (.iaload, 1) := by decide +kernel
theorem d_R_readBack_50 : decode prog_6_method_14_code 50 = .ok (.iastore, 1) := by decide +kernel
theorem d_R_readBack_51 : decode prog_6_method_14_code 51 = .ok (.aload_n 0, 1) := by decide +kernel
theorem d_R_readBack_52 : decode prog_6_method_14_code 52 = .ok (.getfield 22, 3) := by decide +kernel
theorem d_R_readBack_55 : decode prog_6_method_14_code 55 = .ok (.iload_n 2, 1) := by decide +kernel
theorem d_R_readBack_56 : decode prog_6_method_14_code 56 = .ok (.iconst 0, 1) := by decide +kernel
theorem d_R_readBack_57 : decode prog_6_method_14_code 57 = .ok (.bastore, 1) := by decide +kernel
theorem d_R_readBack_58 : decode prog_6_method_14_code 58 = .ok (.aload_n 0, 1) := by decide +kernel
theorem d_R_readBack_59 : decode prog_6_method_14_code 59 = .ok (.getfield 26, 3) := by decide +kernel
theorem d_R_readBack_62 : decode prog_6_method_14_code 62 = .ok (.iload_n 2, 1) := by decide +kernel
theorem d_R_readBack_63 : decode prog_6_method_14_code 63 = .ok (.aload_n 0, 1) := by decide +kernel
theorem d_R_readBack_64 : decode prog_6_method_14_code 64 = .ok (.getfield 7, 3) := by decide +kernel
theorem d_R_readBack_67 : decode prog_6_method_14_code 67 = .ok (.bipush 16, 2) := by decide +kernel
theorem d_R_readBack_69 : decode prog_6_method_14_code 69 = .ok (.iload_n 1, 1) := by decide +kernel
theorem d_R_readBack_70 : decode prog_6_method_14_code 70 = .ok (.imul, 1) := by decide +kernel
theorem d_R_readBack_71 : decode prog_6_method_14_code 71 = .ok (.iconst 4, 1) := by decide +kernel
theorem d_R_readBack_72 : decode prog_6_method_14_code 72 = .ok (.iadd, 1) := by decide +kernel
theorem d_R_readBack_73 : decode prog_6_method_14_code 73 = .ok (.iload_n 2, 1) := by decide +kernel
theorem d_R_readBack_74 : decode prog_6_method_14_code 74 = .ok (.iadd, 1) := by decide +kernel
theorem d_R_readBack_75 : decode prog_6_method_14_code 75 = .ok (.iaload, 1) := by decide +kernel
theorem d_R_readBack_76 : decode prog_6_method_14_code 76 = .ok (.iconst 1, 1) := by decide +kernel
theorem d_R_readBack_77 : decode prog_6_method_14_code 77 = .ok (.isub, 1) := by decide +kernel
theorem d_R_readBack_78 : decode prog_6_method_14_code 78 = .ok (.iastore, 1) := by decide +kernel
theorem d_R_readBack_79 : decode prog_6_method_14_code 79 = .ok (.iinc 2 1, 3) := by decide +kernel
theorem d_R_readBack_82 : decode prog_6_method_14_code 82 = .ok (.goto (-61), 3) := by decide +kernel
theorem d_R_readBack_85 : decode prog_6_method_14_code 85 = .ok (.iconst 0, 1) := by decide +kernel
theorem d_R_readBack_86 : decode prog_6_method_14_code 86 = .ok (.istore_n 2, 1) := by decide +kernel
theorem d_R_readBack_87 : decode prog_6_method_14_code 87 = .ok (.iload_n 2, 1) := by decide +kernel
theorem d_R_readBack_88 : decode prog_6_method_14_code 88 = .ok (.bipush 80, 2) := by decide +kernel
theorem d_R_readBack_90 : decode prog_6_method_14_code 90 = .ok (.if_icmp .ge 21, 3) := by decide +kernel
theorem d_R_readBack_93 : decode prog_6_method_14_code 93 = .ok (.aload_n 0, 1) := by decide +kernel
theorem d_R_readBack_94 : decode prog_6_method_14_code 94 = .ok (.getfield 19, 3) := by decide +kernel
theorem d_R_readBack_97 : decode prog_6_method_14_code 97 = .ok (.iload_n 2, 1) := by decide +kernel
theorem d_R_readBack_98 : decode prog_6_method_14_code 98 = .ok (.aload_n 0, 1) := by decide +kernel
theorem d_R_readBack_99 : decode prog_6_method_14_code 99 = .ok (.getfield 35, 3) := by decide +kernel
theorem d_R_readBack_102 : decode prog_6_method_14_code 102 = .ok (.iload_n 2, 1) := by decide +kernel
theorem d_R_readBack_103 : decode prog_6_method_14_code 103 = .ok (.iaload, 1) := by decide +kernel
theorem d_R_readBack_104 : decode prog_6_method_14_code 104 = .ok (.iastore, 1) := by decide +kernel
theorem d_R_readBack_105 : decode prog_6_method_14_code 105 = .ok (.iinc 2 1, 3) := by decide +kernel
theorem d_R_readBack_108 : decode prog_6_method_14_code 108 = .ok (.goto (-21), 3) := by decide +kernel
theorem d_R_readBack_111 : decode prog_6_method_14_code 111 = .ok (.return_, 1) := by decide +kernel
theorem d_R_isKind_0 : decode prog_6_method_15_code 0 = .ok (.iload_n 1, 1) := by decide +kernel
theorem d_R_isKind_1 : decode prog_6_method_15_code 1 = .ok (.ifCond .lt 23, 3) := by decide +kernel
theorem d_R_isKind_4 : decode prog_6_method_15_code 4 = .ok (.iload_n 1, 1) := by decide +kernel
theorem d_R_isKind_5 : decode prog_6_method_15_code 5 = .ok (.bipush 8, 2) := by decide +kernel
theorem d_R_isKind_7 : decode prog_6_method_15_code 7 = .ok (.if_icmp .ge 17, 3) := by decide +kernel
theorem d_R_isKind_10 : decode prog_6_method_15_code 10 = .ok (.aload_n 0, 1) := by decide +kernel
theorem d_R_isKind_11 : decode prog_6_method_15_code 11 = .ok (.getfield 13, 3) := by decide +kernel
theorem d_R_isKind_14 : decode prog_6_method_15_code 14 = .ok (.iload_n 1, 1) := by decide +kernel
theorem d_R_isKind_15 : decode prog_6_method_15_code 15 = .ok (.iaload, 1) := by decide +kernel
theorem d_R_isKind_16 : decode prog_6_method_15_code 16 = .ok (.iload_n 2, 1) := by decide +kernel
theorem d_R_isKind_17 : decode prog_6_method_15_code 17 = .ok (.if_icmp .ne 7, 3) := by decide +kernel
theorem d_R_isKind_20 : decode prog_6_method_15_code 20 = .ok (.iconst 1, 1) := by decide +kernel
theorem d_R_isKind_21 : decode prog_6_method_15_code 21 = .ok (.goto 4, 3) := by decide +kernel
theorem d_R_isKind_24 : decode prog_6_method_15_code 24 = .ok (.iconst 0, 1) := by decide +kernel
theorem d_R_isKind_25 : decode prog_6_method_15_code 25 = .ok (.ireturn, 1) := by decide +kernel
theorem d_R_itemOf_0 : decode prog_6_method_16_code 0 = .ok (.iconst 0, 1) := by decide +kernel
theorem d_R_itemOf_1 : decode prog_6_method_16_code 1 = .ok (.istore_n 3, 1) := by decide +kernel
theorem d_R_itemOf_2 : decode prog_6_method_16_code 2 = .ok (.iload_n 3, 1) := by decide +kernel
theorem d_R_itemOf_3 : decode prog_6_method_16_code 3 = .ok (.aload_n 0, 1) := by decide +kernel
theorem d_R_itemOf_4 : decode prog_6_method_16_code 4 = .ok (.getfield 16, 3) := by decide +kernel
theorem d_R_itemOf_7 : decode prog_6_method_16_code 7 = .ok (.iload_n 1, 1) := by decide +kernel
theorem d_R_itemOf_8 : decode prog_6_method_16_code 8 = .ok (.iaload, 1) := by decide +kernel
theorem d_R_itemOf_9 : decode prog_6_method_16_code 9 = .ok (.if_icmp .ge 29, 3) := by decide +kernel
theorem d_R_itemOf_12 : decode prog_6_method_16_code 12 = .ok (.aload_n 0, 1) := by decide +kernel
theorem d_R_itemOf_13 : decode prog_6_method_16_code 13 = .ok (.getfield 19, 3) := by decide +kernel
theorem d_R_itemOf_16 : decode prog_6_method_16_code 16 = .ok (.bipush 10, 2) := by decide +kernel
theorem d_R_itemOf_18 : decode prog_6_method_16_code 18 = .ok (.iload_n 1, 1) := by decide +kernel
theorem d_R_itemOf_19 : decode prog_6_method_16_code 19 = .ok (.imul, 1) := by decide +kernel
theorem d_R_itemOf_20 : decode prog_6_method_16_code 20 = .ok (.iload_n 3, 1) := by decide +kernel
theorem d_R_itemOf_21 : decode prog_6_method_16_code 21 = .ok (.iadd, 1) := by decide +kernel
theorem d_R_itemOf_22 : decode prog_6_method_16_code 22 = .ok (.iaload, 1) := by decide +kernel
theorem d_R_itemOf_23 : decode prog_6_method_16_code 23 = .ok (.bipush 16, 2) := by decide +kernel
theorem d_R_itemOf_25 : decode prog_6_method_16_code 25 = .ok (.idiv, 1) := by decide +kernel
theorem d_R_itemOf_26 : decode prog_6_method_16_code 26 = .ok (.iload_n 2, 1) := by decide +kernel
theorem d_R_itemOf_27 : decode prog_6_method_16_code 27 = .ok (.if_icmp .ne 5, 3) := by decide +kernel
theorem d_R_itemOf_30 : decode prog_6_method_16_code 30 = .ok (.iload_n 3, 1) := by decide +kernel
theorem d_R_itemOf_31 : decode prog_6_method_16_code 31 = .ok (.ireturn, 1) := by decide +kernel
theorem d_R_itemOf_32 : decode prog_6_method_16_code 32 = .ok (.iinc 3 1, 3) := by decide +kernel
theorem d_R_itemOf_35 : decode prog_6_method_16_code 35 = .ok (.goto (-33), 3) := by decide +kernel
theorem d_R_itemOf_38 : decode prog_6_method_16_code 38 = .ok (.iconst (-1), 1) := by decide +kernel
theorem d_R_itemOf_39 : decode prog_6_method_16_code 39 = .ok (.ireturn, 1) := by decide +kernel
theorem d_R_take_0 : decode prog_6_method_17_code 0 = .ok (.iload_n 2, 1) := by decide +kernel
theorem d_R_take_1 : decode prog_6_method_17_code 1 = .ok (.istore_n 3, 1) := by decide +kernel
theorem d_R_take_2 : decode prog_6_method_17_code 2 = .ok (.iload_n 3, 1) := by decide +kernel
theorem d_R_take_3 : decode prog_6_method_17_code 3 = .ok (.iconst 1, 1) := by decide +kernel
theorem d_R_take_4 : decode prog_6_method_17_code 4 = .ok (.iadd, 1) := by decide +kernel
theorem d_R_take_5 : decode prog_6_method_17_code 5 = .ok (.aload_n 0, 1) := by decide +kernel
theorem d_R_take_6 : decode prog_6_method_17_code 6 = .ok (.getfield 16, 3) := by decide +kernel
theorem d_R_take_9 : decode prog_6_method_17_code 9 = .ok (.iload_n 1, 1) := by decide +kernel
theorem d_R_take_10 : decode prog_6_method_17_code 10 = .ok (.iaload, 1) := by decide +kernel
theorem d_R_take_11 : decode prog_6_method_17_code 11 = .ok (.if_icmp .ge 33, 3) := by decide +kernel
theorem d_R_take_14 : decode prog_6_method_17_code 14 = .ok (.aload_n 0, 1) := by decide +kernel
theorem d_R_take_15 : decode prog_6_method_17_code 15 = .ok (.getfield 19, 3) := by decide +kernel
theorem d_R_take_18 : decode prog_6_method_17_code 18 = .ok (.bipush 10, 2) := by decide +kernel
theorem d_R_take_20 : decode prog_6_method_17_code 20 = .ok (.iload_n 1, 1) := by decide +kernel
theorem d_R_take_21 : decode prog_6_method_17_code 21 = .ok (.imul, 1) := by decide +kernel
theorem d_R_take_22 : decode prog_6_method_17_code 22 = .ok (.iload_n 3, 1) := by decide +kernel
theorem d_R_take_23 : decode prog_6_method_17_code 23 = .ok (.iadd, 1) := by decide +kernel
theorem d_R_take_24 : decode prog_6_method_17_code 24 = .ok (.aload_n 0, 1) := by decide +kernel
theorem d_R_take_25 : decode prog_6_method_17_code 25 = .ok (.getfield 19, 3) := by decide +kernel
theorem d_R_take_28 : decode prog_6_method_17_code 28 = .ok (.bipush 10, 2) := by decide +kernel
theorem d_R_take_30 : decode prog_6_method_17_code 30 = .ok (.iload_n 1, 1) := by decide +kernel
theorem d_R_take_31 : decode prog_6_method_17_code 31 = .ok (.imul, 1) := by decide +kernel
theorem d_R_take_32 : decode prog_6_method_17_code 32 = .ok (.iload_n 3, 1) := by decide +kernel
theorem d_R_take_33 : decode prog_6_method_17_code 33 = .ok (.iadd, 1) := by decide +kernel
theorem d_R_take_34 : decode prog_6_method_17_code 34 = .ok (.iconst 1, 1) := by decide +kernel
theorem d_R_take_35 : decode prog_6_method_17_code 35 = .ok (.iadd, 1) := by decide +kernel
theorem d_R_take_36 : decode prog_6_method_17_code 36 = .ok (.iaload, 1) := by decide +kernel
theorem d_R_take_37 : decode prog_6_method_17_code 37 = .ok (.iastore, 1) := by decide +kernel
theorem d_R_take_38 : decode prog_6_method_17_code 38 = .ok (.iinc 3 1, 3) := by decide +kernel
theorem d_R_take_41 : decode prog_6_method_17_code 41 = .ok (.goto (-39), 3) := by decide +kernel
theorem d_R_take_44 : decode prog_6_method_17_code 44 = .ok (.aload_n 0, 1) := by decide +kernel
theorem d_R_take_45 : decode prog_6_method_17_code 45 = .ok (.getfield 16, 3) := by decide +kernel
theorem d_R_take_48 : decode prog_6_method_17_code 48 = .ok (.iload_n 1, 1) := by decide +kernel
theorem d_R_take_49 : decode prog_6_method_17_code 49 = .ok (.aload_n 0, 1) := by decide +kernel
theorem d_R_take_50 : decode prog_6_method_17_code 50 = .ok (.getfield 16, 3) := by decide +kernel
theorem d_R_take_53 : decode prog_6_method_17_code 53 = .ok (.iload_n 1, 1) := by decide +kernel
theorem d_R_take_54 : decode prog_6_method_17_code 54 = .ok (.iaload, 1) := by decide +kernel
theorem d_R_take_55 : decode prog_6_method_17_code 55 = .ok (.iconst 1, 1) := by decide +kernel
theorem d_R_take_56 : decode prog_6_method_17_code 56 = .ok (.isub, 1) := by decide +kernel
theorem d_R_take_57 : decode prog_6_method_17_code 57 = .ok (.iastore, 1) := by decide +kernel
theorem d_R_take_58 : decode prog_6_method_17_code 58 = .ok (.aload_n 0, 1) := by decide +kernel
theorem d_R_take_59 : decode prog_6_method_17_code 59 = .ok (.getfield 22, 3) := by decide +kernel
theorem d_R_take_62 : decode prog_6_method_17_code 62 = .ok (.iload_n 1, 1) := by decide +kernel
theorem d_R_take_63 : decode prog_6_method_17_code 63 = .ok (.iconst 1, 1) := by decide +kernel
theorem d_R_take_64 : decode prog_6_method_17_code 64 = .ok (.bastore, 1) := by decide +kernel
theorem d_R_take_65 : decode prog_6_method_17_code 65 = .ok (.return_, 1) := by decide +kernel
theorem d_R_add_0 : decode prog_6_method_18_code 0 = .ok (.aload_n 0, 1) := by decide +kernel
theorem d_R_add_1 : decode prog_6_method_18_code 1 = .ok (.getfield 19, 3) := by decide +kernel
theorem d_R_add_4 : decode prog_6_method_18_code 4 = .ok (.bipush 10, 2) := by decide +kernel
theorem d_R_add_6 : decode prog_6_method_18_code 6 = .ok (.iload_n 1, 1) := by decide +kernel
theorem d_R_add_7 : decode prog_6_method_18_code 7 = .ok (.imul, 1) := by decide +kernel
theorem d_R_add_8 : decode prog_6_method_18_code 8 = .ok (.aload_n 0, 1) := by decide +kernel
theorem d_R_add_9 : decode prog_6_method_18_code 9 = .ok (.getfield 16, 3) := by decide +kernel
theorem d_R_add_12 : decode prog_6_method_18_code 12 = .ok (.iload_n 1, 1) := by decide +kernel
theorem d_R_add_13 : decode prog_6_method_18_code 13 = .ok (.iaload, 1) := by decide +kernel
theorem d_R_add_14 : decode prog_6_method_18_code 14 = .ok (.iadd, 1) := by decide +kernel
theorem d_R_add_15 : decode prog_6_method_18_code 15 = .ok (.iload_n 2, 1) := by decide +kernel
theorem d_R_add_16 : decode prog_6_method_18_code 16 = .ok (.iastore, 1) := by decide +kernel
theorem d_R_add_17 : decode prog_6_method_18_code 17 = .ok (.aload_n 0, 1) := by decide +kernel
theorem d_R_add_18 : decode prog_6_method_18_code 18 = .ok (.getfield 16, 3) := by decide +kernel
theorem d_R_add_21 : decode prog_6_method_18_code 21 = .ok (.iload_n 1, 1) := by decide +kernel
theorem d_R_add_22 : decode prog_6_method_18_code 22 = .ok (.aload_n 0, 1) := by decide +kernel
theorem d_R_add_23 : decode prog_6_method_18_code 23 = .ok (.getfield 16, 3) := by decide +kernel
theorem d_R_add_26 : decode prog_6_method_18_code 26 = .ok (.iload_n 1, 1) := by decide +kernel
theorem d_R_add_27 : decode prog_6_method_18_code 27 = .ok (.iaload, 1) := by decide +kernel
theorem d_R_add_28 : decode prog_6_method_18_code 28 = .ok (.iconst 1, 1) := by decide +kernel
theorem d_R_add_29 : decode prog_6_method_18_code 29 = .ok (.iadd, 1) := by decide +kernel
theorem d_R_add_30 : decode prog_6_method_18_code 30 = .ok (.iastore, 1) := by decide +kernel
theorem d_R_add_31 : decode prog_6_method_18_code 31 = .ok (.aload_n 0, 1) := by decide +kernel
theorem d_R_add_32 : decode prog_6_method_18_code 32 = .ok (.getfield 22, 3) := by decide +kernel
theorem d_R_add_35 : decode prog_6_method_18_code 35 = .ok (.iload_n 1, 1) := by decide +kernel
theorem d_R_add_36 : decode prog_6_method_18_code 36 = .ok (.iconst 1, 1) := by decide +kernel
theorem d_R_add_37 : decode prog_6_method_18_code 37 = .ok (.bastore, 1) := by decide +kernel
theorem d_R_add_38 : decode prog_6_method_18_code 38 = .ok (.return_, 1) := by decide +kernel
theorem d_R_changedWith_0 : decode prog_6_method_19_code 0 = .ok (.iconst 0, 1) := by decide +kernel
theorem d_R_changedWith_1 : decode prog_6_method_19_code 1 = .ok (.istore 4, 2) := by decide +kernel
theorem d_R_changedWith_3 : decode prog_6_method_19_code 3 = .ok (.iconst 0, 1) := by decide +kernel
theorem d_R_changedWith_4 : decode prog_6_method_19_code 4 = .ok (.istore 5, 2) := by decide +kernel
theorem d_R_changedWith_6 : decode prog_6_method_19_code 6 = .ok (.iload 5, 2) := by decide +kernel
theorem d_R_changedWith_8 : decode prog_6_method_19_code 8 = .ok (.bipush 8, 2) := by decide +kernel
theorem d_R_changedWith_10 : decode prog_6_method_19_code 10 = .ok (.if_icmp .ge 60, 3) := by decide +kernel
theorem d_R_changedWith_13 : decode prog_6_method_19_code 13 = .ok (.aload_n 0, 1) := by decide +kernel
theorem d_R_changedWith_14 : decode prog_6_method_19_code 14 = .ok (.getfield 22, 3) := by decide +kernel
theorem d_R_changedWith_17 : decode prog_6_method_19_code 17 = .ok (.iload 5, 2) := by decide +kernel
theorem d_R_changedWith_19 : decode prog_6_method_19_code 19 = .ok (.baload, 1) := by decide +kernel
theorem d_R_changedWith_20 : decode prog_6_method_19_code 20 = .ok (.ifCond .ne 15, 3) := by decide +kernel
theorem d_R_changedWith_23 : decode prog_6_method_19_code 23 = .ok (.iload 5, 2) := by decide +kernel
theorem d_R_changedWith_25 : decode prog_6_method_19_code 25 = .ok (.iload_n 1, 1) := by decide +kernel
theorem d_R_changedWith_26 : decode prog_6_method_19_code 26 = .ok (.if_icmp .eq 9, 3) := by decide +kernel
theorem d_R_changedWith_29 : decode prog_6_method_19_code 29 = .ok (.iload 5, 2) := by decide +kernel
theorem d_R_changedWith_31 : decode prog_6_method_19_code 31 = .ok (.iload_n 2, 1) := by decide +kernel
theorem d_R_changedWith_32 : decode prog_6_method_19_code 32 = .ok (.if_icmp .ne 7, 3) := by decide +kernel
theorem d_R_changedWith_35 : decode prog_6_method_19_code 35 = .ok (.iconst 1, 1) := by decide +kernel
theorem d_R_changedWith_36 : decode prog_6_method_19_code 36 = .ok (.goto 4, 3) := by decide +kernel
theorem d_R_changedWith_39 : decode prog_6_method_19_code 39 = .ok (.iconst 0, 1) := by decide +kernel
theorem d_R_changedWith_40 : decode prog_6_method_19_code 40 = .ok (.istore 6, 2) := by decide +kernel
theorem d_R_changedWith_42 : decode prog_6_method_19_code 42 = .ok (.iload 6, 2) := by decide +kernel
theorem d_R_changedWith_44 : decode prog_6_method_19_code 44 = .ok (.ifCond .eq 16, 3) := by decide +kernel
theorem d_R_changedWith_47 : decode prog_6_method_19_code 47 = .ok (.iload 5, 2) := by decide +kernel
theorem d_R_changedWith_49 : decode prog_6_method_19_code 49 = .ok (.iload_n 3, 1) := by decide +kernel
theorem d_R_changedWith_50 : decode prog_6_method_19_code 50 = .ok (.if_icmp .eq 10, 3) := by decide +kernel
theorem d_R_changedWith_53 : decode prog_6_method_19_code 53 = .ok (.iload 4, 2) := by decide +kernel
theorem d_R_changedWith_55 : decode prog_6_method_19_code 55 = .ok (.iconst 1, 1) := by decide +kernel
theorem d_R_changedWith_56 : decode prog_6_method_19_code 56 = .ok (.iadd, 1) := by decide +kernel
theorem d_R_changedWith_57 : decode prog_6_method_19_code 57 = .ok (.goto 5, 3) := by decide +kernel
theorem d_R_changedWith_60 : decode prog_6_method_19_code 60 = .ok (.iload 4, 2) := by decide +kernel
theorem d_R_changedWith_62 : decode prog_6_method_19_code 62 = .ok (.istore 4, 2) := by decide +kernel
theorem d_R_changedWith_64 : decode prog_6_method_19_code 64 = .ok (.iinc 5 1, 3) := by decide +kernel
theorem d_R_changedWith_67 : decode prog_6_method_19_code 67 = .ok (.goto (-61), 3) := by decide +kernel
theorem d_R_changedWith_70 : decode prog_6_method_19_code 70 = .ok (.iload 4, 2) := by decide +kernel
theorem d_R_changedWith_72 : decode prog_6_method_19_code 72 = .ok (.ireturn, 1) := by decide +kernel
theorem d_R_tooFew_0 : decode prog_6_method_20_code 0 = .ok (.aload_n 0, 1) := by decide +kernel
theorem d_R_tooFew_1 : decode prog_6_method_20_code 1 = .ok (.getfield 44, 3) := by decide +kernel
theorem d_R_tooFew_4 : decode prog_6_method_20_code 4 = .ok (.aload_n 0, 1) := by decide +kernel
theorem d_R_tooFew_5 : decode prog_6_method_20_code 5 = .ok (.getfield 66, 3) := by decide +kernel
theorem d_R_tooFew_8 : decode prog_6_method_20_code 8 = .ok (.isub, 1) := by decide +kernel
theorem d_R_tooFew_9 : decode prog_6_method_20_code 9 = .ok (.iload_n 1, 1) := by decide +kernel
theorem d_R_tooFew_10 : decode prog_6_method_20_code 10 = .ok (.isub, 1) := by decide +kernel
theorem d_R_tooFew_11 : decode prog_6_method_20_code 11 = .ok (.iload_n 2, 1) := by decide +kernel
theorem d_R_tooFew_12 : decode prog_6_method_20_code 12 = .ok (.iconst 1, 1) := by decide +kernel
theorem d_R_tooFew_13 : decode prog_6_method_20_code 13 = .ok (.iadd, 1) := by decide +kernel
theorem d_R_tooFew_14 : decode prog_6_method_20_code 14 = .ok (.if_icmp .ge 7, 3) := by decide +kernel
theorem d_R_tooFew_17 : decode prog_6_method_20_code 17 = .ok (.iconst 1, 1) := by decide +kernel
theorem d_R_tooFew_18 : decode prog_6_method_20_code 18 = .ok (.goto 4, 3) := by decide +kernel
theorem d_R_tooFew_21 : decode prog_6_method_20_code 21 = .ok (.iconst 0, 1) := by decide +kernel
theorem d_R_tooFew_22 : decode prog_6_method_20_code 22 = .ok (.ireturn, 1) := by decide +kernel
theorem d_R_make_0 : decode prog_6_method_21_code 0 = .ok (.aload_n 0, 1) := by decide +kernel
theorem d_R_make_1 : decode prog_6_method_21_code 1 = .ok (.iload_n 1, 1) := by decide +kernel
theorem d_R_make_2 : decode prog_6_method_21_code 2 = .ok (.iconst 1, 1) := by decide +kernel
theorem d_R_make_3 : decode prog_6_method_21_code 3 = .ok (.invokevirtual 96, 3) := by decide +kernel
theorem d_R_make_6 : decode prog_6_method_21_code 6 = .ok (.ifCond .eq 13, 3) := by decide +kernel
theorem d_R_make_9 : decode prog_6_method_21_code 9 = .ok (.iload_n 2, 1) := by decide +kernel
theorem d_R_make_10 : decode prog_6_method_21_code 10 = .ok (.ifCond .lt 9, 3) := by decide +kernel
theorem d_R_make_13 : decode prog_6_method_21_code 13 = .ok (.iload_n 2, 1) := by decide +kernel
theorem d_R_make_14 : decode prog_6_method_21_code 14 = .ok (.bipush 99, 2) := by decide +kernel
theorem d_R_make_16 : decode prog_6_method_21_code 16 = .ok (.if_icmp .le 5, 3) := by decide +kernel
theorem d_R_make_19 : decode prog_6_method_21_code 19 = .ok (.iconst (-1), 1) := by decide +kernel
theorem d_R_make_20 : decode prog_6_method_21_code 20 = .ok (.ireturn, 1) := by decide +kernel
theorem d_R_make_21 : decode prog_6_method_21_code 21 = .ok (.aload_n 0, 1) := by decide +kernel
theorem d_R_make_22 : decode prog_6_method_21_code 22 = .ok (.iload_n 1, 1) := by decide +kernel
theorem d_R_make_23 : decode prog_6_method_21_code 23 = .ok (.iload_n 2, 1) := by decide +kernel
theorem d_R_make_24 : decode prog_6_method_21_code 24 = .ok (.invokevirtual 100, 3) := by decide +kernel
theorem d_R_make_27 : decode prog_6_method_21_code 27 = .ok (.ifCond .lt 6, 3) := by decide +kernel
theorem d_R_make_30 : decode prog_6_method_21_code 30 = .ok (.bipush (-2), 2) := by decide +kernel
theorem d_R_make_32 : decode prog_6_method_21_code 32 = .ok (.ireturn, 1) := by decide +kernel
theorem d_R_make_33 : decode prog_6_method_21_code 33 = .ok (.iconst 0, 1) := by decide +kernel
theorem d_R_make_34 : decode prog_6_method_21_code 34 = .ok (.istore 4, 2) := by decide +kernel
theorem d_R_make_36 : decode prog_6_method_21_code 36 = .ok (.iload 4, 2) := by decide +kernel
theorem d_R_make_38 : decode prog_6_method_21_code 38 = .ok (.bipush 8, 2) := by decide +kernel
theorem d_R_make_40 : decode prog_6_method_21_code 40 = .ok (.if_icmp .ge 19, 3) := by decide +kernel
theorem d_R_make_43 : decode prog_6_method_21_code 43 = .ok (.aload_n 0, 1) := by decide +kernel
theorem d_R_make_44 : decode prog_6_method_21_code 44 = .ok (.getfield 13, 3) := by decide +kernel
theorem d_R_make_47 : decode prog_6_method_21_code 47 = .ok (.iload 4, 2) := by decide +kernel
theorem d_R_make_49 : decode prog_6_method_21_code 49 = .ok (.iaload, 1) := by decide +kernel
theorem d_R_make_50 : decode prog_6_method_21_code 50 = .ok (.ifCond .eq 9, 3) := by decide +kernel
theorem d_R_make_53 : decode prog_6_method_21_code 53 = .ok (.iinc 4 1, 3) := by decide +kernel
theorem d_R_make_56 : decode prog_6_method_21_code 56 = .ok (.goto (-20), 3) := by decide +kernel
theorem d_R_make_59 : decode prog_6_method_21_code 59 = .ok (.iload 4, 2) := by decide +kernel
theorem d_R_make_61 : decode prog_6_method_21_code 61 = .ok (.bipush 8, 2) := by decide +kernel
theorem d_R_make_63 : decode prog_6_method_21_code 63 = .ok (.if_icmp .ne 6, 3) := by decide +kernel
theorem d_R_make_66 : decode prog_6_method_21_code 66 = .ok (.bipush (-3), 2) := by decide +kernel
theorem d_R_make_68 : decode prog_6_method_21_code 68 = .ok (.ireturn, 1) := by decide +kernel
theorem d_R_make_69 : decode prog_6_method_21_code 69 = .ok (.aload_n 0, 1) := by decide +kernel
theorem d_R_make_70 : decode prog_6_method_21_code 70 = .ok (.iload_n 1, 1) := by decide +kernel
theorem d_R_make_71 : decode prog_6_method_21_code 71 = .ok (.iload 4, 2) := by decide +kernel
theorem d_R_make_73 : decode prog_6_method_21_code 73 = .ok (.iconst (-1), 1) := by decide +kernel
theorem d_R_make_74 : decode prog_6_method_21_code 74 = .ok (.invokevirtual 103, 3) := by decide +kernel
theorem d_R_make_77 : decode prog_6_method_21_code 77 = .ok (.istore 5, 2) := by decide +kernel
end
section
theorem d_R_make_79 : decode prog_6_method_21_code 79 = .ok (.aload_n 0, 1) := by decide +kernel
theorem d_R_make_80 : decode prog_6_method_21_code 80 = .ok (.iconst 0, 1) := by decide +kernel
theorem d_R_make_81 : decode prog_6_method_21_code 81 = .ok (.iload 5, 2) := by decide +kernel
theorem d_R_make_83 : decode prog_6_method_21_code 83 = .ok (.invokevirtual 107, 3) := by decide +kernel
theorem d_R_make_86 : decode prog_6_method_21_code 86 = .ok (.ifCond .eq 6, 3) := by decide +kernel
theorem d_R_make_89 : decode prog_6_method_21_code 89 = .ok (.bipush (-4), 2) := by decide +kernel
theorem d_R_make_91 : decode prog_6_method_21_code 91 = .ok (.ireturn, 1) := by decide +kernel
theorem d_R_make_92 : decode prog_6_method_21_code 92 = .ok (.aload_n 0, 1) := by decide +kernel
theorem d_R_make_93 : decode prog_6_method_21_code 93 = .ok (.getfield 13, 3) := by decide +kernel
theorem d_R_make_96 : decode prog_6_method_21_code 96 = .ok (.iload 4, 2) := by decide +kernel
theorem d_R_make_98 : decode prog_6_method_21_code 98 = .ok (.iload_n 3, 1) := by decide +kernel
theorem d_R_make_99 : decode prog_6_method_21_code 99 = .ok (.ifCond .eq 7, 3) := by decide +kernel
theorem d_R_make_102 : decode prog_6_method_21_code 102 = .ok (.iconst 1, 1) := by decide +kernel
theorem d_R_make_103 : decode prog_6_method_21_code 103 = .ok (.goto 4, 3) := by decide +kernel
theorem d_R_make_106 : decode prog_6_method_21_code 106 = .ok (.iconst 2, 1) := by decide +kernel
theorem d_R_make_107 : decode prog_6_method_21_code 107 = .ok (.iastore, 1) := by decide +kernel
theorem d_R_make_108 : decode prog_6_method_21_code 108 = .ok (.aload_n 0, 1) := by decide +kernel
theorem d_R_make_109 : decode prog_6_method_21_code 109 = .ok (.getfield 16, 3) := by decide +kernel
theorem d_R_make_112 : decode prog_6_method_21_code 112 = .ok (.iload 4, 2) := by decide +kernel
theorem d_R_make_114 : decode prog_6_method_21_code 114 = .ok (.iconst 0, 1) := by decide +kernel
theorem d_R_make_115 : decode prog_6_method_21_code 115 = .ok (.iastore, 1) := by decide +kernel
theorem d_R_make_116 : decode prog_6_method_21_code 116 = .ok (.aload_n 0, 1) := by decide +kernel
theorem d_R_make_117 : decode prog_6_method_21_code 117 = .ok (.getfield 22, 3) := by decide +kernel
theorem d_R_make_120 : decode prog_6_method_21_code 120 = .ok (.iload 4, 2) := by decide +kernel
theorem d_R_make_122 : decode prog_6_method_21_code 122 = .ok (.iconst 1, 1) := by decide +kernel
theorem d_R_make_123 : decode prog_6_method_21_code 123 = .ok (.bastore, 1) := by decide +kernel
theorem d_R_make_124 : decode prog_6_method_21_code 124 = .ok (.aload_n 0, 1) := by decide +kernel
theorem d_R_make_125 : decode prog_6_method_21_code 125 = .ok (.iload_n 1, 1) := by decide +kernel
theorem d_R_make_126 : decode prog_6_method_21_code 126 = .ok (.bipush 16, 2) := by decide +kernel
theorem d_R_make_128 : decode prog_6_method_21_code 128 = .ok (.iload_n 2, 1) := by decide +kernel
theorem d_R_make_129 : decode prog_6_method_21_code 129 = .ok (.imul, 1) := by decide +kernel
theorem d_R_make_130 : decode prog_6_method_21_code 130 = .ok (.iload 4, 2) := by decide +kernel
theorem d_R_make_132 : decode prog_6_method_21_code 132 = .ok (.iadd, 1) := by decide +kernel
theorem d_R_make_133 : decode prog_6_method_21_code 133 = .ok (.invokevirtual 110, 3) := by decide +kernel
theorem d_R_make_136 : decode prog_6_method_21_code 136 = .ok (.iload 4, 2) := by decide +kernel
theorem d_R_make_138 : decode prog_6_method_21_code 138 = .ok (.ireturn, 1) := by decide +kernel
theorem d_R_write_0 : decode prog_6_method_22_code 0 = .ok (.aload_n 0, 1) := by decide +kernel
theorem d_R_write_1 : decode prog_6_method_22_code 1 = .ok (.iload_n 1, 1) := by decide +kernel
theorem d_R_write_2 : decode prog_6_method_22_code 2 = .ok (.iconst 2, 1) := by decide +kernel
theorem d_R_write_3 : decode prog_6_method_22_code 3 = .ok (.invokevirtual 96, 3) := by decide +kernel
theorem d_R_write_6 : decode prog_6_method_22_code 6 = .ok (.ifCond .eq 33, 3) := by decide +kernel
theorem d_R_write_9 : decode prog_6_method_22_code 9 = .ok (.iload_n 3, 1) := by decide +kernel
theorem d_R_write_10 : decode prog_6_method_22_code 10 = .ok (.ifCond .lt 29, 3) := by decide +kernel
theorem d_R_write_13 : decode prog_6_method_22_code 13 = .ok (.iload_n 3, 1) := by decide +kernel
theorem d_R_write_14 : decode prog_6_method_22_code 14 = .ok (.ldc 53, 2) := by decide +kernel
theorem d_R_write_16 : decode prog_6_method_22_code 16 = .ok (.if_icmp .gt 23, 3) := by decide +kernel
theorem d_R_write_19 : decode prog_6_method_22_code 19 = .ok (.iload_n 2, 1) := by decide +kernel
theorem d_R_write_20 : decode prog_6_method_22_code 20 = .ok (.ifCond .lt 19, 3) := by decide +kernel
theorem d_R_write_23 : decode prog_6_method_22_code 23 = .ok (.iload_n 2, 1) := by decide +kernel
theorem d_R_write_24 : decode prog_6_method_22_code 24 = .ok (.aload_n 0, 1) := by decide +kernel
theorem d_R_write_25 : decode prog_6_method_22_code 25 = .ok (.getfield 16, 3) := by decide +kernel
theorem d_R_write_28 : decode prog_6_method_22_code 28 = .ok (.iload_n 1, 1) := by decide +kernel
theorem d_R_write_29 : decode prog_6_method_22_code 29 = .ok (.iaload, 1) := by decide +kernel
theorem d_R_write_30 : decode prog_6_method_22_code 30 = .ok (.if_icmp .gt 9, 3) := by decide +kernel
theorem d_R_write_33 : decode prog_6_method_22_code 33 = .ok (.iload_n 2, 1) := by decide +kernel
theorem d_R_write_34 : decode prog_6_method_22_code 34 = .ok (.bipush 9, 2) := by decide +kernel
theorem d_R_write_36 : decode prog_6_method_22_code 36 = .ok (.if_icmp .le 5, 3) := by decide +kernel
theorem d_R_write_39 : decode prog_6_method_22_code 39 = .ok (.iconst (-1), 1) := by decide +kernel
theorem d_R_write_40 : decode prog_6_method_22_code 40 = .ok (.ireturn, 1) := by decide +kernel
theorem d_R_write_41 : decode prog_6_method_22_code 41 = .ok (.aload_n 0, 1) := by decide +kernel
theorem d_R_write_42 : decode prog_6_method_22_code 42 = .ok (.iload_n 1, 1) := by decide +kernel
theorem d_R_write_43 : decode prog_6_method_22_code 43 = .ok (.iconst (-1), 1) := by decide +kernel
theorem d_R_write_44 : decode prog_6_method_22_code 44 = .ok (.iconst (-1), 1) := by decide +kernel
theorem d_R_write_45 : decode prog_6_method_22_code 45 = .ok (.invokevirtual 103, 3) := by decide +kernel
theorem d_R_write_48 : decode prog_6_method_22_code 48 = .ok (.istore 4, 2) := by decide +kernel
theorem d_R_write_50 : decode prog_6_method_22_code 50 = .ok (.aload_n 0, 1) := by decide +kernel
theorem d_R_write_51 : decode prog_6_method_22_code 51 = .ok (.iconst 1, 1) := by decide +kernel
theorem d_R_write_52 : decode prog_6_method_22_code 52 = .ok (.iload 4, 2) := by decide +kernel
theorem d_R_write_54 : decode prog_6_method_22_code 54 = .ok (.invokevirtual 107, 3) := by decide +kernel
theorem d_R_write_57 : decode prog_6_method_22_code 57 = .ok (.ifCond .eq 6, 3) := by decide +kernel
theorem d_R_write_60 : decode prog_6_method_22_code 60 = .ok (.bipush (-4), 2) := by decide +kernel
theorem d_R_write_62 : decode prog_6_method_22_code 62 = .ok (.ireturn, 1) := by decide +kernel
theorem d_R_write_63 : decode prog_6_method_22_code 63 = .ok (.aload_n 0, 1) := by decide +kernel
theorem d_R_write_64 : decode prog_6_method_22_code 64 = .ok (.getfield 66, 3) := by decide +kernel
theorem d_R_write_67 : decode prog_6_method_22_code 67 = .ok (.istore 5, 2) := by decide +kernel
theorem d_R_write_69 : decode prog_6_method_22_code 69 = .ok (.aload_n 0, 1) := by decide +kernel
theorem d_R_write_70 : decode prog_6_method_22_code 70 = .ok (.iconst 1, 1) := by decide +kernel
theorem d_R_write_71 : decode prog_6_method_22_code 71 = .ok (.iload_n 1, 1) := by decide +kernel
theorem d_R_write_72 : decode prog_6_method_22_code 72 = .ok (.invokevirtual 114, 3) := by decide +kernel
theorem d_R_write_75 : decode prog_6_method_22_code 75 = .ok (.aload_n 0, 1) := by decide +kernel
theorem d_R_write_76 : decode prog_6_method_22_code 76 = .ok (.getfield 38, 3) := by decide +kernel
theorem d_R_write_79 : decode prog_6_method_22_code 79 = .ok (.iconst 4, 1) := by decide +kernel
theorem d_R_write_80 : decode prog_6_method_22_code 80 = .ok (.iload_n 3, 1) := by decide +kernel
theorem d_R_write_81 : decode prog_6_method_22_code 81 = .ok (.iastore, 1) := by decide +kernel
theorem d_R_write_82 : decode prog_6_method_22_code 82 = .ok (.aload_n 0, 1) := by decide +kernel
theorem d_R_write_83 : decode prog_6_method_22_code 83 = .ok (.invokevirtual 117, 3) := by decide +kernel
theorem d_R_write_86 : decode prog_6_method_22_code 86 = .ok (.ifCond .ne 6, 3) := by decide +kernel
theorem d_R_write_89 : decode prog_6_method_22_code 89 = .ok (.bipush (-5), 2) := by decide +kernel
theorem d_R_write_91 : decode prog_6_method_22_code 91 = .ok (.ireturn, 1) := by decide +kernel
theorem d_R_write_92 : decode prog_6_method_22_code 92 = .ok (.aload_n 0, 1) := by decide +kernel
theorem d_R_write_93 : decode prog_6_method_22_code 93 = .ok (.getfield 19, 3) := by decide +kernel
theorem d_R_write_96 : decode prog_6_method_22_code 96 = .ok (.bipush 10, 2) := by decide +kernel
theorem d_R_write_98 : decode prog_6_method_22_code 98 = .ok (.iload_n 1, 1) := by decide +kernel
theorem d_R_write_99 : decode prog_6_method_22_code 99 = .ok (.imul, 1) := by decide +kernel
theorem d_R_write_100 : decode prog_6_method_22_code 100 = .ok (.iload_n 2, 1) := by decide +kernel
theorem d_R_write_101 : decode prog_6_method_22_code 101 = .ok (.iadd, 1) := by decide +kernel
theorem d_R_write_102 : decode prog_6_method_22_code 102 = .ok (.iload 5, 2) := by decide +kernel
theorem d_R_write_104 : decode prog_6_method_22_code 104 = .ok (.iastore, 1) := by decide +kernel
theorem d_R_write_105 : decode prog_6_method_22_code 105 = .ok (.aload_n 0, 1) := by decide +kernel
theorem d_R_write_106 : decode prog_6_method_22_code 106 = .ok (.getfield 16, 3) := by decide +kernel
theorem d_R_write_109 : decode prog_6_method_22_code 109 = .ok (.iload_n 1, 1) := by decide +kernel
theorem d_R_write_110 : decode prog_6_method_22_code 110 = .ok (.iload_n 2, 1) := by decide +kernel
theorem d_R_write_111 : decode prog_6_method_22_code 111 = .ok (.aload_n 0, 1) := by decide +kernel
theorem d_R_write_112 : decode prog_6_method_22_code 112 = .ok (.getfield 16, 3) := by decide +kernel
theorem d_R_write_115 : decode prog_6_method_22_code 115 = .ok (.iload_n 1, 1) := by decide +kernel
theorem d_R_write_116 : decode prog_6_method_22_code 116 = .ok (.iaload, 1) := by decide +kernel
theorem d_R_write_117 : decode prog_6_method_22_code 117 = .ok (.if_icmp .ne 9, 3) := by decide +kernel
theorem d_R_write_120 : decode prog_6_method_22_code 120 = .ok (.iload_n 2, 1) := by decide +kernel
theorem d_R_write_121 : decode prog_6_method_22_code 121 = .ok (.iconst 1, 1) := by decide +kernel
theorem d_R_write_122 : decode prog_6_method_22_code 122 = .ok (.iadd, 1) := by decide +kernel
theorem d_R_write_123 : decode prog_6_method_22_code 123 = .ok (.goto 9, 3) := by decide +kernel
theorem d_R_write_126 : decode prog_6_method_22_code 126 = .ok (.aload_n 0, 1) := by decide +kernel
theorem d_R_write_127 : decode prog_6_method_22_code 127 = .ok (.getfield 16, 3) := by decide +kernel
theorem d_R_write_130 : decode prog_6_method_22_code 130 = .ok (.iload_n 1, 1) := by decide +kernel
theorem d_R_write_131 : decode prog_6_method_22_code 131 = .ok (.iaload, 1) := by decide +kernel
theorem d_R_write_132 : decode prog_6_method_22_code 132 = .ok (.iastore, 1) := by decide +kernel
theorem d_R_write_133 : decode prog_6_method_22_code 133 = .ok (.aload_n 0, 1) := by decide +kernel
theorem d_R_write_134 : decode prog_6_method_22_code 134 = .ok (.getfield 22, 3) := by decide +kernel
theorem d_R_write_137 : decode prog_6_method_22_code 137 = .ok (.iload_n 1, 1) := by decide +kernel
theorem d_R_write_138 : decode prog_6_method_22_code 138 = .ok (.iconst 1, 1) := by decide +kernel
theorem d_R_write_139 : decode prog_6_method_22_code 139 = .ok (.bastore, 1) := by decide +kernel
theorem d_R_write_140 : decode prog_6_method_22_code 140 = .ok (.iload 5, 2) := by decide +kernel
theorem d_R_write_142 : decode prog_6_method_22_code 142 = .ok (.ireturn, 1) := by decide +kernel
theorem d_R_remove_0 : decode prog_6_method_23_code 0 = .ok (.aload_n 0, 1) := by decide +kernel
theorem d_R_remove_1 : decode prog_6_method_23_code 1 = .ok (.iload_n 1, 1) := by decide +kernel
theorem d_R_remove_2 : decode prog_6_method_23_code 2 = .ok (.iconst 1, 1) := by decide +kernel
theorem d_R_remove_3 : decode prog_6_method_23_code 3 = .ok (.invokevirtual 96, 3) := by decide +kernel
theorem d_R_remove_6 : decode prog_6_method_23_code 6 = .ok (.ifCond .eq 12, 3) := by decide +kernel
theorem d_R_remove_9 : decode prog_6_method_23_code 9 = .ok (.aload_n 0, 1) := by decide +kernel
theorem d_R_remove_10 : decode prog_6_method_23_code 10 = .ok (.iload_n 1, 1) := by decide +kernel
theorem d_R_remove_11 : decode prog_6_method_23_code 11 = .ok (.iload_n 2, 1) := by decide +kernel
theorem d_R_remove_12 : decode prog_6_method_23_code 12 = .ok (.invokevirtual 100, 3) := by decide +kernel
theorem d_R_remove_15 : decode prog_6_method_23_code 15 = .ok (.goto 4, 3) := by decide +kernel
theorem d_R_remove_18 : decode prog_6_method_23_code 18 = .ok (.iconst (-1), 1) := by decide +kernel
theorem d_R_remove_19 : decode prog_6_method_23_code 19 = .ok (.istore_n 3, 1) := by decide +kernel
theorem d_R_remove_20 : decode prog_6_method_23_code 20 = .ok (.iload_n 3, 1) := by decide +kernel
theorem d_R_remove_21 : decode prog_6_method_23_code 21 = .ok (.ifCond .ge 5, 3) := by decide +kernel
theorem d_R_remove_24 : decode prog_6_method_23_code 24 = .ok (.iconst (-1), 1) := by decide +kernel
theorem d_R_remove_25 : decode prog_6_method_23_code 25 = .ok (.ireturn, 1) := by decide +kernel
theorem d_R_remove_26 : decode prog_6_method_23_code 26 = .ok (.aload_n 0, 1) := by decide +kernel
theorem d_R_remove_27 : decode prog_6_method_23_code 27 = .ok (.getfield 19, 3) := by decide +kernel
theorem d_R_remove_30 : decode prog_6_method_23_code 30 = .ok (.bipush 10, 2) := by decide +kernel
theorem d_R_remove_32 : decode prog_6_method_23_code 32 = .ok (.iload_n 1, 1) := by decide +kernel
theorem d_R_remove_33 : decode prog_6_method_23_code 33 = .ok (.imul, 1) := by decide +kernel
theorem d_R_remove_34 : decode prog_6_method_23_code 34 = .ok (.iload_n 3, 1) := by decide +kernel
theorem d_R_remove_35 : decode prog_6_method_23_code 35 = .ok (.iadd, 1) := by decide +kernel
theorem d_R_remove_36 : decode prog_6_method_23_code 36 = .ok (.iaload, 1) := by decide +kernel
theorem d_R_remove_37 : decode prog_6_method_23_code 37 = .ok (.bipush 16, 2) := by decide +kernel
theorem d_R_remove_39 : decode prog_6_method_23_code 39 = .ok (.irem, 1) := by decide +kernel
theorem d_R_remove_40 : decode prog_6_method_23_code 40 = .ok (.istore 4, 2) := by decide +kernel
theorem d_R_remove_42 : decode prog_6_method_23_code 42 = .ok (.aload_n 0, 1) := by decide +kernel
theorem d_R_remove_43 : decode prog_6_method_23_code 43 = .ok (.getfield 13, 3) := by decide +kernel
theorem d_R_remove_46 : decode prog_6_method_23_code 46 = .ok (.iload 4, 2) := by decide +kernel
theorem d_R_remove_48 : decode prog_6_method_23_code 48 = .ok (.iaload, 1) := by decide +kernel
theorem d_R_remove_49 : decode prog_6_method_23_code 49 = .ok (.iconst 1, 1) := by decide +kernel
theorem d_R_remove_50 : decode prog_6_method_23_code 50 = .ok (.if_icmp .ne 16, 3) := by decide +kernel
theorem d_R_remove_53 : decode prog_6_method_23_code 53 = .ok (.aload_n 0, 1) := by decide +kernel
theorem d_R_remove_54 : decode prog_6_method_23_code 54 = .ok (.getfield 16, 3) := by decide +kernel
theorem d_R_remove_57 : decode prog_6_method_23_code 57 = .ok (.iload 4, 2) := by decide +kernel
theorem d_R_remove_59 : decode prog_6_method_23_code 59 = .ok (.iaload, 1) := by decide +kernel
theorem d_R_remove_60 : decode prog_6_method_23_code 60 = .ok (.ifCond .le 6, 3) := by decide +kernel
theorem d_R_remove_63 : decode prog_6_method_23_code 63 = .ok (.bipush (-6), 2) := by decide +kernel
theorem d_R_remove_65 : decode prog_6_method_23_code 65 = .ok (.ireturn, 1) := by decide +kernel
theorem d_R_remove_66 : decode prog_6_method_23_code 66 = .ok (.aload_n 0, 1) := by decide +kernel
theorem d_R_remove_67 : decode prog_6_method_23_code 67 = .ok (.iload_n 1, 1) := by decide +kernel
theorem d_R_remove_68 : decode prog_6_method_23_code 68 = .ok (.iconst (-1), 1) := by decide +kernel
theorem d_R_remove_69 : decode prog_6_method_23_code 69 = .ok (.iload 4, 2) := by decide +kernel
theorem d_R_remove_71 : decode prog_6_method_23_code 71 = .ok (.invokevirtual 103, 3) := by decide +kernel
theorem d_R_remove_74 : decode prog_6_method_23_code 74 = .ok (.istore 5, 2) := by decide +kernel
theorem d_R_remove_76 : decode prog_6_method_23_code 76 = .ok (.aload_n 0, 1) := by decide +kernel
theorem d_R_remove_77 : decode prog_6_method_23_code 77 = .ok (.iconst 0, 1) := by decide +kernel
theorem d_R_remove_78 : decode prog_6_method_23_code 78 = .ok (.iload 5, 2) := by decide +kernel
theorem d_R_remove_80 : decode prog_6_method_23_code 80 = .ok (.invokevirtual 107, 3) := by decide +kernel
theorem d_R_remove_83 : decode prog_6_method_23_code 83 = .ok (.ifCond .eq 6, 3) := by decide +kernel
theorem d_R_remove_86 : decode prog_6_method_23_code 86 = .ok (.bipush (-4), 2) := by decide +kernel
theorem d_R_remove_88 : decode prog_6_method_23_code 88 = .ok (.ireturn, 1) := by decide +kernel
theorem d_R_remove_89 : decode prog_6_method_23_code 89 = .ok (.aload_n 0, 1) := by decide +kernel
theorem d_R_remove_90 : decode prog_6_method_23_code 90 = .ok (.iload_n 1, 1) := by decide +kernel
theorem d_R_remove_91 : decode prog_6_method_23_code 91 = .ok (.iload_n 3, 1) := by decide +kernel
theorem d_R_remove_92 : decode prog_6_method_23_code 92 = .ok (.invokevirtual 121, 3) := by decide +kernel
theorem d_R_remove_95 : decode prog_6_method_23_code 95 = .ok (.aload_n 0, 1) := by decide +kernel
theorem d_R_remove_96 : decode prog_6_method_23_code 96 = .ok (.getfield 13, 3) := by decide +kernel
theorem d_R_remove_99 : decode prog_6_method_23_code 99 = .ok (.iload 4, 2) := by decide +kernel
theorem d_R_remove_101 : decode prog_6_method_23_code 101 = .ok (.iconst 0, 1) := by decide +kernel
theorem d_R_remove_102 : decode prog_6_method_23_code 102 = .ok (.iastore, 1) := by decide +kernel
theorem d_R_remove_103 : decode prog_6_method_23_code 103 = .ok (.aload_n 0, 1) := by decide +kernel
theorem d_R_remove_104 : decode prog_6_method_23_code 104 = .ok (.getfield 16, 3) := by decide +kernel
theorem d_R_remove_107 : decode prog_6_method_23_code 107 = .ok (.iload 4, 2) := by decide +kernel
theorem d_R_remove_109 : decode prog_6_method_23_code 109 = .ok (.iconst 0, 1) := by decide +kernel
theorem d_R_remove_110 : decode prog_6_method_23_code 110 = .ok (.iastore, 1) := by decide +kernel
theorem d_R_remove_111 : decode prog_6_method_23_code 111 = .ok (.aload_n 0, 1) := by decide +kernel
theorem d_R_remove_112 : decode prog_6_method_23_code 112 = .ok (.getfield 22, 3) := by decide +kernel
theorem d_R_remove_115 : decode prog_6_method_23_code 115 = .ok (.iload 4, 2) := by decide +kernel
theorem d_R_remove_117 : decode prog_6_method_23_code 117 = .ok (.iconst 0, 1) := by decide +kernel
theorem d_R_remove_118 : decode prog_6_method_23_code 118 = .ok (.bastore, 1) := by decide +kernel
theorem d_R_remove_119 : decode prog_6_method_23_code 119 = .ok (.iload 4, 2) := by decide +kernel
theorem d_R_remove_121 : decode prog_6_method_23_code 121 = .ok (.ireturn, 1) := by decide +kernel
theorem d_R_isBelow_0 : decode prog_6_method_24_code 0 = .ok (.iconst 0, 1) := by decide +kernel
theorem d_R_isBelow_1 : decode prog_6_method_24_code 1 = .ok (.istore_n 3, 1) := by decide +kernel
theorem d_R_isBelow_2 : decode prog_6_method_24_code 2 = .ok (.iload_n 3, 1) := by decide +kernel
theorem d_R_isBelow_3 : decode prog_6_method_24_code 3 = .ok (.bipush 8, 2) := by decide +kernel
theorem d_R_isBelow_5 : decode prog_6_method_24_code 5 = .ok (.if_icmp .ge 25, 3) := by decide +kernel
theorem d_R_isBelow_8 : decode prog_6_method_24_code 8 = .ok (.aload_n 0, 1) := by decide +kernel
theorem d_R_isBelow_9 : decode prog_6_method_24_code 9 = .ok (.getfield 41, 3) := by decide +kernel
theorem d_R_isBelow_12 : decode prog_6_method_24_code 12 = .ok (.iload_n 3, 1) := by decide +kernel
theorem d_R_isBelow_13 : decode prog_6_method_24_code 13 = .ok (.iload_n 3, 1) := by decide +kernel
theorem d_R_isBelow_14 : decode prog_6_method_24_code 14 = .ok (.iload_n 2, 1) := by decide +kernel
theorem d_R_isBelow_15 : decode prog_6_method_24_code 15 = .ok (.if_icmp .ne 7, 3) := by decide +kernel
theorem d_R_isBelow_18 : decode prog_6_method_24_code 18 = .ok (.iconst 1, 1) := by decide +kernel
theorem d_R_isBelow_19 : decode prog_6_method_24_code 19 = .ok (.goto 4, 3) := by decide +kernel
theorem d_R_isBelow_22 : decode prog_6_method_24_code 22 = .ok (.iconst 0, 1) := by decide +kernel
theorem d_R_isBelow_23 : decode prog_6_method_24_code 23 = .ok (.bastore, 1) := by decide +kernel
theorem d_R_isBelow_24 : decode prog_6_method_24_code 24 = .ok (.iinc 3 1, 3) := by decide +kernel
theorem d_R_isBelow_27 : decode prog_6_method_24_code 27 = .ok (.goto (-25), 3) := by decide +kernel
theorem d_R_isBelow_30 : decode prog_6_method_24_code 30 = .ok (.iconst 0, 1) := by decide +kernel
theorem d_R_isBelow_31 : decode prog_6_method_24_code 31 = .ok (.istore_n 3, 1) := by decide +kernel
theorem d_R_isBelow_32 : decode prog_6_method_24_code 32 = .ok (.iload_n 3, 1) := by decide +kernel
theorem d_R_isBelow_33 : decode prog_6_method_24_code 33 = .ok (.bipush 8, 2) := by decide +kernel
theorem d_R_isBelow_35 : decode prog_6_method_24_code 35 = .ok (.if_icmp .ge 89, 3) := by decide +kernel
theorem d_R_isBelow_38 : decode prog_6_method_24_code 38 = .ok (.iconst 0, 1) := by decide +kernel
theorem d_R_isBelow_39 : decode prog_6_method_24_code 39 = .ok (.istore 4, 2) := by decide +kernel
theorem d_R_isBelow_41 : decode prog_6_method_24_code 41 = .ok (.iload 4, 2) := by decide +kernel
theorem d_R_isBelow_43 : decode prog_6_method_24_code 43 = .ok (.bipush 8, 2) := by decide +kernel
theorem d_R_isBelow_45 : decode prog_6_method_24_code 45 = .ok (.if_icmp .ge 73, 3) := by decide +kernel
theorem d_R_isBelow_48 : decode prog_6_method_24_code 48 = .ok (.iconst 0, 1) := by decide +kernel
theorem d_R_isBelow_49 : decode prog_6_method_24_code 49 = .ok (.istore 5, 2) := by decide +kernel
theorem d_R_isBelow_51 : decode prog_6_method_24_code 51 = .ok (.iload 5, 2) := by decide +kernel
theorem d_R_isBelow_53 : decode prog_6_method_24_code 53 = .ok (.aload_n 0, 1) := by decide +kernel
theorem d_R_isBelow_54 : decode prog_6_method_24_code 54 = .ok (.getfield 16, 3) := by decide +kernel
theorem d_R_isBelow_57 : decode prog_6_method_24_code 57 = .ok (.iload 4, 2) := by decide +kernel
theorem d_R_isBelow_59 : decode prog_6_method_24_code 59 = .ok (.iaload, 1) := by decide +kernel
theorem d_R_isBelow_60 : decode prog_6_method_24_code 60 = .ok (.if_icmp .ge 52, 3) := by decide +kernel
theorem d_R_isBelow_63 : decode prog_6_method_24_code 63 = .ok (.aload_n 0, 1) := by decide +kernel
theorem d_R_isBelow_64 : decode prog_6_method_24_code 64 = .ok (.getfield 41, 3) := by decide +kernel
theorem d_R_isBelow_67 : decode prog_6_method_24_code 67 = .ok (.iload 4, 2) := by decide +kernel
theorem d_R_isBelow_69 : decode prog_6_method_24_code 69 = .ok (.baload, 1) := by decide +kernel
theorem d_R_isBelow_70 : decode prog_6_method_24_code 70 = .ok (.ifCond .eq 42, 3) := by decide +kernel
theorem d_R_isBelow_73 : decode prog_6_method_24_code 73 = .ok (.aload_n 0, 1) := by decide +kernel
theorem d_R_isBelow_74 : decode prog_6_method_24_code 74 = .ok (.getfield 13, 3) := by decide +kernel
theorem d_R_isBelow_77 : decode prog_6_method_24_code 77 = .ok (.iload 4, 2) := by decide +kernel
theorem d_R_isBelow_79 : decode prog_6_method_24_code 79 = .ok (.iaload, 1) := by decide +kernel
theorem d_R_isBelow_80 : decode prog_6_method_24_code 80 = .ok (.iconst 1, 1) := by decide +kernel
theorem d_R_isBelow_81 : decode prog_6_method_24_code 81 = .ok (.if_icmp .ne 31, 3) := by decide +kernel
theorem d_R_isBelow_84 : decode prog_6_method_24_code 84 = .ok (.aload_n 0, 1) := by decide +kernel
theorem d_R_isBelow_85 : decode prog_6_method_24_code 85 = .ok (.getfield 41, 3) := by decide +kernel
theorem d_R_isBelow_88 : decode prog_6_method_24_code 88 = .ok (.aload_n 0, 1) := by decide +kernel
theorem d_R_isBelow_89 : decode prog_6_method_24_code 89 = .ok (.getfield 19, 3) := by decide +kernel
theorem d_R_isBelow_92 : decode prog_6_method_24_code 92 = .ok (.bipush 10, 2) := by decide +kernel
theorem d_R_isBelow_94 : decode prog_6_method_24_code 94 = .ok (.iload 4, 2) := by decide +kernel
theorem d_R_isBelow_96 : decode prog_6_method_24_code 96 = .ok (.imul, 1) := by decide +kernel
theorem d_R_isBelow_97 : decode prog_6_method_24_code 97 = .ok (.iload 5, 2) := by decide +kernel
theorem d_R_isBelow_99 : decode prog_6_method_24_code 99 = .ok (.iadd, 1) := by decide +kernel
theorem d_R_isBelow_100 : decode prog_6_method_24_code 100 = .ok (.iaload, 1) := by decide +kernel
theorem d_R_isBelow_101 : decode prog_6_method_24_code 101 = .ok (.bipush 16, 2) := by decide +kernel
theorem d_R_isBelow_103 : decode prog_6_method_24_code 103 = .ok (.irem, 1) := by decide +kernel
theorem d_R_isBelow_104 : decode prog_6_method_24_code 104 = .ok (.iconst 1, 1) := by decide +kernel
theorem d_R_isBelow_105 : decode prog_6_method_24_code 105 = .ok (.bastore, 1) := by decide +kernel
theorem d_R_isBelow_106 : decode prog_6_method_24_code 106 = .ok (.iinc 5 1, 3) := by decide +kernel
theorem d_R_isBelow_109 : decode prog_6_method_24_code 109 = .ok (.goto (-58), 3) := by decide +kernel
theorem d_R_isBelow_112 : decode prog_6_method_24_code 112 = .ok (.iinc 4 1, 3) := by decide +kernel
theorem d_R_isBelow_115 : decode prog_6_method_24_code 115 = .ok (.goto (-74), 3) := by decide +kernel
theorem d_R_isBelow_118 : decode prog_6_method_24_code 118 = .ok (.iinc 3 1, 3) := by decide +kernel
theorem d_R_isBelow_121 : decode prog_6_method_24_code 121 = .ok (.goto (-89), 3) := by decide +kernel
theorem d_R_isBelow_124 : decode prog_6_method_24_code 124 = .ok (.aload_n 0, 1) := by decide +kernel
theorem d_R_isBelow_125 : decode prog_6_method_24_code 125 = .ok (.getfield 41, 3) := by decide +kernel
theorem d_R_isBelow_128 : decode prog_6_method_24_code 128 = .ok (.iload_n 1, 1) := by decide +kernel
theorem d_R_isBelow_129 : decode prog_6_method_24_code 129 = .ok (.baload, 1) := by decide +kernel
theorem d_R_isBelow_130 : decode prog_6_method_24_code 130 = .ok (.ireturn, 1) := by decide +kernel
theorem d_R_move_0 : decode prog_6_method_25_code 0 = .ok (.aload_n 0, 1) := by decide +kernel
theorem d_R_move_1 : decode prog_6_method_25_code 1 = .ok (.iload_n 1, 1) := by decide +kernel
theorem d_R_move_2 : decode prog_6_method_25_code 2 = .ok (.iconst 1, 1) := by decide +kernel
theorem d_R_move_3 : decode prog_6_method_25_code 3 = .ok (.invokevirtual 96, 3) := by decide +kernel
theorem d_R_move_6 : decode prog_6_method_25_code 6 = .ok (.ifCond .eq 12, 3) := by decide +kernel
theorem d_R_move_9 : decode prog_6_method_25_code 9 = .ok (.aload_n 0, 1) := by decide +kernel
theorem d_R_move_10 : decode prog_6_method_25_code 10 = .ok (.iload_n 1, 1) := by decide +kernel
theorem d_R_move_11 : decode prog_6_method_25_code 11 = .ok (.iload_n 2, 1) := by decide +kernel
theorem d_R_move_12 : decode prog_6_method_25_code 12 = .ok (.invokevirtual 100, 3) := by decide +kernel
theorem d_R_move_15 : decode prog_6_method_25_code 15 = .ok (.goto 4, 3) := by decide +kernel
theorem d_R_move_18 : decode prog_6_method_25_code 18 = .ok (.iconst (-1), 1) := by decide +kernel
theorem d_R_move_19 : decode prog_6_method_25_code 19 = .ok (.istore 5, 2) := by decide +kernel
theorem d_R_move_21 : decode prog_6_method_25_code 21 = .ok (.iload 5, 2) := by decide +kernel
theorem d_R_move_23 : decode prog_6_method_25_code 23 = .ok (.ifCond .lt 24, 3) := by decide +kernel
theorem d_R_move_26 : decode prog_6_method_25_code 26 = .ok (.aload_n 0, 1) := by decide +kernel
theorem d_R_move_27 : decode prog_6_method_25_code 27 = .ok (.iload_n 3, 1) := by decide +kernel
theorem d_R_move_28 : decode prog_6_method_25_code 28 = .ok (.iconst 1, 1) := by decide +kernel
theorem d_R_move_29 : decode prog_6_method_25_code 29 = .ok (.invokevirtual 96, 3) := by decide +kernel
theorem d_R_move_32 : decode prog_6_method_25_code 32 = .ok (.ifCond .eq 15, 3) := by decide +kernel
theorem d_R_move_35 : decode prog_6_method_25_code 35 = .ok (.iload 4, 2) := by decide +kernel
theorem d_R_move_37 : decode prog_6_method_25_code 37 = .ok (.ifCond .lt 10, 3) := by decide +kernel
theorem d_R_move_40 : decode prog_6_method_25_code 40 = .ok (.iload 4, 2) := by decide +kernel
theorem d_R_move_42 : decode prog_6_method_25_code 42 = .ok (.bipush 99, 2) := by decide +kernel
theorem d_R_move_44 : decode prog_6_method_25_code 44 = .ok (.if_icmp .le 5, 3) := by decide +kernel
theorem d_R_move_47 : decode prog_6_method_25_code 47 = .ok (.iconst (-1), 1) := by decide +kernel
theorem d_R_move_48 : decode prog_6_method_25_code 48 = .ok (.ireturn, 1) := by decide +kernel
theorem d_R_move_49 : decode prog_6_method_25_code 49 = .ok (.aload_n 0, 1) := by decide +kernel
theorem d_R_move_50 : decode prog_6_method_25_code 50 = .ok (.iload_n 3, 1) := by decide +kernel
theorem d_R_move_51 : decode prog_6_method_25_code 51 = .ok (.iload 4, 2) := by decide +kernel
theorem d_R_move_53 : decode prog_6_method_25_code 53 = .ok (.invokevirtual 100, 3) := by decide +kernel
theorem d_R_move_56 : decode prog_6_method_25_code 56 = .ok (.ifCond .lt 6, 3) := by decide +kernel
theorem d_R_move_59 : decode prog_6_method_25_code 59 = .ok (.bipush (-2), 2) := by decide +kernel
theorem d_R_move_61 : decode prog_6_method_25_code 61 = .ok (.ireturn, 1) := by decide +kernel
theorem d_R_move_62 : decode prog_6_method_25_code 62 = .ok (.aload_n 0, 1) := by decide +kernel
theorem d_R_move_63 : decode prog_6_method_25_code 63 = .ok (.getfield 19, 3) := by decide +kernel
theorem d_R_move_66 : decode prog_6_method_25_code 66 = .ok (.bipush 10, 2) := by decide +kernel
theorem d_R_move_68 : decode prog_6_method_25_code 68 = .ok (.iload_n 1, 1) := by decide +kernel
theorem d_R_move_69 : decode prog_6_method_25_code 69 = .ok (.imul, 1) := by decide +kernel
theorem d_R_move_70 : decode prog_6_method_25_code 70 = .ok (.iload 5, 2) := by decide +kernel
theorem d_R_move_72 : decode prog_6_method_25_code 72 = .ok (.iadd, 1) := by decide +kernel
theorem d_R_move_73 : decode prog_6_method_25_code 73 = .ok (.iaload, 1) := by decide +kernel
theorem d_R_move_74 : decode prog_6_method_25_code 74 = .ok (.bipush 16, 2) := by decide +kernel
theorem d_R_move_76 : decode prog_6_method_25_code 76 = .ok (.irem, 1) := by decide +kernel
theorem d_R_move_77 : decode prog_6_method_25_code 77 = .ok (.istore 6, 2) := by decide +kernel
theorem d_R_move_79 : decode prog_6_method_25_code 79 = .ok (.aload_n 0, 1) := by decide +kernel
theorem d_R_move_80 : decode prog_6_method_25_code 80 = .ok (.iload_n 3, 1) := by decide +kernel
theorem d_R_move_81 : decode prog_6_method_25_code 81 = .ok (.iload 6, 2) := by decide +kernel
theorem d_R_move_83 : decode prog_6_method_25_code 83 = .ok (.invokevirtual 124, 3) := by decide +kernel
theorem d_R_move_86 : decode prog_6_method_25_code 86 = .ok (.ifCond .eq 6, 3) := by decide +kernel
theorem d_R_move_89 : decode prog_6_method_25_code 89 = .ok (.bipush (-7), 2) := by decide +kernel
theorem d_R_move_91 : decode prog_6_method_25_code 91 = .ok (.ireturn, 1) := by decide +kernel
theorem d_R_move_92 : decode prog_6_method_25_code 92 = .ok (.aload_n 0, 1) := by decide +kernel
theorem d_R_move_93 : decode prog_6_method_25_code 93 = .ok (.iload_n 1, 1) := by decide +kernel
theorem d_R_move_94 : decode prog_6_method_25_code 94 = .ok (.iload_n 3, 1) := by decide +kernel
theorem d_R_move_95 : decode prog_6_method_25_code 95 = .ok (.iconst (-1), 1) := by decide +kernel
theorem d_R_move_96 : decode prog_6_method_25_code 96 = .ok (.invokevirtual 103, 3) := by decide +kernel
theorem d_R_move_99 : decode prog_6_method_25_code 99 = .ok (.istore 7, 2) := by decide +kernel
theorem d_R_move_101 : decode prog_6_method_25_code 101 = .ok (.aload_n 0, 1) := by decide +kernel
theorem d_R_move_102 : decode prog_6_method_25_code 102 = .ok (.iconst 0, 1) := by decide +kernel
theorem d_R_move_103 : decode prog_6_method_25_code 103 = .ok (.iload 7, 2) := by decide +kernel
theorem d_R_move_105 : decode prog_6_method_25_code 105 = .ok (.invokevirtual 107, 3) := by decide +kernel
theorem d_R_move_108 : decode prog_6_method_25_code 108 = .ok (.ifCond .eq 6, 3) := by decide +kernel
theorem d_R_move_111 : decode prog_6_method_25_code 111 = .ok (.bipush (-4), 2) := by decide +kernel
theorem d_R_move_113 : decode prog_6_method_25_code 113 = .ok (.ireturn, 1) := by decide +kernel
theorem d_R_move_114 : decode prog_6_method_25_code 114 = .ok (.aload_n 0, 1) := by decide +kernel
theorem d_R_move_115 : decode prog_6_method_25_code 115 = .ok (.iload_n 1, 1) := by decide +kernel
theorem d_R_move_116 : decode prog_6_method_25_code 116 = .ok (.iload 5, 2) := by decide +kernel
theorem d_R_move_118 : decode prog_6_method_25_code 118 = .ok (.invokevirtual 121, 3) := by decide +kernel
theorem d_R_move_121 : decode prog_6_method_25_code 121 = .ok (.aload_n 0, 1) := by decide +kernel
theorem d_R_move_122 : decode prog_6_method_25_code 122 = .ok (.iload_n 3, 1) := by decide +kernel
theorem d_R_move_123 : decode prog_6_method_25_code 123 = .ok (.bipush 16, 2) := by decide +kernel
theorem d_R_move_125 : decode prog_6_method_25_code 125 = .ok (.iload 4, 2) := by decide +kernel
theorem d_R_move_127 : decode prog_6_method_25_code 127 = .ok (.imul, 1) := by decide +kernel
theorem d_R_move_128 : decode prog_6_method_25_code 128 = .ok (.iload 6, 2) := by decide +kernel
theorem d_R_move_130 : decode prog_6_method_25_code 130 = .ok (.iadd, 1) := by decide +kernel
theorem d_R_move_131 : decode prog_6_method_25_code 131 = .ok (.invokevirtual 110, 3) := by decide +kernel
theorem d_R_move_134 : decode prog_6_method_25_code 134 = .ok (.iload 6, 2) := by decide +kernel
theorem d_R_move_136 : decode prog_6_method_25_code 136 = .ok (.ireturn, 1) := by decide +kernel
theorem d_R_writeEntry_0 : decode prog_6_method_26_code 0 = .ok (.aload_n 0, 1) := by decide +kernel
theorem d_R_writeEntry_1 : decode prog_6_method_26_code 1 = .ok (.iconst 2, 1) := by decide +kernel
theorem d_R_writeEntry_2 : decode prog_6_method_26_code 2 = .ok (.iload_n 1, 1) := by decide +kernel
theorem d_R_writeEntry_3 : decode prog_6_method_26_code 3 = .ok (.invokevirtual 114, 3) := by decide +kernel
theorem d_R_writeEntry_6 : decode prog_6_method_26_code 6 = .ok (.aload_n 0, 1) := by decide +kernel
theorem d_R_writeEntry_7 : decode prog_6_method_26_code 7 = .ok (.getfield 38, 3) := by decide +kernel
theorem d_R_writeEntry_10 : decode prog_6_method_26_code 10 = .ok (.iconst 4, 1) := by decide +kernel
theorem d_R_writeEntry_11 : decode prog_6_method_26_code 11 = .ok (.aload_n 0, 1) := by decide +kernel
theorem d_R_writeEntry_12 : decode prog_6_method_26_code 12 = .ok (.getfield 13, 3) := by decide +kernel
theorem d_R_writeEntry_15 : decode prog_6_method_26_code 15 = .ok (.iload_n 1, 1) := by decide +kernel
theorem d_R_writeEntry_16 : decode prog_6_method_26_code 16 = .ok (.iaload, 1) := by decide +kernel
theorem d_R_writeEntry_17 : decode prog_6_method_26_code 17 = .ok (.iastore, 1) := by decide +kernel
theorem d_R_writeEntry_18 : decode prog_6_method_26_code 18 = .ok (.aload_n 0, 1) := by decide +kernel
theorem d_R_writeEntry_19 : decode prog_6_method_26_code 19 = .ok (.getfield 38, 3) := by decide +kernel
theorem d_R_writeEntry_22 : decode prog_6_method_26_code 22 = .ok (.iconst 5, 1) := by decide +kernel
theorem d_R_writeEntry_23 : decode prog_6_method_26_code 23 = .ok (.aload_n 0, 1) := by decide +kernel
theorem d_R_writeEntry_24 : decode prog_6_method_26_code 24 = .ok (.getfield 16, 3) := by decide +kernel
theorem d_R_writeEntry_27 : decode prog_6_method_26_code 27 = .ok (.iload_n 1, 1) := by decide +kernel
theorem d_R_writeEntry_28 : decode prog_6_method_26_code 28 = .ok (.iaload, 1) := by decide +kernel
theorem d_R_writeEntry_29 : decode prog_6_method_26_code 29 = .ok (.iastore, 1) := by decide +kernel
theorem d_R_writeEntry_30 : decode prog_6_method_26_code 30 = .ok (.iconst 0, 1) := by decide +kernel
theorem d_R_writeEntry_31 : decode prog_6_method_26_code 31 = .ok (.istore_n 2, 1) := by decide +kernel
theorem d_R_writeEntry_32 : decode prog_6_method_26_code 32 = .ok (.iload_n 2, 1) := by decide +kernel
theorem d_R_writeEntry_33 : decode prog_6_method_26_code 33 = .ok (.aload_n 0, 1) := by decide +kernel
theorem d_R_writeEntry_34 : decode prog_6_method_26_code 34 = .ok (.getfield 16, 3) := by decide +kernel
theorem d_R_writeEntry_37 : decode prog_6_method_26_code 37 = .ok (.iload_n 1, 1) := by decide +kernel
theorem d_R_writeEntry_38 : decode prog_6_method_26_code 38 = .ok (.iaload, 1) := by decide +kernel
theorem d_R_writeEntry_39 : decode prog_6_method_26_code 39 = .ok (.if_icmp .ge 29, 3) := by decide +kernel
theorem d_R_writeEntry_42 : decode prog_6_method_26_code 42 = .ok (.aload_n 0, 1) := by decide +kernel
theorem d_R_writeEntry_43 : decode prog_6_method_26_code 43 = .ok (.getfield 38, 3) := by decide +kernel
theorem d_R_writeEntry_46 : decode prog_6_method_26_code 46 = .ok (.bipush 6, 2) := by decide +kernel
theorem d_R_writeEntry_48 : decode prog_6_method_26_code 48 = .ok (.iload_n 2, 1) := by decide +kernel
theorem d_R_writeEntry_49 : decode prog_6_method_26_code 49 = .ok (.iadd, 1) := by decide +kernel
theorem d_R_writeEntry_50 : decode prog_6_method_26_code 50 = .ok (.aload_n 0, 1) := by decide +kernel
theorem d_R_writeEntry_51 : decode prog_6_method_26_code 51 = .ok (.getfield 19, 3) := by decide +kernel
theorem d_R_writeEntry_54 : decode prog_6_method_26_code 54 = .ok (.bipush 10, 2) := by decide +kernel
theorem d_R_writeEntry_56 : decode prog_6_method_26_code 56 = .ok (.iload_n 1, 1) := by decide +kernel
theorem d_R_writeEntry_57 : decode prog_6_method_26_code 57 = .ok (.imul, 1) := by decide +kernel
theorem d_R_writeEntry_58 : decode prog_6_method_26_code 58 = .ok (.iload_n 2, 1) := by decide +kernel
theorem d_R_writeEntry_59 : decode prog_6_method_26_code 59 = .ok (.iadd, 1) := by decide +kernel
theorem d_R_writeEntry_60 : decode prog_6_method_26_code 60 = .ok (.iaload, 1) := by decide +kernel
theorem d_R_writeEntry_61 : decode prog_6_method_26_code 61 = .ok (.iastore, 1) := by decide +kernel
theorem d_R_writeEntry_62 : decode prog_6_method_26_code 62 = .ok (.iinc 2 1, 3) := by decide +kernel
theorem d_R_writeEntry_65 : decode prog_6_method_26_code 65 = .ok (.goto (-33), 3) := by decide +kernel
theorem d_R_writeEntry_68 : decode prog_6_method_26_code 68 = .ok (.aload_n 0, 1) := by decide +kernel
theorem d_R_writeEntry_69 : decode prog_6_method_26_code 69 = .ok (.getfield 26, 3) := by decide +kernel
theorem d_R_writeEntry_72 : decode prog_6_method_26_code 72 = .ok (.iload_n 1, 1) := by decide +kernel
theorem d_R_writeEntry_73 : decode prog_6_method_26_code 73 = .ok (.aload_n 0, 1) := by decide +kernel
theorem d_R_writeEntry_74 : decode prog_6_method_26_code 74 = .ok (.getfield 66, 3) := by decide +kernel
theorem d_R_writeEntry_77 : decode prog_6_method_26_code 77 = .ok (.iastore, 1) := by decide +kernel
theorem d_R_writeEntry_78 : decode prog_6_method_26_code 78 = .ok (.aload_n 0, 1) := by decide +kernel
theorem d_R_writeEntry_79 : decode prog_6_method_26_code 79 = .ok (.invokevirtual 117, 3) := by decide +kernel
theorem d_R_writeEntry_82 : decode prog_6_method_26_code 82 = .ok (.ireturn, 1) := by decide +kernel
theorem d_R_close_0 : decode prog_6_method_27_code 0 = .ok (.aload_n 0, 1) := by decide +kernel
theorem d_R_close_1 : decode prog_6_method_27_code 1 = .ok (.iconst (-1), 1) := by decide +kernel
theorem d_R_close_2 : decode prog_6_method_27_code 2 = .ok (.iconst (-1), 1) := by decide +kernel
theorem d_R_close_3 : decode prog_6_method_27_code 3 = .ok (.iconst (-1), 1) := by decide +kernel
theorem d_R_close_4 : decode prog_6_method_27_code 4 = .ok (.invokevirtual 103, 3) := by decide +kernel
theorem d_R_close_7 : decode prog_6_method_27_code 7 = .ok (.istore_n 1, 1) := by decide +kernel
theorem d_R_close_8 : decode prog_6_method_27_code 8 = .ok (.iload_n 1, 1) := by decide +kernel
theorem d_R_close_9 : decode prog_6_method_27_code 9 = .ok (.ifCond .ne 5, 3) := by decide +kernel
theorem d_R_close_12 : decode prog_6_method_27_code 12 = .ok (.iconst 0, 1) := by decide +kernel
theorem d_R_close_13 : decode prog_6_method_27_code 13 = .ok (.ireturn, 1) := by decide +kernel
theorem d_R_close_14 : decode prog_6_method_27_code 14 = .ok (.aload_n 0, 1) := by decide +kernel
theorem d_R_close_15 : decode prog_6_method_27_code 15 = .ok (.getfield 44, 3) := by decide +kernel
theorem d_R_close_18 : decode prog_6_method_27_code 18 = .ok (.aload_n 0, 1) := by decide +kernel
theorem d_R_close_19 : decode prog_6_method_27_code 19 = .ok (.getfield 66, 3) := by decide +kernel
theorem d_R_close_22 : decode prog_6_method_27_code 22 = .ok (.isub, 1) := by decide +kernel
theorem d_R_close_23 : decode prog_6_method_27_code 23 = .ok (.iload_n 1, 1) := by decide +kernel
theorem d_R_close_24 : decode prog_6_method_27_code 24 = .ok (.iconst 1, 1) := by decide +kernel
theorem d_R_close_25 : decode prog_6_method_27_code 25 = .ok (.iadd, 1) := by decide +kernel
theorem d_R_close_26 : decode prog_6_method_27_code 26 = .ok (.if_icmp .ge 6, 3) := by decide +kernel
theorem d_R_close_29 : decode prog_6_method_27_code 29 = .ok (.bipush (-4), 2) := by decide +kernel
theorem d_R_close_31 : decode prog_6_method_27_code 31 = .ok (.ireturn, 1) := by decide +kernel
theorem d_R_close_32 : decode prog_6_method_27_code 32 = .ok (.aload_n 0, 1) := by decide +kernel
theorem d_R_close_33 : decode prog_6_method_27_code 33 = .ok (.invokevirtual 92, 3) := by decide +kernel
theorem d_R_close_36 : decode prog_6_method_27_code 36 = .ok (.istore_n 2, 1) := by decide +kernel
theorem d_R_close_37 : decode prog_6_method_27_code 37 = .ok (.iload_n 2, 1) := by decide +kernel
theorem d_R_close_38 : decode prog_6_method_27_code 38 = .ok (.ifCond .ge 7, 3) := by decide +kernel
theorem d_R_close_41 : decode prog_6_method_27_code 41 = .ok (.iconst 1, 1) := by decide +kernel
theorem d_R_close_42 : decode prog_6_method_27_code 42 = .ok (.goto 16, 3) := by decide +kernel
theorem d_R_close_45 : decode prog_6_method_27_code 45 = .ok (.aload_n 0, 1) := by decide +kernel
theorem d_R_close_46 : decode prog_6_method_27_code 46 = .ok (.getfield 7, 3) := by decide +kernel
theorem d_R_close_49 : decode prog_6_method_27_code 49 = .ok (.bipush 16, 2) := by decide +kernel
theorem d_R_close_51 : decode prog_6_method_27_code 51 = .ok (.iload_n 2, 1) := by decide +kernel
theorem d_R_close_52 : decode prog_6_method_27_code 52 = .ok (.imul, 1) := by decide +kernel
theorem d_R_close_53 : decode prog_6_method_27_code 53 = .ok (.iconst 3, 1) := by decide +kernel
theorem d_R_close_54 : decode prog_6_method_27_code 54 = .ok (.iadd, 1) := by decide +kernel
theorem d_R_close_55 : decode prog_6_method_27_code 55 = .ok (.iaload, 1) := by decide +kernel
theorem d_R_close_56 : decode prog_6_method_27_code 56 = .ok (.iconst 1, 1) := by decide +kernel
theorem d_R_close_57 : decode prog_6_method_27_code 57 = .ok (.iadd, 1) := by decide +kernel
theorem d_R_close_58 : decode prog_6_method_27_code 58 = .ok (.istore_n 3, 1) := by decide +kernel
theorem d_R_close_59 : decode prog_6_method_27_code 59 = .ok (.iconst 0, 1) := by decide +kernel
theorem d_R_close_60 : decode prog_6_method_27_code 60 = .ok (.istore 4, 2) := by decide +kernel
theorem d_R_close_62 : decode prog_6_method_27_code 62 = .ok (.iload 4, 2) := by decide +kernel
theorem d_R_close_64 : decode prog_6_method_27_code 64 = .ok (.bipush 8, 2) := by decide +kernel
theorem d_R_close_66 : decode prog_6_method_27_code 66 = .ok (.if_icmp .ge 31, 3) := by decide +kernel
theorem d_R_close_69 : decode prog_6_method_27_code 69 = .ok (.aload_n 0, 1) := by decide +kernel
theorem d_R_close_70 : decode prog_6_method_27_code 70 = .ok (.getfield 22, 3) := by decide +kernel
theorem d_R_close_73 : decode prog_6_method_27_code 73 = .ok (.iload 4, 2) := by decide +kernel
theorem d_R_close_75 : decode prog_6_method_27_code 75 = .ok (.baload, 1) := by decide +kernel
theorem d_R_close_76 : decode prog_6_method_27_code 76 = .ok (.ifCond .eq 15, 3) := by decide +kernel
theorem d_R_close_79 : decode prog_6_method_27_code 79 = .ok (.aload_n 0, 1) := by decide +kernel
theorem d_R_close_80 : decode prog_6_method_27_code 80 = .ok (.iload 4, 2) := by decide +kernel
theorem d_R_close_82 : decode prog_6_method_27_code 82 = .ok (.invokevirtual 127, 3) := by decide +kernel
theorem d_R_close_85 : decode prog_6_method_27_code 85 = .ok (.ifCond .ne 6, 3) := by decide +kernel
theorem d_R_close_88 : decode prog_6_method_27_code 88 = .ok (.bipush (-5), 2) := by decide +kernel
theorem d_R_close_90 : decode prog_6_method_27_code 90 = .ok (.ireturn, 1) := by decide +kernel
theorem d_R_close_91 : decode prog_6_method_27_code 91 = .ok (.iinc 4 1, 3) := by decide +kernel
theorem d_R_close_94 : decode prog_6_method_27_code 94 = .ok (.goto (-32), 3) := by decide +kernel
theorem d_R_close_97 : decode prog_6_method_27_code 97 = .ok (.aload_n 0, 1) := by decide +kernel
theorem d_R_close_98 : decode prog_6_method_27_code 98 = .ok (.iconst 3, 1) := by decide +kernel
theorem d_R_close_99 : decode prog_6_method_27_code 99 = .ok (.iload_n 3, 1) := by decide +kernel
theorem d_R_close_100 : decode prog_6_method_27_code 100 = .ok (.invokevirtual 114, 3) := by decide +kernel
theorem d_R_close_103 : decode prog_6_method_27_code 103 = .ok (.iconst 0, 1) := by decide +kernel
theorem d_R_close_104 : decode prog_6_method_27_code 104 = .ok (.istore 4, 2) := by decide +kernel
theorem d_R_close_106 : decode prog_6_method_27_code 106 = .ok (.iload 4, 2) := by decide +kernel
theorem d_R_close_108 : decode prog_6_method_27_code 108 = .ok (.bipush 8, 2) := by decide +kernel
theorem d_R_close_110 : decode prog_6_method_27_code 110 = .ok (.if_icmp .ge 41, 3) := by decide +kernel
theorem d_R_close_113 : decode prog_6_method_27_code 113 = .ok (.aload_n 0, 1) := by decide +kernel
theorem d_R_close_114 : decode prog_6_method_27_code 114 = .ok (.getfield 38, 3) := by decide +kernel
theorem d_R_close_117 : decode prog_6_method_27_code 117 = .ok (.iconst 4, 1) := by decide +kernel
theorem d_R_close_118 : decode prog_6_method_27_code 118 = .ok (.iload 4, 2) := by decide +kernel
theorem d_R_close_120 : decode prog_6_method_27_code 120 = .ok (.iadd, 1) := by decide +kernel
theorem d_R_close_121 : decode prog_6_method_27_code 121 = .ok (.aload_n 0, 1) := by decide +kernel
theorem d_R_close_122 : decode prog_6_method_27_code 122 = .ok (.getfield 13, 3) := by decide +kernel
theorem d_R_close_125 : decode prog_6_method_27_code 125 = .ok (.iload 4, 2) := by decide +kernel
theorem d_R_close_127 : decode prog_6_method_27_code 127 = .ok (.iaload, 1) := by decide +kernel
theorem d_R_close_128 : decode prog_6_method_27_code 128 = .ok (.ifCond .ne 7, 3) := by decide +kernel
theorem d_R_close_131 : decode prog_6_method_27_code 131 = .ok (.iconst 0, 1) := by decide +kernel
theorem d_R_close_132 : decode prog_6_method_27_code 132 = .ok (.goto 12, 3) := by decide +kernel
theorem d_R_close_135 : decode prog_6_method_27_code 135 = .ok (.aload_n 0, 1) := by decide +kernel
theorem d_R_close_136 : decode prog_6_method_27_code 136 = .ok (.getfield 26, 3) := by decide +kernel
theorem d_R_close_139 : decode prog_6_method_27_code 139 = .ok (.iload 4, 2) := by decide +kernel
theorem d_R_close_141 : decode prog_6_method_27_code 141 = .ok (.iaload, 1) := by decide +kernel
theorem d_R_close_142 : decode prog_6_method_27_code 142 = .ok (.iconst 1, 1) := by decide +kernel
theorem d_R_close_143 : decode prog_6_method_27_code 143 = .ok (.iadd, 1) := by decide +kernel
theorem d_R_close_144 : decode prog_6_method_27_code 144 = .ok (.iastore, 1) := by decide +kernel
theorem d_R_close_145 : decode prog_6_method_27_code 145 = .ok (.iinc 4 1, 3) := by decide +kernel
theorem d_R_close_148 : decode prog_6_method_27_code 148 = .ok (.goto (-42), 3) := by decide +kernel
theorem d_R_close_151 : decode prog_6_method_27_code 151 = .ok (.aload_n 0, 1) := by decide +kernel
theorem d_R_close_152 : decode prog_6_method_27_code 152 = .ok (.invokevirtual 117, 3) := by decide +kernel
theorem d_R_close_155 : decode prog_6_method_27_code 155 = .ok (.ifCond .ne 6, 3) := by decide +kernel
theorem d_R_close_158 : decode prog_6_method_27_code 158 = .ok (.bipush (-5), 2) := by decide +kernel
theorem d_R_close_160 : decode prog_6_method_27_code 160 = .ok (.ireturn, 1) := by decide +kernel
theorem d_R_close_161 : decode prog_6_method_27_code 161 = .ok (.iconst 0, 1) := by decide +kernel
theorem d_R_close_162 : decode prog_6_method_27_code 162 = .ok (.istore 4, 2) := by decide +kernel
theorem d_R_close_164 : decode prog_6_method_27_code 164 = .ok (.iload 4, 2) := by decide +kernel
theorem d_R_close_166 : decode prog_6_method_27_code 166 = .ok (.bipush 8, 2) := by decide +kernel
theorem d_R_close_168 : decode prog_6_method_27_code 168 = .ok (.if_icmp .ge 17, 3) := by decide +kernel
theorem d_R_close_171 : decode prog_6_method_27_code 171 = .ok (.aload_n 0, 1) := by decide +kernel
theorem d_R_close_172 : decode prog_6_method_27_code 172 = .ok (.getfield 22, 3) := by decide +kernel
theorem d_R_close_175 : decode prog_6_method_27_code 175 = .ok (.iload 4, 2) := by decide +kernel
theorem d_R_close_177 : decode prog_6_method_27_code 177 = .ok (.iconst 0, 1) := by decide +kernel
theorem d_R_close_178 : decode prog_6_method_27_code 178 = .ok (.bastore, 1) := by decide +kernel
theorem d_R_close_179 : decode prog_6_method_27_code 179 = .ok (.iinc 4 1, 3) := by decide +kernel
theorem d_R_close_182 : decode prog_6_method_27_code 182 = .ok (.goto (-18), 3) := by decide +kernel
theorem d_R_close_185 : decode prog_6_method_27_code 185 = .ok (.iload_n 1, 1) := by decide +kernel
theorem d_R_close_186 : decode prog_6_method_27_code 186 = .ok (.iconst 1, 1) := by decide +kernel
theorem d_R_close_187 : decode prog_6_method_27_code 187 = .ok (.iadd, 1) := by decide +kernel
theorem d_R_close_188 : decode prog_6_method_27_code 188 = .ok (.ireturn, 1) := by decide +kernel
theorem d_R_arm_0 : decode prog_6_method_28_code 0 = .ok (.iload_n 1, 1) := by decide +kernel
theorem d_R_arm_1 : decode prog_6_method_28_code 1 = .ok (.ifCond .lt 10, 3) := by decide +kernel
theorem d_R_arm_4 : decode prog_6_method_28_code 4 = .ok (.iload_n 1, 1) := by decide +kernel
theorem d_R_arm_5 : decode prog_6_method_28_code 5 = .ok (.sipush 1000, 3) := by decide +kernel
theorem d_R_arm_8 : decode prog_6_method_28_code 8 = .ok (.if_icmp .le 5, 3) := by decide +kernel
theorem d_R_arm_11 : decode prog_6_method_28_code 11 = .ok (.iconst 0, 1) := by decide +kernel
theorem d_R_arm_12 : decode prog_6_method_28_code 12 = .ok (.ireturn, 1) := by decide +kernel
theorem d_R_arm_13 : decode prog_6_method_28_code 13 = .ok (.aload_n 0, 1) := by decide +kernel
theorem d_R_arm_14 : decode prog_6_method_28_code 14 = .ok (.iconst 1, 1) := by decide +kernel
theorem d_R_arm_15 : decode prog_6_method_28_code 15 = .ok (.putfield 72, 3) := by decide +kernel
theorem d_R_arm_18 : decode prog_6_method_28_code 18 = .ok (.aload_n 0, 1) := by decide +kernel
theorem d_R_arm_19 : decode prog_6_method_28_code 19 = .ok (.iload_n 1, 1) := by decide +kernel
theorem d_R_arm_20 : decode prog_6_method_28_code 20 = .ok (.putfield 76, 3) := by decide +kernel
theorem d_R_arm_23 : decode prog_6_method_28_code 23 = .ok (.iconst 1, 1) := by decide +kernel
theorem d_R_arm_24 : decode prog_6_method_28_code 24 = .ok (.ireturn, 1) := by decide +kernel
theorem d_R_crash_0 : decode prog_6_method_29_code 0 = .ok (.aload_n 0, 1) := by decide +kernel
theorem d_R_crash_1 : decode prog_6_method_29_code 1 = .ok (.invokevirtual 79, 3) := by decide +kernel
theorem d_R_crash_4 : decode prog_6_method_29_code 4 = .ok (.aload_n 0, 1) := by decide +kernel
theorem d_R_crash_5 : decode prog_6_method_29_code 5 = .ok (.iconst 0, 1) := by decide +kernel
theorem d_R_crash_6 : decode prog_6_method_29_code 6 = .ok (.putfield 72, 3) := by decide +kernel
theorem d_R_crash_9 : decode prog_6_method_29_code 9 = .ok (.aload_n 0, 1) := by decide +kernel
theorem d_R_crash_10 : decode prog_6_method_29_code 10 = .ok (.invokevirtual 92, 3) := by decide +kernel
theorem d_R_crash_13 : decode prog_6_method_29_code 13 = .ok (.istore_n 1, 1) := by decide +kernel
theorem d_R_crash_14 : decode prog_6_method_29_code 14 = .ok (.iload_n 1, 1) := by decide +kernel
theorem d_R_crash_15 : decode prog_6_method_29_code 15 = .ok (.ifCond .ge 7, 3) := by decide +kernel
theorem d_R_crash_18 : decode prog_6_method_29_code 18 = .ok (.iconst 0, 1) := by decide +kernel
theorem d_R_crash_19 : decode prog_6_method_29_code 19 = .ok (.goto 14, 3) := by decide +kernel
theorem d_R_crash_22 : decode prog_6_method_29_code 22 = .ok (.aload_n 0, 1) := by decide +kernel
theorem d_R_crash_23 : decode prog_6_method_29_code 23 = .ok (.getfield 7, 3) := by decide +kernel
theorem d_R_crash_26 : decode prog_6_method_29_code 26 = .ok (.bipush 16, 2) := by decide +kernel
theorem d_R_crash_28 : decode prog_6_method_29_code 28 = .ok (.iload_n 1, 1) := by decide +kernel
theorem d_R_crash_29 : decode prog_6_method_29_code 29 = .ok (.imul, 1) := by decide +kernel
theorem d_R_crash_30 : decode prog_6_method_29_code 30 = .ok (.iconst 3, 1) := by decide +kernel
theorem d_R_crash_31 : decode prog_6_method_29_code 31 = .ok (.iadd, 1) := by decide +kernel
theorem d_R_crash_32 : decode prog_6_method_29_code 32 = .ok (.iaload, 1) := by decide +kernel
theorem d_R_crash_33 : decode prog_6_method_29_code 33 = .ok (.ireturn, 1) := by decide +kernel
theorem d_R_spoil_0 : decode prog_6_method_30_code 0 = .ok (.iload_n 1, 1) := by decide +kernel
theorem d_R_spoil_1 : decode prog_6_method_30_code 1 = .ok (.ifCond .lt 11, 3) := by decide +kernel
theorem d_R_spoil_4 : decode prog_6_method_30_code 4 = .ok (.iload_n 1, 1) := by decide +kernel
theorem d_R_spoil_5 : decode prog_6_method_30_code 5 = .ok (.aload_n 0, 1) := by decide +kernel
theorem d_R_spoil_6 : decode prog_6_method_30_code 6 = .ok (.getfield 66, 3) := by decide +kernel
theorem d_R_spoil_9 : decode prog_6_method_30_code 9 = .ok (.if_icmp .lt 5, 3) := by decide +kernel
theorem d_R_spoil_12 : decode prog_6_method_30_code 12 = .ok (.iconst 0, 1) := by decide +kernel
theorem d_R_spoil_13 : decode prog_6_method_30_code 13 = .ok (.ireturn, 1) := by decide +kernel
theorem d_R_spoil_14 : decode prog_6_method_30_code 14 = .ok (.aload_n 0, 1) := by decide +kernel
theorem d_R_spoil_15 : decode prog_6_method_30_code 15 = .ok (.getfield 7, 3) := by decide +kernel
theorem d_R_spoil_18 : decode prog_6_method_30_code 18 = .ok (.bipush 16, 2) := by decide +kernel
theorem d_R_spoil_20 : decode prog_6_method_30_code 20 = .ok (.iload_n 1, 1) := by decide +kernel
theorem d_R_spoil_21 : decode prog_6_method_30_code 21 = .ok (.imul, 1) := by decide +kernel
theorem d_R_spoil_22 : decode prog_6_method_30_code 22 = .ok (.iconst 1, 1) := by decide +kernel
theorem d_R_spoil_23 : decode prog_6_method_30_code 23 = .ok (.iadd, 1) := by decide +kernel
theorem d_R_spoil_24 : decode prog_6_method_30_code 24 = .ok (.aload_n 0, 1) := by decide +kernel
theorem d_R_spoil_25 : decode prog_6_method_30_code 25 = .ok (.getfield 7, 3) := by decide +kernel
theorem d_R_spoil_28 : decode prog_6_method_30_code 28 = .ok (.bipush 16, 2) := by decide +kernel
theorem d_R_spoil_30 : decode prog_6_method_30_code 30 = .ok (.iload_n 1, 1) := by decide +kernel
theorem d_R_spoil_31 : decode prog_6_method_30_code 31 = .ok (.imul, 1) := by decide +kernel
theorem d_R_spoil_32 : decode prog_6_method_30_code 32 = .ok (.iconst 1, 1) := by decide +kernel
theorem d_R_spoil_33 : decode prog_6_method_30_code 33 = .ok (.iadd, 1) := by decide +kernel
theorem d_R_spoil_34 : decode prog_6_method_30_code 34 = .ok (.iaload, 1) := by decide +kernel
theorem d_R_spoil_35 : decode prog_6_method_30_code 35 = .ok (.iconst 1, 1) := by decide +kernel
theorem d_R_spoil_36 : decode prog_6_method_30_code 36 = .ok (.ixor, 1) := by decide +kernel
theorem d_R_spoil_37 : decode prog_6_method_30_code 37 = .ok (.iastore, 1) := by decide +kernel
theorem d_R_spoil_38 : decode prog_6_method_30_code 38 = .ok (.iconst 1, 1) := by decide +kernel
theorem d_R_spoil_39 : decode prog_6_method_30_code 39 = .ok (.ireturn, 1) := by decide +kernel
theorem d_R_left_0 : decode prog_6_method_31_code 0 = .ok (.aload_n 0, 1) := by decide +kernel
theorem d_R_left_1 : decode prog_6_method_31_code 1 = .ok (.getfield 44, 3) := by decide +kernel
theorem d_R_left_4 : decode prog_6_method_31_code 4 = .ok (.aload_n 0, 1) := by decide +kernel
theorem d_R_left_5 : decode prog_6_method_31_code 5 = .ok (.getfield 66, 3) := by decide +kernel
theorem d_R_left_8 : decode prog_6_method_31_code 8 = .ok (.isub, 1) := by decide +kernel
theorem d_R_left_9 : decode prog_6_method_31_code 9 = .ok (.ireturn, 1) := by decide +kernel
theorem d_R_changed_0 : decode prog_6_method_32_code 0 = .ok (.aload_n 0, 1) := by decide +kernel
theorem d_R_changed_1 : decode prog_6_method_32_code 1 = .ok (.iconst (-1), 1) := by decide +kernel
theorem d_R_changed_2 : decode prog_6_method_32_code 2 = .ok (.iconst (-1), 1) := by decide +kernel
theorem d_R_changed_3 : decode prog_6_method_32_code 3 = .ok (.iconst (-1), 1) := by decide +kernel
theorem d_R_changed_4 : decode prog_6_method_32_code 4 = .ok (.invokevirtual 103, 3) := by decide +kernel
theorem d_R_changed_7 : decode prog_6_method_32_code 7 = .ok (.ireturn, 1) := by decide +kernel
theorem d_R_tables_0 : decode prog_6_method_33_code 0 = .ok (.iconst 0, 1) := by decide +kernel
theorem d_R_tables_1 : decode prog_6_method_33_code 1 = .ok (.istore_n 1, 1) := by decide +kernel
theorem d_R_tables_2 : decode prog_6_method_33_code 2 = .ok (.iconst 0, 1) := by decide +kernel
theorem d_R_tables_3 : decode prog_6_method_33_code 3 = .ok (.istore_n 2, 1) := by decide +kernel
theorem d_R_tables_4 : decode prog_6_method_33_code 4 = .ok (.iload_n 2, 1) := by decide +kernel
theorem d_R_tables_5 : decode prog_6_method_33_code 5 = .ok (.aload_n 0, 1) := by decide +kernel
theorem d_R_tables_6 : decode prog_6_method_33_code 6 = .ok (.getfield 66, 3) := by decide +kernel
theorem d_R_tables_9 : decode prog_6_method_33_code 9 = .ok (.if_icmp .ge 25, 3) := by decide +kernel
theorem d_R_tables_12 : decode prog_6_method_33_code 12 = .ok (.aload_n 0, 1) := by decide +kernel
theorem d_R_tables_13 : decode prog_6_method_33_code 13 = .ok (.iload_n 2, 1) := by decide +kernel
theorem d_R_tables_14 : decode prog_6_method_33_code 14 = .ok (.invokevirtual 69, 3) := by decide +kernel
theorem d_R_tables_17 : decode prog_6_method_33_code 17 = .ok (.ifCond .eq 9, 3) := by decide +kernel
theorem d_R_tables_20 : decode prog_6_method_33_code 20 = .ok (.iload_n 1, 1) := by decide +kernel
theorem d_R_tables_21 : decode prog_6_method_33_code 21 = .ok (.iconst 1, 1) := by decide +kernel
theorem d_R_tables_22 : decode prog_6_method_33_code 22 = .ok (.iadd, 1) := by decide +kernel
theorem d_R_tables_23 : decode prog_6_method_33_code 23 = .ok (.goto 4, 3) := by decide +kernel
theorem d_R_tables_26 : decode prog_6_method_33_code 26 = .ok (.iload_n 1, 1) := by decide +kernel
theorem d_R_tables_27 : decode prog_6_method_33_code 27 = .ok (.istore_n 1, 1) := by decide +kernel
theorem d_R_tables_28 : decode prog_6_method_33_code 28 = .ok (.iinc 2 1, 3) := by decide +kernel
theorem d_R_tables_31 : decode prog_6_method_33_code 31 = .ok (.goto (-27), 3) := by decide +kernel
theorem d_R_tables_34 : decode prog_6_method_33_code 34 = .ok (.iload_n 1, 1) := by decide +kernel
theorem d_R_tables_35 : decode prog_6_method_33_code 35 = .ok (.ireturn, 1) := by decide +kernel
theorem d_R_sees_0 : decode prog_6_method_34_code 0 = .ok (.iload_n 2, 1) := by decide +kernel
theorem d_R_sees_1 : decode prog_6_method_34_code 1 = .ok (.ifCond .lt 17, 3) := by decide +kernel
theorem d_R_sees_4 : decode prog_6_method_34_code 4 = .ok (.iload_n 2, 1) := by decide +kernel
theorem d_R_sees_5 : decode prog_6_method_34_code 5 = .ok (.bipush 7, 2) := by decide +kernel
theorem d_R_sees_7 : decode prog_6_method_34_code 7 = .ok (.if_icmp .gt 11, 3) := by decide +kernel
theorem d_R_sees_10 : decode prog_6_method_34_code 10 = .ok (.aload_n 0, 1) := by decide +kernel
theorem d_R_sees_11 : decode prog_6_method_34_code 11 = .ok (.iload_n 1, 1) := by decide +kernel
theorem d_R_sees_12 : decode prog_6_method_34_code 12 = .ok (.invokevirtual 130, 3) := by decide +kernel
theorem d_R_sees_15 : decode prog_6_method_34_code 15 = .ok (.ifCond .ne 5, 3) := by decide +kernel
theorem d_R_sees_18 : decode prog_6_method_34_code 18 = .ok (.iconst 0, 1) := by decide +kernel
theorem d_R_sees_19 : decode prog_6_method_34_code 19 = .ok (.ireturn, 1) := by decide +kernel
theorem d_R_sees_20 : decode prog_6_method_34_code 20 = .ok (.iload_n 3, 1) := by decide +kernel
theorem d_R_sees_21 : decode prog_6_method_34_code 21 = .ok (.ifCond .ne 20, 3) := by decide +kernel
theorem d_R_sees_24 : decode prog_6_method_34_code 24 = .ok (.aload_n 0, 1) := by decide +kernel
theorem d_R_sees_25 : decode prog_6_method_34_code 25 = .ok (.getfield 29, 3) := by decide +kernel
theorem d_R_sees_28 : decode prog_6_method_34_code 28 = .ok (.iload_n 2, 1) := by decide +kernel
theorem d_R_sees_29 : decode prog_6_method_34_code 29 = .ok (.iaload, 1) := by decide +kernel
theorem d_R_sees_30 : decode prog_6_method_34_code 30 = .ok (.ifCond .eq 7, 3) := by decide +kernel
theorem d_R_sees_33 : decode prog_6_method_34_code 33 = .ok (.iconst 1, 1) := by decide +kernel
theorem d_R_sees_34 : decode prog_6_method_34_code 34 = .ok (.goto 22, 3) := by decide +kernel
theorem d_R_sees_37 : decode prog_6_method_34_code 37 = .ok (.iconst 0, 1) := by decide +kernel
theorem d_R_sees_38 : decode prog_6_method_34_code 38 = .ok (.goto 18, 3) := by decide +kernel
theorem d_R_sees_41 : decode prog_6_method_34_code 41 = .ok (.aload_n 0, 1) := by decide +kernel
theorem d_R_sees_42 : decode prog_6_method_34_code 42 = .ok (.getfield 29, 3) := by decide +kernel
theorem d_R_sees_45 : decode prog_6_method_34_code 45 = .ok (.iload_n 2, 1) := by decide +kernel
theorem d_R_sees_46 : decode prog_6_method_34_code 46 = .ok (.iaload, 1) := by decide +kernel
theorem d_R_sees_47 : decode prog_6_method_34_code 47 = .ok (.iload_n 3, 1) := by decide +kernel
theorem d_R_sees_48 : decode prog_6_method_34_code 48 = .ok (.if_icmp .ne 7, 3) := by decide +kernel
theorem d_R_sees_51 : decode prog_6_method_34_code 51 = .ok (.iconst 1, 1) := by decide +kernel
theorem d_R_sees_52 : decode prog_6_method_34_code 52 = .ok (.goto 4, 3) := by decide +kernel
theorem d_R_sees_55 : decode prog_6_method_34_code 55 = .ok (.iconst 0, 1) := by decide +kernel
theorem d_R_sees_56 : decode prog_6_method_34_code 56 = .ok (.ireturn, 1) := by decide +kernel
theorem d_R_kind_0 : decode prog_6_method_35_code 0 = .ok (.aload_n 0, 1) := by decide +kernel
theorem d_R_kind_1 : decode prog_6_method_35_code 1 = .ok (.iload_n 1, 1) := by decide +kernel
theorem d_R_kind_2 : decode prog_6_method_35_code 2 = .ok (.iload_n 2, 1) := by decide +kernel
theorem d_R_kind_3 : decode prog_6_method_35_code 3 = .ok (.iconst 0, 1) := by decide +kernel
theorem d_R_kind_4 : decode prog_6_method_35_code 4 = .ok (.invokevirtual 133, 3) := by decide +kernel
theorem d_R_kind_7 : decode prog_6_method_35_code 7 = .ok (.ifCond .eq 12, 3) := by decide +kernel
theorem d_R_kind_10 : decode prog_6_method_35_code 10 = .ok (.aload_n 0, 1) := by decide +kernel
theorem d_R_kind_11 : decode prog_6_method_35_code 11 = .ok (.getfield 29, 3) := by decide +kernel
theorem d_R_kind_14 : decode prog_6_method_35_code 14 = .ok (.iload_n 2, 1) := by decide +kernel
theorem d_R_kind_15 : decode prog_6_method_35_code 15 = .ok (.iaload, 1) := by decide +kernel
theorem d_R_kind_16 : decode prog_6_method_35_code 16 = .ok (.goto 4, 3) := by decide +kernel
theorem d_R_kind_19 : decode prog_6_method_35_code 19 = .ok (.iconst (-1), 1) := by decide +kernel
theorem d_R_kind_20 : decode prog_6_method_35_code 20 = .ok (.ireturn, 1) := by decide +kernel
theorem d_R_items_0 : decode prog_6_method_36_code 0 = .ok (.aload_n 0, 1) := by decide +kernel
theorem d_R_items_1 : decode prog_6_method_36_code 1 = .ok (.iload_n 1, 1) := by decide +kernel
theorem d_R_items_2 : decode prog_6_method_36_code 2 = .ok (.iload_n 2, 1) := by decide +kernel
theorem d_R_items_3 : decode prog_6_method_36_code 3 = .ok (.iconst 0, 1) := by decide +kernel
theorem d_R_items_4 : decode prog_6_method_36_code 4 = .ok (.invokevirtual 133, 3) := by decide +kernel
theorem d_R_items_7 : decode prog_6_method_36_code 7 = .ok (.ifCond .eq 12, 3) := by decide +kernel
theorem d_R_items_10 : decode prog_6_method_36_code 10 = .ok (.aload_n 0, 1) := by decide +kernel
theorem d_R_items_11 : decode prog_6_method_36_code 11 = .ok (.getfield 32, 3) := by decide +kernel
theorem d_R_items_14 : decode prog_6_method_36_code 14 = .ok (.iload_n 2, 1) := by decide +kernel
theorem d_R_items_15 : decode prog_6_method_36_code 15 = .ok (.iaload, 1) := by decide +kernel
theorem d_R_items_16 : decode prog_6_method_36_code 16 = .ok (.goto 4, 3) := by decide +kernel
theorem d_R_items_19 : decode prog_6_method_36_code 19 = .ok (.iconst (-1), 1) := by decide +kernel
theorem d_R_items_20 : decode prog_6_method_36_code 20 = .ok (.ireturn, 1) := by decide +kernel
theorem d_R_find_0 : decode prog_6_method_37_code 0 = .ok (.aload_n 0, 1) := by decide +kernel
theorem d_R_find_1 : decode prog_6_method_37_code 1 = .ok (.iload_n 1, 1) := by decide +kernel
theorem d_R_find_2 : decode prog_6_method_37_code 2 = .ok (.iload_n 2, 1) := by decide +kernel
theorem d_R_find_3 : decode prog_6_method_37_code 3 = .ok (.iconst 1, 1) := by decide +kernel
theorem d_R_find_4 : decode prog_6_method_37_code 4 = .ok (.invokevirtual 133, 3) := by decide +kernel
theorem d_R_find_7 : decode prog_6_method_37_code 7 = .ok (.ifCond .ne 5, 3) := by decide +kernel
theorem d_R_find_10 : decode prog_6_method_37_code 10 = .ok (.iconst (-1), 1) := by decide +kernel
theorem d_R_find_11 : decode prog_6_method_37_code 11 = .ok (.ireturn, 1) := by decide +kernel
theorem d_R_find_12 : decode prog_6_method_37_code 12 = .ok (.iconst 0, 1) := by decide +kernel
theorem d_R_find_13 : decode prog_6_method_37_code 13 = .ok (.istore 4, 2) := by decide +kernel
theorem d_R_find_15 : decode prog_6_method_37_code 15 = .ok (.iload 4, 2) := by decide +kernel
theorem d_R_find_17 : decode prog_6_method_37_code 17 = .ok (.aload_n 0, 1) := by decide +kernel
theorem d_R_find_18 : decode prog_6_method_37_code 18 = .ok (.getfield 32, 3) := by decide +kernel
theorem d_R_find_21 : decode prog_6_method_37_code 21 = .ok (.iload_n 2, 1) := by decide +kernel
theorem d_R_find_22 : decode prog_6_method_37_code 22 = .ok (.iaload, 1) := by decide +kernel
theorem d_R_find_23 : decode prog_6_method_37_code 23 = .ok (.if_icmp .ge 44, 3) := by decide +kernel
theorem d_R_find_26 : decode prog_6_method_37_code 26 = .ok (.aload_n 0, 1) := by decide +kernel
theorem d_R_find_27 : decode prog_6_method_37_code 27 = .ok (.getfield 35, 3) := by decide +kernel
theorem d_R_find_30 : decode prog_6_method_37_code 30 = .ok (.bipush 10, 2) := by decide +kernel
theorem d_R_find_32 : decode prog_6_method_37_code 32 = .ok (.iload_n 2, 1) := by decide +kernel
theorem d_R_find_33 : decode prog_6_method_37_code 33 = .ok (.imul, 1) := by decide +kernel
theorem d_R_find_34 : decode prog_6_method_37_code 34 = .ok (.iload 4, 2) := by decide +kernel
theorem d_R_find_36 : decode prog_6_method_37_code 36 = .ok (.iadd, 1) := by decide +kernel
theorem d_R_find_37 : decode prog_6_method_37_code 37 = .ok (.iaload, 1) := by decide +kernel
theorem d_R_find_38 : decode prog_6_method_37_code 38 = .ok (.bipush 16, 2) := by decide +kernel
theorem d_R_find_40 : decode prog_6_method_37_code 40 = .ok (.idiv, 1) := by decide +kernel
theorem d_R_find_41 : decode prog_6_method_37_code 41 = .ok (.iload_n 3, 1) := by decide +kernel
theorem d_R_find_42 : decode prog_6_method_37_code 42 = .ok (.if_icmp .ne 19, 3) := by decide +kernel
theorem d_R_find_45 : decode prog_6_method_37_code 45 = .ok (.aload_n 0, 1) := by decide +kernel
theorem d_R_find_46 : decode prog_6_method_37_code 46 = .ok (.getfield 35, 3) := by decide +kernel
theorem d_R_find_49 : decode prog_6_method_37_code 49 = .ok (.bipush 10, 2) := by decide +kernel
theorem d_R_find_51 : decode prog_6_method_37_code 51 = .ok (.iload_n 2, 1) := by decide +kernel
theorem d_R_find_52 : decode prog_6_method_37_code 52 = .ok (.imul, 1) := by decide +kernel
theorem d_R_find_53 : decode prog_6_method_37_code 53 = .ok (.iload 4, 2) := by decide +kernel
theorem d_R_find_55 : decode prog_6_method_37_code 55 = .ok (.iadd, 1) := by decide +kernel
theorem d_R_find_56 : decode prog_6_method_37_code 56 = .ok (.iaload, 1) := by decide +kernel
theorem d_R_find_57 : decode prog_6_method_37_code 57 = .ok (.bipush 16, 2) := by decide +kernel
theorem d_R_find_59 : decode prog_6_method_37_code 59 = .ok (.irem, 1) := by decide +kernel
theorem d_R_find_60 : decode prog_6_method_37_code 60 = .ok (.ireturn, 1) := by decide +kernel
theorem d_R_find_61 : decode prog_6_method_37_code 61 = .ok (.iinc 4 1, 3) := by decide +kernel
theorem d_R_find_64 : decode prog_6_method_37_code 64 = .ok (.goto (-49), 3) := by decide +kernel
theorem d_R_find_67 : decode prog_6_method_37_code 67 = .ok (.iconst (-1), 1) := by decide +kernel
theorem d_R_find_68 : decode prog_6_method_37_code 68 = .ok (.ireturn, 1) := by decide +kernel
theorem d_R_item_0 : decode prog_6_method_38_code 0 = .ok (.aload_n 0, 1) := by decide +kernel
theorem d_R_item_1 : decode prog_6_method_38_code 1 = .ok (.iload_n 1, 1) := by decide +kernel
theorem d_R_item_2 : decode prog_6_method_38_code 2 = .ok (.iload_n 2, 1) := by decide +kernel
theorem d_R_item_3 : decode prog_6_method_38_code 3 = .ok (.iconst 1, 1) := by decide +kernel
theorem d_R_item_4 : decode prog_6_method_38_code 4 = .ok (.invokevirtual 133, 3) := by decide +kernel
theorem d_R_item_7 : decode prog_6_method_38_code 7 = .ok (.ifCond .eq 31, 3) := by decide +kernel
theorem d_R_item_10 : decode prog_6_method_38_code 10 = .ok (.iload_n 3, 1) := by decide +kernel
theorem d_R_item_11 : decode prog_6_method_38_code 11 = .ok (.ifCond .lt 27, 3) := by decide +kernel
theorem d_R_item_14 : decode prog_6_method_38_code 14 = .ok (.iload_n 3, 1) := by decide +kernel
theorem d_R_item_15 : decode prog_6_method_38_code 15 = .ok (.aload_n 0, 1) := by decide +kernel
theorem d_R_item_16 : decode prog_6_method_38_code 16 = .ok (.getfield 32, 3) := by decide +kernel
theorem d_R_item_19 : decode prog_6_method_38_code 19 = .ok (.iload_n 2, 1) := by decide +kernel
theorem d_R_item_20 : decode prog_6_method_38_code 20 = .ok (.iaload, 1) := by decide +kernel
theorem d_R_item_21 : decode prog_6_method_38_code 21 = .ok (.if_icmp .ge 17, 3) := by decide +kernel
theorem d_R_item_24 : decode prog_6_method_38_code 24 = .ok (.aload_n 0, 1) := by decide +kernel
theorem d_R_item_25 : decode prog_6_method_38_code 25 = .ok (.getfield 35, 3) := by decide +kernel
theorem d_R_item_28 : decode prog_6_method_38_code 28 = .ok (.bipush 10, 2) := by decide +kernel
theorem d_R_item_30 : decode prog_6_method_38_code 30 = .ok (.iload_n 2, 1) := by decide +kernel
theorem d_R_item_31 : decode prog_6_method_38_code 31 = .ok (.imul, 1) := by decide +kernel
theorem d_R_item_32 : decode prog_6_method_38_code 32 = .ok (.iload_n 3, 1) := by decide +kernel
theorem d_R_item_33 : decode prog_6_method_38_code 33 = .ok (.iadd, 1) := by decide +kernel
theorem d_R_item_34 : decode prog_6_method_38_code 34 = .ok (.iaload, 1) := by decide +kernel
theorem d_R_item_35 : decode prog_6_method_38_code 35 = .ok (.goto 4, 3) := by decide +kernel
theorem d_R_item_38 : decode prog_6_method_38_code 38 = .ok (.iconst (-1), 1) := by decide +kernel
theorem d_R_item_39 : decode prog_6_method_38_code 39 = .ok (.ireturn, 1) := by decide +kernel
theorem d_R_block_0 : decode prog_6_method_39_code 0 = .ok (.aload_n 0, 1) := by decide +kernel
theorem d_R_block_1 : decode prog_6_method_39_code 1 = .ok (.iload_n 1, 1) := by decide +kernel
theorem d_R_block_2 : decode prog_6_method_39_code 2 = .ok (.iload_n 2, 1) := by decide +kernel
theorem d_R_block_3 : decode prog_6_method_39_code 3 = .ok (.iconst 2, 1) := by decide +kernel
theorem d_R_block_4 : decode prog_6_method_39_code 4 = .ok (.invokevirtual 133, 3) := by decide +kernel
theorem d_R_block_7 : decode prog_6_method_39_code 7 = .ok (.ifCond .eq 17, 3) := by decide +kernel
theorem d_R_block_10 : decode prog_6_method_39_code 10 = .ok (.iload_n 3, 1) := by decide +kernel
theorem d_R_block_11 : decode prog_6_method_39_code 11 = .ok (.ifCond .lt 13, 3) := by decide +kernel
theorem d_R_block_14 : decode prog_6_method_39_code 14 = .ok (.iload_n 3, 1) := by decide +kernel
theorem d_R_block_15 : decode prog_6_method_39_code 15 = .ok (.aload_n 0, 1) := by decide +kernel
theorem d_R_block_16 : decode prog_6_method_39_code 16 = .ok (.getfield 32, 3) := by decide +kernel
theorem d_R_block_19 : decode prog_6_method_39_code 19 = .ok (.iload_n 2, 1) := by decide +kernel
theorem d_R_block_20 : decode prog_6_method_39_code 20 = .ok (.iaload, 1) := by decide +kernel
theorem d_R_block_21 : decode prog_6_method_39_code 21 = .ok (.if_icmp .lt 5, 3) := by decide +kernel
theorem d_R_block_24 : decode prog_6_method_39_code 24 = .ok (.iconst (-1), 1) := by decide +kernel
theorem d_R_block_25 : decode prog_6_method_39_code 25 = .ok (.ireturn, 1) := by decide +kernel
theorem d_R_block_26 : decode prog_6_method_39_code 26 = .ok (.aload_n 0, 1) := by decide +kernel
theorem d_R_block_27 : decode prog_6_method_39_code 27 = .ok (.getfield 35, 3) := by decide +kernel
theorem d_R_block_30 : decode prog_6_method_39_code 30 = .ok (.bipush 10, 2) := by decide +kernel
theorem d_R_block_32 : decode prog_6_method_39_code 32 = .ok (.iload_n 2, 1) := by decide +kernel
theorem d_R_block_33 : decode prog_6_method_39_code 33 = .ok (.imul, 1) := by decide +kernel
theorem d_R_block_34 : decode prog_6_method_39_code 34 = .ok (.iload_n 3, 1) := by decide +kernel
theorem d_R_block_35 : decode prog_6_method_39_code 35 = .ok (.iadd, 1) := by decide +kernel
theorem d_R_block_36 : decode prog_6_method_39_code 36 = .ok (.iaload, 1) := by decide +kernel
theorem d_R_block_37 : decode prog_6_method_39_code 37 = .ok (.istore 4, 2) := by decide +kernel
theorem d_R_block_39 : decode prog_6_method_39_code 39 = .ok (.aload_n 0, 1) := by decide +kernel
theorem d_R_block_40 : decode prog_6_method_39_code 40 = .ok (.iload 4, 2) := by decide +kernel
theorem d_R_block_42 : decode prog_6_method_39_code 42 = .ok (.invokevirtual 62, 3) := by decide +kernel
theorem d_R_block_45 : decode prog_6_method_39_code 45 = .ok (.ifCond .eq 18, 3) := by decide +kernel
theorem d_R_block_48 : decode prog_6_method_39_code 48 = .ok (.aload_n 0, 1) := by decide +kernel
theorem d_R_block_49 : decode prog_6_method_39_code 49 = .ok (.getfield 7, 3) := by decide +kernel
theorem d_R_block_52 : decode prog_6_method_39_code 52 = .ok (.bipush 16, 2) := by decide +kernel
theorem d_R_block_54 : decode prog_6_method_39_code 54 = .ok (.iload 4, 2) := by decide +kernel
theorem d_R_block_56 : decode prog_6_method_39_code 56 = .ok (.imul, 1) := by decide +kernel
theorem d_R_block_57 : decode prog_6_method_39_code 57 = .ok (.iconst 4, 1) := by decide +kernel
theorem d_R_block_58 : decode prog_6_method_39_code 58 = .ok (.iadd, 1) := by decide +kernel
theorem d_R_block_59 : decode prog_6_method_39_code 59 = .ok (.iaload, 1) := by decide +kernel
theorem d_R_block_60 : decode prog_6_method_39_code 60 = .ok (.goto 5, 3) := by decide +kernel
theorem d_R_block_63 : decode prog_6_method_39_code 63 = .ok (.bipush (-8), 2) := by decide +kernel
theorem d_R_block_65 : decode prog_6_method_39_code 65 = .ok (.ireturn, 1) := by decide +kernel
theorem d_R_word_0 : decode prog_6_method_40_code 0 = .ok (.iload_n 1, 1) := by decide +kernel
theorem d_R_word_1 : decode prog_6_method_40_code 1 = .ok (.ifCond .lt 21, 3) := by decide +kernel
theorem d_R_word_4 : decode prog_6_method_40_code 4 = .ok (.iload_n 1, 1) := by decide +kernel
theorem d_R_word_5 : decode prog_6_method_40_code 5 = .ok (.aload_n 0, 1) := by decide +kernel
theorem d_R_word_6 : decode prog_6_method_40_code 6 = .ok (.getfield 44, 3) := by decide +kernel
theorem d_R_word_9 : decode prog_6_method_40_code 9 = .ok (.if_icmp .ge 13, 3) := by decide +kernel
theorem d_R_word_12 : decode prog_6_method_40_code 12 = .ok (.iload_n 2, 1) := by decide +kernel
theorem d_R_word_13 : decode prog_6_method_40_code 13 = .ok (.ifCond .lt 9, 3) := by decide +kernel
theorem d_R_word_16 : decode prog_6_method_40_code 16 = .ok (.iload_n 2, 1) := by decide +kernel
theorem d_R_word_17 : decode prog_6_method_40_code 17 = .ok (.bipush 15, 2) := by decide +kernel
theorem d_R_word_19 : decode prog_6_method_40_code 19 = .ok (.if_icmp .le 7, 3) := by decide +kernel
theorem d_R_word_22 : decode prog_6_method_40_code 22 = .ok (.iconst (-1), 1) := by decide +kernel
theorem d_R_word_23 : decode prog_6_method_40_code 23 = .ok (.goto 14, 3) := by decide +kernel
theorem d_R_word_26 : decode prog_6_method_40_code 26 = .ok (.aload_n 0, 1) := by decide +kernel
theorem d_R_word_27 : decode prog_6_method_40_code 27 = .ok (.getfield 7, 3) := by decide +kernel
theorem d_R_word_30 : decode prog_6_method_40_code 30 = .ok (.bipush 16, 2) := by decide +kernel
theorem d_R_word_32 : decode prog_6_method_40_code 32 = .ok (.iload_n 1, 1) := by decide +kernel
theorem d_R_word_33 : decode prog_6_method_40_code 33 = .ok (.imul, 1) := by decide +kernel
theorem d_R_word_34 : decode prog_6_method_40_code 34 = .ok (.iload_n 2, 1) := by decide +kernel
theorem d_R_word_35 : decode prog_6_method_40_code 35 = .ok (.iadd, 1) := by decide +kernel
theorem d_R_word_36 : decode prog_6_method_40_code 36 = .ok (.iaload, 1) := by decide +kernel
theorem d_R_word_37 : decode prog_6_method_40_code 37 = .ok (.ireturn, 1) := by decide +kernel
theorem d_L_cell_0 : decode method_2_code 0 = .ok (.iload_n 1, 1) := by decide +kernel
theorem d_L_cell_1 : decode method_2_code 1 = .ok (.aload_n 0, 1) := by decide +kernel
theorem d_L_cell_2 : decode method_2_code 2 = .ok (.arraylength, 1) := by decide +kernel
theorem d_L_cell_3 : decode method_2_code 3 = .ok (.if_icmp .ge 9, 3) := by decide +kernel
theorem d_L_cell_6 : decode method_2_code 6 = .ok (.aload_n 0, 1) := by decide +kernel
theorem d_L_cell_7 : decode method_2_code 7 = .ok (.iload_n 1, 1) := by decide +kernel
theorem d_L_cell_8 : decode method_2_code 8 = .ok (.iaload, 1) := by decide +kernel
theorem d_L_cell_9 : decode method_2_code 9 = .ok (.goto 4, 3) := by decide +kernel
theorem d_L_cell_12 : decode method_2_code 12 = .ok (.iconst 0, 1) := by decide +kernel
theorem d_L_cell_13 : decode method_2_code 13 = .ok (.ireturn, 1) := by decide +kernel
end
section
/- contracts of three forms: a question (aw_I), an order (aw_P), an order with an answer (aw_F); rows for their calls -/
def aw_I (l : Launch) (G : aw_G) (d : Nat) (y : aw_Y) (as : List aw_V) (h : aw_H) (v : aw_V) : Prop := aw_C l G d y as h (fun r h' => r = some v ∧ h' = h)
def aw_P (l : Launch) (G : aw_G) (d : Nat) (y : aw_Y) (as : List aw_V) (h : aw_H) (Q : aw_H → Prop) : Prop := aw_C l G d y as h (fun r h' => r = none ∧ Q h')
def aw_F (l : Launch) (G : aw_G) (d : Nat) (y : aw_Y) (as : List aw_V) (h : aw_H) (Q : aw_V → aw_H → Prop) : Prop := aw_C l G d y as h (fun r h' => ∃ v, r = some v ∧ Q v h')
section AQ
variable {M : aw_M} {G : aw_G} {cc : ByteArray} {nL d pc q : Nat} {own : String} {ls : List (Option aw_V)} {st : List aw_V} {h : aw_H}
theorem ax_qV0 (B : aw_B M G cc nL own d) {ix c d' a : Nat} {y : aw_Y} {v : aw_V} (V : aw_cv own ix y c 0) (hd : decode cc pc = .ok (.invokevirtual ix, 3)) (ha : aw_is G a c) (hst : st.length ≤ 8) (hdd : d' < d) (C : aw_I M.2.1 G d' y (.inl (some a) :: []) h v) (hq : pc + 3 = q) (K : aw_X M G nL q ls (v :: st) h) : aw_X M G nL pc ls (.inl (some a) :: st) h := ax_callV (as := []) (rs := []) B V hd ha.1 ha.2 rfl rfl hst hdd C hq (fun r h' hp => by obtain ⟨rfl, rfl⟩ := hp; exact K)
theorem ax_pV0 (B : aw_B M G cc nL own d) {ix c d' a : Nat} {y : aw_Y} {Q : aw_H → Prop} (V : aw_cv own ix y c 0) (hd : decode cc pc = .ok (.invokevirtual ix, 3)) (ha : aw_is G a c) (hst : st.length ≤ 8) (hdd : d' < d) (C : aw_P M.2.1 G d' y (.inl (some a) :: []) h Q) (hq : pc + 3 = q) (K : ∀ h', Q h' → aw_X M G nL q ls st h') : aw_X M G nL pc ls (.inl (some a) :: st) h := ax_callV (as := []) (rs := []) B V hd ha.1 ha.2 rfl rfl hst hdd C hq (fun r h' hp => by obtain ⟨rfl, hQ⟩ := hp; exact K h' hQ)
theorem ax_gV0 (B : aw_B M G cc nL own d) {ix c d' a : Nat} {y : aw_Y} {Q : aw_V → aw_H → Prop} (V : aw_cv own ix y c 0) (hd : decode cc pc = .ok (.invokevirtual ix, 3)) (ha : aw_is G a c) (hst : st.length ≤ 8) (hdd : d' < d) (C : aw_F M.2.1 G d' y (.inl (some a) :: []) h Q) (hq : pc + 3 = q) (K : ∀ v h', Q v h' → aw_X M G nL q ls (v :: st) h') : aw_X M G nL pc ls (.inl (some a) :: st) h := ax_callV (as := []) (rs := []) B V hd ha.1 ha.2 rfl rfl hst hdd C hq (fun r h' hp => by obtain ⟨v, rfl, hQ⟩ := hp; exact K v h' hQ)
theorem ax_qV1 (B : aw_B M G cc nL own d) {ix c d' a : Nat} {y : aw_Y} {x1 : aw_V} {v : aw_V} (V : aw_cv own ix y c 1) (hd : decode cc pc = .ok (.invokevirtual ix, 3)) (ha : aw_is G a c) (hst : st.length ≤ 8) (hdd : d' < d) (C : aw_I M.2.1 G d' y (.inl (some a) :: [x1]) h v) (hq : pc + 3 = q) (K : aw_X M G nL q ls (v :: st) h) : aw_X M G nL pc ls (x1 :: .inl (some a) :: st) h := ax_callV (as := [x1]) (rs := [x1]) B V hd ha.1 ha.2 rfl rfl hst hdd C hq (fun r h' hp => by obtain ⟨rfl, rfl⟩ := hp; exact K)
theorem ax_pV1 (B : aw_B M G cc nL own d) {ix c d' a : Nat} {y : aw_Y} {x1 : aw_V} {Q : aw_H → Prop} (V : aw_cv own ix y c 1) (hd : decode cc pc = .ok (.invokevirtual ix, 3)) (ha : aw_is G a c) (hst : st.length ≤ 8) (hdd : d' < d) (C : aw_P M.2.1 G d' y (.inl (some a) :: [x1]) h Q) (hq : pc + 3 = q) (K : ∀ h', Q h' → aw_X M G nL q ls st h') : aw_X M G nL pc ls (x1 :: .inl (some a) :: st) h := ax_callV (as := [x1]) (rs := [x1]) B V hd ha.1 ha.2 rfl rfl hst hdd C hq (fun r h' hp => by obtain ⟨rfl, hQ⟩ := hp; exact K h' hQ)
theorem ax_gV1 (B : aw_B M G cc nL own d) {ix c d' a : Nat} {y : aw_Y} {x1 : aw_V} {Q : aw_V → aw_H → Prop} (V : aw_cv own ix y c 1) (hd : decode cc pc = .ok (.invokevirtual ix, 3)) (ha : aw_is G a c) (hst : st.length ≤ 8) (hdd : d' < d) (C : aw_F M.2.1 G d' y (.inl (some a) :: [x1]) h Q) (hq : pc + 3 = q) (K : ∀ v h', Q v h' → aw_X M G nL q ls (v :: st) h') : aw_X M G nL pc ls (x1 :: .inl (some a) :: st) h := ax_callV (as := [x1]) (rs := [x1]) B V hd ha.1 ha.2 rfl rfl hst hdd C hq (fun r h' hp => by obtain ⟨v, rfl, hQ⟩ := hp; exact K v h' hQ)
theorem ax_qV2 (B : aw_B M G cc nL own d) {ix c d' a : Nat} {y : aw_Y} {x1 x2 : aw_V} {v : aw_V} (V : aw_cv own ix y c 2) (hd : decode cc pc = .ok (.invokevirtual ix, 3)) (ha : aw_is G a c) (hst : st.length ≤ 8) (hdd : d' < d) (C : aw_I M.2.1 G d' y (.inl (some a) :: [x1, x2]) h v) (hq : pc + 3 = q) (K : aw_X M G nL q ls (v :: st) h) : aw_X M G nL pc ls (x2 :: x1 :: .inl (some a) :: st) h := ax_callV (as := [x1, x2]) (rs := [x2, x1]) B V hd ha.1 ha.2 rfl rfl hst hdd C hq (fun r h' hp => by obtain ⟨rfl, rfl⟩ := hp; exact K)
theorem ax_pV2 (B : aw_B M G cc nL own d) {ix c d' a : Nat} {y : aw_Y} {x1 x2 : aw_V} {Q : aw_H → Prop} (V : aw_cv own ix y c 2) (hd : decode cc pc = .ok (.invokevirtual ix, 3)) (ha : aw_is G a c) (hst : st.length ≤ 8) (hdd : d' < d) (C : aw_P M.2.1 G d' y (.inl (some a) :: [x1, x2]) h Q) (hq : pc + 3 = q) (K : ∀ h', Q h' → aw_X M G nL q ls st h') : aw_X M G nL pc ls (x2 :: x1 :: .inl (some a) :: st) h := ax_callV (as := [x1, x2]) (rs := [x2, x1]) B V hd ha.1 ha.2 rfl rfl hst hdd C hq (fun r h' hp => by obtain ⟨rfl, hQ⟩ := hp; exact K h' hQ)
theorem ax_gV2 (B : aw_B M G cc nL own d) {ix c d' a : Nat} {y : aw_Y} {x1 x2 : aw_V} {Q : aw_V → aw_H → Prop} (V : aw_cv own ix y c 2) (hd : decode cc pc = .ok (.invokevirtual ix, 3)) (ha : aw_is G a c) (hst : st.length ≤ 8) (hdd : d' < d) (C : aw_F M.2.1 G d' y (.inl (some a) :: [x1, x2]) h Q) (hq : pc + 3 = q) (K : ∀ v h', Q v h' → aw_X M G nL q ls (v :: st) h') : aw_X M G nL pc ls (x2 :: x1 :: .inl (some a) :: st) h := ax_callV (as := [x1, x2]) (rs := [x2, x1]) B V hd ha.1 ha.2 rfl rfl hst hdd C hq (fun r h' hp => by obtain ⟨v, rfl, hQ⟩ := hp; exact K v h' hQ)
theorem ax_qV3 (B : aw_B M G cc nL own d) {ix c d' a : Nat} {y : aw_Y} {x1 x2 x3 : aw_V} {v : aw_V} (V : aw_cv own ix y c 3) (hd : decode cc pc = .ok (.invokevirtual ix, 3)) (ha : aw_is G a c) (hst : st.length ≤ 8) (hdd : d' < d) (C : aw_I M.2.1 G d' y (.inl (some a) :: [x1, x2, x3]) h v) (hq : pc + 3 = q) (K : aw_X M G nL q ls (v :: st) h) : aw_X M G nL pc ls (x3 :: x2 :: x1 :: .inl (some a) :: st) h := ax_callV (as := [x1, x2, x3]) (rs := [x3, x2, x1]) B V hd ha.1 ha.2 rfl rfl hst hdd C hq (fun r h' hp => by obtain ⟨rfl, rfl⟩ := hp; exact K)
theorem ax_pV3 (B : aw_B M G cc nL own d) {ix c d' a : Nat} {y : aw_Y} {x1 x2 x3 : aw_V} {Q : aw_H → Prop} (V : aw_cv own ix y c 3) (hd : decode cc pc = .ok (.invokevirtual ix, 3)) (ha : aw_is G a c) (hst : st.length ≤ 8) (hdd : d' < d) (C : aw_P M.2.1 G d' y (.inl (some a) :: [x1, x2, x3]) h Q) (hq : pc + 3 = q) (K : ∀ h', Q h' → aw_X M G nL q ls st h') : aw_X M G nL pc ls (x3 :: x2 :: x1 :: .inl (some a) :: st) h := ax_callV (as := [x1, x2, x3]) (rs := [x3, x2, x1]) B V hd ha.1 ha.2 rfl rfl hst hdd C hq (fun r h' hp => by obtain ⟨rfl, hQ⟩ := hp; exact K h' hQ)
theorem ax_gV3 (B : aw_B M G cc nL own d) {ix c d' a : Nat} {y : aw_Y} {x1 x2 x3 : aw_V} {Q : aw_V → aw_H → Prop} (V : aw_cv own ix y c 3) (hd : decode cc pc = .ok (.invokevirtual ix, 3)) (ha : aw_is G a c) (hst : st.length ≤ 8) (hdd : d' < d) (C : aw_F M.2.1 G d' y (.inl (some a) :: [x1, x2, x3]) h Q) (hq : pc + 3 = q) (K : ∀ v h', Q v h' → aw_X M G nL q ls (v :: st) h') : aw_X M G nL pc ls (x3 :: x2 :: x1 :: .inl (some a) :: st) h := ax_callV (as := [x1, x2, x3]) (rs := [x3, x2, x1]) B V hd ha.1 ha.2 rfl rfl hst hdd C hq (fun r h' hp => by obtain ⟨v, rfl, hQ⟩ := hp; exact K v h' hQ)
theorem ax_qV4 (B : aw_B M G cc nL own d) {ix c d' a : Nat} {y : aw_Y} {x1 x2 x3 x4 : aw_V} {v : aw_V} (V : aw_cv own ix y c 4) (hd : decode cc pc = .ok (.invokevirtual ix, 3)) (ha : aw_is G a c) (hst : st.length ≤ 8) (hdd : d' < d) (C : aw_I M.2.1 G d' y (.inl (some a) :: [x1, x2, x3, x4]) h v) (hq : pc + 3 = q) (K : aw_X M G nL q ls (v :: st) h) : aw_X M G nL pc ls (x4 :: x3 :: x2 :: x1 :: .inl (some a) :: st) h := ax_callV (as := [x1, x2, x3, x4]) (rs := [x4, x3, x2, x1]) B V hd ha.1 ha.2 rfl rfl hst hdd C hq (fun r h' hp => by obtain ⟨rfl, rfl⟩ := hp; exact K)
theorem ax_pV4 (B : aw_B M G cc nL own d) {ix c d' a : Nat} {y : aw_Y} {x1 x2 x3 x4 : aw_V} {Q : aw_H → Prop} (V : aw_cv own ix y c 4) (hd : decode cc pc = .ok (.invokevirtual ix, 3)) (ha : aw_is G a c) (hst : st.length ≤ 8) (hdd : d' < d) (C : aw_P M.2.1 G d' y (.inl (some a) :: [x1, x2, x3, x4]) h Q) (hq : pc + 3 = q) (K : ∀ h', Q h' → aw_X M G nL q ls st h') : aw_X M G nL pc ls (x4 :: x3 :: x2 :: x1 :: .inl (some a) :: st) h := ax_callV (as := [x1, x2, x3, x4]) (rs := [x4, x3, x2, x1]) B V hd ha.1 ha.2 rfl rfl hst hdd C hq (fun r h' hp => by obtain ⟨rfl, hQ⟩ := hp; exact K h' hQ)
theorem ax_gV4 (B : aw_B M G cc nL own d) {ix c d' a : Nat} {y : aw_Y} {x1 x2 x3 x4 : aw_V} {Q : aw_V → aw_H → Prop} (V : aw_cv own ix y c 4) (hd : decode cc pc = .ok (.invokevirtual ix, 3)) (ha : aw_is G a c) (hst : st.length ≤ 8) (hdd : d' < d) (C : aw_F M.2.1 G d' y (.inl (some a) :: [x1, x2, x3, x4]) h Q) (hq : pc + 3 = q) (K : ∀ v h', Q v h' → aw_X M G nL q ls (v :: st) h') : aw_X M G nL pc ls (x4 :: x3 :: x2 :: x1 :: .inl (some a) :: st) h := ax_callV (as := [x1, x2, x3, x4]) (rs := [x4, x3, x2, x1]) B V hd ha.1 ha.2 rfl rfl hst hdd C hq (fun r h' hp => by obtain ⟨v, rfl, hQ⟩ := hp; exact K v h' hQ)
theorem ax_qS1 (B : aw_B M G cc nL own d) {ix d' : Nat} {y : aw_Y} {x1 : aw_V} {v : aw_V} (V : aw_cs own ix y 1) (hd : decode cc pc = .ok (.invokestatic ix, 3)) (hst : st.length ≤ 8) (hdd : d' < d) (C : aw_I M.2.1 G d' y [x1] h v) (hq : pc + 3 = q) (K : aw_X M G nL q ls (v :: st) h) : aw_X M G nL pc ls (x1 :: st) h := ax_callS (as := [x1]) (rs := [x1]) B V hd rfl rfl hst hdd C hq (fun r h' hp => by obtain ⟨rfl, rfl⟩ := hp; exact K)
theorem ax_qS2 (B : aw_B M G cc nL own d) {ix d' : Nat} {y : aw_Y} {x1 x2 : aw_V} {v : aw_V} (V : aw_cs own ix y 2) (hd : decode cc pc = .ok (.invokestatic ix, 3)) (hst : st.length ≤ 8) (hdd : d' < d) (C : aw_I M.2.1 G d' y [x1, x2] h v) (hq : pc + 3 = q) (K : aw_X M G nL q ls (v :: st) h) : aw_X M G nL pc ls (x2 :: x1 :: st) h := ax_callS (as := [x1, x2]) (rs := [x2, x1]) B V hd rfl rfl hst hdd C hq (fun r h' hp => by obtain ⟨rfl, rfl⟩ := hp; exact K)
/-- Math.max, Math.min of two numbers -/
theorem ax_max (B : aw_B M G cc nL own d) {ix : Nat} (hl : Cond.methodLink own ix Lib.Math.max.name ∈ aw_Ts) (hs : Cond.static Lib.Math.max.name ∈ aw_Ts) (hi : Cond.initialized "java/lang/Math" ∈ aw_Ts) (hc : Cond.code Lib.Math.max.name Lib.Math.max.code 2 (some .int) ∈ aw_Ts) (hd : decode cc pc = .ok (.invokestatic ix, 3)) (hst : st.length ≤ 8) (hdd : 0 < d) {x y : Int32} (hq : pc + 3 = q) (K : aw_X M G nL q ls (.inr (if x < y then y else x) :: st) h) : aw_X M G nL pc ls (.inr y :: .inr x :: st) h := by
  obtain ⟨p, l, e, R, s, m, args, below, meth, c, cells, slots, Q⟩ := M
  subst hq
  obtain ⟨b1, b2, b3, b4, b5, b6, b7, b8, b9, b10, b11⟩ := B
  intro H locs la hP hS hla
  exact va_mmax b1 b2 (b3.trans hla.1.symm) b4 (b5 _ hl) (b5 _ hs) (b5 _ hi) (b5 _ hc) (by omega) (by rw [aw_cats]; omega) b10 b11 hd (K H locs la hP hS hla)
theorem ax_min (B : aw_B M G cc nL own d) {ix : Nat} (hl : Cond.methodLink own ix Lib.Math.min.name ∈ aw_Ts) (hs : Cond.static Lib.Math.min.name ∈ aw_Ts) (hi : Cond.initialized "java/lang/Math" ∈ aw_Ts) (hc : Cond.code Lib.Math.min.name Lib.Math.min.code 2 (some .int) ∈ aw_Ts) (hd : decode cc pc = .ok (.invokestatic ix, 3)) (hst : st.length ≤ 8) (hdd : 0 < d) {x y : Int32} (hq : pc + 3 = q) (K : aw_X M G nL q ls (.inr (if y < x then y else x) :: st) h) : aw_X M G nL pc ls (.inr y :: .inr x :: st) h := by
  obtain ⟨p, l, e, R, s, m, args, below, meth, c, cells, slots, Q⟩ := M
  subst hq
  obtain ⟨b1, b2, b3, b4, b5, b6, b7, b8, b9, b10, b11⟩ := B
  intro H locs la hP hS hla
  exact va_mmin b1 b2 (b3.trans hla.1.symm) b4 (b5 _ hl) (b5 _ hs) (b5 _ hi) (b5 _ hc) (by omega) (by rw [aw_cats]; omega) b10 b11 hd (K H locs la hP hS hla)
end AQ
/-- a world that is large enough, of 16 to 128 sectors -/
def gz (G : aw_G) : Prop := aw_ok G ∧ 40 ≤ aw_N G ∧ 16 ≤ aw_n G ∧ aw_n G ≤ 128
theorem gz.is0 {G : aw_G} (h : gz G) : aw_is G 0 3 := ⟨by have := h.2.1; omega, rfl⟩
theorem gz.is1 {G : aw_G} (h : gz G) : aw_is G 1 0 := ⟨by have := h.2.1; omega, rfl⟩
theorem gz.ar2 {G : aw_G} (h : gz G) : aw_ar G 2 0 (aw_n G * 16) := ⟨by have := h.2.1; omega, rfl⟩
theorem gz.ar3 {G : aw_G} (h : gz G) : aw_ar G 3 0 (aw_n G) := ⟨by have := h.2.1; omega, rfl⟩
def pz_small (x : Int32) (z : Nat) : Bool := decide (¬ x < 0 ∧ ¬ nI z ≤ x)
theorem pz_small_t {x : Int32} {z : Nat} (h1 : ¬ x < 0) (h2 : ¬ nI z ≤ x) : pz_small x z = true := decide_eq_true ⟨h1, h2⟩
theorem pz_small_1 {x : Int32} {z : Nat} (h1 : x < 0) : pz_small x z = false := decide_eq_false (fun h => h.1 h1)
theorem pz_small_2 {x : Int32} {z : Nat} (h2 : nI z ≤ x) : pz_small x z = false := decide_eq_false (fun h => h.2 h2)
theorem pz_small_N {j z : Nat} (hz : z < 2 ^ 31) (hj : j < z) : pz_small (nI j) z = true := pz_small_t (nI_pos (by omega)) (nI_ge hj hz)
theorem pz_small_e {x : Int32} {z : Nat} (hz : z < 2 ^ 31) (h : pz_small x z = true) : ∃ j, j < z ∧ x = nI j := by
  have h := of_decide_eq_true h
  rcases pk_ix x hz with h1 | h1 | h1
  · exact absurd h1 h.1
  · exact absurd h1 h.2
  · exact h1
end
section
/- Math.max and Math.min -/
theorem ms_max : Cond.static Lib.Math.max.name ∈ aw_Ts := aw_mem (List.mem_of_getElem? (i := 54) (by decide +kernel)) rfl
theorem mc_max : Cond.code Lib.Math.max.name Lib.Math.max.code 2 (some .int) ∈ aw_Ts := aw_mem (List.mem_of_getElem? (i := 55) (by decide +kernel)) rfl
theorem ms_min : Cond.static Lib.Math.min.name ∈ aw_Ts := aw_mem (List.mem_of_getElem? (i := 51) (by decide +kernel)) rfl
theorem mc_min : Cond.code Lib.Math.min.name Lib.Math.min.code 2 (some .int) ∈ aw_Ts := aw_mem (List.mem_of_getElem? (i := 52) (by decide +kernel)) rfl
theorem mi_math : Cond.initialized "java/lang/Math" ∈ aw_Ts := aw_mem (List.mem_of_getElem? (i := 36) (by decide +kernel)) rfl
theorem ml_S_11 : Cond.methodLink "SessionTables" 11 Lib.Math.min.name ∈ aw_Ts := aw_mem (List.mem_of_getElem? (i := 50) (by decide +kernel)) rfl
theorem ml_S_17 : Cond.methodLink "SessionTables" 17 Lib.Math.max.name ∈ aw_Ts := aw_mem (List.mem_of_getElem? (i := 53) (by decide +kernel)) rfl
theorem ml_N_35 : Cond.methodLink "SessionTables$Node" 35 Lib.Math.min.name ∈ aw_Ts := aw_mem (List.mem_of_getElem? (i := 264) (by decide +kernel)) rfl
theorem ml_N_40 : Cond.methodLink "SessionTables$Node" 40 Lib.Math.max.name ∈ aw_Ts := aw_mem (List.mem_of_getElem? (i := 265) (by decide +kernel)) rfl
end
section
/-- a contract with a weaker end -/
theorem aw_mono {l : Launch} {G : aw_G} {d : Nat} {y : aw_Y} {as : List aw_V} {h : aw_H} {post post' : Option aw_V → aw_H → Prop} (C : aw_C l G d y as h post) (hp : ∀ r h', post r h' → post' r h') : aw_C l G d y as h post' := by
  intro p e ha hc hk s m args below hf happ hP hK
  obtain ⟨n, o, h1, h2, h3, ⟨⟨⟨r, h', e1, e2, e3, e4⟩, hF⟩, hL⟩⟩ := C p e ha hc hk s m args below hf happ hP hK
  exact ⟨n, o, h1, h2, h3, ⟨⟨⟨r, h', e1, hp r h' e2, e3, e4⟩, hF⟩, hL⟩⟩
end
section
/- THE MATHEMATICAL STATE that the class and the reference are both tied to. Own names: pz_ .
   A tree is (kd, ct, ch, en, it): kind, count, changed, entry + 1 (0: none), items or blocks by node.
   A state is (n, k, w, sp, t): sectors, written, the words (flat: 16 * place + i), the stop + 1 (0: none), the tree. -/
abbrev pz_T : Type := (Nat → Nat) × (Nat → Nat) × (Nat → Bool) × (Nat → Nat) × (Nat → Nat → Nat)
abbrev pz_kd (t : pz_T) : Nat → Nat := t.1
abbrev pz_ct (t : pz_T) : Nat → Nat := t.2.1
abbrev pz_ch (t : pz_T) : Nat → Bool := t.2.2.1
abbrev pz_en (t : pz_T) : Nat → Nat := t.2.2.2.1
abbrev pz_it (t : pz_T) : Nat → Nat → Nat := t.2.2.2.2
abbrev pz_S : Type := Nat × Nat × (Nat → Nat) × Nat × pz_T
-- the check
def pz_bit (c : Nat) : Nat := if c < 32768 then 2 * c else (2 * c - 65536) ^^^ 4129
def pz_bits : Nat → Nat → Nat | 0, c => c | j + 1, c => pz_bit (pz_bits j c)
def pz_byte (c b : Nat) : Nat := pz_bits 8 (c ^^^ 256 * b)
def pz_crcw (c v : Nat) : Nat := pz_byte (pz_byte (pz_byte (pz_byte c (v / 2 ^ 24 % 2 ^ 8)) (v / 2 ^ 16 % 2 ^ 8)) (v / 2 ^ 8 % 2 ^ 8)) (v / 2 ^ 0 % 2 ^ 8)
def pz_chkN (f : Nat → Nat) : Nat → Nat | 0 => 65535 | i + 1 => if i = 1 then pz_chkN f i else pz_crcw (pz_chkN f i) (f i)
def pz_chk (w : Nat → Nat) (p : Nat) : Nat := pz_chkN (fun i => w (16 * p + i)) 16
theorem pz_xor_lt {a b j : Nat} (ha : a < 2 ^ j) (hb : b < 2 ^ j) : a ^^^ b < 2 ^ j := Nat.xor_lt_two_pow ha hb
theorem pz_bit_lt {c : Nat} (h : c < 65536) : pz_bit c < 65536 := by
  unfold pz_bit
  split
  · omega
  · exact pz_xor_lt (j := 16) (by omega) (by omega)
theorem pz_bits_lt {c : Nat} (h : c < 65536) : ∀ j, pz_bits j c < 65536
  | 0 => h
  | j + 1 => pz_bit_lt (pz_bits_lt h j)
theorem pz_byte_lt {c b : Nat} (h : c < 65536) (hb : b < 256) : pz_byte c b < 65536 := pz_bits_lt (pz_xor_lt (j := 16) (by omega) (by omega)) 8
theorem pz_crcw_lt {c v : Nat} (h : c < 65536) : pz_crcw c v < 65536 := by
  have hm : ∀ x : Nat, x % 2 ^ 8 < 256 := fun x => Nat.mod_lt _ (by omega)
  unfold pz_crcw
  exact pz_byte_lt (pz_byte_lt (pz_byte_lt (pz_byte_lt h (hm _)) (hm _)) (hm _)) (hm _)
theorem pz_chkN_lt (f : Nat → Nat) : ∀ i, pz_chkN f i < 65536
  | 0 => by show 65535 < 65536; omega
  | i + 1 => by
    show (if i = 1 then pz_chkN f i else pz_crcw (pz_chkN f i) (f i)) < 65536
    split
    · exact pz_chkN_lt f i
    · exact pz_crcw_lt (pz_chkN_lt f i)
theorem pz_chk_lt (w : Nat → Nat) (p : Nat) : pz_chk w p < 65536 := pz_chkN_lt _ 16
theorem pz_chkN_ext {f g : Nat → Nat} : ∀ i, (∀ j, j < i → j ≠ 1 → f j = g j) → pz_chkN f i = pz_chkN g i
  | 0, _ => rfl
  | i + 1, h => by
    show (if i = 1 then pz_chkN f i else pz_crcw (pz_chkN f i) (f i)) = (if i = 1 then pz_chkN g i else pz_crcw (pz_chkN g i) (g i))
    rw [pz_chkN_ext i (fun j hj h1 => h j (by omega) h1)]
    split
    · rfl
    · rename_i hi
      rw [h i (by omega) hi]
/-- the check doesn't look at word 1 -/
theorem pz_chk_ext {w v : Nat → Nat} {p : Nat} (h : ∀ i, i < 16 → i ≠ 1 → w (16 * p + i) = v (16 * p + i)) : pz_chk w p = pz_chk v p := pz_chkN_ext 16 h
-- good sectors, valid tables
def pz_good (w : Nat → Nat) (p : Nat) : Bool := w (16 * p + 1) == pz_chk w p
def pz_nm (w : Nat → Nat) (p n : Nat) : Nat := w (16 * p + 4 + n)
def pz_ents (w : Nat → Nat) (p : Nat) : Nat → Bool | 0 => true | n + 1 => pz_ents w p n && (pz_nm w p n == 0 || pz_good w (pz_nm w p n - 1))
def pz_valid (w : Nat → Nat) (p : Nat) : Bool := w (16 * p) == 3 && pz_good w p && pz_ents w p 8
def pz_tabs (w : Nat → Nat) : Nat → Nat | 0 => 0 | p + 1 => pz_tabs w p + (if pz_valid w p = true then 1 else 0)
def pz_newest (w : Nat → Nat) : Nat → Option Nat | 0 => none | p + 1 => if pz_valid w p = true then some p else pz_newest w p
/-- the first place below k where the count of valid tables comes to be a -/
def pz_tabAt (w : Nat → Nat) (a : Int32) : Nat → Option Nat | 0 => none | p + 1 => match pz_tabAt w a p with
  | some q => some q
  | none => if pz_valid w p = true ∧ nI (pz_tabs w (p + 1)) = a then some p else none
-- trees
def pz_empty : pz_T := (fun n => if n = 0 then 1 else 0, fun _ => 0, fun n => n == 0, fun _ => 0, fun _ _ => 0)
def pz_read (w : Nat → Nat) (p : Nat) : pz_T :=
  (fun n => if pz_nm w p n = 0 then 0 else w (16 * (pz_nm w p n - 1) + 4),
   fun n => if pz_nm w p n = 0 then 0 else w (16 * (pz_nm w p n - 1) + 5),
   fun _ => false, fun n => pz_nm w p n, fun n j => w (16 * (pz_nm w p n - 1) + 6 + j))
def pz_back (w : Nat → Nat) (k : Nat) : pz_T := match pz_newest w k with | none => pz_empty | some p => pz_read w p
/-- how many below N have it -/
def pz_cp (P : Nat → Bool) : Nat → Nat | 0 => 0 | n + 1 => pz_cp P n + (if P n = true then 1 else 0)
theorem pz_cp_ext {P Q : Nat → Bool} : ∀ N, (∀ n, n < N → P n = Q n) → pz_cp P N = pz_cp Q N
  | 0, _ => rfl
  | N + 1, h => by
    show pz_cp P N + _ = pz_cp Q N + _
    rw [pz_cp_ext N (fun n hn => h n (by omega)), h N (by omega)]
theorem pz_cp_flip {P Q : Nat → Bool} {x : Nat} (hx : P x = false) (hq : Q x = true) : ∀ N, x < N → (∀ n, n < N → n ≠ x → Q n = P n) → pz_cp Q N = pz_cp P N + 1
  | 0, h, _ => by omega
  | N + 1, h, ho => by
    show pz_cp Q N + _ = pz_cp P N + _ + 1
    by_cases hN : x = N
    · subst hN
      rw [hx, hq, pz_cp_ext (P := Q) (Q := P) x (fun n hn => ho n (by omega) (by omega))]
      simp
    · rw [pz_cp_flip hx hq N (by omega) (fun n hn h1 => ho n (by omega) h1), ho N (by omega) (fun e => hN e.symm)]
      omega
theorem pz_cp_le (P : Nat → Bool) : ∀ N, pz_cp P N ≤ N
  | 0 => Nat.le_refl 0
  | N + 1 => by
    have := pz_cp_le P N
    show pz_cp P N + (if P N = true then 1 else 0) ≤ N + 1
    split <;> omega
def pz_nch (t : pz_T) : Nat → Nat := pz_cp (pz_ch t)
/-- the first place j < c whose name is nm -/
def pz_ix (f : Nat → Nat) (nm : Int32) : Nat → Option Nat | 0 => none | j + 1 => match pz_ix f nm j with
  | some i => some i
  | none => if nI (f j / 16) = nm then some j else none
def pz_least (kd : Nat → Nat) : Nat → Option Nat | 0 => none | n + 1 => match pz_least kd n with
  | some i => some i
  | none => if kd n = 0 then some n else none
end
section
/- what each call answers and does, in the words of the mathematical state -/
def pz_no (x : Int32) : Nat := if pz_small x 8 = true then x.toNatClampNeg else 8
theorem pz_no_N {j : Nat} (h : j < 8) : pz_no (nI j) = j := by
  unfold pz_no
  rw [if_pos (pz_small_N (by omega) h), nI_clamp (by omega)]
theorem pz_no_8 {x : Int32} (h : pz_small x 8 = false) : pz_no x = 8 := by
  unfold pz_no
  rw [if_neg (by rw [h]; decide)]
/-- the node that x names, if it is there and as asked -/
def pz_nd (t : pz_T) (P : Nat → Bool) (x : Int32) : Option Nat := if pz_no x < 8 ∧ P (pz_kd t (pz_no x)) = true then some (pz_no x) else none
def pz_up {α : Type} (f : Nat → α) (i : Nat) (v : α) : Nat → α := fun j => if j = i then v else f j
/-- how many nodes are changed, were a and b so too, and gone not -/
def pz_cw (ch : Nat → Bool) (a b gone : Nat) : Nat → Nat := pz_cp (fun n => (ch n || n == a || n == b) && n != gone)
def pz_new (t : pz_T) (m kind : Nat) : pz_T := (pz_up (pz_kd t) m kind, pz_up (pz_ct t) m 0, pz_up (pz_ch t) m true, pz_up (pz_en t) m 0, pz_it t)
def pz_gone (t : pz_T) (m : Nat) : pz_T := (pz_up (pz_kd t) m 0, pz_up (pz_ct t) m 0, pz_up (pz_ch t) m false, pz_up (pz_en t) m 0, pz_it t)
def pz_add (t : pz_T) (d v : Nat) : pz_T := (pz_kd t, pz_up (pz_ct t) d (pz_ct t d + 1), pz_up (pz_ch t) d true, pz_en t, pz_up (pz_it t) d (pz_up (pz_it t d) (pz_ct t d) v))
def pz_take (t : pz_T) (d j : Nat) : pz_T := (pz_kd t, pz_up (pz_ct t) d (pz_ct t d - 1), pz_up (pz_ch t) d true, pz_en t, pz_up (pz_it t) d (fun i => if i < j then pz_it t d i else pz_it t d (i + 1)))
def pz_blk (t : pz_T) (f j v : Nat) : pz_T := (pz_kd t, pz_up (pz_ct t) f (if j = pz_ct t f then j + 1 else pz_ct t f), pz_up (pz_ch t) f true, pz_en t, pz_up (pz_it t) f (pz_up (pz_it t f) j v))
-- who is above whom
/-- is node c among the first items -/
def pz_hd (f : Nat → Nat) (c : Nat) : Nat → Bool | 0 => false | j + 1 => pz_hd f c j || (f j % 16 == c)
def pz_hold (t : pz_T) (d c : Nat) : Nat → Bool := pz_hd (pz_it t d) c
def oI (o : Option Nat) : Int32 := match o with
  | none => -1
  | some j => nI j
def pz_par (t : pz_T) (c : Nat) : Nat → Option Nat | 0 => none | n + 1 => match pz_par t c n with
  | some i => some i
  | none => if pz_kd t n = 1 ∧ pz_hold t n c (pz_ct t n) = true then some n else none
def pz_anc (t : pz_T) (c : Nat) : Nat → Option Nat | 0 => some c | k + 1 => (pz_anc t c k).bind (fun x => pz_par t x 8)
def pz_below (t : pz_T) (c h : Nat) : Nat → Bool | 0 => false | k + 1 => pz_below t c h k || (pz_anc t c k == some h)
-- one sector
def pz_put (w : Nat → Nat) (k : Nat) (f : Nat → Nat) : Nat → Nat := fun x => if 16 * k ≤ x ∧ x < 16 * k + 16 then f (x - 16 * k) else w x
/-- the words once sector f (its word 1 not looked at) is written at place k, torn or not -/
def pz_sec (w : Nat → Nat) (k : Nat) (f : Nat → Nat) (torn : Bool) : Nat → Nat := fun x =>
  if x = 16 * k + 1 then (if torn = true then pz_chkN f 16 ^^^ 1 else pz_chkN f 16) else pz_put w k f x
def pz_data (k file v : Nat) : Nat → Nat := fun i => if i = 0 then 1 else if i = 2 then k else if i = 3 then file else if i = 4 then v else 0
def pz_entry (k n : Nat) (t : pz_T) : Nat → Nat := fun i => if i = 0 then 2 else if i = 2 then k else if i = 3 then n else if i = 4 then pz_kd t n else if i = 5 then pz_ct t n else if 6 ≤ i ∧ i < 6 + pz_ct t n then pz_it t n (i - 6) else 0
def pz_table (k num : Nat) (en : Nat → Nat) : Nat → Nat := fun i => if i = 0 then 3 else if i = 2 then k else if i = 3 then num else if 4 ≤ i ∧ i < 12 then en (i - 4) else 0
/-- the entries of the changed nodes below i: (written, words, stop + 1, entries + 1), and whether one tore -/
def pz_es (t : pz_T) (k : Nat) (w : Nat → Nat) (sp : Nat) : Nat → (Nat × (Nat → Nat) × Nat × (Nat → Nat)) × Bool
  | 0 => ((k, w, sp, pz_en t), false)
  | i + 1 => match pz_es t k w sp i with
    | (s, true) => (s, true)
    | ((k', w', sp', en'), false) => if pz_ch t i = true then ((k' + 1, pz_sec w' k' (pz_entry k' i t) (sp' == 1), sp' - 1, pz_up en' i (k' + 1)), sp' == 1) else ((k', w', sp', en'), false)
def pz_num (w : Nat → Nat) (k : Nat) : Nat := match pz_newest w k with | none => 0 | some p => w (16 * p + 3)
/-- WELL FORMED TREES over k written sectors -/
def pz_sm (g : Nat → Nat) : Nat → Nat | 0 => 0 | n + 1 => pz_sm g n + g n
def pz_gd (t : pz_T) (n : Nat) : Nat := if pz_kd t n = 1 then pz_ct t n else 0
def pz_gc (t : pz_T) (n : Nat) : Nat := if pz_kd t n = 0 then 0 else 1
def pz_sumd (t : pz_T) : Nat → Nat := pz_sm (pz_gd t)
def pz_cnt (t : pz_T) : Nat → Nat := pz_sm (pz_gc t)
def pz_wf (k : Nat) (t : pz_T) : Prop :=
  pz_kd t 0 = 1 ∧ (∀ n, n < 8 → pz_kd t n ≤ 2) ∧ (∀ n, n < 8 → pz_kd t n = 0 → pz_ct t n = 0 ∧ pz_ch t n = false ∧ pz_en t n = 0)
  ∧ (∀ n, n < 8 → pz_kd t n = 2 → pz_ct t n ≤ 10 ∧ ∀ j, j < pz_ct t n → pz_it t n j < k)
  ∧ (∀ n, n < 8 → pz_kd t n = 1 → ∀ j, j < pz_ct t n → pz_it t n j / 16 < 100 ∧ pz_it t n j % 16 < 8 ∧ pz_it t n j % 16 ≠ 0 ∧ pz_it t n j % 16 ≠ n ∧ pz_kd t (pz_it t n j % 16) ≠ 0)
  ∧ (∀ n j n' j', n < 8 → n' < 8 → pz_kd t n = 1 → pz_kd t n' = 1 → j < pz_ct t n → j' < pz_ct t n' → pz_it t n j % 16 = pz_it t n' j' % 16 → n = n' ∧ j = j')
  ∧ pz_sumd t 8 + 1 = pz_cnt t 8
/-- an unchanged node's entry lies on the medium and says what the node is -/
def pz_kept (k : Nat) (w : Nat → Nat) (t : pz_T) : Prop := ∀ n, n < 8 → pz_kd t n ≠ 0 → pz_ch t n = false →
  1 ≤ pz_en t n ∧ pz_en t n ≤ k ∧ w (16 * (pz_en t n - 1) + 4) = pz_kd t n ∧ w (16 * (pz_en t n - 1) + 5) = pz_ct t n ∧ ∀ j, j < pz_ct t n → w (16 * (pz_en t n - 1) + 6 + j) = pz_it t n j
/-- THE INVARIANT of a state -/
def pz_inv (S : pz_S) : Prop := match S with
  | (n, k, w, sp, t) => 16 ≤ n ∧ n ≤ 128 ∧ k ≤ n ∧ sp ≤ 1001 ∧ (∀ x, w x < 65536) ∧ (∀ x, 16 * k ≤ x → w x = 0)
    ∧ pz_wf k t ∧ pz_kept k w t
    ∧ ∀ p, p < k → w (16 * p) = 3 → (∀ i, i < 8 → pz_nm w p i ≤ p) ∧ pz_wf k (pz_read w p) ∧ w (16 * p + 3) ≤ p + 1
end
section
theorem pz_beq_ne {a b : Nat} (h : a ≠ b) : (a == b) = false := by simp [h]
theorem pz_cp_or {P : Nat → Bool} {x N : Nat} (hx : x < N) : pz_cp (fun n => P n || n == x) N = pz_cp P N + (if P x = true then 0 else 1) := by
  by_cases hP : P x = true
  · rw [if_pos hP, Nat.add_zero]
    apply pz_cp_ext
    intro n _
    show (P n || n == x) = P n
    by_cases hn : n = x
    · subst hn; simp [hP]
    · rw [pz_beq_ne hn, Bool.or_false]
  · rw [if_neg hP]
    have hf : P x = false := by cases h : P x with | true => exact absurd h hP | false => rfl
    refine pz_cp_flip (x := x) hf (by show (P x || x == x) = true; simp) N hx (fun n _ hn => ?_)
    show (P n || n == x) = P n
    rw [pz_beq_ne hn, Bool.or_false]
theorem pz_cp_and {P : Nat → Bool} {x N : Nat} (hx : x < N) : pz_cp (fun n => P n && n != x) N + (if P x = true then 1 else 0) = pz_cp P N := by
  by_cases hP : P x = true
  · rw [if_pos hP]
    refine (pz_cp_flip (x := x) (by show (P x && x != x) = false; simp) hP N hx (fun n _ hn => ?_)).symm
    show P n = (P n && n != x)
    simp [hn]
  · rw [if_neg hP, Nat.add_zero]
    have hf : P x = false := by cases h : P x with | true => exact absurd h hP | false => rfl
    apply pz_cp_ext
    intro n _
    show (P n && n != x) = P n
    by_cases hn : n = x
    · subst hn; simp [hf]
    · simp [hn]
theorem pz_e8 {n : Nat} (h : n < 8) : (n == 8) = false := pz_beq_ne (by omega)
theorem pz_n8 {n : Nat} (h : n < 8) : (n != 8) = true := by rw [bne, pz_e8 h]; rfl
theorem pz_cw_none (ch : Nat → Bool) : pz_cw ch 8 8 8 8 = pz_cp ch 8 := by
  unfold pz_cw
  apply pz_cp_ext
  intro n hn
  simp only [pz_e8 hn, pz_n8 hn, Bool.or_false, Bool.and_true]
theorem pz_cw_one {ch : Nat → Bool} {f : Nat} (hf : f < 8) : pz_cw ch f 8 8 8 = pz_cp ch 8 + (if ch f = true then 0 else 1) := by
  rw [← pz_cp_or hf]
  unfold pz_cw
  apply pz_cp_ext
  intro n hn
  simp only [pz_e8 hn, pz_n8 hn, Bool.or_false, Bool.and_true]
theorem pz_cw_same {ch : Nat → Bool} {f : Nat} : pz_cw ch f f 8 8 = pz_cw ch f 8 8 8 := by
  unfold pz_cw
  apply pz_cp_ext
  intro n hn
  show ((ch n || n == f || n == f) && n != 8) = ((ch n || n == f || n == 8) && n != 8)
  rw [pz_e8 hn, pz_n8 hn, Bool.or_false, Bool.or_assoc, Bool.or_self]
theorem pz_cw_two {ch : Nat → Bool} {a b : Nat} (ha : a < 8) (hb : b < 8) (hab : b ≠ a) : pz_cw ch a b 8 8 = pz_cp ch 8 + (if ch a = true then 0 else 1) + (if ch b = true then 0 else 1) := by
  have h1 := pz_cp_or (P := fun n => ch n || n == a) (x := b) (N := 8) hb
  have h2 := pz_cp_or (P := ch) (x := a) (N := 8) ha
  rw [h2] at h1
  have h3 : (ch b || b == a) = ch b := by rw [pz_beq_ne hab, Bool.or_false]
  simp only [h3] at h1
  rw [← h1]
  unfold pz_cw
  apply pz_cp_ext
  intro n hn
  simp only [pz_e8 hn, pz_n8 hn, Bool.or_false, Bool.and_true]
theorem pz_cw_gone {ch : Nat → Bool} {f m : Nat} (hf : f < 8) (hm : m < 8) (hfm : m ≠ f) : pz_cw ch f 8 m 8 + (if ch m = true then 1 else 0) = pz_cp ch 8 + (if ch f = true then 0 else 1) := by
  rw [← pz_cp_or hf]
  have h1 := pz_cp_and (P := fun n => ch n || n == f) (x := m) (N := 8) hm
  have h3 : (ch m || m == f) = ch m := by rw [pz_beq_ne hfm, Bool.or_false]
  simp only [h3] at h1
  rw [← h1]
  congr 1
  unfold pz_cw
  apply pz_cp_ext
  intro n hn
  simp only [pz_e8 hn, pz_n8 hn, Bool.or_false, Bool.and_true]
end
section
/- what a newly written sector changes -/
theorem pz_sec_old {w f : Nat → Nat} {k x : Nat} {b : Bool} (hx : x < 16 * k) : pz_sec w k f b x = w x := by
  unfold pz_sec pz_put
  rw [if_neg (by omega), if_neg (by omega)]
theorem pz_sec_far {w f : Nat → Nat} {k x : Nat} {b : Bool} (hx : 16 * k + 16 ≤ x) : pz_sec w k f b x = w x := by
  unfold pz_sec pz_put
  rw [if_neg (by omega), if_neg (by omega)]
theorem pz_sec_new {w f : Nat → Nat} {k i : Nat} {b : Bool} (hi : i < 16) (h1 : i ≠ 1) : pz_sec w k f b (16 * k + i) = f i := by
  unfold pz_sec pz_put
  rw [if_neg (by omega), if_pos (by omega), show 16 * k + i - 16 * k = i by omega]
theorem pz_sec_1 {w f : Nat → Nat} {k : Nat} {b : Bool} : pz_sec w k f b (16 * k + 1) = if b = true then pz_chkN f 16 ^^^ 1 else pz_chkN f 16 := by
  unfold pz_sec
  rw [if_pos rfl]
theorem pz_chk_old {w f : Nat → Nat} {k p : Nat} {b : Bool} (hp : p < k) : pz_chk (pz_sec w k f b) p = pz_chk w p :=
  pz_chk_ext (fun i hi _ => pz_sec_old (by omega))
theorem pz_chk_new {w f : Nat → Nat} {k : Nat} {b : Bool} : pz_chk (pz_sec w k f b) k = pz_chkN f 16 :=
  pz_chkN_ext 16 (fun i hi h1 => pz_sec_new hi h1)
theorem pz_good_old {w f : Nat → Nat} {k p : Nat} {b : Bool} (hp : p < k) : pz_good (pz_sec w k f b) p = pz_good w p := by
  unfold pz_good
  rw [pz_chk_old hp, pz_sec_old (by omega)]
theorem pz_xor1_ne (a : Nat) : a ^^^ 1 ≠ a := by
  intro h
  have h2 : a ^^^ (a ^^^ 1) = a ^^^ a := by rw [h]
  rw [← Nat.xor_assoc, Nat.xor_self, Nat.zero_xor] at h2
  omega
theorem pz_good_new {w f : Nat → Nat} {k : Nat} {b : Bool} : pz_good (pz_sec w k f b) k = !b := by
  unfold pz_good
  rw [pz_chk_new, pz_sec_1]
  cases b with
  | true => simp [pz_xor1_ne]
  | false => simp
theorem pz_nm_old {w f : Nat → Nat} {k p i : Nat} {b : Bool} (hp : p < k) (hi : i < 8) : pz_nm (pz_sec w k f b) p i = pz_nm w p i := by
  unfold pz_nm
  rw [pz_sec_old (by omega)]
theorem pz_ents_ext {w v : Nat → Nat} {p : Nat} : ∀ n, (∀ i, i < n → pz_nm w p i = pz_nm v p i ∧ (pz_nm v p i = 0 ∨ pz_good w (pz_nm v p i - 1) = pz_good v (pz_nm v p i - 1))) → pz_ents w p n = pz_ents v p n
  | 0, _ => rfl
  | n + 1, h => by
    show (pz_ents w p n && (pz_nm w p n == 0 || pz_good w (pz_nm w p n - 1))) = (pz_ents v p n && (pz_nm v p n == 0 || pz_good v (pz_nm v p n - 1)))
    obtain ⟨h1, h2⟩ := h n (by omega)
    rw [pz_ents_ext n (fun i hi => h i (by omega)), h1]
    rcases h2 with h2 | h2
    · rw [h2, show ((0 : Nat) == 0) = true from rfl, Bool.true_or, Bool.true_or]
    · rw [h2]
theorem pz_valid_old {w f : Nat → Nat} {k p : Nat} {b : Bool} (hp : p < k) (hn : w (16 * p) = 3 → ∀ i, i < 8 → pz_nm w p i ≤ p) : pz_valid (pz_sec w k f b) p = pz_valid w p := by
  unfold pz_valid
  rw [pz_good_old hp, pz_sec_old (by omega)]
  by_cases h3 : w (16 * p) = 3
  · rw [pz_ents_ext (w := pz_sec w k f b) (v := w) 8 (fun i hi => ⟨pz_nm_old hp hi, ?_⟩)]
    rcases Nat.eq_zero_or_pos (pz_nm w p i) with h0 | h0
    · exact Or.inl h0
    · have := hn h3 i hi
      exact Or.inr (pz_good_old (by omega))
  · rw [show (w (16 * p) == 3) = false by simp [h3], Bool.false_and, Bool.false_and, Bool.false_and]
theorem pz_newest_ext {w v : Nat → Nat} : ∀ k, (∀ p, p < k → pz_valid w p = pz_valid v p) → pz_newest w k = pz_newest v k
  | 0, _ => rfl
  | k + 1, h => by
    show (if pz_valid w k = true then some k else pz_newest w k) = (if pz_valid v k = true then some k else pz_newest v k)
    rw [h k (by omega), pz_newest_ext k (fun p hp => h p (by omega))]
theorem pz_newest_lt {w : Nat → Nat} {p : Nat} : ∀ k, pz_newest w k = some p → p < k ∧ pz_valid w p = true
  | 0, h => by cases h
  | k + 1, h => by
    have h : (if pz_valid w k = true then some k else pz_newest w k) = some p := h
    by_cases hv : pz_valid w k = true
    · rw [if_pos hv] at h
      cases h
      exact ⟨by omega, hv⟩
    · rw [if_neg hv] at h
      obtain ⟨h1, h2⟩ := pz_newest_lt k h
      exact ⟨by omega, h2⟩
theorem pz_tabAt_lt {w : Nat → Nat} {a : Int32} {p : Nat} : ∀ k, pz_tabAt w a k = some p → p < k ∧ pz_valid w p = true
  | 0, h => by cases h
  | k + 1, h => by
    unfold pz_tabAt at h
    cases hq : pz_tabAt w a k with
    | some q =>
      rw [hq] at h
      cases h
      obtain ⟨h1, h2⟩ := pz_tabAt_lt k hq
      exact ⟨by omega, h2⟩
    | none =>
      rw [hq] at h
      have h : (if pz_valid w k = true ∧ nI (pz_tabs w (k + 1)) = a then some k else none) = some p := h
      by_cases hv : pz_valid w k = true ∧ nI (pz_tabs w (k + 1)) = a
      · rw [if_pos hv] at h
        cases h
        exact ⟨by omega, hv.1⟩
      · rw [if_neg hv] at h
        cases h
theorem pz_valid_3 {w : Nat → Nat} {p : Nat} (h : pz_valid w p = true) : w (16 * p) = 3 := by
  unfold pz_valid at h
  simp only [Bool.and_eq_true, beq_iff_eq] at h
  exact h.1.1
end
section
/- trees stay well formed -/
theorem pz_sm_ext {g f : Nat → Nat} : ∀ N, (∀ n, n < N → g n = f n) → pz_sm g N = pz_sm f N
  | 0, _ => rfl
  | N + 1, h => by
    show pz_sm g N + g N = pz_sm f N + f N
    rw [pz_sm_ext N (fun n hn => h n (by omega)), h N (by omega)]
theorem pz_sm_one {g f : Nat → Nat} {x : Nat} : ∀ N, x < N → (∀ n, n < N → n ≠ x → f n = g n) → pz_sm f N + g x = pz_sm g N + f x
  | 0, h, _ => by omega
  | N + 1, h, ho => by
    show pz_sm f N + f N + g x = pz_sm g N + g N + f x
    by_cases hN : x = N
    · subst hN
      rw [pz_sm_ext (g := f) (f := g) x (fun n hn => ho n (by omega) (by omega))]
      omega
    · have h1 := pz_sm_one (g := g) (f := f) N (by omega) (fun n hn h1 => ho n (by omega) h1)
      rw [ho N (by omega) (fun e => hN e.symm)]
      omega
theorem pz_sm_ge {g : Nat → Nat} {x : Nat} : ∀ N, x < N → g x ≤ pz_sm g N
  | 0, h => by omega
  | N + 1, h => by
    show g x ≤ pz_sm g N + g N
    by_cases hN : x = N
    · subst hN; omega
    · have := pz_sm_ge (g := g) N (show x < N by omega)
      omega
theorem pz_sm_ge2 {g : Nat → Nat} {x y : Nat} (hxy : x ≠ y) : ∀ N, x < N → y < N → g x + g y ≤ pz_sm g N
  | 0, h, _ => by omega
  | N + 1, h, h' => by
    show g x + g y ≤ pz_sm g N + g N
    by_cases hx : x = N
    · subst hx
      have := pz_sm_ge (g := g) x (show y < x by omega)
      omega
    · by_cases hy : y = N
      · subst hy
        have := pz_sm_ge (g := g) y (show x < y by omega)
        omega
      · have := pz_sm_ge2 (g := g) hxy N (by omega) (by omega)
        omega
theorem pz_sm_le1 {g : Nat → Nat} : ∀ N, (∀ n, n < N → g n ≤ 1) → pz_sm g N ≤ N
  | 0, _ => Nat.le_refl 0
  | N + 1, h => by
    have h1 := pz_sm_le1 (g := g) N (fun n hn => h n (by omega))
    have h2 := h N (by omega)
    show pz_sm g N + g N ≤ N + 1
    omega
theorem pz_cnt_le (t : pz_T) : pz_cnt t 8 ≤ 8 := pz_sm_le1 8 (fun n _ => by unfold pz_gc; split <;> omega)
theorem pz_up_s {α : Type} {f : Nat → α} {i : Nat} {v : α} : pz_up f i v i = v := if_pos rfl
theorem pz_up_n {α : Type} {f : Nat → α} {i j : Nat} {v : α} (h : j ≠ i) : pz_up f i v j = f j := if_neg h
theorem pz_gd_1 {t : pz_T} {n : Nat} (h : pz_kd t n = 1) : pz_gd t n = pz_ct t n := if_pos h
theorem pz_gd_n {t : pz_T} {n : Nat} (h : pz_kd t n ≠ 1) : pz_gd t n = 0 := if_neg h
theorem pz_gc_0 {t : pz_T} {n : Nat} (h : pz_kd t n = 0) : pz_gc t n = 0 := if_pos h
theorem pz_gc_1 {t : pz_T} {n : Nat} (h : pz_kd t n ≠ 0) : pz_gc t n = 1 := if_neg h
theorem pz_wf.ct {k : Nat} {t : pz_T} (h : pz_wf k t) {d : Nat} (hd : d < 8) (h1 : pz_kd t d = 1) : pz_ct t d ≤ 7 := by
  have h2 := pz_sm_ge (g := pz_gd t) 8 hd
  have h3 : pz_sm (pz_gd t) 8 + 1 = pz_sm (pz_gc t) 8 := h.2.2.2.2.2.2
  have h4 : pz_sm (pz_gc t) 8 ≤ 8 := pz_cnt_le t
  rw [pz_gd_1 h1] at h2
  omega
theorem pz_wf.mono {k k' : Nat} {t : pz_T} (h : pz_wf k t) (hk : k ≤ k') : pz_wf k' t :=
  ⟨h.1, h.2.1, h.2.2.1, fun n hn h2 => ⟨(h.2.2.2.1 n hn h2).1, fun j hj => Nat.lt_of_lt_of_le ((h.2.2.2.1 n hn h2).2 j hj) hk⟩, h.2.2.2.2⟩
theorem pz_least_some {kd : Nat → Nat} {m : Nat} : ∀ N, pz_least kd N = some m → m < N ∧ kd m = 0
  | 0, h => by cases h
  | N + 1, h => by
    unfold pz_least at h
    cases hq : pz_least kd N with
    | some q =>
      rw [hq] at h
      cases h
      obtain ⟨h1, h2⟩ := pz_least_some N hq
      exact ⟨by omega, h2⟩
    | none =>
      rw [hq] at h
      have h : (if kd N = 0 then some N else none) = some m := h
      by_cases hv : kd N = 0
      · rw [if_pos hv] at h
        cases h
        exact ⟨by omega, hv⟩
      · rw [if_neg hv] at h
        cases h
/-- make -/
theorem pz_wf_make {k d m kind nm : Nat} {t : pz_T} (h : pz_wf k t) (hd : d < 8) (h1 : pz_kd t d = 1) (hm : m < 8) (h0 : pz_kd t m = 0) (hk : kind = 1 ∨ kind = 2) (hnm100 : nm < 100) : pz_wf k (pz_add (pz_new t m kind) d (16 * nm + m)) := by
  obtain ⟨w1, w2, w3, w4, w5, w6, w7⟩ := h
  have hdm : d ≠ m := fun e => by rw [e, h0] at h1; cases h1
  have hm0 : m ≠ 0 := fun e => by rw [e, w1] at h0; cases h0
  have hv : (16 * nm + m) % 16 = m := by omega
  have hv2 : (16 * nm + m) / 16 = nm := by omega
  have kd_m : pz_kd (pz_add (pz_new t m kind) d (16 * nm + m)) m = kind := pz_up_s
  have kd_o : ∀ n, n ≠ m → pz_kd (pz_add (pz_new t m kind) d (16 * nm + m)) n = pz_kd t n := fun n hn => pz_up_n hn
  have ct_d : pz_ct (pz_add (pz_new t m kind) d (16 * nm + m)) d = pz_ct t d + 1 := by
    show pz_up (pz_up (pz_ct t) m 0) d (pz_up (pz_ct t) m 0 d + 1) d = _
    rw [pz_up_s, pz_up_n hdm]
  have ct_m : pz_ct (pz_add (pz_new t m kind) d (16 * nm + m)) m = 0 := by
    show pz_up (pz_up (pz_ct t) m 0) d _ m = _
    rw [pz_up_n (Ne.symm hdm), pz_up_s]
  have ct_o : ∀ n, n ≠ m → n ≠ d → pz_ct (pz_add (pz_new t m kind) d (16 * nm + m)) n = pz_ct t n := fun n hn hn2 => by
    show pz_up (pz_up (pz_ct t) m 0) d _ n = _
    rw [pz_up_n hn2, pz_up_n hn]
  have it_o : ∀ n j, n ≠ d → pz_it (pz_add (pz_new t m kind) d (16 * nm + m)) n j = pz_it t n j := fun n j hn => by
    show pz_up (pz_it t) d _ n j = _
    rw [pz_up_n hn]
  have it_d : ∀ j, j ≠ pz_ct t d → pz_it (pz_add (pz_new t m kind) d (16 * nm + m)) d j = pz_it t d j := fun j hj => by
    show pz_up (pz_it t) d (pz_up (pz_it t d) (pz_up (pz_ct t) m 0 d) _) d j = _
    rw [pz_up_s, pz_up_n hdm, pz_up_n hj]
  have it_v : pz_it (pz_add (pz_new t m kind) d (16 * nm + m)) d (pz_ct t d) = 16 * nm + m := by
    show pz_up (pz_it t) d (pz_up (pz_it t d) (pz_up (pz_ct t) m 0 d) _) d (pz_ct t d) = _
    rw [pz_up_s, pz_up_n hdm, pz_up_s]
  have old : ∀ n j, n < 8 → pz_kd t n = 1 → j < pz_ct t n → pz_it t n j % 16 ≠ m := fun n j hn h1 hj e => by
    have := (w5 n hn h1 j hj).2.2.2.2
    rw [e] at this
    exact this h0
  have case : ∀ n j, n < 8 → pz_kd (pz_add (pz_new t m kind) d (16 * nm + m)) n = 1 → j < pz_ct (pz_add (pz_new t m kind) d (16 * nm + m)) n → (n = d ∧ j = pz_ct t d ∧ pz_it (pz_add (pz_new t m kind) d (16 * nm + m)) n j = 16 * nm + m) ∨ (pz_kd t n = 1 ∧ j < pz_ct t n ∧ pz_it (pz_add (pz_new t m kind) d (16 * nm + m)) n j = pz_it t n j) := by
    intro n j hn hk1 hj
    by_cases hnm : n = m
    · subst hnm; rw [ct_m] at hj; omega
    · rw [kd_o n hnm] at hk1
      by_cases hnd : n = d
      · subst hnd
        rw [ct_d] at hj
        by_cases hjc : j = pz_ct t n
        · subst hjc; exact Or.inl ⟨rfl, rfl, it_v⟩
        · exact Or.inr ⟨hk1, by omega, it_d j hjc⟩
      · rw [ct_o n hnm hnd] at hj
        exact Or.inr ⟨hk1, hj, it_o n j hnd⟩
  refine ⟨by rw [kd_o 0 (Ne.symm hm0)]; exact w1, fun n hn => ?_, fun n hn hn0 => ?_, fun n hn hn2 => ?_, fun n hn hn1 j hj => ?_, fun n j n' j' hn hn' k1 k1' hj hj' he => ?_, ?_⟩
  · by_cases hnm : n = m
    · subst hnm; rw [kd_m]; omega
    · rw [kd_o n hnm]; exact w2 n hn
  · by_cases hnm : n = m
    · subst hnm; rw [kd_m] at hn0; omega
    · rw [kd_o n hnm] at hn0
      have hnd : n ≠ d := fun e => by rw [e, h1] at hn0; cases hn0
      obtain ⟨a1, a2, a3⟩ := w3 n hn hn0
      refine ⟨by rw [ct_o n hnm hnd]; exact a1, ?_, ?_⟩
      · show pz_up (pz_up (pz_ch t) m true) d true n = false
        rw [pz_up_n hnd, pz_up_n hnm]; exact a2
      · show pz_up (pz_en t) m 0 n = 0
        rw [pz_up_n hnm]; exact a3
  · by_cases hnm : n = m
    · subst hnm; rw [ct_m]; exact ⟨by omega, fun j hj => by omega⟩
    · rw [kd_o n hnm] at hn2
      have hnd : n ≠ d := fun e => by rw [e, h1] at hn2; cases hn2
      obtain ⟨a1, a2⟩ := w4 n hn hn2
      rw [ct_o n hnm hnd]
      exact ⟨a1, fun j hj => by rw [it_o n j hnd]; exact a2 j hj⟩
  · rcases case n j hn hn1 hj with ⟨rfl, -, e⟩ | ⟨k1, hj1, e⟩
    · rw [e, hv, hv2]
      exact ⟨hnm100, hm, hm0, Ne.symm hdm, by rw [kd_m]; omega⟩
    · rw [e]
      obtain ⟨a1, a2, a3, a4, a5⟩ := w5 n hn k1 j hj1
      exact ⟨a1, a2, a3, a4, by rw [kd_o _ (old n j hn k1 hj1)]; exact a5⟩
  · rcases case n j hn k1 hj with ⟨e1, e2, e⟩ | ⟨q1, hj1, e⟩ <;> rcases case n' j' hn' k1' hj' with ⟨e1', e2', e'⟩ | ⟨q1', hj1', e'⟩
    · exact ⟨by rw [e1, e1'], by rw [e2, e2']⟩
    · rw [e, e', hv] at he
      exact absurd he.symm (old n' j' hn' q1' hj1')
    · rw [e, e', hv] at he
      exact absurd he (old n j hn q1 hj1)
    · rw [e, e'] at he
      exact w6 n j n' j' hn hn' q1 q1' hj1 hj1' he
  · have s1 := pz_sm_one (g := pz_gd t) (f := pz_gd (pz_add (pz_new t m kind) d (16 * nm + m))) (x := d) 8 hd (fun n hn hnd => by
      by_cases hnm : n = m
      · subst hnm
        unfold pz_gd
        rw [ct_m, h0]; simp
      · unfold pz_gd
        rw [ct_o n hnm hnd, kd_o n hnm])
    have s2 := pz_sm_one (g := pz_gc t) (f := pz_gc (pz_add (pz_new t m kind) d (16 * nm + m))) (x := m) 8 hm (fun n hn hnm => by
      unfold pz_gc
      rw [kd_o n hnm])
    rw [pz_gd_1 h1, pz_gd_1 (by rw [kd_o d hdm]; exact h1), ct_d] at s1
    rw [pz_gc_0 h0, pz_gc_1 (by rw [kd_m]; omega)] at s2
    have w7 : pz_sm (pz_gd t) 8 + 1 = pz_sm (pz_gc t) 8 := w7
    show pz_sm (pz_gd _) 8 + 1 = pz_sm (pz_gc _) 8
    omega
end
section
/- SessionTables.Medium: what each method answers and does -/
set_option maxHeartbeats 1000000 in
theorem k_byte {l : Launch} {G : aw_G} (hG : aw_ok G) (h : aw_H) {c o : Nat} (hc : c < 65536) (ho : o < 256) : aw_I l G 0 Y_M_checkWithByte [.inr (nI c), .inr (nI o)] h (.inr (nI (pz_byte c o))) := by
  refine aw_met hG (by decide) (Nat.le_of_ble_eq_true rfl) (fun M hM B E => ?_)
  show aw_X M G 4 0 [some (.inr (nI c)), some (.inr (nI o)), none, none] [] h
  have hb0 : c ^^^ 256 * o < 65536 := pz_xor_lt (j := 16) (by omega) (by omega)
  have loop : ∀ m j, j + m = 8 → aw_X M G 4 10 [some (.inr (nI c)), some (.inr (nI o)), some (.inr (nI (pz_bits j (c ^^^ 256 * o)))), some (.inr (nI j))] [] h := by
    intro m
    induction m with
    | zero =>
      intro j hj
      have hj : j = 8 := by omega
      subst hj
      refine ax_iload_n (q := 11) B d_M_checkWithByte_10 rfl rfl rfl ?_
      refine ax_bipush (v := nI 8) (q := 13) B d_M_checkWithByte_11 cb_8 rfl ?_
      refine ax_icmpN_ge (q := 45) (q2 := 16) B (by omega) (by omega) d_M_checkWithByte_13 rfl rfl (fun h13 => ?_) (fun h13 => ?_)
      · refine ax_iload_n (q := 46) B d_M_checkWithByte_45 rfl rfl rfl ?_
        refine ax_iret B E d_M_checkWithByte_46 ?_
        exact ⟨rfl, rfl⟩
      · omega
    | succ m ih =>
      intro j hj
      have hb := pz_bits_lt hb0 j
      have hs : pz_bits (j + 1) (c ^^^ 256 * o) = pz_bit (pz_bits j (c ^^^ 256 * o)) := rfl
      generalize pz_bits j (c ^^^ 256 * o) = x at hb hs ⊢
      refine ax_iload_n (q := 11) B d_M_checkWithByte_10 rfl rfl rfl ?_
      refine ax_bipush (v := nI 8) (q := 13) B d_M_checkWithByte_11 cb_8 rfl ?_
      refine ax_icmpN_ge (q := 45) (q2 := 16) B (by omega) (by omega) d_M_checkWithByte_13 rfl rfl (fun h13 => ?_) (fun h13 => ?_)
      · omega
      · refine ax_iload_n (q := 17) B d_M_checkWithByte_16 rfl rfl rfl ?_
        refine ax_ldc (v := nI 32768) (q := 19) B wc_M_55 d_M_checkWithByte_17 rfl ?_
        refine ax_icmpN_ge (q := 28) (q2 := 22) B (by omega) (by omega) d_M_checkWithByte_19 rfl rfl (fun h19 => ?_) (fun h19 => ?_)
        · refine ax_iconst (v := nI 2) (q := 29) B d_M_checkWithByte_28 ci_2 rfl ?_
          refine ax_iload_n (q := 30) B d_M_checkWithByte_29 rfl rfl rfl ?_
          first | refine ax_imulN (q := 31) B d_M_checkWithByte_30 rfl ?_ | refine ax_imul (q := 31) B d_M_checkWithByte_30 rfl ?_
          refine ax_ldc (v := nI 65536) (q := 33) B wc_M_56 d_M_checkWithByte_31 rfl ?_
          first | refine ax_isubN (q := 34) B (by omega) d_M_checkWithByte_33 rfl ?_ | refine ax_isub (q := 34) B d_M_checkWithByte_33 rfl ?_
          refine ax_sipush (v := nI 4129) (q := 37) B d_M_checkWithByte_34 cs_4129 rfl ?_
          first | refine ax_ixorN (q := 38) B d_M_checkWithByte_37 rfl ?_ | refine ax_ixor (q := 38) B d_M_checkWithByte_37 rfl ?_
          refine ax_istore_n (q := 39) B d_M_checkWithByte_38 rfl (by decide) rfl ?_
          refine ax_iincN (j := 1) (q := 42) B d_M_checkWithByte_39 rfl ii_1 (by decide) rfl ?_
          refine ax_goto (q := 10) B d_M_checkWithByte_42 rfl ?_
          have h3 := ih (j + 1) (by omega)
          rw [hs, pz_bit] at h3
          first | (rw [if_pos (by omega)] at h3; exact h3) | (rw [if_neg (by omega)] at h3; exact h3)
        · refine ax_iconst (v := nI 2) (q := 23) B d_M_checkWithByte_22 ci_2 rfl ?_
          refine ax_iload_n (q := 24) B d_M_checkWithByte_23 rfl rfl rfl ?_
          first | refine ax_imulN (q := 25) B d_M_checkWithByte_24 rfl ?_ | refine ax_imul (q := 25) B d_M_checkWithByte_24 rfl ?_
          refine ax_goto (q := 38) B d_M_checkWithByte_25 rfl ?_
          refine ax_istore_n (q := 39) B d_M_checkWithByte_38 rfl (by decide) rfl ?_
          refine ax_iincN (j := 1) (q := 42) B d_M_checkWithByte_39 rfl ii_1 (by decide) rfl ?_
          refine ax_goto (q := 10) B d_M_checkWithByte_42 rfl ?_
          have h3 := ih (j + 1) (by omega)
          rw [hs, pz_bit] at h3
          first | (rw [if_pos (by omega)] at h3; exact h3) | (rw [if_neg (by omega)] at h3; exact h3)
  refine ax_iload_n (q := 1) B d_M_checkWithByte_0 rfl rfl rfl ?_
  refine ax_sipush (v := nI 256) (q := 4) B d_M_checkWithByte_1 cs_256 rfl ?_
  refine ax_iload_n (q := 5) B d_M_checkWithByte_4 rfl rfl rfl ?_
  first | refine ax_imulN (q := 6) B d_M_checkWithByte_5 rfl ?_ | refine ax_imul (q := 6) B d_M_checkWithByte_5 rfl ?_
  first | refine ax_ixorN (q := 7) B d_M_checkWithByte_6 rfl ?_ | refine ax_ixor (q := 7) B d_M_checkWithByte_6 rfl ?_
  refine ax_istore_n (q := 8) B d_M_checkWithByte_7 rfl (by decide) rfl ?_
  refine ax_iconst (v := nI 0) (q := 9) B d_M_checkWithByte_8 ci_0 rfl ?_
  refine ax_istore_n (q := 10) B d_M_checkWithByte_9 rfl (by decide) rfl ?_
  exact loop 8 0 rfl
set_option maxHeartbeats 1000000 in
theorem k_crcw {l : Launch} {G : aw_G} (hG : aw_ok G) (h : aw_H) {c v : Nat} (hc : c < 65536) (hv : v < 2 ^ 31) : aw_I l G 1 Y_M_checkWithWord [.inr (nI c), .inr (nI v)] h (.inr (nI (pz_crcw c v))) := by
  refine aw_met hG (by decide) (Nat.le_of_ble_eq_true rfl) (fun M hM B E => ?_)
  show aw_X M G 4 0 [some (.inr (nI c)), some (.inr (nI v)), none, none] [] h
  have hm : ∀ x : Nat, x % 2 ^ 8 < 256 := fun x => Nat.mod_lt _ (by omega)
  have step : ∀ (x j : Nat) (s : Int32), x < 65536 → j ≤ 24 → s = nI j → ((s.toUInt32 &&& Int32.toUInt32 31).toBitVec % 32).toNat = j → aw_X M G 4 21 [some (.inr (nI c)), some (.inr (nI v)), some (.inr (nI (pz_byte x (v / 2 ^ j % 2 ^ 8)))), some (.inr s)] [] h → aw_X M G 4 5 [some (.inr (nI c)), some (.inr (nI v)), some (.inr (nI x)), some (.inr s)] [] h := by
    intro x j s hx hj hs hs2 K
    have hvj : v / 2 ^ j < 2 ^ 32 := Nat.lt_of_le_of_lt (Nat.div_le_self _ _) (by omega)
    refine ax_iload_n (q := 6) B d_M_checkWithWord_5 rfl rfl rfl ?_
    refine ax_top hs ?_
    refine ax_ifN_lt (q := 27) (q2 := 9) B (by omega) d_M_checkWithWord_6 rfl rfl ?_
    refine ax_iload_n (q := 10) B d_M_checkWithWord_9 rfl rfl rfl ?_
    refine ax_iload_n (q := 11) B d_M_checkWithWord_10 rfl rfl rfl ?_
    refine ax_iload_n (q := 12) B d_M_checkWithWord_11 rfl rfl rfl ?_
    refine ax_iushrN (q := 13) B j (by omega) hs2 d_M_checkWithWord_12 rfl ?_
    refine ax_sipush (v := nI 255) (q := 16) B d_M_checkWithWord_13 cs_255 rfl ?_
    refine ax_iandN (q := 17) B 8 (by omega) (by decide) d_M_checkWithWord_16 rfl ?_
    refine ax_qS2 (q := 20) B cv_M_52 d_M_checkWithWord_17 (by decide) (by decide) (k_byte hG h hx (hm _)) rfl ?_
    refine ax_istore_n (q := 21) B d_M_checkWithWord_20 rfl (by decide) rfl ?_
    exact K
  have last : ∀ x : Nat, aw_X M G 4 5 [some (.inr (nI c)), some (.inr (nI v)), some (.inr (nI x)), some (.inr (-8))] [] h → True := fun _ _ => trivial
  have h1 := pz_byte_lt hc (hm (v / 2 ^ 24))
  have h2 := pz_byte_lt h1 (hm (v / 2 ^ 16))
  have h3 := pz_byte_lt h2 (hm (v / 2 ^ 8))
  refine ax_iload_n (q := 1) B d_M_checkWithWord_0 rfl rfl rfl ?_
  refine ax_istore_n (q := 2) B d_M_checkWithWord_1 rfl (by decide) rfl ?_
  refine ax_bipush (v := nI 24) (q := 4) B d_M_checkWithWord_2 cb_24 rfl ?_
  refine ax_istore_n (q := 5) B d_M_checkWithWord_4 rfl (by decide) rfl ?_
  refine step c 24 (nI 24) hc (by omega) rfl (by decide) ?_
  refine ax_iinc (v := nI 16) (q := 24) B d_M_checkWithWord_21 rfl (by decide) (by decide) rfl ?_
  refine ax_goto (q := 5) B d_M_checkWithWord_24 rfl ?_
  refine step _ 16 (nI 16) h1 (by omega) rfl (by decide) ?_
  refine ax_iinc (v := nI 8) (q := 24) B d_M_checkWithWord_21 rfl (by decide) (by decide) rfl ?_
  refine ax_goto (q := 5) B d_M_checkWithWord_24 rfl ?_
  refine step _ 8 (nI 8) h2 (by omega) rfl (by decide) ?_
  refine ax_iinc (v := nI 0) (q := 24) B d_M_checkWithWord_21 rfl (by decide) (by decide) rfl ?_
  refine ax_goto (q := 5) B d_M_checkWithWord_24 rfl ?_
  refine step _ 0 (nI 0) h3 (by omega) rfl (by decide) ?_
  refine ax_iinc (v := -8) (q := 24) B d_M_checkWithWord_21 rfl (by decide) (by decide) rfl ?_
  refine ax_goto (q := 5) B d_M_checkWithWord_24 rfl ?_
  refine ax_iload_n (q := 6) B d_M_checkWithWord_5 rfl rfl rfl ?_
  refine ax_if_lt (q := 27) (q2 := 9) B d_M_checkWithWord_6 rfl rfl (fun h6 => ?_) (fun h6 => ?_)
  · refine ax_iload_n (q := 28) B d_M_checkWithWord_27 rfl rfl rfl ?_
    refine ax_iret B E d_M_checkWithWord_28 ?_
    exact ⟨rfl, rfl⟩
  · exact absurd (by decide) h6
theorem k_unwritten {l : Launch} {G : aw_G} (hG : gz G) {h : aw_H} {n k : Nat} (e0 : h 1 0 = nI n) (e3 : h 1 3 = nI k) (hk : k ≤ n) : aw_I l G 0 Y_M_unwritten [.inl (some 1)] h (.inr (nI (n - k))) := by
  refine aw_met hG.1 (by decide) (Nat.le_of_ble_eq_true rfl) (fun M hM B E => ?_)
  show aw_X M G 1 0 [some (.inl (some 1))] [] h
  have i1 := hG.is1
  refine ax_aload_n (q := 1) B d_M_unwritten_0 rfl rfl rfl ?_
  refine ax_getN (q := 4) B fl_M_9 rfl d_M_unwritten_1 (by assumption) (by first | assumption | rfl) rfl ?_
  refine ax_aload_n (q := 5) B d_M_unwritten_4 rfl rfl rfl ?_
  refine ax_getN (q := 8) B fl_M_22 rfl d_M_unwritten_5 (by assumption) (by first | assumption | rfl) rfl ?_
  first | refine ax_isubN (q := 9) B (by omega) d_M_unwritten_8 rfl ?_ | refine ax_isub (q := 9) B d_M_unwritten_8 rfl ?_
  refine ax_iret B E d_M_unwritten_9 ?_
  exact ⟨rfl, rfl⟩
theorem k_isWritten {l : Launch} {G : aw_G} (hG : gz G) {h : aw_H} {k : Nat} (e3 : h 1 3 = nI k) (x : Int32) : aw_I l G 0 Y_M_isWritten [.inl (some 1), .inr x] h (.inr (bI (pz_small x k))) := by
  refine aw_met hG.1 (by decide) (Nat.le_of_ble_eq_true rfl) (fun M hM B E => ?_)
  show aw_X M G 2 0 [some (.inl (some 1)), some (.inr x)] [] h
  have i1 := hG.is1
  refine ax_iload_n (q := 1) B d_M_isWritten_0 rfl rfl rfl ?_
  refine ax_if_lt (q := 16) (q2 := 4) B d_M_isWritten_1 rfl rfl (fun h1 => ?_) (fun h1 => ?_)
  · refine ax_iconst (v := nI 0) (q := 17) B d_M_isWritten_16 ci_0 rfl ?_
    refine ax_zret B E (by first | exact bI_or _ | decide) d_M_isWritten_17 ?_
    first | exact ⟨by rw [pz_small_1 h1]; rfl, rfl⟩ | exact ⟨by rw [pz_small_2 h9]; rfl, rfl⟩ | exact ⟨by rw [pz_small_t h1 h9]; rfl, rfl⟩
  · refine ax_iload_n (q := 5) B d_M_isWritten_4 rfl rfl rfl ?_
    refine ax_aload_n (q := 6) B d_M_isWritten_5 rfl rfl rfl ?_
    refine ax_getN (q := 9) B fl_M_22 rfl d_M_isWritten_6 (by assumption) (by first | assumption | rfl) rfl ?_
    refine ax_icmp_ge (q := 16) (q2 := 12) B d_M_isWritten_9 rfl rfl (fun h9 => ?_) (fun h9 => ?_)
    · refine ax_iconst (v := nI 0) (q := 17) B d_M_isWritten_16 ci_0 rfl ?_
      refine ax_zret B E (by first | exact bI_or _ | decide) d_M_isWritten_17 ?_
      first | exact ⟨by rw [pz_small_1 h1]; rfl, rfl⟩ | exact ⟨by rw [pz_small_2 h9]; rfl, rfl⟩ | exact ⟨by rw [pz_small_t h1 h9]; rfl, rfl⟩
    · refine ax_iconst (v := nI 1) (q := 13) B d_M_isWritten_12 ci_1 rfl ?_
      refine ax_goto (q := 17) B d_M_isWritten_13 rfl ?_
      refine ax_zret B E (by first | exact bI_or _ | decide) d_M_isWritten_17 ?_
      first | exact ⟨by rw [pz_small_1 h1]; rfl, rfl⟩ | exact ⟨by rw [pz_small_2 h9]; rfl, rfl⟩ | exact ⟨by rw [pz_small_t h1 h9]; rfl, rfl⟩
theorem k_hasWord {l : Launch} {G : aw_G} (hG : gz G) {h : aw_H} {n : Nat} (e0 : h 1 0 = nI n) (x i : Int32) : aw_I l G 0 Y_M_hasWord [.inl (some 1), .inr x, .inr i] h (.inr (bI (pz_small x n && pz_small i 16))) := by
  refine aw_met hG.1 (by decide) (Nat.le_of_ble_eq_true rfl) (fun M hM B E => ?_)
  show aw_X M G 3 0 [some (.inl (some 1)), some (.inr x), some (.inr i)] [] h
  have i1 := hG.is1
  refine ax_iload_n (q := 1) B d_M_hasWord_0 rfl rfl rfl ?_
  refine ax_if_lt (q := 26) (q2 := 4) B d_M_hasWord_1 rfl rfl (fun h1 => ?_) (fun h1 => ?_)
  · refine ax_iconst (v := nI 0) (q := 27) B d_M_hasWord_26 ci_0 rfl ?_
    refine ax_zret B E (by first | exact bI_or _ | decide) d_M_hasWord_27 ?_
    first | exact ⟨by rw [pz_small_1 h1]; rfl, rfl⟩ | exact ⟨by rw [pz_small_2 h9]; rfl, rfl⟩ | exact ⟨by rw [pz_small_t h1 h9, pz_small_1 h13]; rfl, rfl⟩ | exact ⟨by rw [pz_small_t h1 h9, pz_small_2 h19]; rfl, rfl⟩ | exact ⟨by rw [pz_small_t h1 h9, pz_small_t h13 h19]; rfl, rfl⟩
  · refine ax_iload_n (q := 5) B d_M_hasWord_4 rfl rfl rfl ?_
    refine ax_aload_n (q := 6) B d_M_hasWord_5 rfl rfl rfl ?_
    refine ax_getN (q := 9) B fl_M_9 rfl d_M_hasWord_6 (by assumption) (by first | assumption | rfl) rfl ?_
    refine ax_icmp_ge (q := 26) (q2 := 12) B d_M_hasWord_9 rfl rfl (fun h9 => ?_) (fun h9 => ?_)
    · refine ax_iconst (v := nI 0) (q := 27) B d_M_hasWord_26 ci_0 rfl ?_
      refine ax_zret B E (by first | exact bI_or _ | decide) d_M_hasWord_27 ?_
      first | exact ⟨by rw [pz_small_1 h1]; rfl, rfl⟩ | exact ⟨by rw [pz_small_2 h9]; rfl, rfl⟩ | exact ⟨by rw [pz_small_t h1 h9, pz_small_1 h13]; rfl, rfl⟩ | exact ⟨by rw [pz_small_t h1 h9, pz_small_2 h19]; rfl, rfl⟩ | exact ⟨by rw [pz_small_t h1 h9, pz_small_t h13 h19]; rfl, rfl⟩
    · refine ax_iload_n (q := 13) B d_M_hasWord_12 rfl rfl rfl ?_
      refine ax_if_lt (q := 26) (q2 := 16) B d_M_hasWord_13 rfl rfl (fun h13 => ?_) (fun h13 => ?_)
      · refine ax_iconst (v := nI 0) (q := 27) B d_M_hasWord_26 ci_0 rfl ?_
        refine ax_zret B E (by first | exact bI_or _ | decide) d_M_hasWord_27 ?_
        first | exact ⟨by rw [pz_small_1 h1]; rfl, rfl⟩ | exact ⟨by rw [pz_small_2 h9]; rfl, rfl⟩ | exact ⟨by rw [pz_small_t h1 h9, pz_small_1 h13]; rfl, rfl⟩ | exact ⟨by rw [pz_small_t h1 h9, pz_small_2 h19]; rfl, rfl⟩ | exact ⟨by rw [pz_small_t h1 h9, pz_small_t h13 h19]; rfl, rfl⟩
      · refine ax_iload_n (q := 17) B d_M_hasWord_16 rfl rfl rfl ?_
        refine ax_bipush (v := nI 16) (q := 19) B d_M_hasWord_17 cb_16 rfl ?_
        refine ax_icmp_ge (q := 26) (q2 := 22) B d_M_hasWord_19 rfl rfl (fun h19 => ?_) (fun h19 => ?_)
        · refine ax_iconst (v := nI 0) (q := 27) B d_M_hasWord_26 ci_0 rfl ?_
          refine ax_zret B E (by first | exact bI_or _ | decide) d_M_hasWord_27 ?_
          first | exact ⟨by rw [pz_small_1 h1]; rfl, rfl⟩ | exact ⟨by rw [pz_small_2 h9]; rfl, rfl⟩ | exact ⟨by rw [pz_small_t h1 h9, pz_small_1 h13]; rfl, rfl⟩ | exact ⟨by rw [pz_small_t h1 h9, pz_small_2 h19]; rfl, rfl⟩ | exact ⟨by rw [pz_small_t h1 h9, pz_small_t h13 h19]; rfl, rfl⟩
        · refine ax_iconst (v := nI 1) (q := 23) B d_M_hasWord_22 ci_1 rfl ?_
          refine ax_goto (q := 27) B d_M_hasWord_23 rfl ?_
          refine ax_zret B E (by first | exact bI_or _ | decide) d_M_hasWord_27 ?_
          first | exact ⟨by rw [pz_small_1 h1]; rfl, rfl⟩ | exact ⟨by rw [pz_small_2 h9]; rfl, rfl⟩ | exact ⟨by rw [pz_small_t h1 h9, pz_small_1 h13]; rfl, rfl⟩ | exact ⟨by rw [pz_small_t h1 h9, pz_small_2 h19]; rfl, rfl⟩ | exact ⟨by rw [pz_small_t h1 h9, pz_small_t h13 h19]; rfl, rfl⟩
/-- a word of the medium -/
theorem k_wordAt {l : Launch} {G : aw_G} (hG : gz G) {h : aw_H} (e0 : h 1 0 = nI (aw_n G)) {p i : Nat} (hp : p < aw_n G) (hi : i < 16) : aw_I l G 1 Y_M_wordAt [.inl (some 1), .inr (nI p), .inr (nI i)] h (.inr (h 2 (16 * p + i))) := by
  refine aw_met hG.1 (by decide) (Nat.le_of_ble_eq_true rfl) (fun M hM B E => ?_)
  show aw_X M G 3 0 [some (.inl (some 1)), some (.inr (nI p)), some (.inr (nI i))] [] h
  have i1 := hG.is1
  have a2 := hG.ar2
  have r1 : aw_rM 1 1 = some 2 := rfl
  have hG' := hG
  obtain ⟨-, -, n1, n2⟩ := hG
  have hw : (pz_small (nI p) (aw_n G) && pz_small (nI i) 16) = true := by rw [pz_small_N (by omega) hp, pz_small_N (by omega) hi]; rfl
  refine ax_aload_n (q := 1) B d_M_wordAt_0 rfl rfl rfl ?_
  refine ax_iload_n (q := 2) B d_M_wordAt_1 rfl rfl rfl ?_
  refine ax_iload_n (q := 3) B d_M_wordAt_2 rfl rfl rfl ?_
  refine ax_qV2 (q := 6) B cv_M_28 d_M_wordAt_3 (by assumption) (by decide) (by decide) (k_hasWord hG' e0 _ _) rfl ?_
  refine ax_ifZ_eq (q := 23) (q2 := 9) B d_M_wordAt_6 rfl rfl (fun h6 => ?_) (fun h6 => ?_)
  · rw [hw] at h6; cases h6
  · refine ax_aload_n (q := 10) B d_M_wordAt_9 rfl rfl rfl ?_
    refine ax_getP (q := 13) B fl_M_15 rfl d_M_wordAt_10 (by assumption) (by assumption) rfl ?_
    refine ax_iload_n (q := 14) B d_M_wordAt_13 rfl rfl rfl ?_
    refine ax_bipush (v := nI 16) (q := 16) B d_M_wordAt_14 cb_16 rfl ?_
    first | refine ax_imulN (q := 17) B d_M_wordAt_16 rfl ?_ | refine ax_imul (q := 17) B d_M_wordAt_16 rfl ?_
    refine ax_iload_n (q := 18) B d_M_wordAt_17 rfl rfl rfl ?_
    first | refine ax_iaddN (q := 19) B d_M_wordAt_18 rfl ?_ | refine ax_iadd (q := 19) B d_M_wordAt_18 rfl ?_
    refine ax_ialdN (j := 16 * p + i) (q := 20) B d_M_wordAt_19 (by assumption) (congrArg nI (by omega)) (by omega) (by omega) rfl rfl ?_
    refine ax_goto (q := 24) B d_M_wordAt_20 rfl ?_
    refine ax_iret B E d_M_wordAt_24 ?_
    exact ⟨rfl, rfl⟩
end
section
theorem nI_nm1 {s : Nat} (h : s < 2 ^ 31) : ¬ nI s = -1 := fun z => by
  have h2 := nI_pos h
  rw [z] at h2
  exact h2 (by decide)
theorem aw_u_id {h : aw_H} {p k : Nat} {x : Int32} (e : h p k = x) : aw_u h p k x = h := by
  funext q
  unfold aw_u
  split
  · rename_i hq
    subst hq
    funext j
    unfold upd
    split
    · rename_i hj
      subst hj
      exact e.symm
    · rfl
  · rfl
/-- is the sector at a written place good -/
theorem k_isGood {l : Launch} {G : aw_G} (hG : gz G) {h : aw_H} {k : Nat} (e0 : h 1 0 = nI (aw_n G)) (e3 : h 1 3 = nI k) (hk : k ≤ aw_n G) {p : Nat} (hp : p < k) : aw_I l G 2 Y_M_isGood [.inl (some 1), .inr (nI p)] h (.inr (bI (decide (h 2 (16 * p + 1) = h 3 p)))) := by
  refine aw_met hG.1 (by decide) (Nat.le_of_ble_eq_true rfl) (fun M hM B E => ?_)
  show aw_X M G 2 0 [some (.inl (some 1)), some (.inr (nI p))] [] h
  have i1 := hG.is1
  have a3 := hG.ar3
  have r2 : aw_rM 1 2 = some 3 := rfl
  have hG' := hG
  obtain ⟨-, -, n1, n2⟩ := hG
  have hw : pz_small (nI p) k = true := pz_small_N (by omega) hp
  refine ax_aload_n (q := 1) B d_M_isGood_0 rfl rfl rfl ?_
  refine ax_iload_n (q := 2) B d_M_isGood_1 rfl rfl rfl ?_
  refine ax_qV1 (q := 5) B cv_M_32 d_M_isGood_2 (by assumption) (Nat.le_of_ble_eq_true rfl) (by decide) (k_isWritten hG' e3 _) rfl ?_
  refine ax_ifZ_eq (q := 27) (q2 := 8) B d_M_isGood_5 rfl rfl (fun h5 => ?_) (fun h5 => ?_)
  · refine ax_iconst (v := nI 0) (q := 28) B d_M_isGood_27 ci_0 rfl ?_
    refine ax_zret B E (by first | exact bI_or _ | decide) d_M_isGood_28 ?_
    first | (rw [hw] at h5; cases h5; done) | exact ⟨by rw [decide_eq_false h20]; rfl, rfl⟩ | exact ⟨by rw [decide_eq_true h20]; rfl, rfl⟩
  · refine ax_aload_n (q := 9) B d_M_isGood_8 rfl rfl rfl ?_
    refine ax_iload_n (q := 10) B d_M_isGood_9 rfl rfl rfl ?_
    refine ax_iconst (v := nI 1) (q := 11) B d_M_isGood_10 ci_1 rfl ?_
    refine ax_qV2 (q := 14) B cv_M_36 d_M_isGood_11 (by assumption) (Nat.le_of_ble_eq_true rfl) (by decide) (k_wordAt hG' e0 (by omega) (by omega)) rfl ?_
    refine ax_aload_n (q := 15) B d_M_isGood_14 rfl rfl rfl ?_
    refine ax_getP (q := 18) B fl_M_19 rfl d_M_isGood_15 (by assumption) (by assumption) rfl ?_
    refine ax_iload_n (q := 19) B d_M_isGood_18 rfl rfl rfl ?_
    refine ax_ialdN (q := 20) B d_M_isGood_19 (by assumption) rfl (by omega) (by omega) (by first | assumption | rfl) rfl ?_
    refine ax_icmp_ne (q := 27) (q2 := 23) B d_M_isGood_20 rfl rfl (fun h20 => ?_) (fun h20 => ?_)
    · refine ax_iconst (v := nI 0) (q := 28) B d_M_isGood_27 ci_0 rfl ?_
      refine ax_zret B E (by first | exact bI_or _ | decide) d_M_isGood_28 ?_
      first | (rw [hw] at h5; cases h5; done) | exact ⟨by rw [decide_eq_false h20]; rfl, rfl⟩ | exact ⟨by rw [decide_eq_true h20]; rfl, rfl⟩
    · refine ax_iconst (v := nI 1) (q := 24) B d_M_isGood_23 ci_1 rfl ?_
      refine ax_goto (q := 28) B d_M_isGood_24 rfl ?_
      refine ax_zret B E (by first | exact bI_or _ | decide) d_M_isGood_28 ?_
      first | (rw [hw] at h5; cases h5; done) | exact ⟨by rw [decide_eq_false h20]; rfl, rfl⟩ | exact ⟨by rw [decide_eq_true h20]; rfl, rfl⟩
theorem k_flipCheck {l : Launch} {G : aw_G} (hG : gz G) {h : aw_H} {k : Nat} (e3 : h 1 3 = nI k) (hk : k ≤ aw_n G) {p : Nat} (hp : p < k) : aw_P l G 1 Y_M_flipCheck [.inl (some 1), .inr (nI p)] h (fun h' => h' = aw_u h 2 (16 * p + 1) (h 2 (16 * p + 1) ^^^ nI 1)) := by
  refine aw_met hG.1 (by decide) (Nat.le_of_ble_eq_true rfl) (fun M hM B E => ?_)
  show aw_X M G 2 0 [some (.inl (some 1)), some (.inr (nI p))] [] h
  have i1 := hG.is1
  have a2 := hG.ar2
  have r1 : aw_rM 1 1 = some 2 := rfl
  have hG' := hG
  obtain ⟨-, -, n1, n2⟩ := hG
  have hw : pz_small (nI p) k = true := pz_small_N (by omega) hp
  refine ax_aload_n (q := 1) B d_M_flipCheck_0 rfl rfl rfl ?_
  refine ax_iload_n (q := 2) B d_M_flipCheck_1 rfl rfl rfl ?_
  refine ax_qV1 (q := 5) B cv_M_32 d_M_flipCheck_2 (by assumption) (Nat.le_of_ble_eq_true rfl) (by decide) (k_isWritten hG' e3 _) rfl ?_
  refine ax_ifZ_eq (q := 23) (q2 := 8) B d_M_flipCheck_5 rfl rfl (fun h5 => ?_) (fun h5 => ?_)
  · refine ax_vret B E d_M_flipCheck_23 ?_
    first | (rw [hw] at h5; cases h5; done) | exact ⟨rfl, rfl⟩
  · refine ax_aload_n (q := 9) B d_M_flipCheck_8 rfl rfl rfl ?_
    refine ax_getP (q := 12) B fl_M_15 rfl d_M_flipCheck_9 (by assumption) (by assumption) rfl ?_
    refine ax_iload_n (q := 13) B d_M_flipCheck_12 rfl rfl rfl ?_
    refine ax_bipush (v := nI 16) (q := 15) B d_M_flipCheck_13 cb_16 rfl ?_
    first | refine ax_imulN (q := 16) B d_M_flipCheck_15 rfl ?_ | refine ax_imul (q := 16) B d_M_flipCheck_15 rfl ?_
    refine ax_iconst (v := nI 1) (q := 17) B d_M_flipCheck_16 ci_1 rfl ?_
    first | refine ax_iaddN (q := 18) B d_M_flipCheck_17 rfl ?_ | refine ax_iadd (q := 18) B d_M_flipCheck_17 rfl ?_
    refine ax_dup2 (q := 19) B d_M_flipCheck_18 rfl ?_
    refine ax_ialdN (j := 16 * p + 1) (q := 20) B d_M_flipCheck_19 (by assumption) (congrArg nI (by omega)) (by omega) (by omega) rfl rfl ?_
    refine ax_iconst (v := nI 1) (q := 21) B d_M_flipCheck_20 ci_1 rfl ?_
    refine ax_ixor (q := 22) B d_M_flipCheck_21 rfl ?_
    refine ax_iastN (j := 16 * p + 1) (q := 23) B d_M_flipCheck_22 (by assumption) (congrArg nI (by omega)) (by omega) (by omega) rfl ?_
    refine ax_vret B E d_M_flipCheck_23 ?_
    first | (rw [hw] at h5; cases h5; done) | exact ⟨rfl, rfl⟩
/-- a word of the sector that is being written -/
theorem k_put {l : Launch} {G : aw_G} (hG : gz G) {h : aw_H} {k : Nat} (e0 : h 1 0 = nI (aw_n G)) (e3 : h 1 3 = nI k) (hk : k < aw_n G) {i : Nat} (hi : i < 16) (v : Int32) : aw_P l G 1 Y_M_put [.inl (some 1), .inr (nI i), .inr v] h (fun h' => h' = aw_u h 2 (16 * k + i) v) := by
  refine aw_met hG.1 (by decide) (Nat.le_of_ble_eq_true rfl) (fun M hM B E => ?_)
  show aw_X M G 3 0 [some (.inl (some 1)), some (.inr (nI i)), some (.inr v)] [] h
  have i1 := hG.is1
  have a2 := hG.ar2
  have r1 : aw_rM 1 1 = some 2 := rfl
  have hG' := hG
  obtain ⟨-, -, n1, n2⟩ := hG
  have hw : (pz_small (nI k) (aw_n G) && pz_small (nI i) 16) = true := by rw [pz_small_N (by omega) hk, pz_small_N (by omega) hi]; rfl
  refine ax_aload_n (q := 1) B d_M_put_0 rfl rfl rfl ?_
  refine ax_aload_n (q := 2) B d_M_put_1 rfl rfl rfl ?_
  refine ax_getN (q := 5) B fl_M_22 rfl d_M_put_2 (by assumption) (by first | assumption | rfl) rfl ?_
  refine ax_iload_n (q := 6) B d_M_put_5 rfl rfl rfl ?_
  refine ax_qV2 (q := 9) B cv_M_28 d_M_put_6 (by assumption) (Nat.le_of_ble_eq_true rfl) (by decide) (k_hasWord hG' e0 _ _) rfl ?_
  refine ax_ifZ_eq (q := 27) (q2 := 12) B d_M_put_9 rfl rfl (fun h9 => ?_) (fun h9 => ?_)
  · refine ax_vret B E d_M_put_27 ?_
    first | (rw [hw] at h9; cases h9; done) | exact ⟨rfl, rfl⟩
  · refine ax_aload_n (q := 13) B d_M_put_12 rfl rfl rfl ?_
    refine ax_getP (q := 16) B fl_M_15 rfl d_M_put_13 (by assumption) (by assumption) rfl ?_
    refine ax_aload_n (q := 17) B d_M_put_16 rfl rfl rfl ?_
    refine ax_getN (q := 20) B fl_M_22 rfl d_M_put_17 (by assumption) (by first | assumption | rfl) rfl ?_
    refine ax_bipush (v := nI 16) (q := 22) B d_M_put_20 cb_16 rfl ?_
    first | refine ax_imulN (q := 23) B d_M_put_22 rfl ?_ | refine ax_imul (q := 23) B d_M_put_22 rfl ?_
    refine ax_iload_n (q := 24) B d_M_put_23 rfl rfl rfl ?_
    first | refine ax_iaddN (q := 25) B d_M_put_24 rfl ?_ | refine ax_iadd (q := 25) B d_M_put_24 rfl ?_
    refine ax_iload_n (q := 26) B d_M_put_25 rfl rfl rfl ?_
    refine ax_iastN (j := 16 * k + i) (q := 27) B d_M_put_26 (by assumption) (congrArg nI (by omega)) (by omega) (by omega) rfl ?_
    refine ax_vret B E d_M_put_27 ?_
    first | (rw [hw] at h9; cases h9; done) | exact ⟨rfl, rfl⟩
theorem k_begin {l : Launch} {G : aw_G} (hG : gz G) {h : aw_H} {k : Nat} (e0 : h 1 0 = nI (aw_n G)) (e3 : h 1 3 = nI k) (hk : k < aw_n G) (a b : Int32) : aw_P l G 2 Y_M_begin [.inl (some 1), .inr a, .inr b] h (fun h' => h' = aw_u (aw_u (aw_u h 2 (16 * k + 0) a) 2 (16 * k + 2) (nI k)) 2 (16 * k + 3) b) := by
  refine aw_met hG.1 (by decide) (Nat.le_of_ble_eq_true rfl) (fun M hM B E => ?_)
  show aw_X M G 3 0 [some (.inl (some 1)), some (.inr a), some (.inr b)] [] h
  have i1 := hG.is1
  refine ax_aload_n (q := 1) B d_M_begin_0 rfl rfl rfl ?_
  refine ax_iconst (v := nI 0) (q := 2) B d_M_begin_1 ci_0 rfl ?_
  refine ax_iload_n (q := 3) B d_M_begin_2 rfl rfl rfl ?_
  refine ax_pV2 (q := 6) B cv_M_40 d_M_begin_3 (by assumption) (Nat.le_of_ble_eq_true rfl) (by decide) (k_put hG e0 e3 hk (by omega) _) rfl (fun h1 hh1 => ?_)
  subst hh1
  obtain ⟨h1, hh1⟩ : ∃ h1, h1 = aw_u h 2 (16 * k + 0) a := ⟨_, rfl⟩
  have e01 : h1 1 0 = nI (aw_n G) := by rw [hh1]; exact e0
  have e31 : h1 1 3 = nI k := by rw [hh1]; exact e3
  rw [← hh1] at ⊢
  refine ax_aload_n (q := 7) B d_M_begin_6 rfl rfl rfl ?_
  refine ax_iconst (v := nI 2) (q := 8) B d_M_begin_7 ci_2 rfl ?_
  refine ax_aload_n (q := 9) B d_M_begin_8 rfl rfl rfl ?_
  refine ax_getN (q := 12) B fl_M_22 rfl d_M_begin_9 (by assumption) (by first | assumption | rfl) rfl ?_
  refine ax_pV2 (q := 15) B cv_M_40 d_M_begin_12 (by assumption) (Nat.le_of_ble_eq_true rfl) (by decide) (k_put hG e01 e31 hk (by omega) _) rfl (fun h2 hh2 => ?_)
  have e02 : h2 1 0 = nI (aw_n G) := by rw [hh2]; exact e01
  have e32 : h2 1 3 = nI k := by rw [hh2]; exact e31
  refine ax_aload_n (q := 16) B d_M_begin_15 rfl rfl rfl ?_
  refine ax_iconst (v := nI 3) (q := 17) B d_M_begin_16 ci_3 rfl ?_
  refine ax_iload_n (q := 18) B d_M_begin_17 rfl rfl rfl ?_
  refine ax_pV2 (q := 21) B cv_M_40 d_M_begin_18 (by assumption) (Nat.le_of_ble_eq_true rfl) (by decide) (k_put hG e02 e32 hk (by omega) _) rfl (fun h3 hh3 => ?_)
  exact ax_vret B E d_M_begin_21 ⟨rfl, by rw [hh3, hh2, hh1]⟩
/-- the check of a sector whose words are f -/
theorem k_checkOf {l : Launch} {G : aw_G} (hG : gz G) {h : aw_H} (e0 : h 1 0 = nI (aw_n G)) {p : Nat} (hp : p < aw_n G) {f : Nat → Nat} (hf : ∀ i, i < 16 → i ≠ 1 → h 2 (16 * p + i) = nI (f i) ∧ f i < 2 ^ 31) : aw_I l G 2 Y_M_checkOf [.inl (some 1), .inr (nI p)] h (.inr (nI (pz_chkN f 16))) := by
  refine aw_met hG.1 (by decide) (Nat.le_of_ble_eq_true rfl) (fun M hM B E => ?_)
  show aw_X M G 4 0 [some (.inl (some 1)), some (.inr (nI p)), none, none] [] h
  have i1 := hG.is1
  have loop : ∀ m j, j + m = 16 → aw_X M G 4 5 [some (.inl (some 1)), some (.inr (nI p)), some (.inr (nI (pz_chkN f j))), some (.inr (nI j))] [] h := by
    intro m
    induction m with
    | zero =>
      intro j hj
      have hj : j = 16 := by omega
      subst hj
      generalize pz_chkN f 16 = x at E ⊢
      refine ax_iload_n (q := 6) B d_M_checkOf_5 rfl rfl rfl ?_
      refine ax_bipush (v := nI 16) (q := 8) B d_M_checkOf_6 cb_16 rfl ?_
      refine ax_icmpN_ge (q := 33) (q2 := 11) B (by omega) (by omega) d_M_checkOf_8 rfl rfl (fun h8 => ?_) (fun h8 => ?_)
      · refine ax_iload_n (q := 34) B d_M_checkOf_33 rfl rfl rfl ?_
        refine ax_iret B E d_M_checkOf_34 ?_
        exact ⟨rfl, rfl⟩
      · omega
    | succ m ih =>
      intro j hj
      have h3 := ih (j + 1) (by omega)
      have hc := pz_chkN_lt f j
      rw [show pz_chkN f (j + 1) = if j = 1 then pz_chkN f j else pz_crcw (pz_chkN f j) (f j) from rfl] at h3
      generalize pz_chkN f j = x at hc h3 ⊢
      refine ax_iload_n (q := 6) B d_M_checkOf_5 rfl rfl rfl ?_
      refine ax_bipush (v := nI 16) (q := 8) B d_M_checkOf_6 cb_16 rfl ?_
      refine ax_icmpN_ge (q := 33) (q2 := 11) B (by omega) (by omega) d_M_checkOf_8 rfl rfl (fun h8 => ?_) (fun h8 => ?_)
      · omega
      · refine ax_iload_n (q := 12) B d_M_checkOf_11 rfl rfl rfl ?_
        refine ax_iconst (v := nI 1) (q := 13) B d_M_checkOf_12 ci_1 rfl ?_
        refine ax_icmpN_eq (q := 27) (q2 := 16) B (by omega) (by omega) d_M_checkOf_13 rfl rfl (fun h13 => ?_) (fun h13 => ?_)
        · refine ax_iincN (j := 1) (q := 30) B d_M_checkOf_27 rfl ii_1 (by decide) rfl ?_
          refine ax_goto (q := 5) B d_M_checkOf_30 rfl ?_
          first | (rw [if_pos h13] at h3; exact h3) | (rw [if_neg h13] at h3; exact h3)
        · refine ax_iload_n (q := 17) B d_M_checkOf_16 rfl rfl rfl ?_
          refine ax_aload_n (q := 18) B d_M_checkOf_17 rfl rfl rfl ?_
          refine ax_iload_n (q := 19) B d_M_checkOf_18 rfl rfl rfl ?_
          refine ax_iload_n (q := 20) B d_M_checkOf_19 rfl rfl rfl ?_
          refine ax_qV2 (q := 23) B cv_M_36 d_M_checkOf_20 (by assumption) (Nat.le_of_ble_eq_true rfl) (by decide) (k_wordAt hG e0 hp (by omega)) rfl ?_
          refine ax_top (hf j (by omega) h13).1 ?_
          refine ax_qS2 (q := 26) B cv_M_49 d_M_checkOf_23 (Nat.le_of_ble_eq_true rfl) (by decide) (k_crcw hG.1 h hc (hf j (by omega) h13).2) rfl ?_
          refine ax_istore_n (q := 27) B d_M_checkOf_26 rfl (by decide) rfl ?_
          refine ax_iincN (j := 1) (q := 30) B d_M_checkOf_27 rfl ii_1 (by decide) rfl ?_
          refine ax_goto (q := 5) B d_M_checkOf_30 rfl ?_
          first | (rw [if_pos h13] at h3; exact h3) | (rw [if_neg h13] at h3; exact h3)
  refine ax_ldc (v := nI 65535) (q := 2) B wc_M_48 d_M_checkOf_0 rfl ?_
  refine ax_istore_n (q := 3) B d_M_checkOf_2 rfl (by decide) rfl ?_
  refine ax_iconst (v := nI 0) (q := 4) B d_M_checkOf_3 ci_0 rfl ?_
  refine ax_istore_n (q := 5) B d_M_checkOf_4 rfl (by decide) rfl ?_
  exact loop 16 0 rfl
/-- the heap behind a sector's end -/
def hz_fin (h : aw_H) (k sp c : Nat) : aw_H := aw_u (aw_u (aw_u (aw_u h 3 k (nI c)) 2 (16 * k + 1) (nI (if sp = 1 then c ^^^ 1 else c))) 1 3 (nI (k + 1))) 1 4 (nI (sp - 1) + (-1))
theorem k_finish {l : Launch} {G : aw_G} (hG : gz G) {h : aw_H} {k sp : Nat} (e0 : h 1 0 = nI (aw_n G)) (e3 : h 1 3 = nI k) (e4 : h 1 4 = nI sp + (-1)) (hk : k < aw_n G) (hsp : sp ≤ 1001) {f : Nat → Nat} (hf : ∀ i, i < 16 → i ≠ 1 → h 2 (16 * k + i) = nI (f i) ∧ f i < 2 ^ 31) :
    aw_F l G 3 Y_M_finish [.inl (some 1)] h (fun v h' => v = .inr (bI (decide (sp ≠ 1))) ∧ h' = hz_fin h k sp (pz_chkN f 16)) := by
  refine aw_met hG.1 (by decide) (Nat.le_of_ble_eq_true rfl) (fun M hM B E => ?_)
  show aw_X M G 3 0 [some (.inl (some 1)), none, none] [] h
  have i1 := hG.is1
  have a3 := hG.ar3
  have r2 : aw_rM 1 2 = some 3 := rfl
  have n1 := hG.2.2.1
  have n2 := hG.2.2.2
  have hC := k_checkOf (l := M.2.1) hG e0 hk hf
  have hxl := pz_chkN_lt f 16
  generalize pz_chkN f 16 = x at hC hxl E ⊢
  have tail3 : ∀ t : Nat, t = (if sp = 1 then 1 else 0) → ∀ ls2, aw_X M G 3 89 [some (.inl (some 1)), some (.inr (nI t)), ls2] [] (hz_fin h k sp x) := by
    intro t ht ls2
    have ht2 : t ≤ 1 := by rw [ht]; split <;> omega
    refine ax_iload_n (q := 90) B d_M_finish_89 rfl rfl rfl ?_
    refine ax_ifN_ne (q := 97) (q2 := 93) B (by omega) d_M_finish_90 rfl rfl (fun h90 => ?_) (fun h90 => ?_)
    · refine ax_iconst (v := nI 0) (q := 98) B d_M_finish_97 ci_0 rfl ?_
      refine ax_zret B E (by first | exact bI_or _ | decide) d_M_finish_98 ?_
      first | exact ⟨_, rfl, by rw [decide_eq_false (by intro z; rw [if_neg z] at ht; omega)]; rfl, rfl⟩ | exact ⟨_, rfl, by rw [decide_eq_true (by intro z; rw [if_pos z] at ht; omega)]; rfl, rfl⟩
    · refine ax_iconst (v := nI 1) (q := 94) B d_M_finish_93 ci_1 rfl ?_
      refine ax_goto (q := 98) B d_M_finish_94 rfl ?_
      refine ax_zret B E (by first | exact bI_or _ | decide) d_M_finish_98 ?_
      first | exact ⟨_, rfl, by rw [decide_eq_false (by intro z; rw [if_neg z] at ht; omega)]; rfl, rfl⟩ | exact ⟨_, rfl, by rw [decide_eq_true (by intro z; rw [if_pos z] at ht; omega)]; rfl, rfl⟩
  have tail2 : ∀ t y : Nat, t = (if sp = 1 then 1 else 0) → y = (if sp = 1 then x ^^^ 1 else x) → ∀ ls2, aw_X M G 3 58 [some (.inl (some 1)), some (.inr (nI t)), ls2] [.inr (nI y), .inr (nI 1), .inl (some 1)] (aw_u h 3 k (nI x)) := by
    intro t y ht hy ls2
    have e01 : (aw_u h 3 k (nI x)) 1 0 = nI (aw_n G) := e0
    have e31 : (aw_u h 3 k (nI x)) 1 3 = nI k := e3
    refine ax_pV2 (q := 61) B cv_M_40 d_M_finish_58 (by assumption) (Nat.le_of_ble_eq_true rfl) (by decide) (k_put hG e01 e31 hk (by omega) _) rfl (fun h2 hh2 => ?_)
    have e32 : h2 1 3 = nI k := by rw [hh2]; exact e3
    have e42 : h2 1 4 = nI sp + (-1) := by rw [hh2]; exact e4
    refine ax_aload_n (q := 62) B d_M_finish_61 rfl rfl rfl ?_
    refine ax_dup (q := 63) B d_M_finish_62 rfl ?_
    refine ax_getN (q := 66) B fl_M_22 rfl d_M_finish_63 (by assumption) (by first | assumption | rfl) rfl ?_
    refine ax_iconst (v := nI 1) (q := 67) B d_M_finish_66 ci_1 rfl ?_
    first | refine ax_iaddN (q := 68) B d_M_finish_67 rfl ?_ | refine ax_iadd (q := 68) B d_M_finish_67 rfl ?_
    refine ax_putN (q := 71) B fp_M_22 d_M_finish_68 (by assumption) rfl ?_
    obtain ⟨h3, hh3⟩ : ∃ h3, h3 = aw_u h2 1 3 (nI (k + 1)) := ⟨_, rfl⟩
    rw [← hh3]
    have e43 : h3 1 4 = nI sp + (-1) := by rw [hh3]; exact e42
    have fin : aw_u h3 1 4 (nI (sp - 1) + (-1)) = hz_fin h k sp x := by
      unfold hz_fin
      rw [hh3, hh2, hy]
    rcases sp with _ | s
    · have e43 : h3 1 4 = -1 := e43
      refine ax_aload_n (q := 72) B d_M_finish_71 rfl rfl rfl ?_
      refine ax_getN (q := 75) B fl_M_25 rfl d_M_finish_72 (by assumption) (by first | assumption | rfl) rfl ?_
      refine ax_iconst (v := (-1)) (q := 76) B d_M_finish_75 ci_m1 rfl ?_
      refine ax_icmp_eq (q := 89) (q2 := 79) B d_M_finish_76 rfl rfl (fun h76 => ?_) (fun h76 => ?_)
      · rw [aw_u_id (show h3 1 4 = nI (0 - 1) + (-1) from e43)] at fin
        rw [fin]
        exact tail3 t ht _
      · exact absurd rfl h76
    · have e43 : h3 1 4 = nI s := e43.trans (pk_m1 s)
      refine ax_aload_n (q := 72) B d_M_finish_71 rfl rfl rfl ?_
      refine ax_getN (q := 75) B fl_M_25 rfl d_M_finish_72 (by assumption) (by first | assumption | rfl) rfl ?_
      refine ax_iconst (v := (-1)) (q := 76) B d_M_finish_75 ci_m1 rfl ?_
      refine ax_icmp_eq (q := 89) (q2 := 79) B d_M_finish_76 rfl rfl (fun h76 => ?_) (fun h76 => ?_)
      · first | exact absurd h76 (nI_nm1 (by omega)) | (rw [fin]; exact tail3 t ht _)
      · refine ax_aload_n (q := 80) B d_M_finish_79 rfl rfl rfl ?_
        refine ax_dup (q := 81) B d_M_finish_80 rfl ?_
        refine ax_getN (q := 84) B fl_M_25 rfl d_M_finish_81 (by assumption) (by first | assumption | rfl) rfl ?_
        refine ax_iconst (v := nI 1) (q := 85) B d_M_finish_84 ci_1 rfl ?_
        refine ax_isub (q := 86) B d_M_finish_85 rfl ?_
        refine ax_top (show nI s - nI 1 = nI (s + 1 - 1) + (-1) by rw [Nat.add_sub_cancel]; exact Int32.sub_eq_add_neg _ _) ?_
        refine ax_putN (q := 89) B fp_M_25 d_M_finish_86 (by assumption) rfl ?_
        first | exact absurd h76 (nI_nm1 (by omega)) | (rw [fin]; exact tail3 t ht _)
  have tail : ∀ t : Nat, t = (if sp = 1 then 1 else 0) → aw_X M G 3 26 [some (.inl (some 1)), some (.inr (nI t)), none] [] h := by
    intro t ht
    have ht2 : t ≤ 1 := by rw [ht]; split <;> omega
    refine ax_aload_n (q := 27) B d_M_finish_26 rfl rfl rfl ?_
    refine ax_aload_n (q := 28) B d_M_finish_27 rfl rfl rfl ?_
    refine ax_getN (q := 31) B fl_M_22 rfl d_M_finish_28 (by assumption) (by first | assumption | rfl) rfl ?_
    refine ax_qV1 (q := 34) B cv_M_44 d_M_finish_31 (by assumption) (Nat.le_of_ble_eq_true rfl) (by decide) hC rfl ?_
    refine ax_istore_n (q := 35) B d_M_finish_34 rfl (by decide) rfl ?_
    refine ax_aload_n (q := 36) B d_M_finish_35 rfl rfl rfl ?_
    refine ax_getP (q := 39) B fl_M_19 rfl d_M_finish_36 (by assumption) (by assumption) rfl ?_
    refine ax_aload_n (q := 40) B d_M_finish_39 rfl rfl rfl ?_
    refine ax_getN (q := 43) B fl_M_22 rfl d_M_finish_40 (by assumption) (by first | assumption | rfl) rfl ?_
    refine ax_iload_n (q := 44) B d_M_finish_43 rfl rfl rfl ?_
    refine ax_iastN (q := 45) B d_M_finish_44 (by assumption) rfl (by omega) (by omega) rfl ?_
    refine ax_aload_n (q := 46) B d_M_finish_45 rfl rfl rfl ?_
    refine ax_iconst (v := nI 1) (q := 47) B d_M_finish_46 ci_1 rfl ?_
    refine ax_iload_n (q := 48) B d_M_finish_47 rfl rfl rfl ?_
    refine ax_ifN_eq (q := 57) (q2 := 51) B (by omega) d_M_finish_48 rfl rfl (fun h48 => ?_) (fun h48 => ?_)
    · refine ax_iload_n (q := 58) B d_M_finish_57 rfl rfl rfl ?_
      first | exact tail2 t _ ht (by rw [if_neg (fun z => by rw [if_pos z] at ht; omega)]) _ | exact tail2 t _ ht (by rw [if_pos (Decidable.byContradiction (fun z => by rw [if_neg z] at ht; omega))]) _
    · refine ax_iload_n (q := 52) B d_M_finish_51 rfl rfl rfl ?_
      refine ax_iconst (v := nI 1) (q := 53) B d_M_finish_52 ci_1 rfl ?_
      first | refine ax_ixorN (q := 54) B d_M_finish_53 rfl ?_ | refine ax_ixor (q := 54) B d_M_finish_53 rfl ?_
      refine ax_goto (q := 58) B d_M_finish_54 rfl ?_
      first | exact tail2 t _ ht (by rw [if_neg (fun z => by rw [if_pos z] at ht; omega)]) _ | exact tail2 t _ ht (by rw [if_pos (Decidable.byContradiction (fun z => by rw [if_neg z] at ht; omega))]) _
  rcases sp with _ | s
  · have e4 : h 1 4 = -1 := e4
    refine ax_aload_n (q := 1) B d_M_finish_0 rfl rfl rfl ?_
    refine ax_getN (q := 4) B fl_M_22 rfl d_M_finish_1 (by assumption) (by first | assumption | rfl) rfl ?_
    refine ax_aload_n (q := 5) B d_M_finish_4 rfl rfl rfl ?_
    refine ax_getN (q := 8) B fl_M_9 rfl d_M_finish_5 (by assumption) (by first | assumption | rfl) rfl ?_
    refine ax_icmpN_lt (q := 13) (q2 := 11) B (by omega) (by omega) d_M_finish_8 rfl rfl (fun h8 => ?_) (fun h8 => ?_)
    · refine ax_aload_n (q := 14) B d_M_finish_13 rfl rfl rfl ?_
      refine ax_getN (q := 17) B fl_M_25 rfl d_M_finish_14 (by assumption) (by first | assumption | rfl) rfl ?_
      refine ax_if_ne (q := 24) (q2 := 20) B d_M_finish_17 rfl rfl (fun h17 => ?_) (fun h17 => ?_)
      · refine ax_iconst (v := nI 0) (q := 25) B d_M_finish_24 ci_0 rfl ?_
        refine ax_istore_n (q := 26) B d_M_finish_25 rfl (by decide) rfl ?_
        exact tail 0 rfl
      · exact absurd h17 (by decide)
    · omega
  · have e4 : h 1 4 = nI s := e4.trans (pk_m1 s)
    refine ax_aload_n (q := 1) B d_M_finish_0 rfl rfl rfl ?_
    refine ax_getN (q := 4) B fl_M_22 rfl d_M_finish_1 (by assumption) (by first | assumption | rfl) rfl ?_
    refine ax_aload_n (q := 5) B d_M_finish_4 rfl rfl rfl ?_
    refine ax_getN (q := 8) B fl_M_9 rfl d_M_finish_5 (by assumption) (by first | assumption | rfl) rfl ?_
    refine ax_icmpN_lt (q := 13) (q2 := 11) B (by omega) (by omega) d_M_finish_8 rfl rfl (fun h8 => ?_) (fun h8 => ?_)
    · refine ax_aload_n (q := 14) B d_M_finish_13 rfl rfl rfl ?_
      refine ax_getN (q := 17) B fl_M_25 rfl d_M_finish_14 (by assumption) (by first | assumption | rfl) rfl ?_
      refine ax_ifN_ne (q := 24) (q2 := 20) B (by omega) d_M_finish_17 rfl rfl (fun h17 => ?_) (fun h17 => ?_)
      · refine ax_iconst (v := nI 0) (q := 25) B d_M_finish_24 ci_0 rfl ?_
        refine ax_istore_n (q := 26) B d_M_finish_25 rfl (by decide) rfl ?_
        first | exact tail 0 (by rw [if_neg (by omega)]) | exact tail 1 (by rw [if_pos (by omega)])
      · refine ax_iconst (v := nI 1) (q := 21) B d_M_finish_20 ci_1 rfl ?_
        refine ax_goto (q := 25) B d_M_finish_21 rfl ?_
        refine ax_istore_n (q := 26) B d_M_finish_25 rfl (by decide) rfl ?_
        first | exact tail 0 (by rw [if_neg (by omega)]) | exact tail 1 (by rw [if_pos (by omega)])
    · omega
end
section
/- SessionTables.Node at place b, its list behind it -/
def nz (G : aw_G) (b : Nat) : Prop := aw_is G b 1 ∧ aw_rM b 0 = some (b + 1) ∧ aw_ar G (b + 1) 0 10
def hz_abs (h : aw_H) (b : Nat) : aw_H := aw_u (aw_u (aw_u (aw_u h b 1 (nI 0)) b 2 (nI 0)) b 3 (-1)) b 4 (nI 0)
def hz_new (h : aw_H) (b : Nat) (x : Int32) : aw_H := aw_u (aw_u (aw_u (aw_u h b 1 x) b 2 (nI 0)) b 3 (-1)) b 4 (nI 1)
theorem aw_rd {h : aw_H} {p k q j : Nat} {x y : Int32} (hq : ¬ (q = p ∧ j = k)) (e : h q j = y) : aw_u h p k x q j = y := by
  unfold aw_u
  split
  · rename_i hp
    subst hp
    unfold upd
    rw [if_neg (fun z => hq ⟨rfl, z⟩)]
    exact e
  · exact e
theorem aw_rs {h : aw_H} {p k : Nat} {x : Int32} : aw_u h p k x p k = x := by
  rw [aw_u_eq]
  exact if_pos rfl
theorem k_becomeAbsent {l : Launch} {G : aw_G} (hG : aw_ok G) {b : Nat} (hb : nz G b) (h : aw_H) : aw_P l G 0 Y_N_becomeAbsent [.inl (some b)] h (fun h' => h' = hz_abs h b) := by
  refine aw_met hG (by decide) (Nat.le_of_ble_eq_true rfl) (fun M hM B E => ?_)
  show aw_X M G 1 0 [some (.inl (some b))] [] h
  have ib := hb.1
  refine ax_aload_n (q := 1) B d_N_becomeAbsent_0 rfl rfl rfl ?_
  refine ax_iconst (v := nI 0) (q := 2) B d_N_becomeAbsent_1 ci_0 rfl ?_
  refine ax_putN (q := 5) B fp_N_15 d_N_becomeAbsent_2 (by assumption) rfl ?_
  refine ax_aload_n (q := 6) B d_N_becomeAbsent_5 rfl rfl rfl ?_
  refine ax_iconst (v := nI 0) (q := 7) B d_N_becomeAbsent_6 ci_0 rfl ?_
  refine ax_putN (q := 10) B fp_N_19 d_N_becomeAbsent_7 (by assumption) rfl ?_
  refine ax_aload_n (q := 11) B d_N_becomeAbsent_10 rfl rfl rfl ?_
  refine ax_iconst (v := (-1)) (q := 12) B d_N_becomeAbsent_11 ci_m1 rfl ?_
  refine ax_putN (q := 15) B fp_N_22 d_N_becomeAbsent_12 (by assumption) rfl ?_
  refine ax_aload_n (q := 16) B d_N_becomeAbsent_15 rfl rfl rfl ?_
  refine ax_iconst (v := nI 0) (q := 17) B d_N_becomeAbsent_16 ci_0 rfl ?_
  refine ax_putB (q := 20) B fp_N_25 (by first | exact bI_or _ | decide) d_N_becomeAbsent_17 (by assumption) rfl ?_
  refine ax_vret B E d_N_becomeAbsent_20 ?_
  exact ⟨rfl, rfl⟩
theorem k_becomeNew {l : Launch} {G : aw_G} (hG : aw_ok G) {b : Nat} (hb : nz G b) (h : aw_H) (x : Int32) : aw_P l G 0 Y_N_becomeNew [.inl (some b), .inr x] h (fun h' => h' = hz_new h b x) := by
  refine aw_met hG (by decide) (Nat.le_of_ble_eq_true rfl) (fun M hM B E => ?_)
  show aw_X M G 2 0 [some (.inl (some b)), some (.inr x)] [] h
  have ib := hb.1
  refine ax_aload_n (q := 1) B d_N_becomeNew_0 rfl rfl rfl ?_
  refine ax_iload_n (q := 2) B d_N_becomeNew_1 rfl rfl rfl ?_
  refine ax_putN (q := 5) B fp_N_15 d_N_becomeNew_2 (by assumption) rfl ?_
  refine ax_aload_n (q := 6) B d_N_becomeNew_5 rfl rfl rfl ?_
  refine ax_iconst (v := nI 0) (q := 7) B d_N_becomeNew_6 ci_0 rfl ?_
  refine ax_putN (q := 10) B fp_N_19 d_N_becomeNew_7 (by assumption) rfl ?_
  refine ax_aload_n (q := 11) B d_N_becomeNew_10 rfl rfl rfl ?_
  refine ax_iconst (v := (-1)) (q := 12) B d_N_becomeNew_11 ci_m1 rfl ?_
  refine ax_putN (q := 15) B fp_N_22 d_N_becomeNew_12 (by assumption) rfl ?_
  refine ax_aload_n (q := 16) B d_N_becomeNew_15 rfl rfl rfl ?_
  refine ax_iconst (v := nI 1) (q := 17) B d_N_becomeNew_16 ci_1 rfl ?_
  refine ax_putB (q := 20) B fp_N_25 (by first | exact bI_or _ | decide) d_N_becomeNew_17 (by assumption) rfl ?_
  refine ax_vret B E d_N_becomeNew_20 ?_
  exact ⟨rfl, rfl⟩
theorem k_ifUnchanged {l : Launch} {G : aw_G} (hG : aw_ok G) {b : Nat} (hb : nz G b) {h : aw_H} {c : Bool} (e4 : h b 4 = bI c) : aw_I l G 0 Y_N_ifUnchanged [.inl (some b)] h (.inr (nI (if c = true then 0 else 1))) := by
  refine aw_met hG (by decide) (Nat.le_of_ble_eq_true rfl) (fun M hM B E => ?_)
  show aw_X M G 1 0 [some (.inl (some b))] [] h
  have ib := hb.1
  refine ax_aload_n (q := 1) B d_N_ifUnchanged_0 rfl rfl rfl ?_
  refine ax_getN (q := 4) B fl_N_25 rfl d_N_ifUnchanged_1 (by assumption) (by first | assumption | rfl) rfl ?_
  refine ax_ifZ_eq (q := 11) (q2 := 7) B d_N_ifUnchanged_4 rfl rfl (fun h4 => ?_) (fun h4 => ?_)
  · refine ax_iconst (v := nI 1) (q := 12) B d_N_ifUnchanged_11 ci_1 rfl ?_
    refine ax_iret B E d_N_ifUnchanged_12 ?_
    exact ⟨by rw [h4]; rfl, rfl⟩
  · refine ax_iconst (v := nI 0) (q := 8) B d_N_ifUnchanged_7 ci_0 rfl ?_
    refine ax_goto (q := 12) B d_N_ifUnchanged_8 rfl ?_
    refine ax_iret B E d_N_ifUnchanged_12 ?_
    exact ⟨by rw [h4]; rfl, rfl⟩
theorem k_has {l : Launch} {G : aw_G} (hG : aw_ok G) {b : Nat} (hb : nz G b) {h : aw_H} {c : Nat} (e2 : h b 2 = nI c) (x : Int32) : aw_I l G 0 Y_N_has [.inl (some b), .inr x] h (.inr (bI (pz_small x c))) := by
  refine aw_met hG (by decide) (Nat.le_of_ble_eq_true rfl) (fun M hM B E => ?_)
  show aw_X M G 2 0 [some (.inl (some b)), some (.inr x)] [] h
  have ib := hb.1
  refine ax_iload_n (q := 1) B d_N_has_0 rfl rfl rfl ?_
  refine ax_if_lt (q := 16) (q2 := 4) B d_N_has_1 rfl rfl (fun h1 => ?_) (fun h1 => ?_)
  · refine ax_iconst (v := nI 0) (q := 17) B d_N_has_16 ci_0 rfl ?_
    refine ax_zret B E (by first | exact bI_or _ | decide) d_N_has_17 ?_
    first | exact ⟨by rw [pz_small_1 h1]; rfl, rfl⟩ | exact ⟨by rw [pz_small_2 h9]; rfl, rfl⟩ | exact ⟨by rw [pz_small_t h1 h9]; rfl, rfl⟩
  · refine ax_iload_n (q := 5) B d_N_has_4 rfl rfl rfl ?_
    refine ax_aload_n (q := 6) B d_N_has_5 rfl rfl rfl ?_
    refine ax_getN (q := 9) B fl_N_19 rfl d_N_has_6 (by assumption) (by first | assumption | rfl) rfl ?_
    refine ax_icmp_ge (q := 16) (q2 := 12) B d_N_has_9 rfl rfl (fun h9 => ?_) (fun h9 => ?_)
    · refine ax_iconst (v := nI 0) (q := 17) B d_N_has_16 ci_0 rfl ?_
      refine ax_zret B E (by first | exact bI_or _ | decide) d_N_has_17 ?_
      first | exact ⟨by rw [pz_small_1 h1]; rfl, rfl⟩ | exact ⟨by rw [pz_small_2 h9]; rfl, rfl⟩ | exact ⟨by rw [pz_small_t h1 h9]; rfl, rfl⟩
    · refine ax_iconst (v := nI 1) (q := 13) B d_N_has_12 ci_1 rfl ?_
      refine ax_goto (q := 17) B d_N_has_13 rfl ?_
      refine ax_zret B E (by first | exact bI_or _ | decide) d_N_has_17 ?_
      first | exact ⟨by rw [pz_small_1 h1]; rfl, rfl⟩ | exact ⟨by rw [pz_small_2 h9]; rfl, rfl⟩ | exact ⟨by rw [pz_small_t h1 h9]; rfl, rfl⟩
/-- a node's list: its first c places hold f -/
def lz (h : aw_H) (b c : Nat) (f : Nat → Nat) : Prop := h b 2 = nI c ∧ c ≤ 10 ∧ ∀ j, j < c → h (b + 1) j = nI (f j) ∧ f j < 65536
theorem pz_ix_mono {f : Nat → Nat} {x : Int32} {i j : Nat} (h : pz_ix f x j = some i) : ∀ {c}, j ≤ c → pz_ix f x c = some i := by
  intro c
  induction c with
  | zero =>
    intro hc
    have : j = 0 := by omega
    subst this
    exact h
  | succ c ih =>
    intro hc
    by_cases hj : j = c + 1
    · subst hj; exact h
    · have h2 := ih (by omega)
      show (match pz_ix f x c with | some i => some i | none => if nI (f c / 16) = x then some c else none) = _
      rw [h2]
theorem k_indexOfName {l : Launch} {G : aw_G} (hG : aw_ok G) {b : Nat} (hb : nz G b) {h : aw_H} {c : Nat} {f : Nat → Nat} (hL : lz h b c f) (x : Int32) : aw_I l G 0 Y_N_indexOfName [.inl (some b), .inr x] h (.inr (oI (pz_ix f x c))) := by
  refine aw_met hG (by decide) (Nat.le_of_ble_eq_true rfl) (fun M hM B E => ?_)
  show aw_X M G 3 0 [some (.inl (some b)), some (.inr x), none] [] h
  obtain ⟨ib, rb, ab⟩ := hb
  obtain ⟨e2, hc, hf⟩ := hL
  have loop : ∀ m j, j + m = c → pz_ix f x j = none → aw_X M G 3 2 [some (.inl (some b)), some (.inr x), some (.inr (nI j))] [] h := by
    intro m
    induction m with
    | zero =>
      intro j hj hn
      have hj : j = c := by omega
      subst hj
      refine ax_iload_n (q := 3) B d_N_indexOfName_2 rfl rfl rfl ?_
      refine ax_aload_n (q := 4) B d_N_indexOfName_3 rfl rfl rfl ?_
      refine ax_getN (q := 7) B fl_N_19 rfl d_N_indexOfName_4 (by assumption) (by first | assumption | rfl) rfl ?_
      refine ax_icmpN_ge (q := 30) (q2 := 10) B (by omega) (by omega) d_N_indexOfName_7 rfl rfl (fun h7 => ?_) (fun h7 => ?_)
      · refine ax_iconst (v := (-1)) (q := 31) B d_N_indexOfName_30 ci_m1 rfl ?_
        refine ax_iret B E d_N_indexOfName_31 ?_
        exact ⟨by rw [hn]; rfl, rfl⟩
      · omega
    | succ m ih =>
      intro j hj hn
      obtain ⟨ej, hfj⟩ := hf j (by omega)
      have hx : pz_ix f x (j + 1) = if nI (f j / 16) = x then some j else none := by
        show (match pz_ix f x j with | some i => some i | none => if nI (f j / 16) = x then some j else none) = _
        rw [hn]
      refine ax_iload_n (q := 3) B d_N_indexOfName_2 rfl rfl rfl ?_
      refine ax_aload_n (q := 4) B d_N_indexOfName_3 rfl rfl rfl ?_
      refine ax_getN (q := 7) B fl_N_19 rfl d_N_indexOfName_4 (by assumption) (by first | assumption | rfl) rfl ?_
      refine ax_icmpN_ge (q := 30) (q2 := 10) B (by omega) (by omega) d_N_indexOfName_7 rfl rfl (fun h7 => ?_) (fun h7 => ?_)
      · omega
      · refine ax_aload_n (q := 11) B d_N_indexOfName_10 rfl rfl rfl ?_
        refine ax_getP (q := 14) B fl_N_9 rfl d_N_indexOfName_11 (by assumption) (by assumption) rfl ?_
        refine ax_iload_n (q := 15) B d_N_indexOfName_14 rfl rfl rfl ?_
        refine ax_ialdN (q := 16) B d_N_indexOfName_15 (by assumption) rfl (by omega) (by omega) (by first | assumption | rfl) rfl ?_
        refine ax_iconst (v := nI 4) (q := 17) B d_N_indexOfName_16 ci_4 rfl ?_
        refine ax_ishrN (q := 18) B 4 (by omega) (by decide) d_N_indexOfName_17 rfl ?_
        refine ax_iload_n (q := 19) B d_N_indexOfName_18 rfl rfl rfl ?_
        refine ax_icmp_ne (q := 24) (q2 := 22) B d_N_indexOfName_19 rfl rfl (fun h19 => ?_) (fun h19 => ?_)
        · refine ax_iincN (j := 1) (q := 27) B d_N_indexOfName_24 rfl ii_1 (by decide) rfl ?_
          refine ax_goto (q := 2) B d_N_indexOfName_27 rfl ?_
          exact ih (j + 1) (by omega) (by rw [hx, if_neg h19])
        · refine ax_iload_n (q := 23) B d_N_indexOfName_22 rfl rfl rfl ?_
          refine ax_iret B E d_N_indexOfName_23 ?_
          exact ⟨by rw [pz_ix_mono (hx.trans (if_pos h19)) (by omega)]; rfl, rfl⟩
  refine ax_iconst (v := nI 0) (q := 1) B d_N_indexOfName_0 ci_0 rfl ?_
  refine ax_istore_n (q := 2) B d_N_indexOfName_1 rfl (by decide) rfl ?_
  exact loop c 0 (by omega) rfl
end
section
theorem mn_10 {c : Nat} (hc : c ≤ 10) : (if nI c < nI 10 then nI c else nI 10) = nI c := by
  split
  · rfl
  · rename_i h
    have : ¬ c < 10 := fun z => h (nI_lt z (by omega))
    rw [show c = 10 by omega]
theorem mx_0 {c : Nat} (hc : c < 2 ^ 31) : (if nI 0 < nI c then nI c else nI 0) = nI c := by
  split
  · rfl
  · rename_i h
    have : ¬ 0 < c := fun z => h (nI_lt z hc)
    rw [show c = 0 by omega]
theorem k_nodeOfItem {l : Launch} {G : aw_G} (hG : aw_ok G) {b : Nat} (hb : nz G b) {h : aw_H} {c : Nat} {f : Nat → Nat} (hL : lz h b c f) {o : Option Nat} (ho : ∀ j, o = some j → j < c) : aw_I l G 1 Y_N_nodeOfItem [.inl (some b), .inr (oI o)] h (.inr (oI (o.map (fun j => f j % 16)))) := by
  refine aw_met hG (by decide) (Nat.le_of_ble_eq_true rfl) (fun M hM B E => ?_)
  show aw_X M G 2 0 [some (.inl (some b)), some (.inr (oI o))] [] h
  have hb' := hb
  obtain ⟨ib, rb, ab⟩ := hb
  obtain ⟨e2, hc, hf⟩ := hL
  cases o with
  | none =>
    have hs : pz_small (-1) c = false := pz_small_1 (by decide)
    refine ax_aload_n (q := 1) B d_N_nodeOfItem_0 rfl rfl rfl ?_
    refine ax_iload_n (q := 2) B d_N_nodeOfItem_1 rfl rfl rfl ?_
    refine ax_qV1 (q := 5) B cv_N_43 d_N_nodeOfItem_2 (by assumption) (Nat.le_of_ble_eq_true rfl) (by decide) (k_has hG hb' e2 _) rfl ?_
    refine ax_ifZ_eq (q := 20) (q2 := 8) B d_N_nodeOfItem_5 rfl rfl (fun h5 => ?_) (fun h5 => ?_)
    · refine ax_iconst (v := (-1)) (q := 21) B d_N_nodeOfItem_20 ci_m1 rfl ?_
      refine ax_iret B E d_N_nodeOfItem_21 ?_
      exact ⟨rfl, rfl⟩
    · have h5 : pz_small (-1) c = true := h5
      rw [hs] at h5
      cases h5
  | some j =>
    have hj := ho j rfl
    obtain ⟨ej, hfj⟩ := hf j hj
    have hs : pz_small (nI j) c = true := pz_small_N (by omega) hj
    show aw_X M G 2 0 [some (.inl (some b)), some (.inr (nI j))] [] h
    refine ax_aload_n (q := 1) B d_N_nodeOfItem_0 rfl rfl rfl ?_
    refine ax_iload_n (q := 2) B d_N_nodeOfItem_1 rfl rfl rfl ?_
    refine ax_qV1 (q := 5) B cv_N_43 d_N_nodeOfItem_2 (by assumption) (Nat.le_of_ble_eq_true rfl) (by decide) (k_has hG hb' e2 _) rfl ?_
    refine ax_ifZ_eq (q := 20) (q2 := 8) B d_N_nodeOfItem_5 rfl rfl (fun h5 => ?_) (fun h5 => ?_)
    · rw [hs] at h5
      cases h5
    · refine ax_aload_n (q := 9) B d_N_nodeOfItem_8 rfl rfl rfl ?_
      refine ax_getP (q := 12) B fl_N_9 rfl d_N_nodeOfItem_9 (by assumption) (by assumption) rfl ?_
      refine ax_iload_n (q := 13) B d_N_nodeOfItem_12 rfl rfl rfl ?_
      refine ax_ialdN (q := 14) B d_N_nodeOfItem_13 (by assumption) rfl (by omega) (by omega) (by first | assumption | rfl) rfl ?_
      refine ax_bipush (v := nI 15) (q := 16) B d_N_nodeOfItem_14 cb_15 rfl ?_
      refine ax_iandN (q := 17) B 4 (by omega) (by decide) d_N_nodeOfItem_16 rfl ?_
      refine ax_goto (q := 21) B d_N_nodeOfItem_17 rfl ?_
      refine ax_iret B E d_N_nodeOfItem_21 ?_
      exact ⟨rfl, rfl⟩
theorem pz_hd_mono {f : Nat → Nat} {x j : Nat} (h : pz_hd f x j = true) : ∀ {c}, j ≤ c → pz_hd f x c = true := by
  intro c
  induction c with
  | zero =>
    intro hc
    have : j = 0 := by omega
    subst this
    exact h
  | succ c ih =>
    intro hc
    by_cases hj : j = c + 1
    · subst hj; exact h
    · show (pz_hd f x c || (f c % 16 == x)) = true
      rw [ih (by omega)]
      rfl
theorem k_holds {l : Launch} {G : aw_G} (hG : aw_ok G) {b : Nat} (hb : nz G b) {h : aw_H} {c : Nat} {f : Nat → Nat} (hL : lz h b c f) {x : Nat} (hx : x < 2 ^ 31) : aw_I l G 0 Y_N_holds [.inl (some b), .inr (nI x)] h (.inr (bI (pz_hd f x c))) := by
  refine aw_met hG (by decide) (Nat.le_of_ble_eq_true rfl) (fun M hM B E => ?_)
  show aw_X M G 3 0 [some (.inl (some b)), some (.inr (nI x)), none] [] h
  obtain ⟨ib, rb, ab⟩ := hb
  obtain ⟨e2, hc, hf⟩ := hL
  have loop : ∀ m j, j + m = c → pz_hd f x j = false → aw_X M G 3 2 [some (.inl (some b)), some (.inr (nI x)), some (.inr (nI j))] [] h := by
    intro m
    induction m with
    | zero =>
      intro j hj hn
      have hj : j = c := by omega
      subst hj
      refine ax_iload_n (q := 3) B d_N_holds_2 rfl rfl rfl ?_
      refine ax_aload_n (q := 4) B d_N_holds_3 rfl rfl rfl ?_
      refine ax_getN (q := 7) B fl_N_19 rfl d_N_holds_4 (by assumption) (by first | assumption | rfl) rfl ?_
      refine ax_icmpN_ge (q := 31) (q2 := 10) B (by omega) (by omega) d_N_holds_7 rfl rfl (fun h7 => ?_) (fun h7 => ?_)
      · refine ax_iconst (v := nI 0) (q := 32) B d_N_holds_31 ci_0 rfl ?_
        refine ax_zret B E (by first | exact bI_or _ | decide) d_N_holds_32 ?_
        exact ⟨by rw [hn]; rfl, rfl⟩
      · omega
    | succ m ih =>
      intro j hj hn
      obtain ⟨ej, hfj⟩ := hf j (by omega)
      have hx2 : pz_hd f x (j + 1) = (f j % 16 == x) := by
        show (pz_hd f x j || (f j % 16 == x)) = _
        rw [hn, Bool.false_or]
      have hm : f j % 2 ^ 4 = f j % 16 := rfl
      refine ax_iload_n (q := 3) B d_N_holds_2 rfl rfl rfl ?_
      refine ax_aload_n (q := 4) B d_N_holds_3 rfl rfl rfl ?_
      refine ax_getN (q := 7) B fl_N_19 rfl d_N_holds_4 (by assumption) (by first | assumption | rfl) rfl ?_
      refine ax_icmpN_ge (q := 31) (q2 := 10) B (by omega) (by omega) d_N_holds_7 rfl rfl (fun h7 => ?_) (fun h7 => ?_)
      · omega
      · refine ax_aload_n (q := 11) B d_N_holds_10 rfl rfl rfl ?_
        refine ax_getP (q := 14) B fl_N_9 rfl d_N_holds_11 (by assumption) (by assumption) rfl ?_
        refine ax_iload_n (q := 15) B d_N_holds_14 rfl rfl rfl ?_
        refine ax_ialdN (q := 16) B d_N_holds_15 (by assumption) rfl (by omega) (by omega) (by first | assumption | rfl) rfl ?_
        refine ax_bipush (v := nI 15) (q := 18) B d_N_holds_16 cb_15 rfl ?_
        refine ax_iandN (q := 19) B 4 (by omega) (by decide) d_N_holds_18 rfl ?_
        refine ax_iload_n (q := 20) B d_N_holds_19 rfl rfl rfl ?_
        refine ax_icmpN_ne (q := 25) (q2 := 23) B (by omega) (by omega) d_N_holds_20 rfl rfl (fun h20 => ?_) (fun h20 => ?_)
        · refine ax_iincN (j := 1) (q := 28) B d_N_holds_25 rfl ii_1 (by decide) rfl ?_
          refine ax_goto (q := 2) B d_N_holds_28 rfl ?_
          exact ih (j + 1) (by omega) (by rw [hx2]; exact pz_beq_ne (fun z => h20 z))
        · refine ax_iconst (v := nI 1) (q := 24) B d_N_holds_23 ci_1 rfl ?_
          refine ax_zret B E (by first | exact bI_or _ | decide) d_N_holds_24 ?_
          exact ⟨by rw [pz_hd_mono (j := j + 1) (by rw [hx2]; exact beq_iff_eq.mpr h20) (by omega)]; rfl, rfl⟩
  refine ax_iconst (v := nI 0) (q := 1) B d_N_holds_0 ci_0 rfl ?_
  refine ax_istore_n (q := 2) B d_N_holds_1 rfl (by decide) rfl ?_
  exact loop c 0 (by omega) rfl
theorem k_addItem {l : Launch} {G : aw_G} (hG : aw_ok G) {b : Nat} (hb : nz G b) {h : aw_H} {c : Nat} (e2 : h b 2 = nI c) (hc : c < 10) (x m : Nat) : aw_P l G 0 Y_N_addItem [.inl (some b), .inr (nI x), .inr (nI m)] h (fun h' => h' = aw_u (aw_u (aw_u h (b + 1) c (nI (x * 16 + m))) b 2 (nI (c + 1))) b 4 (nI 1)) := by
  refine aw_met hG (by decide) (Nat.le_of_ble_eq_true rfl) (fun M hM B E => ?_)
  show aw_X M G 3 0 [some (.inl (some b)), some (.inr (nI x)), some (.inr (nI m))] [] h
  obtain ⟨ib, rb, ab⟩ := hb
  have e2' : aw_u h (b + 1) c (nI (x * 16 + m)) b 2 = nI c := aw_rd (by omega) e2
  refine ax_aload_n (q := 1) B d_N_addItem_0 rfl rfl rfl ?_
  refine ax_getN (q := 4) B fl_N_19 rfl d_N_addItem_1 (by assumption) (by first | assumption | rfl) rfl ?_
  refine ax_bipush (v := nI 10) (q := 6) B d_N_addItem_4 cb_10 rfl ?_
  refine ax_icmpN_ge (q := 34) (q2 := 9) B (by omega) (by omega) d_N_addItem_6 rfl rfl (fun h6 => ?_) (fun h6 => ?_)
  · refine ax_aload_n (q := 35) B d_N_addItem_34 rfl rfl rfl ?_
    refine ax_iconst (v := nI 1) (q := 36) B d_N_addItem_35 ci_1 rfl ?_
    refine ax_putB (q := 39) B fp_N_25 (by first | exact bI_or _ | decide) d_N_addItem_36 (by assumption) rfl ?_
    refine ax_vret B E d_N_addItem_39 ?_
    first | exact ⟨rfl, rfl⟩ | (exfalso; omega)
  · refine ax_aload_n (q := 10) B d_N_addItem_9 rfl rfl rfl ?_
    refine ax_getP (q := 13) B fl_N_9 rfl d_N_addItem_10 (by assumption) (by assumption) rfl ?_
    refine ax_aload_n (q := 14) B d_N_addItem_13 rfl rfl rfl ?_
    refine ax_getN (q := 17) B fl_N_19 rfl d_N_addItem_14 (by assumption) (by first | assumption | rfl) rfl ?_
    refine ax_iload_n (q := 18) B d_N_addItem_17 rfl rfl rfl ?_
    refine ax_bipush (v := nI 16) (q := 20) B d_N_addItem_18 cb_16 rfl ?_
    first | refine ax_imulN (q := 21) B d_N_addItem_20 rfl ?_ | refine ax_imul (q := 21) B d_N_addItem_20 rfl ?_
    refine ax_iload_n (q := 22) B d_N_addItem_21 rfl rfl rfl ?_
    first | refine ax_iaddN (q := 23) B d_N_addItem_22 rfl ?_ | refine ax_iadd (q := 23) B d_N_addItem_22 rfl ?_
    refine ax_iastN (q := 24) B d_N_addItem_23 (by assumption) rfl (by omega) (by omega) rfl ?_
    refine ax_aload_n (q := 25) B d_N_addItem_24 rfl rfl rfl ?_
    refine ax_dup (q := 26) B d_N_addItem_25 rfl ?_
    refine ax_getN (x := nI c) (q := 29) B fl_N_19 rfl d_N_addItem_26 (by assumption) e2' rfl ?_
    refine ax_iconst (v := nI 1) (q := 30) B d_N_addItem_29 ci_1 rfl ?_
    first | refine ax_iaddN (q := 31) B d_N_addItem_30 rfl ?_ | refine ax_iadd (q := 31) B d_N_addItem_30 rfl ?_
    refine ax_putN (q := 34) B fp_N_19 d_N_addItem_31 (by assumption) rfl ?_
    refine ax_aload_n (q := 35) B d_N_addItem_34 rfl rfl rfl ?_
    refine ax_iconst (v := nI 1) (q := 36) B d_N_addItem_35 ci_1 rfl ?_
    refine ax_putB (q := 39) B fp_N_25 (by first | exact bI_or _ | decide) d_N_addItem_36 (by assumption) rfl ?_
    refine ax_vret B E d_N_addItem_39 ?_
    first | exact ⟨rfl, rfl⟩ | (exfalso; omega)
/-- behind dropItem(i): what holds of the node's cells -/
theorem k_dropItem {l : Launch} {G : aw_G} (hG : aw_ok G) {b : Nat} (hb : nz G b) {h : aw_H} {c : Nat} (e2 : h b 2 = nI c) (hc : c ≤ 10) {i : Nat} (hi : i < c) : aw_P l G 1 Y_N_dropItem [.inl (some b), .inr (nI i)] h (fun h' => h' b 1 = h b 1 ∧ h' b 2 = nI (c - 1) ∧ h' b 3 = h b 3 ∧ h' b 4 = nI 1 ∧ (∀ s, s < c - 1 → h' (b + 1) s = if s < i then h (b + 1) s else h (b + 1) (s + 1)) ∧ ∀ q, q ≠ b → q ≠ b + 1 → h' q = h q) := by
  refine aw_met hG (by decide) (Nat.le_of_ble_eq_true rfl) (fun M hM B E => ?_)
  show aw_X M G 3 0 [some (.inl (some b)), some (.inr (nI i)), none] [] h
  have hb' := hb
  obtain ⟨ib, rb, ab⟩ := hb
  have hs : pz_small (nI i) c = true := pz_small_N (by omega) hi
  have loop : ∀ m j (g : aw_H), j + m = c - 1 → i ≤ j → g b 1 = h b 1 → g b 2 = nI (c - 1) → g b 3 = h b 3 → (∀ s, s < j → g (b + 1) s = if s < i then h (b + 1) s else h (b + 1) (s + 1)) → (∀ s, j ≤ s → g (b + 1) s = h (b + 1) s) → (∀ q, q ≠ b → q ≠ b + 1 → g q = h q) → aw_X M G 3 20 [some (.inl (some b)), some (.inr (nI i)), some (.inr (nI j))] [] g := by
    intro m
    induction m with
    | zero =>
      intro j g hj hij g1 g2 g3 g4 g5 g6
      have hj : j = c - 1 := by omega
      subst hj
      refine ax_iload_n (q := 21) B d_N_dropItem_20 rfl rfl rfl ?_
      refine ax_aload_n (q := 22) B d_N_dropItem_21 rfl rfl rfl ?_
      refine ax_getN (q := 25) B fl_N_19 rfl d_N_dropItem_22 (by assumption) (by first | assumption | rfl) rfl ?_
      refine ax_icmpN_ge (q := 48) (q2 := 28) B (by omega) (by omega) d_N_dropItem_25 rfl rfl (fun h25 => ?_) (fun h25 => ?_)
      · refine ax_aload_n (q := 49) B d_N_dropItem_48 rfl rfl rfl ?_
        refine ax_iconst (v := nI 1) (q := 50) B d_N_dropItem_49 ci_1 rfl ?_
        refine ax_putB (q := 53) B fp_N_25 (by first | exact bI_or _ | decide) d_N_dropItem_50 (by assumption) rfl ?_
        refine ax_vret B E d_N_dropItem_53 ?_
        exact ⟨rfl, aw_rd (by omega) g1, aw_rd (by omega) g2, aw_rd (by omega) g3, aw_rs, fun s hs => aw_rd (by omega) (g4 s hs), fun q q1 q2 => (aw_u_ne q1).trans (g6 q q1 q2)⟩
      · omega
    | succ m ih =>
      intro j g hj hij g1 g2 g3 g4 g5 g6
      have gj : g (b + 1) (j + 1) = h (b + 1) (j + 1) := g5 (j + 1) (by omega)
      refine ax_iload_n (q := 21) B d_N_dropItem_20 rfl rfl rfl ?_
      refine ax_aload_n (q := 22) B d_N_dropItem_21 rfl rfl rfl ?_
      refine ax_getN (q := 25) B fl_N_19 rfl d_N_dropItem_22 (by assumption) (by first | assumption | rfl) rfl ?_
      refine ax_icmpN_ge (q := 48) (q2 := 28) B (by omega) (by omega) d_N_dropItem_25 rfl rfl (fun h25 => ?_) (fun h25 => ?_)
      · omega
      · refine ax_aload_n (q := 29) B d_N_dropItem_28 rfl rfl rfl ?_
        refine ax_getP (q := 32) B fl_N_9 rfl d_N_dropItem_29 (by assumption) (by assumption) rfl ?_
        refine ax_iload_n (q := 33) B d_N_dropItem_32 rfl rfl rfl ?_
        refine ax_aload_n (q := 34) B d_N_dropItem_33 rfl rfl rfl ?_
        refine ax_getP (q := 37) B fl_N_9 rfl d_N_dropItem_34 (by assumption) (by assumption) rfl ?_
        refine ax_iload_n (q := 38) B d_N_dropItem_37 rfl rfl rfl ?_
        refine ax_iconst (v := nI 1) (q := 39) B d_N_dropItem_38 ci_1 rfl ?_
        first | refine ax_iaddN (q := 40) B d_N_dropItem_39 rfl ?_ | refine ax_iadd (q := 40) B d_N_dropItem_39 rfl ?_
        refine ax_ialdN (q := 41) B d_N_dropItem_40 (by assumption) rfl (by omega) (by omega) (by first | assumption | rfl) rfl ?_
        refine ax_iastN (q := 42) B d_N_dropItem_41 (by assumption) rfl (by omega) (by omega) rfl ?_
        refine ax_iincN (j := 1) (q := 45) B d_N_dropItem_42 rfl ii_1 (by decide) rfl ?_
        refine ax_goto (q := 20) B d_N_dropItem_45 rfl ?_
        refine ih (j + 1) _ (by omega) (by omega) (aw_rd (by omega) g1) (aw_rd (by omega) g2) (aw_rd (by omega) g3) (fun s hs => ?_) (fun s hs => aw_rd (by omega) (g5 s (by omega))) (fun q q1 q2 => (aw_u_ne q2).trans (g6 q q1 q2))
        by_cases hsj : s = j
        · subst hsj; rw [if_neg (by omega)]; exact aw_rs
        · exact aw_rd (by omega) (g4 s (by omega))
  refine ax_aload_n (q := 1) B d_N_dropItem_0 rfl rfl rfl ?_
  refine ax_iload_n (q := 2) B d_N_dropItem_1 rfl rfl rfl ?_
  refine ax_qV1 (q := 5) B cv_N_43 d_N_dropItem_2 (by assumption) (Nat.le_of_ble_eq_true rfl) (by decide) (k_has hG hb' e2 _) rfl ?_
  refine ax_ifZ_eq (q := 48) (q2 := 8) B d_N_dropItem_5 rfl rfl (fun h5 => ?_) (fun h5 => ?_)
  · rw [hs] at h5
    cases h5
  · refine ax_aload_n (q := 9) B d_N_dropItem_8 rfl rfl rfl ?_
    refine ax_dup (q := 10) B d_N_dropItem_9 rfl ?_
    refine ax_getN (q := 13) B fl_N_19 rfl d_N_dropItem_10 (by assumption) (by first | assumption | rfl) rfl ?_
    refine ax_iconst (v := nI 1) (q := 14) B d_N_dropItem_13 ci_1 rfl ?_
    refine ax_isubN (q := 15) B (by omega) d_N_dropItem_14 rfl ?_
    refine ax_putN (q := 18) B fp_N_19 d_N_dropItem_15 (by assumption) rfl ?_
    refine ax_iload_n (q := 19) B d_N_dropItem_18 rfl rfl rfl ?_
    refine ax_istore_n (q := 20) B d_N_dropItem_19 rfl (by decide) rfl ?_
    exact loop (c - 1 - i) i _ (by omega) (Nat.le_refl _) (aw_rd (by omega) rfl) aw_rs (aw_rd (by omega) rfl) (fun s hs => by rw [if_pos hs]; exact aw_rd (by omega) rfl) (fun s hs => aw_rd (by omega) rfl) (fun q q1 q2 => aw_u_ne q1)
theorem k_setBlock {l : Launch} {G : aw_G} (hG : aw_ok G) {b : Nat} (hb : nz G b) {h : aw_H} {c : Nat} (e2 : h b 2 = nI c) (hc : c ≤ 10) {j : Nat} (hj : j < 10) (hjc : j ≤ c) (x : Int32) : aw_P l G 1 Y_N_setBlock [.inl (some b), .inr (nI j), .inr x] h (fun h' => h' = aw_u (aw_u (aw_u h (b + 1) j x) b 2 (nI (if j = c then j + 1 else c))) b 4 (nI 1)) := by
  refine aw_met hG (by decide) (Nat.le_of_ble_eq_true rfl) (fun M hM B E => ?_)
  show aw_X M G 3 0 [some (.inl (some b)), some (.inr (nI j)), some (.inr x)] [] h
  obtain ⟨ib, rb, ab⟩ := hb
  have e2' : aw_u h (b + 1) j x b 2 = nI c := aw_rd (by omega) e2
  have hm : (if nI c < nI (j + 1) then nI (j + 1) else nI c) = nI (if j = c then j + 1 else c) := by
    by_cases h1 : j = c
    · rw [if_pos h1, if_pos (nI_lt (by omega) (by omega))]
    · rw [if_neg h1, if_neg (nI_nlt (by omega) (by omega))]
  refine ax_iload_n (q := 1) B d_N_setBlock_0 rfl rfl rfl ?_
  refine ax_ifN_lt (q := 31) (q2 := 4) B (by omega) d_N_setBlock_1 rfl rfl ?_
  refine ax_iload_n (q := 5) B d_N_setBlock_4 rfl rfl rfl ?_
  refine ax_bipush (v := nI 10) (q := 7) B d_N_setBlock_5 cb_10 rfl ?_
  refine ax_icmpN_ge (q := 31) (q2 := 10) B (by omega) (by omega) d_N_setBlock_7 rfl rfl (fun h7 => ?_) (fun h7 => ?_)
  · first | (exfalso; omega) | skip
  · refine ax_aload_n (q := 11) B d_N_setBlock_10 rfl rfl rfl ?_
    refine ax_getP (q := 14) B fl_N_9 rfl d_N_setBlock_11 (by assumption) (by assumption) rfl ?_
    refine ax_iload_n (q := 15) B d_N_setBlock_14 rfl rfl rfl ?_
    refine ax_iload_n (q := 16) B d_N_setBlock_15 rfl rfl rfl ?_
    refine ax_iastN (q := 17) B d_N_setBlock_16 (by assumption) rfl (by omega) (by omega) rfl ?_
    refine ax_aload_n (q := 18) B d_N_setBlock_17 rfl rfl rfl ?_
    refine ax_aload_n (q := 19) B d_N_setBlock_18 rfl rfl rfl ?_
    refine ax_getN (x := nI c) (q := 22) B fl_N_19 rfl d_N_setBlock_19 (by assumption) e2' rfl ?_
    refine ax_iload_n (q := 23) B d_N_setBlock_22 rfl rfl rfl ?_
    refine ax_iconst (v := nI 1) (q := 24) B d_N_setBlock_23 ci_1 rfl ?_
    first | refine ax_iaddN (q := 25) B d_N_setBlock_24 rfl ?_ | refine ax_iadd (q := 25) B d_N_setBlock_24 rfl ?_
    refine ax_max (q := 28) B ml_N_40 ms_max mi_math mc_max d_N_setBlock_25 (Nat.le_of_ble_eq_true rfl) (by decide) rfl ?_
    refine ax_top hm ?_
    refine ax_putN (q := 31) B fp_N_19 d_N_setBlock_28 (by assumption) rfl ?_
    refine ax_aload_n (q := 32) B d_N_setBlock_31 rfl rfl rfl ?_
    refine ax_iconst (v := nI 1) (q := 33) B d_N_setBlock_32 ci_1 rfl ?_
    refine ax_putB (q := 36) B fp_N_25 (by decide) d_N_setBlock_33 (by assumption) rfl ?_
    exact ax_vret B E d_N_setBlock_36 ⟨rfl, rfl⟩
theorem k_nbecome {l : Launch} {G : aw_G} (hG : gz G) {b : Nat} (hb : nz G b) (hb4 : 4 ≤ b) {h : aw_H} (e0 : h 1 0 = nI (aw_n G)) {p c : Nat} {ty : Int32} {g : Nat → Nat} (hp : p < aw_n G) (w4 : h 2 (16 * p + 4) = ty) (w5 : h 2 (16 * p + 5) = nI c) (hc : c ≤ 10) (wj : ∀ j, j < c → h 2 (16 * p + (6 + j)) = nI (g j)) :
    aw_P l G 2 Y_N_become [.inl (some b), .inl (some 1), .inr (nI p)] h (fun h' => h' b 1 = ty ∧ h' b 2 = nI c ∧ h' b 3 = nI p ∧ h' b 4 = nI 0 ∧ (∀ j, j < c → h' (b + 1) j = nI (g j)) ∧ ∀ q, q ≠ b → q ≠ b + 1 → h' q = h q) := by
  refine aw_met hG.1 (by decide) (Nat.le_of_ble_eq_true rfl) (fun M hM B E => ?_)
  show aw_X M G 4 0 [some (.inl (some b)), some (.inl (some 1)), some (.inr (nI p)), none] [] h
  have i1 := hG.is1
  obtain ⟨ib, rb, ab⟩ := hb
  have loop : ∀ m j (f : aw_H), j + m = c → f b 1 = ty → f b 2 = nI c → (∀ s, s < j → f (b + 1) s = nI (g s)) → (∀ q, q ≠ b → q ≠ b + 1 → f q = h q) → aw_X M G 4 31 [some (.inl (some b)), some (.inl (some 1)), some (.inr (nI p)), some (.inr (nI j))] [] f := by
    intro m
    induction m with
    | zero =>
      intro j f hj g1 g2 g4 g6
      have hj : j = c := by omega
      subst hj
      refine ax_iload_n (q := 32) B d_N_become_31 rfl rfl rfl ?_
      refine ax_aload_n (q := 33) B d_N_become_32 rfl rfl rfl ?_
      refine ax_getN (q := 36) B fl_N_19 rfl d_N_become_33 (by assumption) (by first | assumption | rfl) rfl ?_
      refine ax_icmpN_ge (q := 60) (q2 := 39) B (by omega) (by omega) d_N_become_36 rfl rfl (fun h36 => ?_) (fun h36 => ?_)
      · refine ax_aload_n (q := 61) B d_N_become_60 rfl rfl rfl ?_
        refine ax_iload_n (q := 62) B d_N_become_61 rfl rfl rfl ?_
        refine ax_putN (q := 65) B fp_N_22 d_N_become_62 (by assumption) rfl ?_
        refine ax_aload_n (q := 66) B d_N_become_65 rfl rfl rfl ?_
        refine ax_iconst (v := nI 0) (q := 67) B d_N_become_66 ci_0 rfl ?_
        refine ax_putB (q := 70) B fp_N_25 (by first | exact bI_or _ | decide) d_N_become_67 (by assumption) rfl ?_
        refine ax_vret B E d_N_become_70 ?_
        exact ⟨rfl, aw_rd (by omega) (aw_rd (by omega) g1), aw_rd (by omega) (aw_rd (by omega) g2), aw_rd (by omega) aw_rs, aw_rs, fun s hs => aw_rd (by omega) (aw_rd (by omega) (g4 s hs)), fun q q1 q2 => (aw_u_ne q1).trans ((aw_u_ne q1).trans (g6 q q1 q2))⟩
      · omega
    | succ m ih =>
      intro j f hj g1 g2 g4 g6
      have f0 : f 1 0 = nI (aw_n G) := by rw [g6 1 (by omega) (by omega)]; exact e0
      have fw : f 2 (16 * p + (6 + j)) = nI (g j) := by rw [g6 2 (by omega) (by omega)]; exact wj j (by omega)
      refine ax_iload_n (q := 32) B d_N_become_31 rfl rfl rfl ?_
      refine ax_aload_n (q := 33) B d_N_become_32 rfl rfl rfl ?_
      refine ax_getN (q := 36) B fl_N_19 rfl d_N_become_33 (by assumption) (by first | assumption | rfl) rfl ?_
      refine ax_icmpN_ge (q := 60) (q2 := 39) B (by omega) (by omega) d_N_become_36 rfl rfl (fun h36 => ?_) (fun h36 => ?_)
      · omega
      · refine ax_aload_n (q := 40) B d_N_become_39 rfl rfl rfl ?_
        refine ax_getP (q := 43) B fl_N_9 rfl d_N_become_40 (by assumption) (by assumption) rfl ?_
        refine ax_iload_n (q := 44) B d_N_become_43 rfl rfl rfl ?_
        refine ax_aload_n (q := 45) B d_N_become_44 rfl rfl rfl ?_
        refine ax_iload_n (q := 46) B d_N_become_45 rfl rfl rfl ?_
        refine ax_bipush (v := nI 6) (q := 48) B d_N_become_46 cb_6 rfl ?_
        refine ax_iload_n (q := 49) B d_N_become_48 rfl rfl rfl ?_
        first | refine ax_iaddN (q := 50) B d_N_become_49 rfl ?_ | refine ax_iadd (q := 50) B d_N_become_49 rfl ?_
        refine ax_qV2 (q := 53) B cv_N_29 d_N_become_50 (by assumption) (Nat.le_of_ble_eq_true rfl) (by decide) (k_wordAt hG f0 hp (by omega)) rfl ?_
        refine ax_top fw ?_
        refine ax_iastN (q := 54) B d_N_become_53 (by assumption) rfl (by omega) (by omega) rfl ?_
        refine ax_iincN (j := 1) (q := 57) B d_N_become_54 rfl ii_1 (by decide) rfl ?_
        refine ax_goto (q := 31) B d_N_become_57 rfl ?_
        refine ih (j + 1) _ (by omega) (aw_rd (by omega) g1) (aw_rd (by omega) g2) (fun s hs => ?_) (fun q q1 q2 => (aw_u_ne q2).trans (g6 q q1 q2))
        by_cases hsj : s = j
        · subst hsj; exact aw_rs
        · exact aw_rd (by omega) (g4 s (by omega))
  refine ax_aload_n (q := 1) B d_N_become_0 rfl rfl rfl ?_
  refine ax_aload_n (q := 2) B d_N_become_1 rfl rfl rfl ?_
  refine ax_iload_n (q := 3) B d_N_become_2 rfl rfl rfl ?_
  refine ax_iconst (v := nI 4) (q := 4) B d_N_become_3 ci_4 rfl ?_
  refine ax_qV2 (q := 7) B cv_N_29 d_N_become_4 (by assumption) (Nat.le_of_ble_eq_true rfl) (by decide) (k_wordAt hG e0 hp (by omega)) rfl ?_
  refine ax_top w4 ?_
  refine ax_putN (q := 10) B fp_N_15 d_N_become_7 (by assumption) rfl ?_
  obtain ⟨h1, hh1⟩ : ∃ h1, h1 = aw_u h b 1 ty := ⟨_, rfl⟩
  rw [← hh1]
  have f0 : h1 1 0 = nI (aw_n G) := by rw [hh1]; exact aw_rd (by omega) e0
  have f5 : h1 2 (16 * p + 5) = nI c := by rw [hh1]; exact aw_rd (by omega) w5
  have f1 : h1 b 1 = ty := by rw [hh1]; exact aw_rs
  have f6 : ∀ q, q ≠ b → q ≠ b + 1 → h1 q = h q := fun q q1 q2 => by rw [hh1]; exact aw_u_ne q1
  refine ax_aload_n (q := 11) B d_N_become_10 rfl rfl rfl ?_
  refine ax_iconst (v := nI 0) (q := 12) B d_N_become_11 ci_0 rfl ?_
  refine ax_bipush (v := nI 10) (q := 14) B d_N_become_12 cb_10 rfl ?_
  refine ax_aload_n (q := 15) B d_N_become_14 rfl rfl rfl ?_
  refine ax_iload_n (q := 16) B d_N_become_15 rfl rfl rfl ?_
  refine ax_iconst (v := nI 5) (q := 17) B d_N_become_16 ci_5 rfl ?_
  refine ax_qV2 (q := 20) B cv_N_29 d_N_become_17 (by assumption) (Nat.le_of_ble_eq_true rfl) (by decide) (k_wordAt hG f0 hp (by omega)) rfl ?_
  refine ax_top f5 ?_
  refine ax_min (q := 23) B ml_N_35 ms_min mi_math mc_min d_N_become_20 (Nat.le_of_ble_eq_true rfl) (by decide) rfl ?_
  refine ax_top (mn_10 hc) ?_
  refine ax_max (q := 26) B ml_N_40 ms_max mi_math mc_max d_N_become_23 (Nat.le_of_ble_eq_true rfl) (by decide) rfl ?_
  refine ax_top (mx_0 (by omega)) ?_
  refine ax_putN (q := 29) B fp_N_19 d_N_become_26 (by assumption) rfl ?_
  refine ax_iconst (v := nI 0) (q := 30) B d_N_become_29 ci_0 rfl ?_
  refine ax_istore_n (q := 31) B d_N_become_30 rfl (by decide) rfl ?_
  exact loop c 0 _ (by omega) (aw_rd (by omega) f1) aw_rs (fun s hs => absurd hs (by omega)) (fun q q1 q2 => (aw_u_ne q1).trans (f6 q q1 q2))
end
section
/- SessionTables.Tree at place tb: its array of nodes at tb + 1, node i at tb + 2 + 2 * i -/
theorem nz_of {G : aw_G} {p : Nat} (h1 : 6 ≤ p) (h2 : p < 40) (h3 : p ≠ 22) (h4 : p % 2 = 0) (hN : 40 ≤ aw_N G) : nz G p := by
  refine ⟨⟨by omega, ?_⟩, ?_, by omega, ?_⟩
  · unfold aw_sh
    rw [if_neg (by omega), if_neg (by omega), if_neg (by omega), if_neg (by omega), if_neg (by omega), if_neg (by omega), if_neg (by omega), if_neg (by omega), if_pos (by omega), if_pos h4]
  · unfold aw_rM
    rw [if_neg (by omega), if_neg (by omega), if_neg (by omega), if_neg (by omega), if_neg (by omega), if_neg (by omega), if_pos (by omega)]
  · unfold aw_sh
    rw [if_neg (by omega), if_neg (by omega), if_neg (by omega), if_neg (by omega), if_neg (by omega), if_neg (by omega), if_neg (by omega), if_neg (by omega), if_pos (by omega), if_neg (by omega)]
def tz (G : aw_G) (tb : Nat) : Prop := 4 ≤ tb ∧ aw_is G tb 2 ∧ aw_rM tb 0 = some (tb + 1) ∧ aw_ar G (tb + 1) 2 8 ∧ ∀ i, i < 8 → aw_rM (tb + 1) i = some (tb + 2 + 2 * i) ∧ nz G (tb + 2 + 2 * i)
theorem gz.t4 {G : aw_G} (h : gz G) : tz G 4 := ⟨by omega, ⟨by have := h.2.1; omega, rfl⟩, rfl, ⟨by have := h.2.1; omega, rfl⟩, fun i hi => ⟨rfl, nz_of (by omega) (by omega) (by omega) (by omega) h.2.1⟩⟩
theorem gz.t22 {G : aw_G} (h : gz G) : tz G 22 := ⟨by omega, ⟨by have := h.2.1; omega, rfl⟩, rfl, ⟨by have := h.2.1; omega, rfl⟩, fun i hi => ⟨rfl, nz_of (by omega) (by omega) (by omega) (by omega) h.2.1⟩⟩
/-- node i of the tree at tb is as tree t has it -/
def hz_N (tb : Nat) (t : pz_T) (h : aw_H) (i : Nat) : Prop := h (tb + 2 + 2 * i) 1 = nI (pz_kd t i) ∧ h (tb + 2 + 2 * i) 2 = nI (pz_ct t i) ∧ h (tb + 2 + 2 * i) 3 = nI (pz_en t i) + (-1) ∧ h (tb + 2 + 2 * i) 4 = bI (pz_ch t i) ∧ pz_kd t i < 65536 ∧ pz_ct t i ≤ 10 ∧ ∀ j, j < pz_ct t i → h (tb + 2 + 2 * i + 1) j = nI (pz_it t i j) ∧ pz_it t i j < 65536
def hz_T (tb : Nat) (t : pz_T) (h : aw_H) : Prop := ∀ i, i < 8 → hz_N tb t h i
theorem hz_N.lz {tb i : Nat} {t : pz_T} {h : aw_H} (hN : hz_N tb t h i) : lz h (tb + 2 + 2 * i) (pz_ct t i) (pz_it t i) := ⟨hN.2.1, hN.2.2.2.2.2.1, hN.2.2.2.2.2.2⟩
theorem hz_N.kept {tb i : Nat} {t : pz_T} {h h' : aw_H} (hN : hz_N tb t h i) (e1 : h' (tb + 2 + 2 * i) = h (tb + 2 + 2 * i)) (e2 : h' (tb + 2 + 2 * i + 1) = h (tb + 2 + 2 * i + 1)) : hz_N tb t h' i := by
  unfold hz_N
  rw [e1, e2]
  exact hN
theorem hz_N.ext {tb i : Nat} {t t' : pz_T} {h : aw_H} (hN : hz_N tb t h i) (e1 : pz_kd t' i = pz_kd t i) (e2 : pz_ct t' i = pz_ct t i) (e3 : pz_ch t' i = pz_ch t i) (e4 : pz_en t' i = pz_en t i) (e5 : ∀ j, j < pz_ct t i → pz_it t' i j = pz_it t i j) : hz_N tb t' h i := by
  obtain ⟨a1, a2, a3, a4, a5, a6, a7⟩ := hN
  unfold hz_N
  rw [e1, e2, e3, e4]
  exact ⟨a1, a2, a3, a4, a5, a6, fun j hj => by rw [e5 j hj]; exact a7 j hj⟩
def pz_none : pz_T := (fun _ => 0, fun _ => 0, fun _ => false, fun _ => 0, fun _ _ => 0)
theorem hz_abs_N {tb i : Nat} {t : pz_T} {h : aw_H} (e1 : pz_kd t i = 0) (e2 : pz_ct t i = 0) (e3 : pz_ch t i = false) (e4 : pz_en t i = 0) : hz_N tb t (hz_abs h (tb + 2 + 2 * i)) i := by
  unfold hz_N hz_abs
  rw [e1, e2, e3, e4]
  exact ⟨aw_rd (by omega) (aw_rd (by omega) (aw_rd (by omega) aw_rs)), aw_rd (by omega) (aw_rd (by omega) aw_rs), aw_rd (by omega) aw_rs, aw_rs, by omega, by omega, fun j hj => absurd hj (by omega)⟩
theorem hz_abs_ne {h : aw_H} {b q : Nat} (hq : q ≠ b) : hz_abs h b q = h q := by
  unfold hz_abs
  rw [aw_u_ne hq, aw_u_ne hq, aw_u_ne hq, aw_u_ne hq]
theorem hz_new_ne {h : aw_H} {b q : Nat} {x : Int32} (hq : q ≠ b) : hz_new h b x q = h q := by
  unfold hz_new
  rw [aw_u_ne hq, aw_u_ne hq, aw_u_ne hq, aw_u_ne hq]
theorem hz_new_N {tb i x : Nat} {t : pz_T} {h : aw_H} (hx : x < 65536) (e1 : pz_kd t i = x) (e2 : pz_ct t i = 0) (e3 : pz_ch t i = true) (e4 : pz_en t i = 0) : hz_N tb t (hz_new h (tb + 2 + 2 * i) (nI x)) i := by
  unfold hz_N hz_new
  rw [e1, e2, e3, e4]
  exact ⟨aw_rd (by omega) (aw_rd (by omega) (aw_rd (by omega) aw_rs)), aw_rd (by omega) (aw_rd (by omega) aw_rs), aw_rd (by omega) aw_rs, aw_rs, hx, by omega, fun j hj => absurd hj (by omega)⟩
theorem k_becomeNothing {l : Launch} {G : aw_G} (hG : aw_ok G) {tb : Nat} (ht : tz G tb) (h : aw_H) : aw_P l G 1 Y_T_becomeNothing [.inl (some tb)] h (fun h' => hz_T tb pz_none h' ∧ ∀ q, q < tb + 2 ∨ tb + 18 ≤ q → h' q = h q) := by
  refine aw_met hG (by decide) (Nat.le_of_ble_eq_true rfl) (fun M hM B E => ?_)
  show aw_X M G 2 0 [some (.inl (some tb)), none] [] h
  obtain ⟨ht4, it, rt, at1, hn⟩ := ht
  have loop : ∀ m j (f : aw_H), j + m = 8 → (∀ i, i < j → hz_N tb pz_none f i) → (∀ q, q < tb + 2 ∨ tb + 18 ≤ q → f q = h q) → aw_X M G 2 2 [some (.inl (some tb)), some (.inr (nI j))] [] f := by
    intro m
    induction m with
    | zero =>
      intro j f hj g1 g2
      have hj : j = 8 := by omega
      subst hj
      refine ax_iload_n (q := 3) B d_T_becomeNothing_2 rfl rfl rfl ?_
      refine ax_bipush (v := nI 8) (q := 5) B d_T_becomeNothing_3 cb_8 rfl ?_
      refine ax_icmpN_ge (q := 23) (q2 := 8) B (by omega) (by omega) d_T_becomeNothing_5 rfl rfl (fun h5 => ?_) (fun h5 => ?_)
      · refine ax_vret B E d_T_becomeNothing_23 ?_
        exact ⟨rfl, g1, g2⟩
      · omega
    | succ m ih =>
      intro j f hj g1 g2
      obtain ⟨rj, nj⟩ := hn j (by omega)
      have ij := nj.1
      refine ax_iload_n (q := 3) B d_T_becomeNothing_2 rfl rfl rfl ?_
      refine ax_bipush (v := nI 8) (q := 5) B d_T_becomeNothing_3 cb_8 rfl ?_
      refine ax_icmpN_ge (q := 23) (q2 := 8) B (by omega) (by omega) d_T_becomeNothing_5 rfl rfl (fun h5 => ?_) (fun h5 => ?_)
      · omega
      · refine ax_aload_n (q := 9) B d_T_becomeNothing_8 rfl rfl rfl ?_
        refine ax_getP (q := 12) B fl_T_11 rfl d_T_becomeNothing_9 (by assumption) (by assumption) rfl ?_
        refine ax_iload_n (q := 13) B d_T_becomeNothing_12 rfl rfl rfl ?_
        refine ax_aaldN (q := 14) B d_T_becomeNothing_13 (by assumption) rfl (by omega) (by omega) (by first | assumption | rfl) rfl ?_
        refine ax_pV0 (q := 17) B cv_T_18 d_T_becomeNothing_14 (by assumption) (Nat.le_of_ble_eq_true rfl) (by decide) (k_becomeAbsent hG nj f) rfl (fun f1 hf1 => ?_)
        refine ax_iincN (j := 1) (q := 20) B d_T_becomeNothing_17 rfl ii_1 (by decide) rfl ?_
        refine ax_goto (q := 2) B d_T_becomeNothing_20 rfl ?_
        subst hf1
        refine ih (j + 1) _ (by omega) (fun i hi => ?_) (fun q hq => (hz_abs_ne (by omega)).trans (g2 q hq))
        by_cases hij : i = j
        · subst hij; exact hz_abs_N rfl rfl rfl rfl
        · exact (g1 i (by omega)).kept (hz_abs_ne (by omega)) (hz_abs_ne (by omega))
  refine ax_iconst (v := nI 0) (q := 1) B d_T_becomeNothing_0 ci_0 rfl ?_
  refine ax_istore_n (q := 2) B d_T_becomeNothing_1 rfl (by decide) rfl ?_
  exact loop 8 0 h rfl (fun i hi => absurd hi (by omega)) (fun q _ => rfl)
theorem k_becomeEmpty {l : Launch} {G : aw_G} (hG : aw_ok G) {tb : Nat} (ht : tz G tb) (h : aw_H) : aw_P l G 2 Y_T_becomeEmpty [.inl (some tb)] h (fun h' => hz_T tb pz_empty h' ∧ ∀ q, q < tb + 2 ∨ tb + 18 ≤ q → h' q = h q) := by
  refine aw_met hG (by decide) (Nat.le_of_ble_eq_true rfl) (fun M hM B E => ?_)
  show aw_X M G 1 0 [some (.inl (some tb))] [] h
  have ht' := ht
  obtain ⟨ht4, it, rt, at1, hn⟩ := ht
  obtain ⟨r0, n0⟩ := hn 0 (by omega)
  have i0 := n0.1
  refine ax_aload_n (q := 1) B d_T_becomeEmpty_0 rfl rfl rfl ?_
  refine ax_pV0 (q := 4) B cv_T_21 d_T_becomeEmpty_1 (by assumption) (Nat.le_of_ble_eq_true rfl) (by decide) (k_becomeNothing hG ht' h) rfl (fun f1 hf1 => ?_)
  refine ax_aload_n (q := 5) B d_T_becomeEmpty_4 rfl rfl rfl ?_
  refine ax_getP (q := 8) B fl_T_11 rfl d_T_becomeEmpty_5 (by assumption) (by assumption) rfl ?_
  refine ax_iconst (v := nI 0) (q := 9) B d_T_becomeEmpty_8 ci_0 rfl ?_
  refine ax_aaldN (q := 10) B d_T_becomeEmpty_9 (by assumption) rfl (by omega) (by omega) (by first | assumption | rfl) rfl ?_
  refine ax_iconst (v := nI 1) (q := 11) B d_T_becomeEmpty_10 ci_1 rfl ?_
  refine ax_pV1 (q := 14) B cv_T_24 d_T_becomeEmpty_11 (by assumption) (Nat.le_of_ble_eq_true rfl) (by decide) (k_becomeNew hG n0 f1 _) rfl (fun f2 hf2 => ?_)
  refine ax_vret B E d_T_becomeEmpty_14 ⟨rfl, fun i hi => ?_, fun q hq => ?_⟩
  · subst hf2
    by_cases hi0 : i = 0
    · subst hi0; exact hz_new_N (by omega) rfl rfl rfl rfl
    · refine ((hf1.1 i hi).ext (t' := pz_empty) ?_ rfl ?_ rfl (fun j hj => rfl)).kept (hz_new_ne (by omega)) (hz_new_ne (by omega))
      · exact if_neg hi0
      · exact pz_beq_ne hi0
  · rw [hf2, hz_new_ne (by omega)]; exact hf1.2 q hq
end
section
/-- the words of the medium -/
def wz (G : aw_G) (w : Nat → Nat) (h : aw_H) : Prop := h 1 0 = nI (aw_n G) ∧ ∀ x, x < 16 * aw_n G → h 2 x = nI (w x) ∧ w x < 65536
/-- what the sector at p names can be read -/
def rz (G : aw_G) (w : Nat → Nat) (p : Nat) : Prop := p < aw_n G ∧ ∀ i, i < 8 → pz_nm w p i = 0 ∨ (pz_nm w p i ≤ aw_n G ∧ w (16 * (pz_nm w p i - 1) + 5) ≤ 10)
theorem k_tbecome {l : Launch} {G : aw_G} (hG : gz G) {tb : Nat} (ht : tz G tb) {h : aw_H} {w : Nat → Nat} (hw : wz G w h) {p : Nat} (hr : rz G w p) : aw_P l G 3 Y_T_become [.inl (some tb), .inl (some 1), .inr (nI p)] h (fun h' => hz_T tb (pz_read w p) h' ∧ ∀ q, q < tb + 2 ∨ tb + 18 ≤ q → h' q = h q) := by
  refine aw_met hG.1 (by decide) (Nat.le_of_ble_eq_true rfl) (fun M hM B E => ?_)
  show aw_X M G 5 0 [some (.inl (some tb)), some (.inl (some 1)), some (.inr (nI p)), none, none] [] h
  have i1 := hG.is1
  have n1 := hG.2.2.1
  have n2 := hG.2.2.2
  obtain ⟨ht4, it, rt, at1, hn⟩ := ht
  obtain ⟨hp, hr⟩ := hr
  have loop : ∀ m j (f : aw_H) (u : Option aw_V), j + m = 8 → (∀ i, i < j → hz_N tb (pz_read w p) f i) → (∀ q, q < tb + 2 ∨ tb + 18 ≤ q → f q = h q) → aw_X M G 5 2 [some (.inl (some tb)), some (.inl (some 1)), some (.inr (nI p)), some (.inr (nI j)), u] [] f := by
    intro m
    induction m with
    | zero =>
      intro j f u hj g1 g2
      have hj : j = 8 := by omega
      subst hj
      refine ax_iload_n (q := 3) B d_T_become_2 rfl rfl rfl ?_
      refine ax_bipush (v := nI 8) (q := 5) B d_T_become_3 cb_8 rfl ?_
      refine ax_icmpN_ge (q := 55) (q2 := 8) B (by omega) (by omega) d_T_become_5 rfl rfl (fun h5 => ?_) (fun h5 => ?_)
      · refine ax_vret B E d_T_become_55 ?_
        exact ⟨rfl, g1, g2⟩
      · omega
    | succ m ih =>
      intro j f u hj g1 g2
      obtain ⟨rj, nj⟩ := hn j (by omega)
      have ij := nj.1
      have f0 : f 1 0 = nI (aw_n G) := by rw [g2 1 (by omega)]; exact hw.1
      have fw : ∀ x, x < 16 * aw_n G → f 2 x = nI (w x) ∧ w x < 65536 := fun x hx => by rw [g2 2 (by omega)]; exact hw.2 x hx
      have fj : f 2 (16 * p + (4 + j)) = nI (pz_nm w p j) := by rw [(fw _ (by omega)).1]; unfold pz_nm; rw [Nat.add_assoc]
      have hlt : pz_nm w p j < 65536 := by unfold pz_nm; exact (fw _ (by omega)).2
      have hrj := hr j (by omega)
      refine ax_iload_n (q := 3) B d_T_become_2 rfl rfl rfl ?_
      refine ax_bipush (v := nI 8) (q := 5) B d_T_become_3 cb_8 rfl ?_
      refine ax_icmpN_ge (q := 55) (q2 := 8) B (by omega) (by omega) d_T_become_5 rfl rfl (fun h5 => ?_) (fun h5 => ?_)
      · omega
      · refine ax_aload_n (q := 9) B d_T_become_8 rfl rfl rfl ?_
        refine ax_iload_n (q := 10) B d_T_become_9 rfl rfl rfl ?_
        refine ax_iconst (v := nI 4) (q := 11) B d_T_become_10 ci_4 rfl ?_
        refine ax_iload_n (q := 12) B d_T_become_11 rfl rfl rfl ?_
        first | refine ax_iaddN (q := 13) B d_T_become_12 rfl ?_ | refine ax_iadd (q := 13) B d_T_become_12 rfl ?_
        refine ax_qV2 (q := 16) B cv_T_28 d_T_become_13 (by assumption) (Nat.le_of_ble_eq_true rfl) (by decide) (k_wordAt hG f0 hp (by omega)) rfl ?_
        refine ax_top fj ?_
        refine ax_istore (q := 18) B d_T_become_16 (by decide) rfl ?_
        refine ax_iload (q := 20) B d_T_become_18 rfl rfl ?_
        refine ax_ifN_ne (q := 35) (q2 := 23) B (by omega) d_T_become_20 rfl rfl (fun h20 => ?_) (fun h20 => ?_)
        · refine ax_aload_n (q := 36) B d_T_become_35 rfl rfl rfl ?_
          refine ax_getP (q := 39) B fl_T_11 rfl d_T_become_36 (by assumption) (by assumption) rfl ?_
          refine ax_iload_n (q := 40) B d_T_become_39 rfl rfl rfl ?_
          refine ax_aaldN (q := 41) B d_T_become_40 (by assumption) rfl (by omega) (by omega) (by first | assumption | rfl) rfl ?_
          refine ax_aload_n (q := 42) B d_T_become_41 rfl rfl rfl ?_
          refine ax_iload (q := 44) B d_T_become_42 rfl rfl ?_
          refine ax_iconst (v := nI 1) (q := 45) B d_T_become_44 ci_1 rfl ?_
          refine ax_isubN (q := 46) B (by omega) d_T_become_45 rfl ?_
          have hc5 : w (16 * (pz_nm w p j - 1) + 5) ≤ 10 := by omega
          refine ax_pV2 (q := 49) B cv_T_34 d_T_become_46 (by assumption) (Nat.le_of_ble_eq_true rfl) (by decide) (k_nbecome hG nj (by omega) f0 (c := w (16 * (pz_nm w p j - 1) + 5)) (g := fun s => w (16 * (pz_nm w p j - 1) + 6 + s)) (by omega) (fw _ (by omega)).1 (fw _ (by omega)).1 hc5 (fun s hs => by rw [(fw _ (by omega)).1, Nat.add_assoc])) rfl (fun f1 hf1 => ?_)
          obtain ⟨q1, q2, q3, q4, q5, q6⟩ := hf1
          refine ax_iincN (j := 1) (q := 52) B d_T_become_49 rfl ii_1 (by decide) rfl ?_
          refine ax_goto (q := 2) B d_T_become_52 rfl ?_
          refine ih (j + 1) _ _ (by omega) (fun i hi => ?_) (fun q hq => (q6 q (by omega) (by omega)).trans (g2 q hq))
          by_cases hij : i = j
          · subst hij
            have hne : ¬ pz_nm w p i = 0 := by omega
            refine ⟨q1.trans (congrArg nI (if_neg hne).symm), q2.trans (congrArg nI (if_neg hne).symm), q3.trans ?_, q4, ?_, ?_, fun s hs => ?_⟩
            · show nI (pz_nm w p i - 1) = nI (pz_nm w p i) + (-1)
              rw [← pk_m1, Nat.sub_add_cancel h20]
            · show (if pz_nm w p i = 0 then 0 else w (16 * (pz_nm w p i - 1) + 4)) < 65536
              rw [if_neg hne]; exact (fw _ (by omega)).2
            · show (if pz_nm w p i = 0 then 0 else w (16 * (pz_nm w p i - 1) + 5)) ≤ 10
              rw [if_neg hne]; exact hc5
            · have hs : s < (if pz_nm w p i = 0 then 0 else w (16 * (pz_nm w p i - 1) + 5)) := hs
              rw [if_neg hne] at hs
              exact ⟨q5 s hs, (fw _ (by omega)).2⟩
          · exact (g1 i (by omega)).kept (q6 _ (by omega) (by omega)) (q6 _ (by omega) (by omega))
        · refine ax_aload_n (q := 24) B d_T_become_23 rfl rfl rfl ?_
          refine ax_getP (q := 27) B fl_T_11 rfl d_T_become_24 (by assumption) (by assumption) rfl ?_
          refine ax_iload_n (q := 28) B d_T_become_27 rfl rfl rfl ?_
          refine ax_aaldN (q := 29) B d_T_become_28 (by assumption) rfl (by omega) (by omega) (by first | assumption | rfl) rfl ?_
          refine ax_pV0 (q := 32) B cv_T_18 d_T_become_29 (by assumption) (Nat.le_of_ble_eq_true rfl) (by decide) (k_becomeAbsent hG.1 nj f) rfl (fun f1 hf1 => ?_)
          refine ax_goto (q := 49) B d_T_become_32 rfl ?_
          refine ax_iincN (j := 1) (q := 52) B d_T_become_49 rfl ii_1 (by decide) rfl ?_
          refine ax_goto (q := 2) B d_T_become_52 rfl ?_
          subst hf1
          refine ih (j + 1) _ _ (by omega) (fun i hi => ?_) (fun q hq => (hz_abs_ne (by omega)).trans (g2 q hq))
          by_cases hij : i = j
          · subst hij; exact hz_abs_N (if_pos h20) (if_pos h20) rfl h20
          · exact (g1 i (by omega)).kept (hz_abs_ne (by omega)) (hz_abs_ne (by omega))
  refine ax_iconst (v := nI 0) (q := 1) B d_T_become_0 ci_0 rfl ?_
  refine ax_istore_n (q := 2) B d_T_become_1 rfl (by decide) rfl ?_
  exact loop 8 0 h none rfl (fun i hi => absurd hi (by omega)) (fun q _ => rfl)
/-- the place of the node that x names -/
theorem k_nodeAt {l : Launch} {G : aw_G} (hG : aw_ok G) {tb : Nat} (ht : tz G tb) {h : aw_H} {t : pz_T} (hT : hz_T tb t h) (x : Int32) : aw_I l G 0 Y_T_nodeAt [.inl (some tb), .inr x] h (.inl ((pz_nd t (fun a => a != 0) x).map (fun i => tb + 2 + 2 * i))) := by
  refine aw_met hG (by decide) (Nat.le_of_ble_eq_true rfl) (fun M hM B E => ?_)
  show aw_X M G 2 0 [some (.inl (some tb)), some (.inr x)] [] h
  obtain ⟨ht4, it, rt, at1, hn⟩ := ht
  cases hx : pz_small x 8 with
  | false =>
    have hnd : pz_nd t (fun a => a != 0) x = none := if_neg (by rw [pz_no_8 hx]; omega)
    rw [hnd] at E
    refine ax_iload_n (q := 1) B d_T_nodeAt_0 rfl rfl rfl ?_
    refine ax_if_lt (q := 22) (q2 := 4) B d_T_nodeAt_1 rfl rfl (fun h1 => ?_) (fun h1 => ?_)
    · refine ax_null (q := 23) B d_T_nodeAt_22 rfl ?_
      refine ax_aret B E d_T_nodeAt_23 ?_
      exact ⟨rfl, rfl⟩
    · refine ax_iload_n (q := 5) B d_T_nodeAt_4 rfl rfl rfl ?_
      refine ax_bipush (v := nI 8) (q := 7) B d_T_nodeAt_5 cb_8 rfl ?_
      refine ax_icmp_ge (q := 22) (q2 := 10) B d_T_nodeAt_7 rfl rfl (fun h7 => ?_) (fun h7 => ?_)
      · refine ax_null (q := 23) B d_T_nodeAt_22 rfl ?_
        refine ax_aret B E d_T_nodeAt_23 ?_
        exact ⟨rfl, rfl⟩
      · rw [pz_small_t h1 h7] at hx
        cases hx
  | true =>
    obtain ⟨j, hj, rfl⟩ := pz_small_e (by omega) hx
    obtain ⟨rj, nj⟩ := hn j hj
    have ij := nj.1
    obtain ⟨ej, -, -, -, hkd, -⟩ := hT j hj
    have hnd : pz_nd t (fun a => a != 0) (nI j) = if pz_kd t j = 0 then none else some j := by
      unfold pz_nd
      rw [pz_no_N hj]
      by_cases hk : pz_kd t j = 0
      · rw [if_pos hk, hk]; exact if_neg (fun z => by cases z.2)
      · rw [if_neg hk, if_pos ⟨hj, by simp [hk]⟩]
    rw [hnd] at E
    refine ax_iload_n (q := 1) B d_T_nodeAt_0 rfl rfl rfl ?_
    refine ax_ifN_lt (q := 22) (q2 := 4) B (by omega) d_T_nodeAt_1 rfl rfl ?_
    refine ax_iload_n (q := 5) B d_T_nodeAt_4 rfl rfl rfl ?_
    refine ax_bipush (v := nI 8) (q := 7) B d_T_nodeAt_5 cb_8 rfl ?_
    refine ax_icmpN_ge (q := 22) (q2 := 10) B (by omega) (by omega) d_T_nodeAt_7 rfl rfl (fun h7 => ?_) (fun h7 => ?_)
    · first | (exfalso; omega) | (rw [if_pos h19] at E; refine ax_null (q := 23) B d_T_nodeAt_22 rfl ?_; exact ax_aret B E d_T_nodeAt_23 ⟨rfl, rfl⟩)
    · refine ax_aload_n (q := 11) B d_T_nodeAt_10 rfl rfl rfl ?_
      refine ax_getP (q := 14) B fl_T_11 rfl d_T_nodeAt_11 (by assumption) (by assumption) rfl ?_
      refine ax_iload_n (q := 15) B d_T_nodeAt_14 rfl rfl rfl ?_
      refine ax_aaldN (q := 16) B d_T_nodeAt_15 (by assumption) rfl (by omega) (by omega) (by first | assumption | rfl) rfl ?_
      refine ax_getN (q := 19) B fl_T_38 rfl d_T_nodeAt_16 (by assumption) (by first | assumption | rfl) rfl ?_
      refine ax_ifN_ne (q := 24) (q2 := 22) B (by omega) d_T_nodeAt_19 rfl rfl (fun h19 => ?_) (fun h19 => ?_)
      · rw [if_neg (by omega)] at E
        refine ax_aload_n (q := 25) B d_T_nodeAt_24 rfl rfl rfl ?_
        refine ax_getP (q := 28) B fl_T_11 rfl d_T_nodeAt_25 (by assumption) (by assumption) rfl ?_
        refine ax_iload_n (q := 29) B d_T_nodeAt_28 rfl rfl rfl ?_
        refine ax_aaldN (q := 30) B d_T_nodeAt_29 (by assumption) rfl (by omega) (by omega) (by first | assumption | rfl) rfl ?_
        refine ax_aret B E d_T_nodeAt_30 ?_
        exact ⟨rfl, rfl⟩
      · first | (exfalso; omega) | (rw [if_pos h19] at E; refine ax_null (q := 23) B d_T_nodeAt_22 rfl ?_; exact ax_aret B E d_T_nodeAt_23 ⟨rfl, rfl⟩)
theorem k_leastAbsent {l : Launch} {G : aw_G} (hG : aw_ok G) {tb : Nat} (ht : tz G tb) {h : aw_H} {t : pz_T} (hT : hz_T tb t h) : aw_I l G 0 Y_T_leastAbsent [.inl (some tb)] h (.inr (oI (pz_least (pz_kd t) 8))) := by
  refine aw_met hG (by decide) (Nat.le_of_ble_eq_true rfl) (fun M hM B E => ?_)
  show aw_X M G 2 0 [some (.inl (some tb)), none] [] h
  obtain ⟨ht4, it, rt, at1, hn⟩ := ht
  have mono : ∀ j i, pz_least (pz_kd t) j = some i → ∀ m, pz_least (pz_kd t) (j + m) = some i := by
    intro j i hj m
    induction m with
    | zero => exact hj
    | succ m ih =>
      show (match pz_least (pz_kd t) (j + m) with | some i => some i | none => if pz_kd t (j + m) = 0 then some (j + m) else none) = _
      rw [ih]
  have loop : ∀ m j, j + m = 8 → pz_least (pz_kd t) j = none → aw_X M G 2 2 [some (.inl (some tb)), some (.inr (nI j))] [] h := by
    intro m
    induction m with
    | zero =>
      intro j hj hz
      have hj : j = 8 := by omega
      subst hj
      refine ax_iload_n (q := 3) B d_T_leastAbsent_2 rfl rfl rfl ?_
      refine ax_bipush (v := nI 8) (q := 5) B d_T_leastAbsent_3 cb_8 rfl ?_
      refine ax_icmpN_ge (q := 28) (q2 := 8) B (by omega) (by omega) d_T_leastAbsent_5 rfl rfl (fun h5 => ?_) (fun h5 => ?_)
      · refine ax_iconst (v := (-1)) (q := 29) B d_T_leastAbsent_28 ci_m1 rfl ?_
        refine ax_iret B E d_T_leastAbsent_29 ?_
        exact ⟨by rw [hz]; rfl, rfl⟩
      · omega
    | succ m ih =>
      intro j hj hz
      obtain ⟨rj, nj⟩ := hn j (by omega)
      have ij := nj.1
      obtain ⟨ej, -, -, -, hkd, -⟩ := hT j (by omega)
      have hs : pz_least (pz_kd t) (j + 1) = if pz_kd t j = 0 then some j else none := by
        show (match pz_least (pz_kd t) j with | some i => some i | none => if pz_kd t j = 0 then some j else none) = _
        rw [hz]
      refine ax_iload_n (q := 3) B d_T_leastAbsent_2 rfl rfl rfl ?_
      refine ax_bipush (v := nI 8) (q := 5) B d_T_leastAbsent_3 cb_8 rfl ?_
      refine ax_icmpN_ge (q := 28) (q2 := 8) B (by omega) (by omega) d_T_leastAbsent_5 rfl rfl (fun h5 => ?_) (fun h5 => ?_)
      · omega
      · refine ax_aload_n (q := 9) B d_T_leastAbsent_8 rfl rfl rfl ?_
        refine ax_getP (q := 12) B fl_T_11 rfl d_T_leastAbsent_9 (by assumption) (by assumption) rfl ?_
        refine ax_iload_n (q := 13) B d_T_leastAbsent_12 rfl rfl rfl ?_
        refine ax_aaldN (q := 14) B d_T_leastAbsent_13 (by assumption) rfl (by omega) (by omega) (by first | assumption | rfl) rfl ?_
        refine ax_getN (q := 17) B fl_T_38 rfl d_T_leastAbsent_14 (by assumption) (by first | assumption | rfl) rfl ?_
        refine ax_ifN_ne (q := 22) (q2 := 20) B (by omega) d_T_leastAbsent_17 rfl rfl (fun h17 => ?_) (fun h17 => ?_)
        · refine ax_iincN (j := 1) (q := 25) B d_T_leastAbsent_22 rfl ii_1 (by decide) rfl ?_
          refine ax_goto (q := 2) B d_T_leastAbsent_25 rfl ?_
          exact ih (j + 1) (by omega) (by rw [hs, if_neg (by omega)])
        · refine ax_iload_n (q := 21) B d_T_leastAbsent_20 rfl rfl rfl ?_
          refine ax_iret B E d_T_leastAbsent_21 ?_
          exact ⟨by rw [show (8 : Nat) = j + 1 + m by omega, mono (j + 1) j (by rw [hs, if_pos h17]) m]; rfl, rfl⟩
  refine ax_iconst (v := nI 0) (q := 1) B d_T_leastAbsent_0 ci_0 rfl ?_
  refine ax_istore_n (q := 2) B d_T_leastAbsent_1 rfl (by decide) rfl ?_
  exact loop 8 0 rfl rfl
theorem k_countChanged {l : Launch} {G : aw_G} (hG : aw_ok G) {tb : Nat} (ht : tz G tb) {h : aw_H} {t : pz_T} (hT : hz_T tb t h) : aw_I l G 0 Y_T_countChanged [.inl (some tb)] h (.inr (nI (pz_nch t 8))) := by
  refine aw_met hG (by decide) (Nat.le_of_ble_eq_true rfl) (fun M hM B E => ?_)
  show aw_X M G 3 0 [some (.inl (some tb)), none, none] [] h
  obtain ⟨ht4, it, rt, at1, hn⟩ := ht
  have loop : ∀ m j, j + m = 8 → aw_X M G 3 4 [some (.inl (some tb)), some (.inr (nI (pz_nch t j))), some (.inr (nI j))] [] h := by
    intro m
    induction m with
    | zero =>
      intro j hj
      have hj : j = 8 := by omega
      subst hj
      refine ax_iload_n (q := 5) B d_T_countChanged_4 rfl rfl rfl ?_
      refine ax_bipush (v := nI 8) (q := 7) B d_T_countChanged_5 cb_8 rfl ?_
      refine ax_icmpN_ge (q := 31) (q2 := 10) B (by omega) (by omega) d_T_countChanged_7 rfl rfl (fun h7 => ?_) (fun h7 => ?_)
      · refine ax_iload_n (q := 32) B d_T_countChanged_31 rfl rfl rfl ?_
        refine ax_iret B E d_T_countChanged_32 ?_
        exact ⟨rfl, rfl⟩
      · omega
    | succ m ih =>
      intro j hj
      obtain ⟨rj, nj⟩ := hn j (by omega)
      have ij := nj.1
      obtain ⟨-, -, -, ej, -⟩ := hT j (by omega)
      have h3 := ih (j + 1) (by omega)
      rw [show pz_nch t (j + 1) = pz_nch t j + (if pz_ch t j = true then 1 else 0) from rfl] at h3
      refine ax_iload_n (q := 5) B d_T_countChanged_4 rfl rfl rfl ?_
      refine ax_bipush (v := nI 8) (q := 7) B d_T_countChanged_5 cb_8 rfl ?_
      refine ax_icmpN_ge (q := 31) (q2 := 10) B (by omega) (by omega) d_T_countChanged_7 rfl rfl (fun h7 => ?_) (fun h7 => ?_)
      · omega
      · refine ax_aload_n (q := 11) B d_T_countChanged_10 rfl rfl rfl ?_
        refine ax_getP (q := 14) B fl_T_11 rfl d_T_countChanged_11 (by assumption) (by assumption) rfl ?_
        refine ax_iload_n (q := 15) B d_T_countChanged_14 rfl rfl rfl ?_
        refine ax_aaldN (q := 16) B d_T_countChanged_15 (by assumption) rfl (by omega) (by omega) (by first | assumption | rfl) rfl ?_
        refine ax_getN (q := 19) B fl_T_46 rfl d_T_countChanged_16 (by assumption) (by first | assumption | rfl) rfl ?_
        refine ax_ifZ_eq (q := 25) (q2 := 22) B d_T_countChanged_19 rfl rfl (fun h19 => ?_) (fun h19 => ?_)
        · refine ax_iincN (j := 1) (q := 28) B d_T_countChanged_25 rfl ii_1 (by decide) rfl ?_
          refine ax_goto (q := 4) B d_T_countChanged_28 rfl ?_
          rw [h19] at h3
          exact h3
        · refine ax_iincN (j := 1) (q := 25) B d_T_countChanged_22 rfl ii_1 (by decide) rfl ?_
          refine ax_iincN (j := 1) (q := 28) B d_T_countChanged_25 rfl ii_1 (by decide) rfl ?_
          refine ax_goto (q := 4) B d_T_countChanged_28 rfl ?_
          rw [h19] at h3
          exact h3
  refine ax_iconst (v := nI 0) (q := 1) B d_T_countChanged_0 ci_0 rfl ?_
  refine ax_istore_n (q := 2) B d_T_countChanged_1 rfl (by decide) rfl ?_
  refine ax_iconst (v := nI 0) (q := 3) B d_T_countChanged_2 ci_0 rfl ?_
  refine ax_istore_n (q := 4) B d_T_countChanged_3 rfl (by decide) rfl ?_
  exact loop 8 0 rfl
end
section
theorem pz_nd_k {t : pz_T} {P : Nat → Bool} (hP : P 0 = false) (x : Int32) : pz_nd t P x = (pz_nd t (fun a => a != 0) x).bind (fun i => if P (pz_kd t i) = true then some i else none) := by
  unfold pz_nd
  by_cases h1 : pz_no x < 8
  · by_cases h2 : pz_kd t (pz_no x) = 0
    · rw [if_neg (fun z => by rw [h2, hP] at z; cases z.2), if_neg (fun z => by rw [h2] at z; cases z.2)]
      rfl
    · rw [if_pos (show pz_no x < 8 ∧ (pz_kd t (pz_no x) != 0) = true from ⟨h1, by simp [h2]⟩)]
      show _ = if P (pz_kd t (pz_no x)) = true then some (pz_no x) else none
      by_cases h3 : P (pz_kd t (pz_no x)) = true
      · rw [if_pos ⟨h1, h3⟩, if_pos h3]
      · rw [if_neg (fun z => h3 z.2), if_neg h3]
  · rw [if_neg (fun z => h1 z.1), if_neg (fun z => h1 z.1)]
    rfl
theorem pz_nd_lt {t : pz_T} {P : Nat → Bool} {x : Int32} {i : Nat} (h : pz_nd t P x = some i) : i < 8 ∧ P (pz_kd t i) = true ∧ i = pz_no x := by
  unfold pz_nd at h
  by_cases h1 : pz_no x < 8 ∧ P (pz_kd t (pz_no x)) = true
  · rw [if_pos h1] at h
    cases h
    exact ⟨h1.1, h1.2, rfl⟩
  · rw [if_neg h1] at h
    cases h
theorem k_directoryAt {l : Launch} {G : aw_G} (hG : aw_ok G) {tb : Nat} (ht : tz G tb) {h : aw_H} {t : pz_T} (hT : hz_T tb t h) (x : Int32) : aw_I l G 1 Y_T_directoryAt [.inl (some tb), .inr x] h (.inl ((pz_nd t (fun a => a == 1) x).map (fun i => tb + 2 + 2 * i))) := by
  refine aw_met hG (by decide) (Nat.le_of_ble_eq_true rfl) (fun M hM B E => ?_)
  show aw_X M G 3 0 [some (.inl (some tb)), some (.inr x), none] [] h
  have hC := k_nodeAt (l := M.2.1) hG ht hT x
  have hk := pz_nd_k (t := t) (P := fun a => a == 1) rfl x
  have it := ht.2.1
  refine ax_aload_n (q := 1) B d_T_directoryAt_0 rfl rfl rfl ?_
  refine ax_iload_n (q := 2) B d_T_directoryAt_1 rfl rfl rfl ?_
  refine ax_qV1 (q := 5) B cv_T_42 d_T_directoryAt_2 (by assumption) (Nat.le_of_ble_eq_true rfl) (by decide) hC rfl ?_
  cases hx : pz_nd t (fun a => a != 0) x with
  | none =>
    rw [hx] at hk
    rw [hk] at E
    refine ax_astore_n (q := 6) B d_T_directoryAt_5 rfl (by decide) rfl ?_
    refine ax_aload_n (q := 7) B d_T_directoryAt_6 rfl rfl rfl ?_
    refine ax_ifnull (q := 22) (q2 := 10) B d_T_directoryAt_7 rfl rfl (fun h7 => ?_) (fun _ h7 => ?_)
    · refine ax_null (q := 23) B d_T_directoryAt_22 rfl ?_
      refine ax_aret B E d_T_directoryAt_23 ?_
      exact ⟨rfl, rfl⟩
    · cases h7
  | some j =>
    obtain ⟨hj, -, -⟩ := pz_nd_lt hx
    rw [hx] at hk
    have hk : pz_nd t (fun a => a == 1) x = if (pz_kd t j == 1) = true then some j else none := hk
    rw [hk] at E
    have ij := (ht.2.2.2.2 j hj).2.1
    obtain ⟨ej, -, -, -, hkd, -⟩ := hT j hj
    show aw_X M G 3 5 [some (.inl (some tb)), some (.inr x), none] [.inl (some (tb + 2 + 2 * j))] h
    refine ax_astore_n (q := 6) B d_T_directoryAt_5 rfl (by decide) rfl ?_
    refine ax_aload_n (q := 7) B d_T_directoryAt_6 rfl rfl rfl ?_
    refine ax_ifnull (q := 22) (q2 := 10) B d_T_directoryAt_7 rfl rfl (fun h7 => ?_) (fun _ h7 => ?_)
    · first | (cases h7; done) | (rw [if_neg (by rw [pz_beq_ne h15]; decide)] at E; refine ax_null (q := 23) B d_T_directoryAt_22 rfl ?_; exact ax_aret B E d_T_directoryAt_23 ⟨rfl, rfl⟩)
    · refine ax_aload_n (q := 11) B d_T_directoryAt_10 rfl rfl rfl ?_
      refine ax_getN (q := 14) B fl_T_38 rfl d_T_directoryAt_11 (by assumption) (by first | assumption | rfl) rfl ?_
      refine ax_iconst (v := nI 1) (q := 15) B d_T_directoryAt_14 ci_1 rfl ?_
      refine ax_icmpN_ne (q := 22) (q2 := 18) B (by omega) (by omega) d_T_directoryAt_15 rfl rfl (fun h15 => ?_) (fun h15 => ?_)
      · first | (cases h7; done) | (rw [if_neg (by rw [pz_beq_ne h15]; decide)] at E; refine ax_null (q := 23) B d_T_directoryAt_22 rfl ?_; exact ax_aret B E d_T_directoryAt_23 ⟨rfl, rfl⟩)
      · rw [if_pos (by rw [h15]; rfl)] at E
        refine ax_aload_n (q := 19) B d_T_directoryAt_18 rfl rfl rfl ?_
        refine ax_goto (q := 23) B d_T_directoryAt_19 rfl ?_
        refine ax_aret B E d_T_directoryAt_23 ?_
        exact ⟨rfl, rfl⟩
theorem k_fileAt {l : Launch} {G : aw_G} (hG : aw_ok G) {tb : Nat} (ht : tz G tb) {h : aw_H} {t : pz_T} (hT : hz_T tb t h) (x : Int32) : aw_I l G 1 Y_T_fileAt [.inl (some tb), .inr x] h (.inl ((pz_nd t (fun a => a == 2) x).map (fun i => tb + 2 + 2 * i))) := by
  refine aw_met hG (by decide) (Nat.le_of_ble_eq_true rfl) (fun M hM B E => ?_)
  show aw_X M G 3 0 [some (.inl (some tb)), some (.inr x), none] [] h
  have hC := k_nodeAt (l := M.2.1) hG ht hT x
  have hk := pz_nd_k (t := t) (P := fun a => a == 2) rfl x
  have it := ht.2.1
  refine ax_aload_n (q := 1) B d_T_fileAt_0 rfl rfl rfl ?_
  refine ax_iload_n (q := 2) B d_T_fileAt_1 rfl rfl rfl ?_
  refine ax_qV1 (q := 5) B cv_T_42 d_T_fileAt_2 (by assumption) (Nat.le_of_ble_eq_true rfl) (by decide) hC rfl ?_
  cases hx : pz_nd t (fun a => a != 0) x with
  | none =>
    rw [hx] at hk
    rw [hk] at E
    refine ax_astore_n (q := 6) B d_T_fileAt_5 rfl (by decide) rfl ?_
    refine ax_aload_n (q := 7) B d_T_fileAt_6 rfl rfl rfl ?_
    refine ax_ifnull (q := 22) (q2 := 10) B d_T_fileAt_7 rfl rfl (fun h7 => ?_) (fun _ h7 => ?_)
    · refine ax_null (q := 23) B d_T_fileAt_22 rfl ?_
      refine ax_aret B E d_T_fileAt_23 ?_
      exact ⟨rfl, rfl⟩
    · cases h7
  | some j =>
    obtain ⟨hj, -, -⟩ := pz_nd_lt hx
    rw [hx] at hk
    have hk : pz_nd t (fun a => a == 2) x = if (pz_kd t j == 2) = true then some j else none := hk
    rw [hk] at E
    have ij := (ht.2.2.2.2 j hj).2.1
    obtain ⟨ej, -, -, -, hkd, -⟩ := hT j hj
    show aw_X M G 3 5 [some (.inl (some tb)), some (.inr x), none] [.inl (some (tb + 2 + 2 * j))] h
    refine ax_astore_n (q := 6) B d_T_fileAt_5 rfl (by decide) rfl ?_
    refine ax_aload_n (q := 7) B d_T_fileAt_6 rfl rfl rfl ?_
    refine ax_ifnull (q := 22) (q2 := 10) B d_T_fileAt_7 rfl rfl (fun h7 => ?_) (fun _ h7 => ?_)
    · first | (cases h7; done) | (rw [if_neg (by rw [pz_beq_ne h15]; decide)] at E; refine ax_null (q := 23) B d_T_fileAt_22 rfl ?_; exact ax_aret B E d_T_fileAt_23 ⟨rfl, rfl⟩)
    · refine ax_aload_n (q := 11) B d_T_fileAt_10 rfl rfl rfl ?_
      refine ax_getN (q := 14) B fl_T_38 rfl d_T_fileAt_11 (by assumption) (by first | assumption | rfl) rfl ?_
      refine ax_iconst (v := nI 2) (q := 15) B d_T_fileAt_14 ci_2 rfl ?_
      refine ax_icmpN_ne (q := 22) (q2 := 18) B (by omega) (by omega) d_T_fileAt_15 rfl rfl (fun h15 => ?_) (fun h15 => ?_)
      · first | (cases h7; done) | (rw [if_neg (by rw [pz_beq_ne h15]; decide)] at E; refine ax_null (q := 23) B d_T_fileAt_22 rfl ?_; exact ax_aret B E d_T_fileAt_23 ⟨rfl, rfl⟩)
      · rw [if_pos (by rw [h15]; rfl)] at E
        refine ax_aload_n (q := 19) B d_T_fileAt_18 rfl rfl rfl ?_
        refine ax_goto (q := 23) B d_T_fileAt_19 rfl ?_
        refine ax_aret B E d_T_fileAt_23 ?_
        exact ⟨rfl, rfl⟩
theorem pz_par_s {t : pz_T} {c n : Nat} (h : pz_par t c n = none) : pz_par t c (n + 1) = if pz_kd t n = 1 ∧ pz_hold t n c (pz_ct t n) = true then some n else none := by
  show (match pz_par t c n with | some i => some i | none => if pz_kd t n = 1 ∧ pz_hold t n c (pz_ct t n) = true then some n else none) = _
  rw [h]
theorem pz_par_m {t : pz_T} {c n i : Nat} (h : pz_par t c n = some i) : ∀ m, pz_par t c (n + m) = some i
  | 0 => h
  | m + 1 => by
    show (match pz_par t c (n + m) with | some i => some i | none => if pz_kd t (n + m) = 1 ∧ pz_hold t (n + m) c (pz_ct t (n + m)) = true then some (n + m) else none) = _
    rw [pz_par_m h m]
theorem k_parentOf {l : Launch} {G : aw_G} (hG : aw_ok G) {tb : Nat} (ht : tz G tb) {h : aw_H} {t : pz_T} (hT : hz_T tb t h) {c : Nat} (hc : c < 2 ^ 31) : aw_I l G 1 Y_T_parentOf [.inl (some tb), .inr (nI c)] h (.inr (oI (pz_par t c 8))) := by
  refine aw_met hG (by decide) (Nat.le_of_ble_eq_true rfl) (fun M hM B E => ?_)
  show aw_X M G 3 0 [some (.inl (some tb)), some (.inr (nI c)), none] [] h
  obtain ⟨ht4, it, rt, at1, hn⟩ := ht
  have loop : ∀ m j, j + m = 8 → pz_par t c j = none → aw_X M G 3 2 [some (.inl (some tb)), some (.inr (nI c)), some (.inr (nI j))] [] h := by
    intro m
    induction m with
    | zero =>
      intro j hj hz
      have hj : j = 8 := by omega
      subst hj
      refine ax_iload_n (q := 3) B d_T_parentOf_2 rfl rfl rfl ?_
      refine ax_bipush (v := nI 8) (q := 5) B d_T_parentOf_3 cb_8 rfl ?_
      refine ax_icmpN_ge (q := 42) (q2 := 8) B (by omega) (by omega) d_T_parentOf_5 rfl rfl (fun h5 => ?_) (fun h5 => ?_)
      · refine ax_iconst (v := (-1)) (q := 43) B d_T_parentOf_42 ci_m1 rfl ?_
        refine ax_iret B E d_T_parentOf_43 ?_
        exact ⟨by rw [hz]; rfl, rfl⟩
      · omega
    | succ m ih =>
      intro j hj hz
      obtain ⟨rj, nj⟩ := hn j (by omega)
      have ij := nj.1
      have hNj := hT j (by omega)
      obtain ⟨ej, -, -, -, hkd, -⟩ := hT j (by omega)
      have hs := pz_par_s hz
      refine ax_iload_n (q := 3) B d_T_parentOf_2 rfl rfl rfl ?_
      refine ax_bipush (v := nI 8) (q := 5) B d_T_parentOf_3 cb_8 rfl ?_
      refine ax_icmpN_ge (q := 42) (q2 := 8) B (by omega) (by omega) d_T_parentOf_5 rfl rfl (fun h5 => ?_) (fun h5 => ?_)
      · omega
      · refine ax_aload_n (q := 9) B d_T_parentOf_8 rfl rfl rfl ?_
        refine ax_getP (q := 12) B fl_T_11 rfl d_T_parentOf_9 (by assumption) (by assumption) rfl ?_
        refine ax_iload_n (q := 13) B d_T_parentOf_12 rfl rfl rfl ?_
        refine ax_aaldN (q := 14) B d_T_parentOf_13 (by assumption) rfl (by omega) (by omega) (by first | assumption | rfl) rfl ?_
        refine ax_getN (q := 17) B fl_T_38 rfl d_T_parentOf_14 (by assumption) (by first | assumption | rfl) rfl ?_
        refine ax_iconst (v := nI 1) (q := 18) B d_T_parentOf_17 ci_1 rfl ?_
        refine ax_icmpN_ne (q := 36) (q2 := 21) B (by omega) (by omega) d_T_parentOf_18 rfl rfl (fun h18 => ?_) (fun h18 => ?_)
        · refine ax_iincN (j := 1) (q := 39) B d_T_parentOf_36 rfl ii_1 (by decide) rfl ?_
          refine ax_goto (q := 2) B d_T_parentOf_39 rfl ?_
          refine ih (j + 1) (by omega) ?_
          rw [hs]
          refine if_neg (fun z => ?_)
          first | exact h18 z.1 | (have z2 : pz_hd (pz_it t j) c (pz_ct t j) = true := z.2; rw [h31] at z2; cases z2)
        · refine ax_aload_n (q := 22) B d_T_parentOf_21 rfl rfl rfl ?_
          refine ax_getP (q := 25) B fl_T_11 rfl d_T_parentOf_22 (by assumption) (by assumption) rfl ?_
          refine ax_iload_n (q := 26) B d_T_parentOf_25 rfl rfl rfl ?_
          refine ax_aaldN (q := 27) B d_T_parentOf_26 (by assumption) rfl (by omega) (by omega) (by first | assumption | rfl) rfl ?_
          refine ax_iload_n (q := 28) B d_T_parentOf_27 rfl rfl rfl ?_
          refine ax_qV1 (q := 31) B cv_T_54 d_T_parentOf_28 (by assumption) (Nat.le_of_ble_eq_true rfl) (by decide) (k_holds hG nj hNj.lz hc) rfl ?_
          refine ax_ifZ_eq (q := 36) (q2 := 34) B d_T_parentOf_31 rfl rfl (fun h31 => ?_) (fun h31 => ?_)
          · refine ax_iincN (j := 1) (q := 39) B d_T_parentOf_36 rfl ii_1 (by decide) rfl ?_
            refine ax_goto (q := 2) B d_T_parentOf_39 rfl ?_
            refine ih (j + 1) (by omega) ?_
            rw [hs]
            refine if_neg (fun z => ?_)
            first | exact h18 z.1 | (have z2 : pz_hd (pz_it t j) c (pz_ct t j) = true := z.2; rw [h31] at z2; cases z2)
          · refine ax_iload_n (q := 35) B d_T_parentOf_34 rfl rfl rfl ?_
            refine ax_iret B E d_T_parentOf_35 ?_
            exact ⟨by rw [show (8 : Nat) = j + 1 + m by omega, pz_par_m (by rw [hs]; exact if_pos ⟨h18, h31⟩) m]; rfl, rfl⟩
  refine ax_iconst (v := nI 0) (q := 1) B d_T_parentOf_0 ci_0 rfl ?_
  refine ax_istore_n (q := 2) B d_T_parentOf_1 rfl (by decide) rfl ?_
  exact loop 8 0 rfl rfl
theorem pz_below_m {t : pz_T} {c x n : Nat} (h : pz_below t c x n = true) : ∀ m, pz_below t c x (n + m) = true
  | 0 => h
  | m + 1 => by
    show (pz_below t c x (n + m) || (pz_anc t c (n + m) == some x)) = true
    rw [pz_below_m h m, Bool.true_or]
theorem pz_anc_none {t : pz_T} {c n : Nat} (h : pz_anc t c n = none) : ∀ m, pz_anc t c (n + m) = none
  | 0 => h
  | m + 1 => by
    show (pz_anc t c (n + m)).bind _ = none
    rw [pz_anc_none h m]
    rfl
theorem pz_below_none {t : pz_T} {c x n : Nat} (h : pz_anc t c n = none) (hb : pz_below t c x n = false) : ∀ m, pz_below t c x (n + m) = false
  | 0 => hb
  | m + 1 => by
    show (pz_below t c x (n + m) || (pz_anc t c (n + m) == some x)) = false
    rw [pz_below_none h hb m, pz_anc_none h m]
    rfl
theorem pz_par_lt {t : pz_T} {c i : Nat} : ∀ n, pz_par t c n = some i → i < n
  | 0, h => by cases h
  | n + 1, h => by
    cases hq : pz_par t c n with
    | some q =>
      have h2 := pz_par_m hq 1
      rw [h2] at h
      cases h
      have := pz_par_lt n hq
      omega
    | none =>
      rw [pz_par_s hq] at h
      by_cases hv : pz_kd t n = 1 ∧ pz_hold t n c (pz_ct t n) = true
      · rw [if_pos hv] at h
        cases h
        omega
      · rw [if_neg hv] at h
        cases h
theorem oI_m1 {o : Option Nat} (ho : ∀ i, o = some i → i < 65536) (h : oI o = -1) : o = none := by
  cases o with
  | none => rfl
  | some i => exact absurd h (nI_nm1 (by have := ho i rfl; omega))
theorem k_isAtOrBelow {l : Launch} {G : aw_G} (hG : aw_ok G) {tb : Nat} (ht : tz G tb) {h : aw_H} {t : pz_T} (hT : hz_T tb t h) {c x : Nat} (hc : c < 8) (hx : x < 65536) : aw_I l G 2 Y_T_isAtOrBelow [.inl (some tb), .inr (nI c), .inr (nI x)] h (.inr (bI (pz_below t c x 8))) := by
  refine aw_met hG (by decide) (Nat.le_of_ble_eq_true rfl) (fun M hM B E => ?_)
  show aw_X M G 5 0 [some (.inl (some tb)), some (.inr (nI c)), some (.inr (nI x)), none, none] [] h
  have it := ht.2.1
  have loop : ∀ m j (o : Option Nat), j + m = 8 → pz_anc t c j = o → (∀ i, o = some i → i < 8) → pz_below t c x j = false → aw_X M G 5 5 [some (.inl (some tb)), some (.inr (nI c)), some (.inr (nI x)), some (.inr (oI o)), some (.inr (nI j))] [] h := by
    intro m
    induction m with
    | zero =>
      intro j o hj ha ho hz
      have hj : j = 8 := by omega
      subst hj
      refine ax_iload (q := 7) B d_T_isAtOrBelow_5 rfl rfl ?_
      refine ax_bipush (v := nI 8) (q := 9) B d_T_isAtOrBelow_7 cb_8 rfl ?_
      refine ax_icmpN_ge (q := 36) (q2 := 12) B (by omega) (by omega) d_T_isAtOrBelow_9 rfl rfl (fun h9 => ?_) (fun h9 => ?_)
      · refine ax_iconst (v := nI 0) (q := 37) B d_T_isAtOrBelow_36 ci_0 rfl ?_
        refine ax_zret B E (by first | exact bI_or _ | decide) d_T_isAtOrBelow_37 ?_
        exact ⟨by rw [hz]; rfl, rfl⟩
      · omega
    | succ m ih =>
      intro j o hj ha ho hz
      cases o with
      | none =>
        have e8 : pz_below t c x 8 = false := by rw [show (8 : Nat) = j + (m + 1) by omega]; exact pz_below_none ha hz (m + 1)
        refine ax_iload (q := 7) B d_T_isAtOrBelow_5 rfl rfl ?_
        refine ax_bipush (v := nI 8) (q := 9) B d_T_isAtOrBelow_7 cb_8 rfl ?_
        refine ax_icmpN_ge (q := 36) (q2 := 12) B (by omega) (by omega) d_T_isAtOrBelow_9 rfl rfl (fun h9 => ?_) (fun h9 => ?_)
        · refine ax_iconst (v := nI 0) (q := 37) B d_T_isAtOrBelow_36 ci_0 rfl ?_
          refine ax_zret B E (by first | exact bI_or _ | decide) d_T_isAtOrBelow_37 ?_
          exact ⟨by rw [e8]; rfl, rfl⟩
        · refine ax_iload_n (q := 13) B d_T_isAtOrBelow_12 rfl rfl rfl ?_
          refine ax_iconst (v := (-1)) (q := 14) B d_T_isAtOrBelow_13 ci_m1 rfl ?_
          refine ax_icmp_eq (q := 36) (q2 := 17) B d_T_isAtOrBelow_14 rfl rfl (fun h14 => ?_) (fun h14 => ?_)
          · refine ax_iconst (v := nI 0) (q := 37) B d_T_isAtOrBelow_36 ci_0 rfl ?_
            refine ax_zret B E (by first | exact bI_or _ | decide) d_T_isAtOrBelow_37 ?_
            exact ⟨by rw [e8]; rfl, rfl⟩
          · exact absurd rfl h14
      | some i =>
        have hi := ho i rfl
        have hs : pz_below t c x (j + 1) = (i == x) := by
          show (pz_below t c x j || (pz_anc t c j == some x)) = _
          rw [hz, ha, Bool.false_or]
          by_cases h2 : i = x
          · subst h2; simp
          · simp [h2]
        show aw_X M G 5 5 [some (.inl (some tb)), some (.inr (nI c)), some (.inr (nI x)), some (.inr (nI i)), some (.inr (nI j))] [] h
        refine ax_iload (q := 7) B d_T_isAtOrBelow_5 rfl rfl ?_
        refine ax_bipush (v := nI 8) (q := 9) B d_T_isAtOrBelow_7 cb_8 rfl ?_
        refine ax_icmpN_ge (q := 36) (q2 := 12) B (by omega) (by omega) d_T_isAtOrBelow_9 rfl rfl (fun h9 => ?_) (fun h9 => ?_)
        · first | (exfalso; omega) | exact absurd h14 (nI_nm1 (by omega))
        · refine ax_iload_n (q := 13) B d_T_isAtOrBelow_12 rfl rfl rfl ?_
          refine ax_iconst (v := (-1)) (q := 14) B d_T_isAtOrBelow_13 ci_m1 rfl ?_
          refine ax_icmp_eq (q := 36) (q2 := 17) B d_T_isAtOrBelow_14 rfl rfl (fun h14 => ?_) (fun h14 => ?_)
          · first | (exfalso; omega) | exact absurd h14 (nI_nm1 (by omega))
          · refine ax_iload_n (q := 18) B d_T_isAtOrBelow_17 rfl rfl rfl ?_
            refine ax_iload_n (q := 19) B d_T_isAtOrBelow_18 rfl rfl rfl ?_
            refine ax_icmpN_ne (q := 24) (q2 := 22) B (by omega) (by omega) d_T_isAtOrBelow_19 rfl rfl (fun h19 => ?_) (fun h19 => ?_)
            · refine ax_aload_n (q := 25) B d_T_isAtOrBelow_24 rfl rfl rfl ?_
              refine ax_iload_n (q := 26) B d_T_isAtOrBelow_25 rfl rfl rfl ?_
              refine ax_qV1 (q := 29) B cv_T_50 d_T_isAtOrBelow_26 (by assumption) (Nat.le_of_ble_eq_true rfl) (by decide) (k_parentOf hG ht hT (by omega)) rfl ?_
              refine ax_istore_n (q := 30) B d_T_isAtOrBelow_29 rfl (by decide) rfl ?_
              refine ax_iincN (j := 1) (q := 33) B d_T_isAtOrBelow_30 rfl ii_1 (by decide) rfl ?_
              refine ax_goto (q := 5) B d_T_isAtOrBelow_33 rfl ?_
              exact ih (j + 1) (pz_par t i 8) (by omega) (by show (pz_anc t c j).bind _ = _; rw [ha]; rfl) (fun q hq => pz_par_lt 8 hq) (by rw [hs]; exact pz_beq_ne h19)
            · refine ax_iconst (v := nI 1) (q := 23) B d_T_isAtOrBelow_22 ci_1 rfl ?_
              refine ax_zret B E (by first | exact bI_or _ | decide) d_T_isAtOrBelow_23 ?_
              exact ⟨by rw [show (8 : Nat) = j + 1 + m by omega, pz_below_m (by rw [hs, h19]; simp) m]; rfl, rfl⟩
  refine ax_iload_n (q := 1) B d_T_isAtOrBelow_0 rfl rfl rfl ?_
  refine ax_istore_n (q := 2) B d_T_isAtOrBelow_1 rfl (by decide) rfl ?_
  refine ax_iconst (v := nI 0) (q := 3) B d_T_isAtOrBelow_2 ci_0 rfl ?_
  refine ax_istore (q := 5) B d_T_isAtOrBelow_3 (by decide) rfl ?_
  exact loop 8 0 (some c) rfl rfl (fun i hi => by cases hi; exact hc) rfl
end
section
/- SessionTables' own questions -/
/-- the medium: k sectors written, words w, stop + 1 = sp -/
def mz (G : aw_G) (k sp : Nat) (w : Nat → Nat) (h : aw_H) : Prop := wz G w h ∧ h 1 3 = nI k ∧ h 1 4 = nI sp + (-1) ∧ k ≤ aw_n G ∧ sp ≤ 1001 ∧ ∀ p, p < k → h 3 p = nI (pz_chk w p)
/-- tables name what lies before them, and can be read -/
def iz (k : Nat) (w : Nat → Nat) : Prop := ∀ p, p < k → w (16 * p) = 3 → ∀ i, i < 8 → pz_nm w p i ≤ p ∧ (pz_nm w p i = 0 ∨ w (16 * (pz_nm w p i - 1) + 5) ≤ 10)
theorem iz.rz {G : aw_G} {k p : Nat} {w : Nat → Nat} (hi : iz k w) (hk : k ≤ aw_n G) (hp : p < k) (h3 : w (16 * p) = 3) : rz G w p := ⟨by omega, fun i hi8 => by
  obtain ⟨h1, h2⟩ := hi p hp h3 i hi8
  rcases h2 with h2 | h2
  · exact Or.inl h2
  · exact Or.inr ⟨by omega, h2⟩⟩
theorem dec_nI {a b : Nat} (ha : a < 2 ^ 31) (hb : b < 2 ^ 31) : decide (nI a = nI b) = (a == b) := by
  by_cases h : a = b
  · subst h; simp
  · rw [pz_beq_ne h]; exact decide_eq_false (fun z => h ((nI_eq ha hb).mp z))
theorem k_good {l : Launch} {G : aw_G} (hG : gz G) {h : aw_H} {k sp : Nat} {w : Nat → Nat} (hm : mz G k sp w h) {p : Nat} (hp : p < k) : aw_I l G 2 Y_M_isGood [.inl (some 1), .inr (nI p)] h (.inr (bI (pz_good w p))) := by
  obtain ⟨⟨e0, hw⟩, e3, -, hk, -, hc⟩ := hm
  have h1 := k_isGood (l := l) hG e0 e3 hk hp
  obtain ⟨h2, h3⟩ := hw (16 * p + 1) (by omega)
  rw [h2, hc p hp, dec_nI (by omega) (by have := pz_chk_lt w p; omega)] at h1
  exact h1
theorem k_word {l : Launch} {G : aw_G} (hG : gz G) {h : aw_H} {w : Nat → Nat} (hw : wz G w h) {p i : Nat} (hp : p < aw_n G) (hi : i < 16) : aw_I l G 1 Y_M_wordAt [.inl (some 1), .inr (nI p), .inr (nI i)] h (.inr (nI (w (16 * p + i)))) := by
  have h1 := k_wordAt (l := l) hG hw.1 hp hi
  rw [(hw.2 (16 * p + i) (by omega)).1] at h1
  exact h1
theorem k_isName {l : Launch} {G : aw_G} (hG : aw_ok G) (h : aw_H) (x : Int32) : aw_I l G 0 Y_S_isName [.inr x] h (.inr (bI (pz_small x 100))) := by
  refine aw_met hG (by decide) (Nat.le_of_ble_eq_true rfl) (fun M hM B E => ?_)
  show aw_X M G 1 0 [some (.inr x)] [] h
  refine ax_iload_n (q := 1) B d_S_isName_0 rfl rfl rfl ?_
  refine ax_if_lt (q := 14) (q2 := 4) B d_S_isName_1 rfl rfl (fun h1 => ?_) (fun h1 => ?_)
  · refine ax_iconst (v := nI 0) (q := 15) B d_S_isName_14 ci_0 rfl ?_
    refine ax_zret B E (by first | exact bI_or _ | decide) d_S_isName_15 ?_
    first | exact ⟨by rw [pz_small_1 h1]; rfl, rfl⟩ | exact ⟨by rw [pz_small_2 h7]; rfl, rfl⟩ | exact ⟨by rw [pz_small_t h1 h7]; rfl, rfl⟩
  · refine ax_iload_n (q := 5) B d_S_isName_4 rfl rfl rfl ?_
    refine ax_bipush (v := nI 100) (q := 7) B d_S_isName_5 cb_100 rfl ?_
    refine ax_icmp_ge (q := 14) (q2 := 10) B d_S_isName_7 rfl rfl (fun h7 => ?_) (fun h7 => ?_)
    · refine ax_iconst (v := nI 0) (q := 15) B d_S_isName_14 ci_0 rfl ?_
      refine ax_zret B E (by first | exact bI_or _ | decide) d_S_isName_15 ?_
      first | exact ⟨by rw [pz_small_1 h1]; rfl, rfl⟩ | exact ⟨by rw [pz_small_2 h7]; rfl, rfl⟩ | exact ⟨by rw [pz_small_t h1 h7]; rfl, rfl⟩
    · refine ax_iconst (v := nI 1) (q := 11) B d_S_isName_10 ci_1 rfl ?_
      refine ax_goto (q := 15) B d_S_isName_11 rfl ?_
      refine ax_zret B E (by first | exact bI_or _ | decide) d_S_isName_15 ?_
      first | exact ⟨by rw [pz_small_1 h1]; rfl, rfl⟩ | exact ⟨by rw [pz_small_2 h7]; rfl, rfl⟩ | exact ⟨by rw [pz_small_t h1 h7]; rfl, rfl⟩
theorem pz_ents_f {w : Nat → Nat} {p n : Nat} (h : pz_ents w p n = false) : ∀ m, pz_ents w p (n + m) = false
  | 0 => h
  | m + 1 => by
    show (pz_ents w p (n + m) && _) = false
    rw [pz_ents_f h m, Bool.false_and]
theorem k_isValid {l : Launch} {G : aw_G} (hG : gz G) {h : aw_H} {k sp : Nat} {w : Nat → Nat} (hm : mz G k sp w h) (hi : iz k w) {p : Nat} (hp : p < k) : aw_I l G 3 Y_S_isValidTable [.inl (some 0), .inr (nI p)] h (.inr (bI (pz_valid w p))) := by
  refine aw_met hG.1 (by decide) (Nat.le_of_ble_eq_true rfl) (fun M hM B E => ?_)
  show aw_X M G 4 0 [some (.inl (some 0)), some (.inr (nI p)), none, none] [] h
  have i0 := hG.is0
  have i1 := hG.is1
  have r0 : aw_rM 0 0 = some 1 := rfl
  have n2 := hG.2.2.2
  have hm' := hm
  obtain ⟨hw, e3, -, hk, -, hc⟩ := hm
  have hwl : ∀ i, i < 16 → w (16 * p + i) < 65536 := fun i hi => (hw.2 _ (by omega)).2
  have hw0 := hwl 0 (by omega)
  have w0 : w (16 * p + 0) = w (16 * p) := rfl
  have loop : w (16 * p) = 3 → pz_good w p = true → ∀ m j (u : Option aw_V), j + m = 8 → pz_ents w p j = true → aw_X M G 4 28 [some (.inl (some 0)), some (.inr (nI p)), some (.inr (nI j)), u] [] h := by
    intro h3 hg m
    have hv : pz_valid w p = pz_ents w p 8 := by unfold pz_valid; rw [h3, hg]; simp
    rw [hv] at E
    induction m with
    | zero =>
      intro j u hj hz
      have hj : j = 8 := by omega
      subst hj
      refine ax_iload_n (q := 29) B d_S_isValidTable_28 rfl rfl rfl ?_
      refine ax_bipush (v := nI 8) (q := 31) B d_S_isValidTable_29 cb_8 rfl ?_
      refine ax_icmpN_ge (q := 71) (q2 := 34) B (by omega) (by omega) d_S_isValidTable_31 rfl rfl (fun h31 => ?_) (fun h31 => ?_)
      · refine ax_iconst (v := nI 1) (q := 72) B d_S_isValidTable_71 ci_1 rfl ?_
        refine ax_zret B E (by first | exact bI_or _ | decide) d_S_isValidTable_72 ?_
        exact ⟨by rw [hz]; rfl, rfl⟩
      · omega
    | succ m ih =>
      intro j u hj hz
      obtain ⟨hn, -⟩ := hi p hp h3 j (by omega)
      have ej : nI (w (16 * p + (4 + j))) = nI (pz_nm w p j) := by unfold pz_nm; rw [Nat.add_assoc]
      have hs : pz_ents w p (j + 1) = (pz_nm w p j == 0 || pz_good w (pz_nm w p j - 1)) := by
        show (pz_ents w p j && _) = _
        rw [hz, Bool.true_and]
      refine ax_iload_n (q := 29) B d_S_isValidTable_28 rfl rfl rfl ?_
      refine ax_bipush (v := nI 8) (q := 31) B d_S_isValidTable_29 cb_8 rfl ?_
      refine ax_icmpN_ge (q := 71) (q2 := 34) B (by omega) (by omega) d_S_isValidTable_31 rfl rfl (fun h31 => ?_) (fun h31 => ?_)
      · omega
      · refine ax_aload_n (q := 35) B d_S_isValidTable_34 rfl rfl rfl ?_
        refine ax_getP (q := 38) B fl_S_23 rfl d_S_isValidTable_35 (by assumption) (by assumption) rfl ?_
        refine ax_iload_n (q := 39) B d_S_isValidTable_38 rfl rfl rfl ?_
        refine ax_iconst (v := nI 4) (q := 40) B d_S_isValidTable_39 ci_4 rfl ?_
        refine ax_iload_n (q := 41) B d_S_isValidTable_40 rfl rfl rfl ?_
        first | refine ax_iaddN (q := 42) B d_S_isValidTable_41 rfl ?_ | refine ax_iadd (q := 42) B d_S_isValidTable_41 rfl ?_
        refine ax_qV2 (q := 45) B cv_S_166 d_S_isValidTable_42 (by assumption) (Nat.le_of_ble_eq_true rfl) (by decide) (k_word hG hw (by omega) (by omega)) rfl ?_
        refine ax_top ej ?_
        refine ax_istore_n (q := 46) B d_S_isValidTable_45 rfl (by decide) rfl ?_
        refine ax_iload_n (q := 47) B d_S_isValidTable_46 rfl rfl rfl ?_
        refine ax_ifN_eq (q := 65) (q2 := 50) B (by omega) d_S_isValidTable_47 rfl rfl (fun h47 => ?_) (fun h47 => ?_)
        · refine ax_iincN (j := 1) (q := 68) B d_S_isValidTable_65 rfl ii_1 (by decide) rfl ?_
          refine ax_goto (q := 28) B d_S_isValidTable_68 rfl ?_
          refine ih (j + 1) _ (by omega) ?_
          rw [hs]
          first | (rw [h60]; simp; done) | (rw [h47]; simp)
        · refine ax_aload_n (q := 51) B d_S_isValidTable_50 rfl rfl rfl ?_
          refine ax_getP (q := 54) B fl_S_23 rfl d_S_isValidTable_51 (by assumption) (by assumption) rfl ?_
          refine ax_iload_n (q := 55) B d_S_isValidTable_54 rfl rfl rfl ?_
          refine ax_iconst (v := nI 1) (q := 56) B d_S_isValidTable_55 ci_1 rfl ?_
          refine ax_isubN (q := 57) B (by omega) d_S_isValidTable_56 rfl ?_
          refine ax_qV1 (q := 60) B cv_S_163 d_S_isValidTable_57 (by assumption) (Nat.le_of_ble_eq_true rfl) (by decide) (k_good hG hm' (by omega)) rfl ?_
          refine ax_ifZ_ne (q := 65) (q2 := 63) B d_S_isValidTable_60 rfl rfl (fun h60 => ?_) (fun h60 => ?_)
          · refine ax_iincN (j := 1) (q := 68) B d_S_isValidTable_65 rfl ii_1 (by decide) rfl ?_
            refine ax_goto (q := 28) B d_S_isValidTable_68 rfl ?_
            refine ih (j + 1) _ (by omega) ?_
            rw [hs]
            first | (rw [h60]; simp; done) | (rw [h47]; simp)
          · refine ax_iconst (v := nI 0) (q := 64) B d_S_isValidTable_63 ci_0 rfl ?_
            refine ax_zret B E (by first | exact bI_or _ | decide) d_S_isValidTable_64 ?_
            exact ⟨by rw [show (8 : Nat) = j + 1 + m by omega, pz_ents_f (by rw [hs, h60, pz_beq_ne (by omega)]; rfl) m]; rfl, rfl⟩
  refine ax_aload_n (q := 1) B d_S_isValidTable_0 rfl rfl rfl ?_
  refine ax_getP (q := 4) B fl_S_23 rfl d_S_isValidTable_1 (by assumption) (by assumption) rfl ?_
  refine ax_iload_n (q := 5) B d_S_isValidTable_4 rfl rfl rfl ?_
  refine ax_iconst (v := nI 0) (q := 6) B d_S_isValidTable_5 ci_0 rfl ?_
  refine ax_qV2 (q := 9) B cv_S_166 d_S_isValidTable_6 (by assumption) (Nat.le_of_ble_eq_true rfl) (by decide) (k_word hG hw (by omega) (by omega)) rfl ?_
  refine ax_iconst (v := nI 3) (q := 10) B d_S_isValidTable_9 ci_3 rfl ?_
  refine ax_icmpN_ne (q := 24) (q2 := 13) B (by omega) (by omega) d_S_isValidTable_10 rfl rfl (fun h10 => ?_) (fun h10 => ?_)
  · refine ax_iconst (v := nI 0) (q := 25) B d_S_isValidTable_24 ci_0 rfl ?_
    refine ax_zret B E (by first | exact bI_or _ | decide) d_S_isValidTable_25 ?_
    first | exact ⟨by unfold pz_valid; rw [h21]; simp; rfl, rfl⟩ | exact ⟨by unfold pz_valid; rw [show (w (16 * p) == 3) = false from pz_beq_ne h10]; rfl, rfl⟩
  · refine ax_aload_n (q := 14) B d_S_isValidTable_13 rfl rfl rfl ?_
    refine ax_getP (q := 17) B fl_S_23 rfl d_S_isValidTable_14 (by assumption) (by assumption) rfl ?_
    refine ax_iload_n (q := 18) B d_S_isValidTable_17 rfl rfl rfl ?_
    refine ax_qV1 (q := 21) B cv_S_163 d_S_isValidTable_18 (by assumption) (Nat.le_of_ble_eq_true rfl) (by decide) (k_good hG hm' hp) rfl ?_
    refine ax_ifZ_ne (q := 26) (q2 := 24) B d_S_isValidTable_21 rfl rfl (fun h21 => ?_) (fun h21 => ?_)
    · refine ax_iconst (v := nI 0) (q := 27) B d_S_isValidTable_26 ci_0 rfl ?_
      refine ax_istore_n (q := 28) B d_S_isValidTable_27 rfl (by decide) rfl ?_
      exact loop h10 h21 8 0 _ rfl rfl
    · refine ax_iconst (v := nI 0) (q := 25) B d_S_isValidTable_24 ci_0 rfl ?_
      refine ax_zret B E (by first | exact bI_or _ | decide) d_S_isValidTable_25 ?_
      first | exact ⟨by unfold pz_valid; rw [h21]; simp; rfl, rfl⟩ | exact ⟨by unfold pz_valid; rw [show (w (16 * p) == 3) = false from pz_beq_ne h10]; rfl, rfl⟩
theorem k_newestTable {l : Launch} {G : aw_G} (hG : gz G) {h : aw_H} {k sp : Nat} {w : Nat → Nat} (hm : mz G k sp w h) (hi : iz k w) : aw_I l G 4 Y_S_newestTable [.inl (some 0)] h (.inr (oI (pz_newest w k))) := by
  refine aw_met hG.1 (by decide) (Nat.le_of_ble_eq_true rfl) (fun M hM B E => ?_)
  show aw_X M G 2 0 [some (.inl (some 0)), none] [] h
  have i0 := hG.is0
  have i1 := hG.is1
  have r0 : aw_rM 0 0 = some 1 := rfl
  have n2 := hG.2.2.2
  have hm' := hm
  obtain ⟨hw, e3, -, hk, -, hc⟩ := hm
  have loop : ∀ j, j ≤ k → pz_newest w k = pz_newest w j → aw_X M G 2 10 [some (.inl (some 0)), some (.inr (nI j + (-1)))] [] h := by
    intro j
    induction j with
    | zero =>
      intro _ he
      rw [he] at E
      refine ax_iload_n (q := 11) B d_S_newestTable_10 rfl rfl rfl ?_
      refine ax_if_lt (q := 30) (q2 := 14) B d_S_newestTable_11 rfl rfl (fun h11 => ?_) (fun h11 => ?_)
      · refine ax_iconst (v := (-1)) (q := 31) B d_S_newestTable_30 ci_m1 rfl ?_
        refine ax_iret B E d_S_newestTable_31 ?_
        exact ⟨rfl, rfl⟩
      · exact absurd (show (nI 0 + (-1) : Int32) < 0 by decide) h11
    | succ j ih =>
      intro hj he
      have hs : pz_newest w (j + 1) = if pz_valid w j = true then some j else pz_newest w j := rfl
      rw [pk_m1]
      refine ax_iload_n (q := 11) B d_S_newestTable_10 rfl rfl rfl ?_
      refine ax_ifN_lt (q := 30) (q2 := 14) B (by omega) d_S_newestTable_11 rfl rfl ?_
      refine ax_aload_n (q := 15) B d_S_newestTable_14 rfl rfl rfl ?_
      refine ax_iload_n (q := 16) B d_S_newestTable_15 rfl rfl rfl ?_
      refine ax_qV1 (q := 19) B cv_S_149 d_S_newestTable_16 (by assumption) (Nat.le_of_ble_eq_true rfl) (by decide) (k_isValid hG hm' hi (by omega)) rfl ?_
      refine ax_ifZ_eq (q := 24) (q2 := 22) B d_S_newestTable_19 rfl rfl (fun h19 => ?_) (fun h19 => ?_)
      · refine ax_iinc (v := nI j + (-1)) (q := 27) B d_S_newestTable_24 rfl rfl (by decide) rfl ?_
        refine ax_goto (q := 10) B d_S_newestTable_27 rfl ?_
        exact ih (by omega) (by rw [he, hs, if_neg (by rw [h19]; decide)])
      · refine ax_iload_n (q := 23) B d_S_newestTable_22 rfl rfl rfl ?_
        refine ax_iret B E d_S_newestTable_23 ?_
        exact ⟨by rw [he, hs, if_pos h19]; rfl, rfl⟩
  refine ax_aload_n (q := 1) B d_S_newestTable_0 rfl rfl rfl ?_
  refine ax_getP (q := 4) B fl_S_23 rfl d_S_newestTable_1 (by assumption) (by assumption) rfl ?_
  refine ax_getN (q := 7) B fl_S_84 rfl d_S_newestTable_4 (by assumption) (by first | assumption | rfl) rfl ?_
  refine ax_iconst (v := nI 1) (q := 8) B d_S_newestTable_7 ci_1 rfl ?_
  refine ax_isub (q := 9) B d_S_newestTable_8 rfl ?_
  refine ax_top (show nI k - nI 1 = nI k + (-1) from Int32.sub_eq_add_neg _ _) ?_
  refine ax_istore_n (q := 10) B d_S_newestTable_9 rfl (by decide) rfl ?_
  exact loop k (Nat.le_refl k) rfl
theorem k_newestNumber {l : Launch} {G : aw_G} (hG : gz G) {h : aw_H} {k sp : Nat} {w : Nat → Nat} (hm : mz G k sp w h) (hi : iz k w) : aw_I l G 5 Y_S_newestNumber [.inl (some 0)] h (.inr (nI (pz_num w k))) := by
  refine aw_met hG.1 (by decide) (Nat.le_of_ble_eq_true rfl) (fun M hM B E => ?_)
  show aw_X M G 2 0 [some (.inl (some 0)), none] [] h
  have i0 := hG.is0
  have i1 := hG.is1
  have r0 : aw_rM 0 0 = some 1 := rfl
  have n2 := hG.2.2.2
  have hC := k_newestTable (l := M.2.1) hG hm hi
  have hw := hm.1
  have hk := hm.2.2.2.1
  refine ax_aload_n (q := 1) B d_S_newestNumber_0 rfl rfl rfl ?_
  refine ax_qV0 (q := 4) B cv_S_179 d_S_newestNumber_1 (by assumption) (Nat.le_of_ble_eq_true rfl) (by decide) hC rfl ?_
  unfold pz_num at E
  cases hx : pz_newest w k with
  | none =>
    rw [hx] at E
    refine ax_istore_n (q := 5) B d_S_newestNumber_4 rfl (by decide) rfl ?_
    refine ax_iload_n (q := 6) B d_S_newestNumber_5 rfl rfl rfl ?_
    refine ax_iconst (v := (-1)) (q := 7) B d_S_newestNumber_6 ci_m1 rfl ?_
    refine ax_icmp_ne (q := 14) (q2 := 10) B d_S_newestNumber_7 rfl rfl (fun h7 => ?_) (fun h7 => ?_)
    · exact absurd rfl h7
    · refine ax_iconst (v := nI 0) (q := 11) B d_S_newestNumber_10 ci_0 rfl ?_
      refine ax_goto (q := 23) B d_S_newestNumber_11 rfl ?_
      refine ax_iret B E d_S_newestNumber_23 ?_
      exact ⟨rfl, rfl⟩
  | some p =>
    rw [hx] at E
    have hp := (pz_newest_lt k hx).1
    show aw_X M G 2 4 [some (.inl (some 0)), none] [.inr (nI p)] h
    refine ax_istore_n (q := 5) B d_S_newestNumber_4 rfl (by decide) rfl ?_
    refine ax_iload_n (q := 6) B d_S_newestNumber_5 rfl rfl rfl ?_
    refine ax_iconst (v := (-1)) (q := 7) B d_S_newestNumber_6 ci_m1 rfl ?_
    refine ax_icmp_ne (q := 14) (q2 := 10) B d_S_newestNumber_7 rfl rfl (fun h7 => ?_) (fun h7 => ?_)
    · refine ax_aload_n (q := 15) B d_S_newestNumber_14 rfl rfl rfl ?_
      refine ax_getP (q := 18) B fl_S_23 rfl d_S_newestNumber_15 (by assumption) (by assumption) rfl ?_
      refine ax_iload_n (q := 19) B d_S_newestNumber_18 rfl rfl rfl ?_
      refine ax_iconst (v := nI 3) (q := 20) B d_S_newestNumber_19 ci_3 rfl ?_
      refine ax_qV2 (q := 23) B cv_S_166 d_S_newestNumber_20 (by assumption) (Nat.le_of_ble_eq_true rfl) (by decide) (k_word hG hw (by omega) (by omega)) rfl ?_
      refine ax_iret B E d_S_newestNumber_23 ?_
      exact ⟨rfl, rfl⟩
    · exact absurd h7 (nI_nm1 (by omega))
theorem pz_tabAt_s {w : Nat → Nat} {a : Int32} {p : Nat} (h : pz_tabAt w a p = none) : pz_tabAt w a (p + 1) = if pz_valid w p = true ∧ nI (pz_tabs w (p + 1)) = a then some p else none := by
  show (match pz_tabAt w a p with | some q => some q | none => if pz_valid w p = true ∧ nI (pz_tabs w (p + 1)) = a then some p else none) = _
  rw [h]
theorem pz_tabAt_m {w : Nat → Nat} {a : Int32} {p q : Nat} (h : pz_tabAt w a p = some q) : ∀ m, pz_tabAt w a (p + m) = some q
  | 0 => h
  | m + 1 => by
    show (match pz_tabAt w a (p + m) with | some q => some q | none => if pz_valid w (p + m) = true ∧ nI (pz_tabs w (p + m + 1)) = a then some (p + m) else none) = _
    rw [pz_tabAt_m h m]
theorem k_tablePlace {l : Launch} {G : aw_G} (hG : gz G) {h : aw_H} {k sp : Nat} {w : Nat → Nat} (hm : mz G k sp w h) (hi : iz k w) (x : Int32) : aw_I l G 4 Y_S_tablePlace [.inl (some 0), .inr x] h (.inr (oI (pz_tabAt w x k))) := by
  refine aw_met hG.1 (by decide) (Nat.le_of_ble_eq_true rfl) (fun M hM B E => ?_)
  show aw_X M G 4 0 [some (.inl (some 0)), some (.inr x), none, none] [] h
  have i0 := hG.is0
  have i1 := hG.is1
  have r0 : aw_rM 0 0 = some 1 := rfl
  have n2 := hG.2.2.2
  have hm' := hm
  obtain ⟨hw, e3, -, hk, -, hc⟩ := hm
  have loop : ∀ m j, j + m = k → pz_tabAt w x j = none → aw_X M G 4 4 [some (.inl (some 0)), some (.inr x), some (.inr (nI (pz_tabs w j))), some (.inr (nI j))] [] h := by
    intro m
    induction m with
    | zero =>
      intro j hj hz
      have hj : j = k := by omega
      subst hj
      refine ax_iload_n (q := 5) B d_S_tablePlace_4 rfl rfl rfl ?_
      refine ax_aload_n (q := 6) B d_S_tablePlace_5 rfl rfl rfl ?_
      refine ax_getP (q := 9) B fl_S_23 rfl d_S_tablePlace_6 (by assumption) (by assumption) rfl ?_
      refine ax_getN (q := 12) B fl_S_84 rfl d_S_tablePlace_9 (by assumption) (by first | assumption | rfl) rfl ?_
      refine ax_icmpN_ge (q := 39) (q2 := 15) B (by omega) (by omega) d_S_tablePlace_12 rfl rfl (fun h12 => ?_) (fun h12 => ?_)
      · refine ax_iconst (v := (-1)) (q := 40) B d_S_tablePlace_39 ci_m1 rfl ?_
        refine ax_iret B E d_S_tablePlace_40 ?_
        exact ⟨by rw [hz]; rfl, rfl⟩
      · omega
    | succ m ih =>
      intro j hj hz
      have hs := pz_tabAt_s hz
      have h3 := ih (j + 1) (by omega)
      have ht : pz_tabs w (j + 1) = pz_tabs w j + (if pz_valid w j = true then 1 else 0) := rfl
      refine ax_iload_n (q := 5) B d_S_tablePlace_4 rfl rfl rfl ?_
      refine ax_aload_n (q := 6) B d_S_tablePlace_5 rfl rfl rfl ?_
      refine ax_getP (q := 9) B fl_S_23 rfl d_S_tablePlace_6 (by assumption) (by assumption) rfl ?_
      refine ax_getN (q := 12) B fl_S_84 rfl d_S_tablePlace_9 (by assumption) (by first | assumption | rfl) rfl ?_
      refine ax_icmpN_ge (q := 39) (q2 := 15) B (by omega) (by omega) d_S_tablePlace_12 rfl rfl (fun h12 => ?_) (fun h12 => ?_)
      · omega
      · refine ax_aload_n (q := 16) B d_S_tablePlace_15 rfl rfl rfl ?_
        refine ax_iload_n (q := 17) B d_S_tablePlace_16 rfl rfl rfl ?_
        refine ax_qV1 (q := 20) B cv_S_149 d_S_tablePlace_17 (by assumption) (Nat.le_of_ble_eq_true rfl) (by decide) (k_isValid hG hm' hi (by omega)) rfl ?_
        refine ax_ifZ_eq (q := 33) (q2 := 23) B d_S_tablePlace_20 rfl rfl (fun h20 => ?_) (fun h20 => ?_)
        · refine ax_iincN (j := 1) (q := 36) B d_S_tablePlace_33 rfl ii_1 (by decide) rfl ?_
          refine ax_goto (q := 4) B d_S_tablePlace_36 rfl ?_
          rw [ht, h20] at h3 hs
          first | exact h3 (by rw [hs]; exact if_neg (fun z => h28 z.2)) | exact h3 (by rw [hs]; exact if_neg (fun z => Bool.noConfusion z.1))
        · refine ax_iincN (j := 1) (q := 26) B d_S_tablePlace_23 rfl ii_1 (by decide) rfl ?_
          refine ax_iload_n (q := 27) B d_S_tablePlace_26 rfl rfl rfl ?_
          refine ax_iload_n (q := 28) B d_S_tablePlace_27 rfl rfl rfl ?_
          refine ax_icmp_ne (q := 33) (q2 := 31) B d_S_tablePlace_28 rfl rfl (fun h28 => ?_) (fun h28 => ?_)
          · refine ax_iincN (j := 1) (q := 36) B d_S_tablePlace_33 rfl ii_1 (by decide) rfl ?_
            refine ax_goto (q := 4) B d_S_tablePlace_36 rfl ?_
            rw [ht, h20] at h3 hs
            first | exact h3 (by rw [hs]; exact if_neg (fun z => h28 z.2)) | exact h3 (by rw [hs]; exact if_neg (fun z => Bool.noConfusion z.1))
          · refine ax_iload_n (q := 32) B d_S_tablePlace_31 rfl rfl rfl ?_
            refine ax_iret B E d_S_tablePlace_32 ?_
            exact ⟨by rw [show k = j + 1 + m by omega, pz_tabAt_m (by rw [hs]; exact if_pos ⟨h20, by rw [ht, h20]; exact h28⟩) m]; rfl, rfl⟩
  refine ax_iconst (v := nI 0) (q := 1) B d_S_tablePlace_0 ci_0 rfl ?_
  refine ax_istore_n (q := 2) B d_S_tablePlace_1 rfl (by decide) rfl ?_
  refine ax_iconst (v := nI 0) (q := 3) B d_S_tablePlace_2 ci_0 rfl ?_
  refine ax_istore_n (q := 4) B d_S_tablePlace_3 rfl (by decide) rfl ?_
  exact loop k 0 (by omega) rfl
end
section
/- writing a sector -/
theorem pz_sec_congr {w f g : Nat → Nat} {k : Nat} {b : Bool} (h : ∀ i, i < 16 → i ≠ 1 → f i = g i) : pz_sec w k f b = pz_sec w k g b := by
  funext x
  unfold pz_sec pz_put
  rw [pz_chkN_ext 16 h]
  by_cases h1 : x = 16 * k + 1
  · rw [if_pos h1, if_pos h1]
  · rw [if_neg h1, if_neg h1]
    by_cases h2 : 16 * k ≤ x ∧ x < 16 * k + 16
    · rw [if_pos h2, if_pos h2, h (x - 16 * k) (by omega) (by omega)]
    · rw [if_neg h2, if_neg h2]
/-- the medium while sector k is being laid: its words so far are f -/
def dz (G : aw_G) (k sp : Nat) (w f : Nat → Nat) (h : aw_H) : Prop := h 1 0 = nI (aw_n G) ∧ h 1 3 = nI k ∧ h 1 4 = nI sp + (-1) ∧ k < aw_n G ∧ sp ≤ 1001 ∧ (∀ p, p < k → h 3 p = nI (pz_chk w p)) ∧ (∀ x, x < 16 * aw_n G → x < 16 * k ∨ 16 * k + 16 ≤ x → h 2 x = nI (w x) ∧ w x < 65536) ∧ ∀ i, i < 16 → i ≠ 1 → h 2 (16 * k + i) = nI (f i) ∧ f i < 65536
theorem dz.put {G : aw_G} {k sp i v : Nat} {w f : Nat → Nat} {h : aw_H} (hd : dz G k sp w f h) (hi : i < 16) (hv : v < 65536) : dz G k sp w (pz_up f i v) (aw_u h 2 (16 * k + i) (nI v)) := by
  obtain ⟨a1, a2, a3, a4, a5, a6, a7, a8⟩ := hd
  refine ⟨a1, a2, a3, a4, a5, fun p hp => a6 p hp, fun x hx ho => ⟨aw_rd (by omega) (a7 x hx ho).1, (a7 x hx ho).2⟩, fun j hj h1 => ?_⟩
  by_cases hij : j = i
  · subst hij
    rw [pz_up_s]
    exact ⟨aw_rs, hv⟩
  · rw [pz_up_n hij]
    exact ⟨aw_rd (by omega) (a8 j hj h1).1, (a8 j hj h1).2⟩
theorem mz.dz {G : aw_G} {k sp : Nat} {w : Nat → Nat} {h : aw_H} (hm : mz G k sp w h) (hk : k < aw_n G) (h0 : ∀ x, 16 * k ≤ x → w x = 0) : dz G k sp w (fun _ => 0) h := by
  obtain ⟨⟨a1, a2⟩, a3, a4, a5, a6, a7⟩ := hm
  exact ⟨a1, a3, a4, hk, a6, a7, fun x hx _ => a2 x hx, fun i hi _ => ⟨by rw [(a2 (16 * k + i) (by omega)).1, h0 _ (by omega)], by show (0 : Nat) < 65536; omega⟩⟩
theorem kk_put {l : Launch} {G : aw_G} (hG : gz G) {h : aw_H} {k sp i v : Nat} {w f : Nat → Nat} (hd : dz G k sp w f h) (hi : i < 16) (hv : v < 65536) : aw_P l G 1 Y_M_put [.inl (some 1), .inr (nI i), .inr (nI v)] h (fun h' => dz G k sp w (pz_up f i v) h' ∧ ∀ q, q ≠ 2 → h' q = h q) := by
  have h1 := k_put (l := l) hG hd.1 hd.2.1 hd.2.2.2.1 hi (nI v)
  refine aw_mono h1 (fun r h' hr => ⟨hr.1, ?_⟩)
  rw [hr.2]
  exact ⟨hd.put hi hv, fun q hq => aw_u_ne hq⟩
theorem kk_begin {l : Launch} {G : aw_G} (hG : gz G) {h : aw_H} {k sp a b : Nat} {w : Nat → Nat} (hm : mz G k sp w h) (hk : k < aw_n G) (h0 : ∀ x, 16 * k ≤ x → w x = 0) (ha : a < 65536) (hb : b < 65536) : aw_P l G 2 Y_M_begin [.inl (some 1), .inr (nI a), .inr (nI b)] h (fun h' => dz G k sp w (pz_up (pz_up (pz_up (fun _ => 0) 0 a) 2 k) 3 b) h' ∧ ∀ q, q ≠ 2 → h' q = h q) := by
  have hd := hm.dz hk h0
  have n2 := hG.2.2.2
  have h1 := k_begin (l := l) hG hd.1 hd.2.1 hd.2.2.2.1 (nI a) (nI b)
  refine aw_mono h1 (fun r h' hr => ⟨hr.1, ?_⟩)
  rw [hr.2]
  exact ⟨((hd.put (by omega) ha).put (by omega) (by omega)).put (by omega) hb, fun q hq => by rw [aw_u_ne hq, aw_u_ne hq, aw_u_ne hq]⟩
theorem kk_finish {l : Launch} {G : aw_G} (hG : gz G) {h : aw_H} {k sp : Nat} {w f : Nat → Nat} (hd : dz G k sp w f h) : aw_F l G 3 Y_M_finish [.inl (some 1)] h (fun v h' => v = .inr (bI (decide (sp ≠ 1))) ∧ mz G (k + 1) (sp - 1) (pz_sec w k f (sp == 1)) h' ∧ ∀ q, 4 ≤ q ∨ q = 0 → h' q = h q) := by
  obtain ⟨a1, a2, a3, a4, a5, a6, a7, a8⟩ := hd
  have h1 := k_finish (l := l) hG a1 a2 a3 a4 a5 (f := f) (fun i hi h1 => ⟨(a8 i hi h1).1, by have := (a8 i hi h1).2; omega⟩)
  have hcl := pz_chkN_lt f 16
  have hk1 : pz_sec w k f (sp == 1) (16 * k + 1) = (if sp = 1 then pz_chkN f 16 ^^^ 1 else pz_chkN f 16) := by
    rw [pz_sec_1]
    by_cases hs : sp = 1
    · rw [if_pos hs, if_pos (by rw [hs]; rfl)]
    · rw [if_neg hs, if_neg (by rw [pz_beq_ne hs]; decide)]
  have hk2 : pz_chk (pz_sec w k f (sp == 1)) k = pz_chkN f 16 := pz_chk_new
  have hk3 : ∀ p, p < k → pz_chk (pz_sec w k f (sp == 1)) p = pz_chk w p := fun p hp => pz_chk_old hp
  have hk4 : ∀ x, x < 16 * k ∨ 16 * k + 16 ≤ x → pz_sec w k f (sp == 1) x = w x := fun x hx => by
    rcases hx with h2 | h2
    · exact pz_sec_old h2
    · exact pz_sec_far h2
  have hk5 : ∀ i, i < 16 → i ≠ 1 → pz_sec w k f (sp == 1) (16 * k + i) = f i := fun i hi h1 => pz_sec_new hi h1
  generalize pz_chkN f 16 = c at h1 hcl hk1 hk2
  unfold hz_fin at h1
  generalize pz_sec w k f (sp == 1) = w' at hk1 hk2 hk3 hk4 hk5 ⊢
  have hcx : c ^^^ 1 < 65536 := pz_xor_lt (j := 16) (by omega) (by omega)
  generalize c ^^^ 1 = c1 at h1 hk1 hcx
  have hy : (if sp = 1 then c1 else c) < 65536 := by split <;> omega
  refine aw_mono h1 (fun r h' hr => ?_)
  obtain ⟨v, hv, e1, e2⟩ := hr
  refine ⟨v, hv, e1, ?_⟩
  subst e2
  refine ⟨⟨⟨a1, fun x hx => ?_⟩, ?_, ?_, by omega, by omega, fun p hp => ?_⟩, fun q hq => ?_⟩
  · by_cases hx1 : x = 16 * k + 1
    · subst hx1
      rw [hk1]
      exact ⟨aw_rd (by omega) (aw_rd (by omega) aw_rs), hy⟩
    · by_cases hx2 : x < 16 * k ∨ 16 * k + 16 ≤ x
      · rw [hk4 x hx2]
        exact ⟨aw_rd (by omega) (aw_rd (by omega) (aw_rd (by omega) (aw_rd (by omega) (a7 x hx hx2).1))), (a7 x hx hx2).2⟩
      · obtain ⟨i, hi⟩ : ∃ i, x = 16 * k + i := ⟨x - 16 * k, by omega⟩
        subst hi
        rw [hk5 i (by omega) (by omega)]
        exact ⟨aw_rd (by omega) (aw_rd (by omega) (aw_rd (by omega) (aw_rd (by omega) (a8 i (by omega) (by omega)).1))), (a8 i (by omega) (by omega)).2⟩
  · exact aw_rd (by omega) aw_rs
  · exact aw_rs
  · by_cases hpk : p = k
    · subst hpk
      rw [hk2]
      exact aw_rd (by omega) (aw_rd (by omega) (aw_rd (by omega) aw_rs))
    · rw [hk3 p (by omega)]
      exact aw_rd (by omega) (aw_rd (by omega) (aw_rd (by omega) (aw_rd (by omega) (a6 p (by omega)))))
  · rw [aw_u_ne (by omega), aw_u_ne (by omega), aw_u_ne (by omega), aw_u_ne (by omega)]
theorem k_readBack {l : Launch} {G : aw_G} (hG : gz G) {h : aw_H} {k sp : Nat} {w : Nat → Nat} (hm : mz G k sp w h) (hi : iz k w) : aw_P l G 5 Y_S_readBack [.inl (some 0)] h (fun h' => hz_T 4 (pz_back w k) h' ∧ ∀ q, q < 6 ∨ 22 ≤ q → h' q = h q) := by
  refine aw_met hG.1 (by decide) (Nat.le_of_ble_eq_true rfl) (fun M hM B E => ?_)
  show aw_X M G 2 0 [some (.inl (some 0)), none] [] h
  have i0 := hG.is0
  have i1 := hG.is1
  have i4 := hG.t4.2.1
  have r0 : aw_rM 0 0 = some 1 := rfl
  have r1 : aw_rM 0 1 = some 4 := rfl
  have n2 := hG.2.2.2
  have hk := hm.2.2.2.1
  have hC := k_newestTable (l := M.2.1) hG hm hi
  refine ax_aload_n (q := 1) B d_S_readBack_0 rfl rfl rfl ?_
  refine ax_qV0 (q := 4) B cv_S_179 d_S_readBack_1 (by assumption) (Nat.le_of_ble_eq_true rfl) (by decide) hC rfl ?_
  unfold pz_back at E
  cases hx : pz_newest w k with
  | none =>
    rw [hx] at E
    refine ax_istore_n (q := 5) B d_S_readBack_4 rfl (by decide) rfl ?_
    refine ax_iload_n (q := 6) B d_S_readBack_5 rfl rfl rfl ?_
    refine ax_iconst (v := (-1)) (q := 7) B d_S_readBack_6 ci_m1 rfl ?_
    refine ax_icmp_ne (q := 20) (q2 := 10) B d_S_readBack_7 rfl rfl (fun h7 => ?_) (fun h7 => ?_)
    · exact absurd rfl h7
    · refine ax_aload_n (q := 11) B d_S_readBack_10 rfl rfl rfl ?_
      refine ax_getP (q := 14) B fl_S_30 rfl d_S_readBack_11 (by assumption) (by assumption) rfl ?_
      refine ax_pV0 (q := 17) B cv_S_37 d_S_readBack_14 (by assumption) (Nat.le_of_ble_eq_true rfl) (by decide) (k_becomeEmpty hG.1 hG.t4 h) rfl (fun f1 hf1 => ?_)
      refine ax_goto (q := 32) B d_S_readBack_17 rfl ?_
      refine ax_vret B E d_S_readBack_32 ?_
      exact ⟨rfl, hf1⟩
  | some p =>
    rw [hx] at E
    obtain ⟨hp, hv⟩ := pz_newest_lt k hx
    show aw_X M G 2 4 [some (.inl (some 0)), none] [.inr (nI p)] h
    refine ax_istore_n (q := 5) B d_S_readBack_4 rfl (by decide) rfl ?_
    refine ax_iload_n (q := 6) B d_S_readBack_5 rfl rfl rfl ?_
    refine ax_iconst (v := (-1)) (q := 7) B d_S_readBack_6 ci_m1 rfl ?_
    refine ax_icmp_ne (q := 20) (q2 := 10) B d_S_readBack_7 rfl rfl (fun h7 => ?_) (fun h7 => ?_)
    · refine ax_aload_n (q := 21) B d_S_readBack_20 rfl rfl rfl ?_
      refine ax_getP (q := 24) B fl_S_30 rfl d_S_readBack_21 (by assumption) (by assumption) rfl ?_
      refine ax_aload_n (q := 25) B d_S_readBack_24 rfl rfl rfl ?_
      refine ax_getP (q := 28) B fl_S_23 rfl d_S_readBack_25 (by assumption) (by assumption) rfl ?_
      refine ax_iload_n (q := 29) B d_S_readBack_28 rfl rfl rfl ?_
      refine ax_pV2 (q := 32) B cv_S_182 d_S_readBack_29 (by assumption) (Nat.le_of_ble_eq_true rfl) (by decide) (k_tbecome hG hG.t4 hm.1 (hi.rz hk hp (pz_valid_3 hv))) rfl (fun f1 hf1 => ?_)
      refine ax_vret B E d_S_readBack_32 ?_
      exact ⟨rfl, hf1⟩
    · exact absurd h7 (nI_nm1 (by omega))
/-- the tree that is seen at x when x isn't 0 -/
def pz_past (w : Nat → Nat) (x : Int32) (k : Nat) : pz_T := match pz_tabAt w x k with
  | none => pz_none
  | some p => pz_read w p
theorem k_treeAt {l : Launch} {G : aw_G} (hG : gz G) {h : aw_H} {k sp : Nat} {w : Nat → Nat} (hm : mz G k sp w h) (hi : iz k w) (x : Int32) : aw_F l G 5 Y_S_treeAt [.inl (some 0), .inr x] h (fun v h' => (x = 0 ∧ v = .inl (some 4) ∧ h' = h) ∨ (x ≠ 0 ∧ v = .inl (some 22) ∧ hz_T 22 (pz_past w x k) h' ∧ ∀ q, q < 24 ∨ 40 ≤ q → h' q = h q)) := by
  refine aw_met hG.1 (by decide) (Nat.le_of_ble_eq_true rfl) (fun M hM B E => ?_)
  show aw_X M G 3 0 [some (.inl (some 0)), some (.inr x), none] [] h
  have i0 := hG.is0
  have i1 := hG.is1
  have i22 := hG.t22.2.1
  have r0 : aw_rM 0 0 = some 1 := rfl
  have r1 : aw_rM 0 1 = some 4 := rfl
  have r2 : aw_rM 0 2 = some 22 := rfl
  have n2 := hG.2.2.2
  have hk := hm.2.2.2.1
  have hC := k_tablePlace (l := M.2.1) hG hm hi x
  unfold pz_past at E
  have tail : x ≠ 0 → aw_X M G 3 14 [some (.inl (some 0)), some (.inr x), none] [.inr (oI (pz_tabAt w x k))] h := by
    intro hx0
    cases hx : pz_tabAt w x k with
    | none =>
      rw [hx] at E
      refine ax_istore_n (q := 15) B d_S_treeAt_14 rfl (by decide) rfl ?_
      refine ax_iload_n (q := 16) B d_S_treeAt_15 rfl rfl rfl ?_
      refine ax_iconst (v := (-1)) (q := 17) B d_S_treeAt_16 ci_m1 rfl ?_
      refine ax_icmp_ne (q := 30) (q2 := 20) B d_S_treeAt_17 rfl rfl (fun h17 => ?_) (fun h17 => ?_)
      · exact absurd rfl h17
      · refine ax_aload_n (q := 21) B d_S_treeAt_20 rfl rfl rfl ?_
        refine ax_getP (q := 24) B fl_S_34 rfl d_S_treeAt_21 (by assumption) (by assumption) rfl ?_
        refine ax_pV0 (q := 27) B cv_S_189 d_S_treeAt_24 (by assumption) (Nat.le_of_ble_eq_true rfl) (by decide) (k_becomeNothing hG.1 hG.t22 h) rfl (fun f1 hf1 => ?_)
        refine ax_goto (q := 42) B d_S_treeAt_27 rfl ?_
        refine ax_aload_n (q := 43) B d_S_treeAt_42 rfl rfl rfl ?_
        refine ax_getP (q := 46) B fl_S_34 rfl d_S_treeAt_43 (by assumption) (by assumption) rfl ?_
        refine ax_aret B E d_S_treeAt_46 ?_
        exact ⟨_, rfl, Or.inr ⟨hx0, rfl, hf1⟩⟩
    | some p =>
      rw [hx] at E
      obtain ⟨hp, hv⟩ := pz_tabAt_lt k hx
      show aw_X M G 3 14 [some (.inl (some 0)), some (.inr x), none] [.inr (nI p)] h
      refine ax_istore_n (q := 15) B d_S_treeAt_14 rfl (by decide) rfl ?_
      refine ax_iload_n (q := 16) B d_S_treeAt_15 rfl rfl rfl ?_
      refine ax_iconst (v := (-1)) (q := 17) B d_S_treeAt_16 ci_m1 rfl ?_
      refine ax_icmp_ne (q := 30) (q2 := 20) B d_S_treeAt_17 rfl rfl (fun h17 => ?_) (fun h17 => ?_)
      · refine ax_aload_n (q := 31) B d_S_treeAt_30 rfl rfl rfl ?_
        refine ax_getP (q := 34) B fl_S_34 rfl d_S_treeAt_31 (by assumption) (by assumption) rfl ?_
        refine ax_aload_n (q := 35) B d_S_treeAt_34 rfl rfl rfl ?_
        refine ax_getP (q := 38) B fl_S_23 rfl d_S_treeAt_35 (by assumption) (by assumption) rfl ?_
        refine ax_iload_n (q := 39) B d_S_treeAt_38 rfl rfl rfl ?_
        refine ax_pV2 (q := 42) B cv_S_182 d_S_treeAt_39 (by assumption) (Nat.le_of_ble_eq_true rfl) (by decide) (k_tbecome hG hG.t22 hm.1 (hi.rz hk hp (pz_valid_3 hv))) rfl (fun f1 hf1 => ?_)
        refine ax_aload_n (q := 43) B d_S_treeAt_42 rfl rfl rfl ?_
        refine ax_getP (q := 46) B fl_S_34 rfl d_S_treeAt_43 (by assumption) (by assumption) rfl ?_
        refine ax_aret B E d_S_treeAt_46 ?_
        exact ⟨_, rfl, Or.inr ⟨hx0, rfl, hf1⟩⟩
      · exact absurd h17 (nI_nm1 (by omega))
  refine ax_iload_n (q := 1) B d_S_treeAt_0 rfl rfl rfl ?_
  refine ax_if_ne (q := 9) (q2 := 4) B d_S_treeAt_1 rfl rfl (fun h1 => ?_) (fun h1 => ?_)
  · refine ax_aload_n (q := 10) B d_S_treeAt_9 rfl rfl rfl ?_
    refine ax_iload_n (q := 11) B d_S_treeAt_10 rfl rfl rfl ?_
    refine ax_qV1 (q := 14) B cv_S_186 d_S_treeAt_11 (by assumption) (Nat.le_of_ble_eq_true rfl) (by decide) hC rfl ?_
    exact tail h1
  · refine ax_aload_n (q := 5) B d_S_treeAt_4 rfl rfl rfl ?_
    refine ax_getP (q := 8) B fl_S_30 rfl d_S_treeAt_5 (by assumption) (by assumption) rfl ?_
    exact ax_aret B E d_S_treeAt_8 ⟨_, rfl, Or.inl ⟨h1, rfl, rfl⟩⟩
end
section
theorem i32_lt {x y : Int32} (h : ¬ y ≤ x) : x < y := by
  rw [Int32.le_iff_toInt_le] at h
  rw [Int32.lt_iff_toInt_lt]
  omega
theorem i32_nlt {x y : Int32} (h : y ≤ x) : ¬ x < y := by
  rw [Int32.le_iff_toInt_le] at h
  rw [Int32.lt_iff_toInt_lt]
  omega
theorem lt_full {u a v : Nat} (hu : u < 2 ^ 30) (ha : a < 2 ^ 30) (hv : v < 2 ^ 30) : nI u - nI a < nI v ↔ u < a + v := by
  rw [Int32.lt_iff_toInt_lt, pk_sub_toInt hu ha, nI_toInt (by omega)]
  omega
theorem k_isTooFull {l : Launch} {G : aw_G} (hG : gz G) {h : aw_H} {k sp : Nat} {w : Nat → Nat} (hm : mz G k sp w h) {t : pz_T} (hT : hz_T 4 t h) {a c : Nat} {y : Int32} (ha : a ≤ 1) (hc : c ≤ 100) (hy : nI (pz_nch t 8) + y = nI c) : aw_I l G 1 Y_S_isTooFull [.inl (some 0), .inr (nI a), .inr y] h (.inr (bI (decide (aw_n G < k + a + c + 1)))) := by
  refine aw_met hG.1 (by decide) (Nat.le_of_ble_eq_true rfl) (fun M hM B E => ?_)
  show aw_X M G 3 0 [some (.inl (some 0)), some (.inr (nI a)), some (.inr y)] [] h
  have i0 := hG.is0
  have i1 := hG.is1
  have i4 := hG.t4.2.1
  have r0 : aw_rM 0 0 = some 1 := rfl
  have r1 : aw_rM 0 1 = some 4 := rfl
  have n2 := hG.2.2.2
  obtain ⟨⟨e0, -⟩, e3, -, hk, -, -⟩ := hm
  have hl := lt_full (u := aw_n G - k) (a := a) (v := c + 1) (by omega) (by omega) (by omega)
  refine ax_aload_n (q := 1) B d_S_isTooFull_0 rfl rfl rfl ?_
  refine ax_getP (q := 4) B fl_S_23 rfl d_S_isTooFull_1 (by assumption) (by assumption) rfl ?_
  refine ax_qV0 (q := 7) B cv_S_146 d_S_isTooFull_4 (by assumption) (Nat.le_of_ble_eq_true rfl) (by decide) (k_unwritten hG e0 e3 hk) rfl ?_
  refine ax_iload_n (q := 8) B d_S_isTooFull_7 rfl rfl rfl ?_
  refine ax_isub (q := 9) B d_S_isTooFull_8 rfl ?_
  refine ax_aload_n (q := 10) B d_S_isTooFull_9 rfl rfl rfl ?_
  refine ax_getP (q := 13) B fl_S_30 rfl d_S_isTooFull_10 (by assumption) (by assumption) rfl ?_
  refine ax_qV0 (q := 16) B cv_S_125 d_S_isTooFull_13 (by assumption) (Nat.le_of_ble_eq_true rfl) (by decide) (k_countChanged hG.1 hG.t4 hT) rfl ?_
  refine ax_iload_n (q := 17) B d_S_isTooFull_16 rfl rfl rfl ?_
  refine ax_iadd (q := 18) B d_S_isTooFull_17 rfl ?_
  refine ax_top hy ?_
  refine ax_iconst (v := nI 1) (q := 19) B d_S_isTooFull_18 ci_1 rfl ?_
  first | refine ax_iaddN (q := 20) B d_S_isTooFull_19 rfl ?_ | refine ax_iadd (q := 20) B d_S_isTooFull_19 rfl ?_
  refine ax_icmp_ge (q := 27) (q2 := 23) B d_S_isTooFull_20 rfl rfl (fun h20 => ?_) (fun h20 => ?_)
  · refine ax_iconst (v := nI 0) (q := 28) B d_S_isTooFull_27 ci_0 rfl ?_
    refine ax_zret B E (by first | exact bI_or _ | decide) d_S_isTooFull_28 ?_
    first | exact ⟨by rw [decide_eq_true (show aw_n G < k + a + c + 1 by have h9 := hl.mp (i32_lt h20); omega)]; rfl, rfl⟩ | exact ⟨by rw [decide_eq_false (fun z => i32_nlt h20 (hl.mpr (by omega)))]; rfl, rfl⟩
  · refine ax_iconst (v := nI 1) (q := 24) B d_S_isTooFull_23 ci_1 rfl ?_
    refine ax_goto (q := 28) B d_S_isTooFull_24 rfl ?_
    refine ax_zret B E (by first | exact bI_or _ | decide) d_S_isTooFull_28 ?_
    first | exact ⟨by rw [decide_eq_true (show aw_n G < k + a + c + 1 by have h9 := hl.mp (i32_lt h20); omega)]; rfl, rfl⟩ | exact ⟨by rw [decide_eq_false (fun z => i32_nlt h20 (hl.mpr (by omega)))]; rfl, rfl⟩
theorem mz.kept {G : aw_G} {k sp : Nat} {w : Nat → Nat} {h h' : aw_H} (hm : mz G k sp w h) (e1 : h' 1 = h 1) (e2 : h' 2 = h 2) (e3 : h' 3 = h 3) : mz G k sp w h' := by
  unfold mz wz
  rw [e1, e2, e3]
  exact hm
def pz_wre (t : pz_T) (i k : Nat) : pz_T := (pz_kd t, pz_ct t, pz_up (pz_ch t) i false, pz_up (pz_en t) i (k + 1), pz_it t)
def pz_entJ (k n : Nat) (t : pz_T) (j : Nat) : Nat → Nat := fun i => if i = 0 then 2 else if i = 2 then k else if i = 3 then n else if i = 4 then pz_kd t n else if i = 5 then pz_ct t n else if 6 ≤ i ∧ i < 6 + j then pz_it t n (i - 6) else 0
theorem k_writeEntry {l : Launch} {G : aw_G} (hG : gz G) {h : aw_H} {k sp : Nat} {w : Nat → Nat} (hm : mz G k sp w h) {t : pz_T} (hT : hz_T 4 t h) (hk : k < aw_n G) (h0 : ∀ x, 16 * k ≤ x → w x = 0) {i : Nat} (hi : i < 8) :
    aw_F l G 4 Y_S_writeEntry [.inl (some 0), .inr (nI i), .inl (some (4 + 2 + 2 * i))] h (fun v h' => v = .inr (bI (decide (sp ≠ 1))) ∧ mz G (k + 1) (sp - 1) (pz_sec w k (pz_entry k i t) (sp == 1)) h' ∧ hz_T 4 (pz_wre t i k) h' ∧ ∀ q, 22 ≤ q → h' q = h q) := by
  refine aw_met hG.1 (by decide) (Nat.le_of_ble_eq_true rfl) (fun M hM B E => ?_)
  show aw_X M G 4 0 [some (.inl (some 0)), some (.inr (nI i)), some (.inl (some (4 + 2 + 2 * i))), none] [] h
  have i0 := hG.is0
  have i1 := hG.is1
  have r0 : aw_rM 0 0 = some 1 := rfl
  have n2 := hG.2.2.2
  obtain ⟨ib, rb, ab⟩ := (hG.t4.2.2.2.2 i hi).2
  obtain ⟨b, hb⟩ : ∃ b, b = 4 + 2 + 2 * i := ⟨_, rfl⟩
  have hNi := hT i hi
  unfold hz_N at hNi
  rw [← hb] at ib rb ab hNi
  rw [← hb]
  obtain ⟨q1, q2, q3, q4, q5, q6, q7⟩ := hNi
  have e3 := hm.2.1
  have tail : ∀ (f : aw_H) (g : Nat → Nat) (u : Option aw_V), dz G k sp w g f → (∀ x, x < 16 → x ≠ 1 → g x = pz_entry k i t x) → (∀ q, q ≠ 2 → f q = aw_u (aw_u h b 3 (nI k)) b 4 (nI 0) q) → aw_X M G 4 82 [some (.inl (some 0)), some (.inr (nI i)), some (.inl (some b)), u] [] f := by
    intro f g u hd hg hf
    rw [← pz_sec_congr hg] at E
    refine ax_aload_n (q := 83) B d_S_writeEntry_82 rfl rfl rfl ?_
    refine ax_getP (q := 86) B fl_S_23 rfl d_S_writeEntry_83 (by assumption) (by assumption) rfl ?_
    refine ax_gV0 (q := 89) B cv_S_93 d_S_writeEntry_86 (by assumption) (Nat.le_of_ble_eq_true rfl) (by decide) (kk_finish hG hd) rfl (fun v f1 hv => ?_)
    obtain ⟨rfl, hm1, hf1⟩ := hv
    refine ax_zret B E (bI_or _) d_S_writeEntry_89 ⟨_, rfl, rfl, hm1, fun s hs => ?_, fun q hq => ?_⟩
    · by_cases hsi : s = i
      · subst hsi
        unfold hz_N
        have eb1 : f1 (b + 1) = h (b + 1) := by rw [hf1 (b + 1) (by omega), hf (b + 1) (by omega), aw_u_ne (by omega), aw_u_ne (by omega)]
        have eb : f1 b = aw_u (aw_u h b 3 (nI k)) b 4 (nI 0) b := by rw [hf1 b (by omega), hf b (by omega)]
        rw [← hb, eb, eb1]
        refine ⟨aw_rd (by omega) (aw_rd (by omega) q1), aw_rd (by omega) (aw_rd (by omega) q2), aw_rd (by omega) (aw_rs.trans ?_), aw_rs.trans ?_, q5, q6, q7⟩
        · show nI k = nI (pz_up (pz_en t) s (k + 1) s) + (-1)
          rw [pz_up_s, pk_m1]
        · show nI 0 = bI (pz_up (pz_ch t) s false s)
          rw [pz_up_s]
          rfl
      · have hN := hT s hs
        refine (hN.ext (t' := pz_wre t i k) rfl rfl (pz_up_n hsi) (pz_up_n hsi) (fun j hj => rfl)).kept ?_ ?_
        · rw [hf1 _ (by omega), hf _ (by omega), aw_u_ne (by omega), aw_u_ne (by omega)]
        · rw [hf1 _ (by omega), hf _ (by omega), aw_u_ne (by omega), aw_u_ne (by omega)]
    · rw [hf1 q (by omega), hf q (by omega), aw_u_ne (by omega), aw_u_ne (by omega)]
  have loop : ∀ m j (f : aw_H) (g : Nat → Nat), j + m = pz_ct t i → dz G k sp w g f → (∀ x, x < 16 → x ≠ 1 → g x = pz_entJ k i t j x) → (∀ q, q ≠ 2 → f q = aw_u (aw_u h b 3 (nI k)) b 4 (nI 0) q) → aw_X M G 4 51 [some (.inl (some 0)), some (.inr (nI i)), some (.inl (some b)), some (.inr (nI j))] [] f := by
    intro m
    induction m with
    | zero =>
      intro j f g hj hd hg hf
      have f2 : f b 2 = nI (pz_ct t i) := by rw [hf b (by omega)]; exact aw_rd (by omega) (aw_rd (by omega) q2)
      have hj : j = pz_ct t i := by omega
      subst hj
      refine ax_iload_n (q := 52) B d_S_writeEntry_51 rfl rfl rfl ?_
      refine ax_aload_n (q := 53) B d_S_writeEntry_52 rfl rfl rfl ?_
      refine ax_getN (q := 56) B fl_S_80 rfl d_S_writeEntry_53 (by assumption) (by first | assumption | rfl) rfl ?_
      refine ax_icmpN_ge (q := 82) (q2 := 59) B (by omega) (by omega) d_S_writeEntry_56 rfl rfl (fun h56 => ?_) (fun h56 => ?_)
      · exact tail f g _ hd hg hf
      · omega
    | succ m ih =>
      intro j f g hj hd hg hf
      have f2 : f b 2 = nI (pz_ct t i) := by rw [hf b (by omega)]; exact aw_rd (by omega) (aw_rd (by omega) q2)
      obtain ⟨q71, q72⟩ := q7 j (by omega)
      have f7 : f (b + 1) j = nI (pz_it t i j) := by rw [hf (b + 1) (by omega), aw_u_ne (by omega), aw_u_ne (by omega)]; exact q71
      refine ax_iload_n (q := 52) B d_S_writeEntry_51 rfl rfl rfl ?_
      refine ax_aload_n (q := 53) B d_S_writeEntry_52 rfl rfl rfl ?_
      refine ax_getN (q := 56) B fl_S_80 rfl d_S_writeEntry_53 (by assumption) (by first | assumption | rfl) rfl ?_
      refine ax_icmpN_ge (q := 82) (q2 := 59) B (by omega) (by omega) d_S_writeEntry_56 rfl rfl (fun h56 => ?_) (fun h56 => ?_)
      · omega
      · refine ax_aload_n (q := 60) B d_S_writeEntry_59 rfl rfl rfl ?_
        refine ax_getP (q := 63) B fl_S_23 rfl d_S_writeEntry_60 (by assumption) (by assumption) rfl ?_
        refine ax_bipush (v := nI 6) (q := 65) B d_S_writeEntry_63 cb_6 rfl ?_
        refine ax_iload_n (q := 66) B d_S_writeEntry_65 rfl rfl rfl ?_
        first | refine ax_iaddN (q := 67) B d_S_writeEntry_66 rfl ?_ | refine ax_iadd (q := 67) B d_S_writeEntry_66 rfl ?_
        refine ax_aload_n (q := 68) B d_S_writeEntry_67 rfl rfl rfl ?_
        refine ax_getP (q := 71) B fl_S_159 rfl d_S_writeEntry_68 (by assumption) (by assumption) rfl ?_
        refine ax_iload_n (q := 72) B d_S_writeEntry_71 rfl rfl rfl ?_
        refine ax_ialdN (q := 73) B d_S_writeEntry_72 (by assumption) rfl (by omega) (by omega) (by first | assumption | rfl) rfl ?_
        refine ax_pV2 (q := 76) B cv_S_90 d_S_writeEntry_73 (by assumption) (Nat.le_of_ble_eq_true rfl) (by decide) (kk_put hG hd (by omega) q72) rfl (fun f1 hf1 => ?_)
        refine ax_iincN (j := 1) (q := 79) B d_S_writeEntry_76 rfl ii_1 (by decide) rfl ?_
        refine ax_goto (q := 51) B d_S_writeEntry_79 rfl ?_
        refine ih (j + 1) f1 _ (by omega) hf1.1 (fun x hx h1 => ?_) (fun q hq => (hf1.2 q hq).trans (hf q hq))
        by_cases hxj : x = 6 + j
        · subst hxj
          rw [pz_up_s]
          unfold pz_entJ
          rw [if_neg (by omega), if_neg (by omega), if_neg (by omega), if_neg (by omega), if_neg (by omega), if_pos (by omega), show 6 + j - 6 = j by omega]
        · rw [pz_up_n hxj, hg x hx h1]
          unfold pz_entJ
          by_cases hx6 : 6 ≤ x ∧ x < 6 + j
          · rw [if_pos hx6, if_pos (show 6 ≤ x ∧ x < 6 + (j + 1) by omega)]
          · rw [if_neg hx6, if_neg (show ¬ (6 ≤ x ∧ x < 6 + (j + 1)) by omega)]
  refine ax_aload_n (q := 1) B d_S_writeEntry_0 rfl rfl rfl ?_
  refine ax_aload_n (q := 2) B d_S_writeEntry_1 rfl rfl rfl ?_
  refine ax_getP (q := 5) B fl_S_23 rfl d_S_writeEntry_2 (by assumption) (by assumption) rfl ?_
  refine ax_getN (q := 8) B fl_S_84 rfl d_S_writeEntry_5 (by assumption) (by first | assumption | rfl) rfl ?_
  refine ax_putN (q := 11) B fp_S_176 d_S_writeEntry_8 (by assumption) rfl ?_
  refine ax_aload_n (q := 12) B d_S_writeEntry_11 rfl rfl rfl ?_
  refine ax_iconst (v := nI 0) (q := 13) B d_S_writeEntry_12 ci_0 rfl ?_
  refine ax_putB (q := 16) B fp_S_112 (by first | exact bI_or _ | decide) d_S_writeEntry_13 (by assumption) rfl ?_
  obtain ⟨h2, hh2⟩ : ∃ h2, h2 = aw_u (aw_u h b 3 (nI k)) b 4 (nI 0) := ⟨_, rfl⟩
  rw [← hh2] at loop ⊢
  have hm2 : mz G k sp w h2 := hm.kept (by rw [hh2, aw_u_ne (by omega), aw_u_ne (by omega)]) (by rw [hh2, aw_u_ne (by omega), aw_u_ne (by omega)]) (by rw [hh2, aw_u_ne (by omega), aw_u_ne (by omega)])
  have g1 : h2 b 1 = nI (pz_kd t i) := by rw [hh2]; exact aw_rd (by omega) (aw_rd (by omega) q1)
  have g2 : h2 b 2 = nI (pz_ct t i) := by rw [hh2]; exact aw_rd (by omega) (aw_rd (by omega) q2)
  refine ax_aload_n (q := 17) B d_S_writeEntry_16 rfl rfl rfl ?_
  refine ax_getP (q := 20) B fl_S_23 rfl d_S_writeEntry_17 (by assumption) (by assumption) rfl ?_
  refine ax_iconst (v := nI 2) (q := 21) B d_S_writeEntry_20 ci_2 rfl ?_
  refine ax_iload_n (q := 22) B d_S_writeEntry_21 rfl rfl rfl ?_
  refine ax_pV2 (q := 25) B cv_S_87 d_S_writeEntry_22 (by assumption) (Nat.le_of_ble_eq_true rfl) (by decide) (kk_begin hG hm2 hk h0 (by omega) (by omega)) rfl (fun h3 hh3 => ?_)
  have g13 : h3 b 1 = nI (pz_kd t i) := by rw [hh3.2 b (by omega)]; exact g1
  refine ax_aload_n (q := 26) B d_S_writeEntry_25 rfl rfl rfl ?_
  refine ax_getP (q := 29) B fl_S_23 rfl d_S_writeEntry_26 (by assumption) (by assumption) rfl ?_
  refine ax_iconst (v := nI 4) (q := 30) B d_S_writeEntry_29 ci_4 rfl ?_
  refine ax_aload_n (q := 31) B d_S_writeEntry_30 rfl rfl rfl ?_
  refine ax_getN (q := 34) B fl_S_109 rfl d_S_writeEntry_31 (by assumption) (by first | assumption | rfl) rfl ?_
  refine ax_pV2 (q := 37) B cv_S_90 d_S_writeEntry_34 (by assumption) (Nat.le_of_ble_eq_true rfl) (by decide) (kk_put hG hh3.1 (by omega) q5) rfl (fun h4 hh4 => ?_)
  have g24 : h4 b 2 = nI (pz_ct t i) := by rw [hh4.2 b (by omega), hh3.2 b (by omega)]; exact g2
  refine ax_aload_n (q := 38) B d_S_writeEntry_37 rfl rfl rfl ?_
  refine ax_getP (q := 41) B fl_S_23 rfl d_S_writeEntry_38 (by assumption) (by assumption) rfl ?_
  refine ax_iconst (v := nI 5) (q := 42) B d_S_writeEntry_41 ci_5 rfl ?_
  refine ax_aload_n (q := 43) B d_S_writeEntry_42 rfl rfl rfl ?_
  refine ax_getN (q := 46) B fl_S_80 rfl d_S_writeEntry_43 (by assumption) (by first | assumption | rfl) rfl ?_
  refine ax_pV2 (q := 49) B cv_S_90 d_S_writeEntry_46 (by assumption) (Nat.le_of_ble_eq_true rfl) (by decide) (kk_put hG hh4.1 (by omega) (by omega)) rfl (fun h5 hh5 => ?_)
  refine ax_iconst (v := nI 0) (q := 50) B d_S_writeEntry_49 ci_0 rfl ?_
  refine ax_istore_n (q := 51) B d_S_writeEntry_50 rfl (by decide) rfl ?_
  refine loop (pz_ct t i) 0 h5 _ (by omega) hh5.1 (fun x hx h1 => ?_) (fun q hq => by rw [hh5.2 q hq, hh4.2 q hq, hh3.2 q hq])
  unfold pz_entJ pz_up
  by_cases x0 : x = 0
  · subst x0; rfl
  · by_cases x2 : x = 2
    · subst x2; rfl
    · by_cases x3 : x = 3
      · subst x3; rfl
      · by_cases x4 : x = 4
        · subst x4; rfl
        · by_cases x5 : x = 5
          · subst x5; rfl
          · rw [if_neg x5, if_neg x4, if_neg x3, if_neg x2, if_neg x0, if_neg x0, if_neg x2, if_neg x3, if_neg x4, if_neg x5, if_neg (by omega)]
end
section
theorem m1p (a : Nat) : nI a + (-1) + nI 1 = nI a := by
  have h := pk_m1 a
  rw [Int32.add_assoc, show ((-1 : Int32) + nI 1) = 0 by decide, Int32.add_zero]
theorem k_writeTable {l : Launch} {G : aw_G} (hG : gz G) {h : aw_H} {k sp : Nat} {w : Nat → Nat} (hm : mz G k sp w h) {t : pz_T} (hT : hz_T 4 t h) (hk : k < aw_n G) (h0 : ∀ x, 16 * k ≤ x → w x = 0) (hen : ∀ i, i < 8 → pz_en t i < 65536) {num : Nat} (hnum : num < 65536) :
    aw_F l G 4 Y_S_writeTable [.inl (some 0), .inr (nI num)] h (fun v h' => v = .inr (bI (decide (sp ≠ 1))) ∧ mz G (k + 1) (sp - 1) (pz_sec w k (pz_table k num (pz_en t)) (sp == 1)) h' ∧ ∀ q, 4 ≤ q → h' q = h q) := by
  refine aw_met hG.1 (by decide) (Nat.le_of_ble_eq_true rfl) (fun M hM B E => ?_)
  show aw_X M G 3 0 [some (.inl (some 0)), some (.inr (nI num)), none] [] h
  have i0 := hG.is0
  have i1 := hG.is1
  have i4 := hG.t4.2.1
  have a5 := hG.t4.2.2.2.1
  have r4 := hG.t4.2.2.1
  have r0 : aw_rM 0 0 = some 1 := rfl
  have r1 : aw_rM 0 1 = some 4 := rfl
  have n2 := hG.2.2.2
  have loop : ∀ m j (f : aw_H) (g : Nat → Nat), j + m = 8 → dz G k sp w g f → (∀ x, x < 16 → x ≠ 1 → g x = if 4 ≤ x ∧ 4 + j ≤ x then 0 else pz_table k num (pz_en t) x) → (∀ q, q ≠ 2 → f q = h q) → aw_X M G 3 11 [some (.inl (some 0)), some (.inr (nI num)), some (.inr (nI j))] [] f := by
    intro m
    induction m with
    | zero =>
      intro j f g hj hd hg hf
      have hj : j = 8 := by omega
      subst hj
      have hg2 : ∀ x, x < 16 → x ≠ 1 → g x = pz_table k num (pz_en t) x := fun x hx h1 => by
        rw [hg x hx h1]
        by_cases h12 : 4 ≤ x ∧ 4 + 8 ≤ x
        · rw [if_pos h12]
          unfold pz_table
          rw [if_neg (by omega), if_neg (by omega), if_neg (by omega), if_neg (by omega)]
        · rw [if_neg h12]
      rw [← pz_sec_congr hg2] at E
      refine ax_iload_n (q := 12) B d_S_writeTable_11 rfl rfl rfl ?_
      refine ax_bipush (v := nI 8) (q := 14) B d_S_writeTable_12 cb_8 rfl ?_
      refine ax_icmpN_ge (q := 47) (q2 := 17) B (by omega) (by omega) d_S_writeTable_14 rfl rfl (fun h14 => ?_) (fun h14 => ?_)
      · refine ax_aload_n (q := 48) B d_S_writeTable_47 rfl rfl rfl ?_
        refine ax_getP (q := 51) B fl_S_23 rfl d_S_writeTable_48 (by assumption) (by assumption) rfl ?_
        refine ax_gV0 (q := 54) B cv_S_93 d_S_writeTable_51 (by assumption) (Nat.le_of_ble_eq_true rfl) (by decide) (kk_finish hG hd) rfl (fun v f1 hv => ?_)
        obtain ⟨rfl, hm1, hf1⟩ := hv
        refine ax_zret B E (by first | exact bI_or _ | decide) d_S_writeTable_54 ?_
        exact ⟨_, rfl, rfl, hm1, fun q hq => by rw [hf1 q (by omega), hf q (by omega)]⟩
      · omega
    | succ m ih =>
      intro j f g hj hd hg hf
      obtain ⟨rj, nj⟩ := hG.t4.2.2.2.2 j (by omega)
      have ij := nj.1
      have e3 : f (4 + 2 + 2 * j) 3 = nI (pz_en t j) + (-1) := by rw [hf _ (by omega)]; exact (hT j (by omega)).2.2.1
      have henj := hen j (by omega)
      refine ax_iload_n (q := 12) B d_S_writeTable_11 rfl rfl rfl ?_
      refine ax_bipush (v := nI 8) (q := 14) B d_S_writeTable_12 cb_8 rfl ?_
      refine ax_icmpN_ge (q := 47) (q2 := 17) B (by omega) (by omega) d_S_writeTable_14 rfl rfl (fun h14 => ?_) (fun h14 => ?_)
      · omega
      · refine ax_aload_n (q := 18) B d_S_writeTable_17 rfl rfl rfl ?_
        refine ax_getP (q := 21) B fl_S_23 rfl d_S_writeTable_18 (by assumption) (by assumption) rfl ?_
        refine ax_iconst (v := nI 4) (q := 22) B d_S_writeTable_21 ci_4 rfl ?_
        refine ax_iload_n (q := 23) B d_S_writeTable_22 rfl rfl rfl ?_
        first | refine ax_iaddN (q := 24) B d_S_writeTable_23 rfl ?_ | refine ax_iadd (q := 24) B d_S_writeTable_23 rfl ?_
        refine ax_aload_n (q := 25) B d_S_writeTable_24 rfl rfl rfl ?_
        refine ax_getP (q := 28) B fl_S_30 rfl d_S_writeTable_25 (by assumption) (by assumption) rfl ?_
        refine ax_getP (q := 31) B fl_S_65 rfl d_S_writeTable_28 (by assumption) (by assumption) rfl ?_
        refine ax_iload_n (q := 32) B d_S_writeTable_31 rfl rfl rfl ?_
        refine ax_aaldN (q := 33) B d_S_writeTable_32 (by assumption) rfl (by omega) (by omega) (by first | assumption | rfl) rfl ?_
        refine ax_getN (q := 36) B fl_S_176 rfl d_S_writeTable_33 (by assumption) (by first | assumption | rfl) rfl ?_
        refine ax_iconst (v := nI 1) (q := 37) B d_S_writeTable_36 ci_1 rfl ?_
        refine ax_iadd (q := 38) B d_S_writeTable_37 rfl ?_
        refine ax_top (m1p _) ?_
        refine ax_pV2 (q := 41) B cv_S_90 d_S_writeTable_38 (by assumption) (Nat.le_of_ble_eq_true rfl) (by decide) (kk_put hG hd (by omega) henj) rfl (fun f1 hf1 => ?_)
        refine ax_iincN (j := 1) (q := 44) B d_S_writeTable_41 rfl ii_1 (by decide) rfl ?_
        refine ax_goto (q := 11) B d_S_writeTable_44 rfl ?_
        refine ih (j + 1) f1 _ (by omega) hf1.1 (fun x hx h1 => ?_) (fun q hq => (hf1.2 q hq).trans (hf q hq))
        by_cases hxj : x = 4 + j
        · subst hxj
          rw [pz_up_s, if_neg (by omega)]
          unfold pz_table
          rw [if_neg (by omega), if_neg (by omega), if_neg (by omega), if_pos (by omega), show 4 + j - 4 = j by omega]
        · rw [pz_up_n hxj, hg x hx h1]
          by_cases h12 : 4 ≤ x ∧ 4 + j ≤ x
          · rw [if_pos h12, if_pos (by omega)]
          · rw [if_neg h12, if_neg (by omega)]
  refine ax_aload_n (q := 1) B d_S_writeTable_0 rfl rfl rfl ?_
  refine ax_getP (q := 4) B fl_S_23 rfl d_S_writeTable_1 (by assumption) (by assumption) rfl ?_
  refine ax_iconst (v := nI 3) (q := 5) B d_S_writeTable_4 ci_3 rfl ?_
  refine ax_iload_n (q := 6) B d_S_writeTable_5 rfl rfl rfl ?_
  refine ax_pV2 (q := 9) B cv_S_87 d_S_writeTable_6 (by assumption) (Nat.le_of_ble_eq_true rfl) (by decide) (kk_begin hG hm hk h0 (by omega) hnum) rfl (fun h3 hh3 => ?_)
  refine ax_iconst (v := nI 0) (q := 10) B d_S_writeTable_9 ci_0 rfl ?_
  refine ax_istore_n (q := 11) B d_S_writeTable_10 rfl (by decide) rfl ?_
  refine loop 8 0 h3 _ rfl hh3.1 (fun x hx h1 => ?_) hh3.2
  by_cases x4 : 4 ≤ x ∧ 4 + 0 ≤ x
  · rw [if_pos x4]
    unfold pz_up
    rw [if_neg (by omega), if_neg (by omega), if_neg (by omega)]
  · rw [if_neg x4]
    unfold pz_up pz_table
    by_cases x0 : x = 0
    · subst x0; rfl
    · by_cases x2 : x = 2
      · subst x2; rfl
      · have x3 : x = 3 := by omega
        subst x3; rfl
/-- while the entries are being written -/
def pz_tj (t : pz_T) (j : Nat) (en : Nat → Nat) : pz_T := (pz_kd t, pz_ct t, fun i => if i < j then false else pz_ch t i, en, pz_it t)
theorem pz_es_t {t : pz_T} {k sp : Nat} {w : Nat → Nat} {j : Nat} (h : (pz_es t k w sp j).2 = true) : ∀ m, pz_es t k w sp (j + m) = pz_es t k w sp j
  | 0 => rfl
  | m + 1 => by
    show (match pz_es t k w sp (j + m) with
      | (s, true) => (s, true)
      | ((k', w', sp', en'), false) => if pz_ch t (j + m) = true then ((k' + 1, pz_sec w' k' (pz_entry k' (j + m) t) (sp' == 1), sp' - 1, pz_up en' (j + m) (k' + 1)), sp' == 1) else ((k', w', sp', en'), false)) = _
    rw [pz_es_t h m]
    generalize pz_es t k w sp j = z at h ⊢
    obtain ⟨⟨k', w', sp', en'⟩, b⟩ := z
    have h : b = true := h
    subst h
    rfl
theorem pz_es_s {t : pz_T} {k sp : Nat} {w : Nat → Nat} {j k' sp' : Nat} {w' en' : Nat → Nat} (h : pz_es t k w sp j = ((k', w', sp', en'), false)) : pz_es t k w sp (j + 1) = if pz_ch t j = true then ((k' + 1, pz_sec w' k' (pz_entry k' j t) (sp' == 1), sp' - 1, pz_up en' j (k' + 1)), sp' == 1) else ((k', w', sp', en'), false) := by
  show (match pz_es t k w sp j with
      | (s, true) => (s, true)
      | ((k', w', sp', en'), false) => if pz_ch t j = true then ((k' + 1, pz_sec w' k' (pz_entry k' j t) (sp' == 1), sp' - 1, pz_up en' j (k' + 1)), sp' == 1) else ((k', w', sp', en'), false)) = _
  rw [h]
theorem pz_sec_zero {w f : Nat → Nat} {k : Nat} {b : Bool} (h0 : ∀ x, 16 * k ≤ x → w x = 0) : ∀ x, 16 * (k + 1) ≤ x → pz_sec w k f b x = 0 := fun x hx => by
  rw [pz_sec_far (by omega)]
  exact h0 x (by omega)
theorem pz_cp_mono {P : Nat → Bool} {a b : Nat} (h : a ≤ b) : pz_cp P a ≤ pz_cp P b := by
  induction b with
  | zero => rw [show a = 0 by omega]; exact Nat.le_refl _
  | succ b ih =>
    by_cases hb : a = b + 1
    · rw [hb]; exact Nat.le_refl _
    · have := ih (by omega)
      show pz_cp P a ≤ pz_cp P b + (if P b = true then 1 else 0)
      omega
theorem k_we_ext {t : pz_T} {j k : Nat} {en : Nat → Nat} {h : aw_H} (hT : hz_T 4 (pz_wre (pz_tj t j en) j k) h) : ∀ i, i < 8 → hz_N 4 (pz_tj t (j + 1) (pz_up en j (k + 1))) h i := fun i hi => by
  refine (hT i hi).ext rfl rfl ?_ rfl (fun s hs => rfl)
  show (if i < j + 1 then false else pz_ch t i) = pz_up (fun i => if i < j then false else pz_ch t i) j false i
  by_cases hij : i = j
  · subst hij; rw [pz_up_s, if_pos (by omega)]
  · rw [pz_up_n hij]
    by_cases h2 : i < j
    · rw [if_pos h2, if_pos (by omega)]
    · rw [if_neg h2, if_neg (by omega)]
theorem k_we_ext2 {t : pz_T} {j : Nat} {en : Nat → Nat} {h : aw_H} (hj : pz_ch t j = false) (hT : hz_T 4 (pz_tj t j en) h) : ∀ i, i < 8 → hz_N 4 (pz_tj t (j + 1) en) h i := fun i hi => by
  refine (hT i hi).ext rfl rfl ?_ rfl (fun s hs => rfl)
  show (if i < j + 1 then false else pz_ch t i) = (if i < j then false else pz_ch t i)
  by_cases hij : i = j
  · subst hij; rw [if_pos (by omega), if_neg (by omega), hj]
  · by_cases h2 : i < j
    · rw [if_pos h2, if_pos (by omega)]
    · rw [if_neg h2, if_neg (by omega)]
theorem k_writeEntries {l : Launch} {G : aw_G} (hG : gz G) {h : aw_H} {k sp : Nat} {w : Nat → Nat} (hm : mz G k sp w h) {t : pz_T} (hT : hz_T 4 t h) (hk : k + pz_nch t 8 < aw_n G) (h0 : ∀ x, 16 * k ≤ x → w x = 0) :
    aw_F l G 5 Y_S_writeEntries [.inl (some 0)] h (fun v h' => v = .inr (bI (!(pz_es t k w sp 8).2)) ∧ mz G (pz_es t k w sp 8).1.1 (pz_es t k w sp 8).1.2.2.1 (pz_es t k w sp 8).1.2.1 h' ∧ ((pz_es t k w sp 8).2 = false → hz_T 4 (pz_tj t 8 (pz_es t k w sp 8).1.2.2.2) h') ∧ ∀ q, 22 ≤ q → h' q = h q) := by
  refine aw_met hG.1 (by decide) (Nat.le_of_ble_eq_true rfl) (fun M hM B E => ?_)
  show aw_X M G 3 0 [some (.inl (some 0)), none, none] [] h
  have i0 := hG.is0
  have i4 := hG.t4.2.1
  have a5 := hG.t4.2.2.2.1
  have r4 := hG.t4.2.2.1
  have r1 : aw_rM 0 1 = some 4 := rfl
  have loop : ∀ m j (f : aw_H) (u : Option aw_V) (k' sp' : Nat) (w' en' : Nat → Nat), j + m = 8 → pz_es t k w sp j = ((k', w', sp', en'), false) → k' = k + pz_nch t j → mz G k' sp' w' f → hz_T 4 (pz_tj t j en') f → (∀ x, 16 * k' ≤ x → w' x = 0) → (∀ q, 22 ≤ q → f q = h q) → aw_X M G 3 2 [some (.inl (some 0)), some (.inr (nI j)), u] [] f := by
    intro m
    induction m with
    | zero =>
      intro j f u k' sp' w' en' hj he hk' hmf hTf hzf hff
      have hj : j = 8 := by omega
      subst hj
      rw [he] at E
      refine ax_iload_n (q := 3) B d_S_writeEntries_2 rfl rfl rfl ?_
      refine ax_bipush (v := nI 8) (q := 5) B d_S_writeEntries_3 cb_8 rfl ?_
      refine ax_icmpN_ge (q := 42) (q2 := 8) B (by omega) (by omega) d_S_writeEntries_5 rfl rfl (fun h5 => ?_) (fun h5 => ?_)
      · refine ax_iconst (v := nI 1) (q := 43) B d_S_writeEntries_42 ci_1 rfl ?_
        refine ax_zret B E (by first | exact bI_or _ | decide) d_S_writeEntries_43 ?_
        exact ⟨_, rfl, rfl, hmf, fun _ => hTf, hff⟩
      · omega
    | succ m ih =>
      intro j f u k' sp' w' en' hj he hk' hmf hTf hzf hff
      obtain ⟨rj, nj⟩ := hG.t4.2.2.2.2 j (by omega)
      have ij := nj.1
      have hNj := hTf j (by omega)
      have e4 : f (4 + 2 + 2 * j) 4 = bI (pz_ch t j) := by
        have h4 := hNj.2.2.2.1
        have hz : pz_ch (pz_tj t j en') j = pz_ch t j := if_neg (by omega)
        rw [hz] at h4
        exact h4
      have hs := pz_es_s he
      have hnc : pz_nch t (j + 1) = pz_nch t j + (if pz_ch t j = true then 1 else 0) := rfl
      have hmono : pz_nch t (j + 1) ≤ pz_nch t 8 := pz_cp_mono (by omega)
      refine ax_iload_n (q := 3) B d_S_writeEntries_2 rfl rfl rfl ?_
      refine ax_bipush (v := nI 8) (q := 5) B d_S_writeEntries_3 cb_8 rfl ?_
      refine ax_icmpN_ge (q := 42) (q2 := 8) B (by omega) (by omega) d_S_writeEntries_5 rfl rfl (fun h5 => ?_) (fun h5 => ?_)
      · omega
      · refine ax_aload_n (q := 9) B d_S_writeEntries_8 rfl rfl rfl ?_
        refine ax_getP (q := 12) B fl_S_30 rfl d_S_writeEntries_9 (by assumption) (by assumption) rfl ?_
        refine ax_getP (q := 15) B fl_S_65 rfl d_S_writeEntries_12 (by assumption) (by assumption) rfl ?_
        refine ax_iload_n (q := 16) B d_S_writeEntries_15 rfl rfl rfl ?_
        refine ax_aaldN (q := 17) B d_S_writeEntries_16 (by assumption) rfl (by omega) (by omega) (by first | assumption | rfl) rfl ?_
        refine ax_astore_n (q := 18) B d_S_writeEntries_17 rfl (by decide) rfl ?_
        refine ax_aload_n (q := 19) B d_S_writeEntries_18 rfl rfl rfl ?_
        refine ax_getN (q := 22) B fl_S_112 rfl d_S_writeEntries_19 (by assumption) (by first | assumption | rfl) rfl ?_
        refine ax_ifZ_eq (q := 36) (q2 := 25) B d_S_writeEntries_22 rfl rfl (fun h22 => ?_) (fun h22 => ?_)
        · refine ax_iincN (j := 1) (q := 39) B d_S_writeEntries_36 rfl ii_1 (by decide) rfl ?_
          refine ax_goto (q := 2) B d_S_writeEntries_39 rfl ?_
          first | (have hsp : sp' ≠ 1 := of_decide_eq_true h31; rw [pz_beq_ne hsp] at hs hm1; exact ih (j + 1) f1 _ _ _ _ _ (by omega) hs (by omega) hm1 (fun i hi => k_we_ext hT1 i hi) (pz_sec_zero hzf) (fun q hq => by rw [hf1 q hq, hff q hq])) | (rw [if_neg (by rw [h22]; decide)] at hs hnc; exact ih (j + 1) f _ _ _ _ _ (by omega) hs (by omega) hmf (fun i hi => k_we_ext2 h22 hTf i hi) hzf hff)
        · refine ax_aload_n (q := 26) B d_S_writeEntries_25 rfl rfl rfl ?_
          refine ax_iload_n (q := 27) B d_S_writeEntries_26 rfl rfl rfl ?_
          refine ax_aload_n (q := 28) B d_S_writeEntries_27 rfl rfl rfl ?_
          rw [if_pos h22] at hs hnc
          refine ax_gV2 (q := 31) B cv_S_172 d_S_writeEntries_28 (by assumption) (Nat.le_of_ble_eq_true rfl) (by decide) (k_writeEntry hG hmf hTf (by omega) hzf (by omega)) rfl (fun v f1 hv => ?_)
          obtain ⟨rfl, hm1, hT1, hf1⟩ := hv
          refine ax_ifZ_ne (q := 36) (q2 := 34) B d_S_writeEntries_31 rfl rfl (fun h31 => ?_) (fun h31 => ?_)
          · refine ax_iincN (j := 1) (q := 39) B d_S_writeEntries_36 rfl ii_1 (by decide) rfl ?_
            refine ax_goto (q := 2) B d_S_writeEntries_39 rfl ?_
            first | (have hsp : sp' ≠ 1 := of_decide_eq_true h31; rw [pz_beq_ne hsp] at hs hm1; exact ih (j + 1) f1 _ _ _ _ _ (by omega) hs (by omega) hm1 (fun i hi => k_we_ext hT1 i hi) (pz_sec_zero hzf) (fun q hq => by rw [hf1 q hq, hff q hq])) | (rw [if_neg (by rw [h22]; decide)] at hs hnc; exact ih (j + 1) f _ _ _ _ _ (by omega) hs (by omega) hmf (fun i hi => k_we_ext2 h22 hTf i hi) hzf hff)
          · have hsp : sp' = 1 := Decidable.byContradiction (fun z => by rw [decide_eq_true z] at h31; cases h31)
            have e8 : pz_es t k w sp 8 = ((k' + 1, pz_sec w' k' (pz_entry k' j t) (sp' == 1), sp' - 1, pz_up en' j (k' + 1)), sp' == 1) := by rw [show (8 : Nat) = j + 1 + m by omega, pz_es_t (by rw [hs, hsp]; rfl) m, hs]
            rw [e8, hsp] at E
            rw [hsp] at hm1
            refine ax_iconst (v := nI 0) (q := 35) B d_S_writeEntries_34 ci_0 rfl ?_
            exact ax_zret B E (by decide) d_S_writeEntries_35 ⟨_, rfl, rfl, hm1, (fun z => absurd z (show ¬ ((1 : Nat) == 1) = false by decide)), fun q hq => by rw [hf1 q hq, hff q hq]⟩
  refine ax_iconst (v := nI 0) (q := 1) B d_S_writeEntries_0 ci_0 rfl ?_
  refine ax_istore_n (q := 2) B d_S_writeEntries_1 rfl (by decide) rfl ?_
  exact loop 8 0 h none k sp w (pz_en t) rfl rfl rfl hm (fun i hi => (hT i hi).ext rfl rfl rfl rfl (fun j hj => rfl)) h0 (fun q _ => rfl)
end
section
/- what each call answers and does, in the words of the mathematical state -/
/-- the tree that a look at 'at' sees -/
def pz_tv (S : pz_S) (x : Int32) : pz_T := if x = 0 then S.2.2.2.2 else pz_past S.2.2.1 x S.2.1
def pz_left (S : pz_S) : Int32 := nI (S.1 - S.2.1)
def pz_changed (S : pz_S) : Int32 := nI (pz_nch S.2.2.2.2 8)
def pz_tables (S : pz_S) : Int32 := nI (pz_tabs S.2.2.1 S.2.1)
def pz_kind (S : pz_S) (a x : Int32) : Int32 := match pz_nd (pz_tv S a) (fun c => c != 0) x with
  | none => -1
  | some i => nI (pz_kd (pz_tv S a) i)
def pz_items (S : pz_S) (a x : Int32) : Int32 := match pz_nd (pz_tv S a) (fun c => c != 0) x with
  | none => -1
  | some i => nI (pz_ct (pz_tv S a) i)
def pz_find (S : pz_S) (a x nm : Int32) : Int32 := match pz_nd (pz_tv S a) (fun c => c == 1) x with
  | none => -1
  | some i => oI ((pz_ix (pz_it (pz_tv S a) i) nm (pz_ct (pz_tv S a) i)).map (fun j => pz_it (pz_tv S a) i j % 16))
def pz_item (S : pz_S) (a x j : Int32) : Int32 := match pz_nd (pz_tv S a) (fun c => c == 1) x with
  | none => -1
  | some i => if pz_small j (pz_ct (pz_tv S a) i) = true then nI (pz_it (pz_tv S a) i j.toNatClampNeg) else -1
def pz_block (S : pz_S) (a x j : Int32) : Int32 := match pz_nd (pz_tv S a) (fun c => c == 2) x with
  | none => -1
  | some i => if pz_small j (pz_ct (pz_tv S a) i) = true then (if pz_good S.2.2.1 (pz_it (pz_tv S a) i j.toNatClampNeg) = true then nI (S.2.2.1 (16 * pz_it (pz_tv S a) i j.toNatClampNeg + 4)) else -8) else -1
def pz_word (S : pz_S) (x i : Int32) : Int32 := if (pz_small x S.1 && pz_small i 16) = true then nI (S.2.2.1 (16 * x.toNatClampNeg + i.toNatClampNeg)) else -1
def pz_make (S : pz_S) (dir name : Int32) (b : Bool) : Int32 × pz_S := match S with
  | (n, k, w, sp, t) => match pz_nd t (fun c => c == 1) dir with
    | none => (-1, S)
    | some d => if pz_small name 100 = false then (-1, S)
      else match pz_ix (pz_it t d) name (pz_ct t d) with
      | some _ => (-2, S)
      | none => match pz_least (pz_kd t) 8 with
        | none => (-3, S)
        | some m => if n < k + 0 + pz_cw (pz_ch t) d m 8 8 + 1 then (-4, S)
          else (nI m, (n, k, w, sp, pz_add (pz_new t m (if b = true then 1 else 2)) d (16 * name.toNatClampNeg + m)))
def pz_write (S : pz_S) (file j v : Int32) : Int32 × pz_S := match S with
  | (n, k, w, sp, t) => match pz_nd t (fun c => c == 2) file with
    | none => (-1, S)
    | some f => if pz_small v 65536 = false then (-1, S)
      else if pz_small j (pz_ct t f + 1) = false then (-1, S)
      else if pz_small j 10 = false then (-1, S)
      else if n < k + 1 + pz_cw (pz_ch t) f 8 8 8 + 1 then (-4, S)
      else if sp = 1 then (-5, (n, k + 1, pz_sec w k (pz_data k f v.toNatClampNeg) true, 0, pz_back (pz_sec w k (pz_data k f v.toNatClampNeg) true) (k + 1)))
      else (nI k, (n, k + 1, pz_sec w k (pz_data k f v.toNatClampNeg) false, sp - 1, pz_blk t f j.toNatClampNeg k))
def pz_remove (S : pz_S) (dir name : Int32) : Int32 × pz_S := match S with
  | (n, k, w, sp, t) => match pz_nd t (fun c => c == 1) dir with
    | none => (-1, S)
    | some d => match pz_ix (pz_it t d) name (pz_ct t d) with
      | none => (-1, S)
      | some j => if pz_kd t (pz_it t d j % 16) = 1 ∧ 0 < pz_ct t (pz_it t d j % 16) then (-6, S)
        else if n < k + 0 + pz_cw (pz_ch t) d 8 (pz_it t d j % 16) 8 + 1 then (-4, S)
        else (nI (pz_it t d j % 16), (n, k, w, sp, pz_gone (pz_take t d j) (pz_it t d j % 16)))
def pz_move (S : pz_S) (dir name to as : Int32) : Int32 × pz_S := match S with
  | (n, k, w, sp, t) => match pz_nd t (fun c => c == 1) dir with
    | none => (-1, S)
    | some d => match pz_nd t (fun c => c == 1) to with
      | none => (-1, S)
      | some e => if pz_small as 100 = false then (-1, S)
        else match pz_ix (pz_it t d) name (pz_ct t d) with
        | none => (-1, S)
        | some j => match pz_ix (pz_it t e) as (pz_ct t e) with
          | some _ => (-2, S)
          | none => if pz_below t e (pz_it t d j % 16) 8 = true then (-7, S)
            else if n < k + 0 + pz_cw (pz_ch t) d e 8 8 + 1 then (-4, S)
            else (nI (pz_it t d j % 16), (n, k, w, sp, pz_add (pz_take t d j) e (16 * as.toNatClampNeg + pz_it t d j % 16)))
def pz_close (S : pz_S) : Int32 × pz_S := match S with
  | (n, k, w, sp, t) =>
    if pz_nch t 8 = 0 then (nI 0, S)
    else if n < k + 0 + pz_nch t 8 + 1 then (-4, S)
    else match pz_es t k w sp 8 with
      | ((k', w', sp', _), true) => (-5, (n, k', w', sp', pz_back w' k'))
      | ((k', w', sp', en'), false) =>
        if sp' = 1 then (-5, (n, k' + 1, pz_sec w' k' (pz_table k' (pz_num w k + 1) en') true, 0, pz_back (pz_sec w' k' (pz_table k' (pz_num w k + 1) en') true) (k' + 1)))
        else (nI (pz_nch t 8 + 1), (n, k' + 1, pz_sec w' k' (pz_table k' (pz_num w k + 1) en') false, sp' - 1, (pz_kd t, pz_ct t, fun _ => false, en', pz_it t)))
def pz_arm (S : pz_S) (x : Int32) : Int32 × pz_S := match S with
  | (n, k, w, _, t) => if pz_small x 1001 = false then (nI 0, S) else (nI 1, (n, k, w, x.toNatClampNeg + 1, t))
def pz_crash (S : pz_S) : Int32 × pz_S := match S with
  | (n, k, w, _, _) => (nI (pz_num w k), (n, k, w, 0, pz_back w k))
def pz_spoil (S : pz_S) (x : Int32) : Int32 × pz_S := match S with
  | (n, k, w, sp, t) => if pz_small x k = false then (nI 0, S) else (nI 1, (n, k, pz_up w (16 * x.toNatClampNeg + 1) (w (16 * x.toNatClampNeg + 1) ^^^ 1), sp, t))
/-- the class's cells hold state S -/
def cz (G : aw_G) (S : pz_S) (h : aw_H) : Prop := S.1 = aw_n G ∧ mz G S.2.1 S.2.2.2.1 S.2.2.1 h ∧ hz_T 4 S.2.2.2.2 h
theorem pz_wf.ct10 {k : Nat} {t : pz_T} (h : pz_wf k t) {d : Nat} (hd : d < 8) : pz_ct t d ≤ 10 := by
  have h2 := h.2.1 d hd
  by_cases h0 : pz_kd t d = 0
  · rw [(h.2.2.1 d hd h0).1]; omega
  · by_cases h1 : pz_kd t d = 1
    · have := h.ct hd h1; omega
    · exact (h.2.2.2.1 d hd (by omega)).1
theorem pz_inv.iz {n k sp : Nat} {w : Nat → Nat} {t : pz_T} (h : pz_inv (n, k, w, sp, t)) : iz k w := by
  obtain ⟨-, -, -, -, -, -, -, -, h9⟩ := h
  intro p hp h3 i hi
  obtain ⟨h1, h2, -⟩ := h9 p hp h3
  refine ⟨h1 i hi, ?_⟩
  by_cases h0 : pz_nm w p i = 0
  · exact Or.inl h0
  · have h4 := h2.ct10 hi
    have h5 : pz_ct (pz_read w p) i = w (16 * (pz_nm w p i - 1) + 5) := if_neg h0
    rw [h5] at h4
    exact Or.inr h4
end
section
/- the class's public questions -/
theorem p_left {l : Launch} {G : aw_G} (hG : gz G) {h : aw_H} {S : pz_S} (hS : cz G S h) : aw_I l G 1 Y_S_left [.inl (some 0)] h (.inr (pz_left S)) := by
  obtain ⟨n, k, w, sp, t⟩ := S
  obtain ⟨rfl, ⟨⟨e0, -⟩, e3, -, hk, -, -⟩, -⟩ := hS
  refine aw_met hG.1 (by decide) (Nat.le_of_ble_eq_true rfl) (fun M hM B E => ?_)
  show aw_X M G 1 0 [some (.inl (some 0))] [] h
  have i0 := hG.is0
  have i1 := hG.is1
  have r0 : aw_rM 0 0 = some 1 := rfl
  refine ax_aload_n (q := 1) B d_S_left_0 rfl rfl rfl ?_
  refine ax_getP (q := 4) B fl_S_23 rfl d_S_left_1 (by assumption) (by assumption) rfl ?_
  refine ax_qV0 (q := 7) B cv_S_146 d_S_left_4 (by assumption) (Nat.le_of_ble_eq_true rfl) (by decide) (k_unwritten hG e0 e3 hk) rfl ?_
  refine ax_iret B E d_S_left_7 ?_
  exact ⟨rfl, rfl⟩
theorem p_changed {l : Launch} {G : aw_G} (hG : gz G) {h : aw_H} {S : pz_S} (hS : cz G S h) : aw_I l G 1 Y_S_changed [.inl (some 0)] h (.inr (pz_changed S)) := by
  refine aw_met hG.1 (by decide) (Nat.le_of_ble_eq_true rfl) (fun M hM B E => ?_)
  show aw_X M G 1 0 [some (.inl (some 0))] [] h
  have i0 := hG.is0
  have i4 := hG.t4.2.1
  have r1 : aw_rM 0 1 = some 4 := rfl
  refine ax_aload_n (q := 1) B d_S_changed_0 rfl rfl rfl ?_
  refine ax_getP (q := 4) B fl_S_30 rfl d_S_changed_1 (by assumption) (by assumption) rfl ?_
  refine ax_qV0 (q := 7) B cv_S_125 d_S_changed_4 (by assumption) (Nat.le_of_ble_eq_true rfl) (by decide) (k_countChanged hG.1 hG.t4 hS.2.2) rfl ?_
  refine ax_iret B E d_S_changed_7 ?_
  exact ⟨rfl, rfl⟩
theorem p_tables {l : Launch} {G : aw_G} (hG : gz G) {h : aw_H} {S : pz_S} (hS : cz G S h) (hI : pz_inv S) : aw_I l G 4 Y_S_tables [.inl (some 0)] h (.inr (pz_tables S)) := by
  obtain ⟨n, k, w, sp, t⟩ := S
  have hi := hI.iz
  obtain ⟨rfl, hm, -⟩ := hS
  have hm : mz G k sp w h := hm
  refine aw_met hG.1 (by decide) (Nat.le_of_ble_eq_true rfl) (fun M hM B E => ?_)
  show aw_X M G 3 0 [some (.inl (some 0)), none, none] [] h
  have i0 := hG.is0
  have i1 := hG.is1
  have r0 : aw_rM 0 0 = some 1 := rfl
  have n2 := hG.2.2.2
  have e3 := hm.2.1
  have hk := hm.2.2.2.1
  have loop : ∀ m j, j + m = k → aw_X M G 3 4 [some (.inl (some 0)), some (.inr (nI (pz_tabs w j))), some (.inr (nI j))] [] h := by
    intro m
    induction m with
    | zero =>
      intro j hj
      have hj : j = k := by omega
      subst hj
      refine ax_iload_n (q := 5) B d_S_tables_4 rfl rfl rfl ?_
      refine ax_aload_n (q := 6) B d_S_tables_5 rfl rfl rfl ?_
      refine ax_getP (q := 9) B fl_S_23 rfl d_S_tables_6 (by assumption) (by assumption) rfl ?_
      refine ax_getN (q := 12) B fl_S_84 rfl d_S_tables_9 (by assumption) (by first | assumption | rfl) rfl ?_
      refine ax_icmpN_ge (q := 32) (q2 := 15) B (by omega) (by omega) d_S_tables_12 rfl rfl (fun h12 => ?_) (fun h12 => ?_)
      · refine ax_iload_n (q := 33) B d_S_tables_32 rfl rfl rfl ?_
        refine ax_iret B E d_S_tables_33 ?_
        exact ⟨rfl, rfl⟩
      · omega
    | succ m ih =>
      intro j hj
      have h3 := ih (j + 1) (by omega)
      have ht : pz_tabs w (j + 1) = pz_tabs w j + (if pz_valid w j = true then 1 else 0) := rfl
      rw [ht] at h3
      refine ax_iload_n (q := 5) B d_S_tables_4 rfl rfl rfl ?_
      refine ax_aload_n (q := 6) B d_S_tables_5 rfl rfl rfl ?_
      refine ax_getP (q := 9) B fl_S_23 rfl d_S_tables_6 (by assumption) (by assumption) rfl ?_
      refine ax_getN (q := 12) B fl_S_84 rfl d_S_tables_9 (by assumption) (by first | assumption | rfl) rfl ?_
      refine ax_icmpN_ge (q := 32) (q2 := 15) B (by omega) (by omega) d_S_tables_12 rfl rfl (fun h12 => ?_) (fun h12 => ?_)
      · omega
      · refine ax_aload_n (q := 16) B d_S_tables_15 rfl rfl rfl ?_
        refine ax_iload_n (q := 17) B d_S_tables_16 rfl rfl rfl ?_
        refine ax_qV1 (q := 20) B cv_S_149 d_S_tables_17 (by assumption) (Nat.le_of_ble_eq_true rfl) (by decide) (k_isValid hG hm hi (by omega)) rfl ?_
        refine ax_ifZ_eq (q := 26) (q2 := 23) B d_S_tables_20 rfl rfl (fun h20 => ?_) (fun h20 => ?_)
        · refine ax_iincN (j := 1) (q := 29) B d_S_tables_26 rfl ii_1 (by decide) rfl ?_
          refine ax_goto (q := 4) B d_S_tables_29 rfl ?_
          rw [h20] at h3
          exact h3
        · refine ax_iincN (j := 1) (q := 26) B d_S_tables_23 rfl ii_1 (by decide) rfl ?_
          refine ax_iincN (j := 1) (q := 29) B d_S_tables_26 rfl ii_1 (by decide) rfl ?_
          refine ax_goto (q := 4) B d_S_tables_29 rfl ?_
          rw [h20] at h3
          exact h3
  refine ax_iconst (v := nI 0) (q := 1) B d_S_tables_0 ci_0 rfl ?_
  refine ax_istore_n (q := 2) B d_S_tables_1 rfl (by decide) rfl ?_
  refine ax_iconst (v := nI 0) (q := 3) B d_S_tables_2 ci_0 rfl ?_
  refine ax_istore_n (q := 4) B d_S_tables_3 rfl (by decide) rfl ?_
  exact loop k 0 (by omega)
theorem p_word {l : Launch} {G : aw_G} (hG : gz G) {h : aw_H} {S : pz_S} (hS : cz G S h) (x i : Int32) : aw_I l G 2 Y_S_word [.inl (some 0), .inr x, .inr i] h (.inr (pz_word S x i)) := by
  obtain ⟨n, k, w, sp, t⟩ := S
  obtain ⟨hn, hm, -⟩ := hS
  have hn : n = aw_n G := hn
  subst hn
  have hm : mz G k sp w h := hm
  refine aw_met hG.1 (by decide) (Nat.le_of_ble_eq_true rfl) (fun M hM B E => ?_)
  show aw_X M G 3 0 [some (.inl (some 0)), some (.inr x), some (.inr i)] [] h
  have i0 := hG.is0
  have i1 := hG.is1
  have r0 : aw_rM 0 0 = some 1 := rfl
  have n2 := hG.2.2.2
  unfold pz_word at E
  have E : aw_E M G (some .int) (fun r h' => r = some (.inr (if (pz_small x (aw_n G) && pz_small i 16) = true then nI (w (16 * x.toNatClampNeg + i.toNatClampNeg)) else -1)) ∧ h' = h) := E
  refine ax_aload_n (q := 1) B d_S_word_0 rfl rfl rfl ?_
  refine ax_getP (q := 4) B fl_S_23 rfl d_S_word_1 (by assumption) (by assumption) rfl ?_
  refine ax_iload_n (q := 5) B d_S_word_4 rfl rfl rfl ?_
  refine ax_iload_n (q := 6) B d_S_word_5 rfl rfl rfl ?_
  refine ax_qV2 (q := 9) B cv_S_169 d_S_word_6 (by assumption) (Nat.le_of_ble_eq_true rfl) (by decide) (k_hasWord hG hm.1.1 _ _) rfl ?_
  refine ax_ifZ_eq (q := 24) (q2 := 12) B d_S_word_9 rfl rfl (fun h9 => ?_) (fun h9 => ?_)
  · rw [if_neg (by rw [h9]; decide)] at E
    refine ax_iconst (v := (-1)) (q := 25) B d_S_word_24 ci_m1 rfl ?_
    refine ax_iret B E d_S_word_25 ?_
    exact ⟨rfl, rfl⟩
  · rw [if_pos h9] at E
    rw [Bool.and_eq_true] at h9
    obtain ⟨p, hp, rfl⟩ := pz_small_e (by omega) h9.1
    obtain ⟨j, hj, rfl⟩ := pz_small_e (by omega) h9.2
    rw [nI_clamp (by omega), nI_clamp (by omega)] at E
    refine ax_aload_n (q := 13) B d_S_word_12 rfl rfl rfl ?_
    refine ax_getP (q := 16) B fl_S_23 rfl d_S_word_13 (by assumption) (by assumption) rfl ?_
    refine ax_iload_n (q := 17) B d_S_word_16 rfl rfl rfl ?_
    refine ax_iload_n (q := 18) B d_S_word_17 rfl rfl rfl ?_
    refine ax_qV2 (q := 21) B cv_S_166 d_S_word_18 (by assumption) (Nat.le_of_ble_eq_true rfl) (by decide) (k_word hG hm.1 hp hj) rfl ?_
    refine ax_goto (q := 25) B d_S_word_21 rfl ?_
    exact ax_iret B E d_S_word_25 ⟨rfl, rfl⟩
end
section
theorem hz_T.kept {tb : Nat} {t : pz_T} {h h' : aw_H} (hT : hz_T tb t h) (e : ∀ q, tb + 2 ≤ q → q < tb + 18 → h' q = h q) : hz_T tb t h' := fun i hi => (hT i hi).kept (e _ (by omega) (by omega)) (e _ (by omega) (by omega))
theorem k_tree {l : Launch} {G : aw_G} (hG : gz G) {h : aw_H} {S : pz_S} (hS : cz G S h) (hI : pz_inv S) (a : Int32) : aw_F l G 5 Y_S_treeAt [.inl (some 0), .inr a] h (fun v h' => ∃ tb, v = .inl (some tb) ∧ tz G tb ∧ hz_T tb (pz_tv S a) h' ∧ cz G S h' ∧ ∀ q, 40 ≤ q → h' q = h q) := by
  obtain ⟨n, k, w, sp, t⟩ := S
  have hi := hI.iz
  have h1 := k_treeAt (l := l) hG hS.2.1 hi a
  refine aw_mono h1 (fun r h' hr => ?_)
  obtain ⟨v, hv, hq⟩ := hr
  refine ⟨v, hv, ?_⟩
  rcases hq with ⟨ha, hv4, rfl⟩ | ⟨ha, hv22, hT, hf⟩
  · refine ⟨4, hv4, hG.t4, ?_, hS, fun q _ => rfl⟩
    unfold pz_tv
    rw [if_pos ha]
    exact hS.2.2
  · refine ⟨22, hv22, hG.t22, ?_, ⟨hS.1, hS.2.1.kept (hf 1 (by omega)) (hf 2 (by omega)) (hf 3 (by omega)), hS.2.2.kept (fun q q1 q2 => hf q (by omega))⟩, fun q hq => hf q (by omega)⟩
    unfold pz_tv
    rw [if_neg ha]
    exact hT
theorem p_kind {l : Launch} {G : aw_G} (hG : gz G) {h : aw_H} {S : pz_S} (hS : cz G S h) (hI : pz_inv S) (a x : Int32) : aw_F l G 6 Y_S_kind [.inl (some 0), .inr a, .inr x] h (fun v h' => v = .inr (pz_kind S a x) ∧ cz G S h' ∧ ∀ q, 40 ≤ q → h' q = h q) := by
  refine aw_met hG.1 (by decide) (Nat.le_of_ble_eq_true rfl) (fun M hM B E => ?_)
  show aw_X M G 4 0 [some (.inl (some 0)), some (.inr a), some (.inr x), none] [] h
  have i0 := hG.is0
  refine ax_aload_n (q := 1) B d_S_kind_0 rfl rfl rfl ?_
  refine ax_iload_n (q := 2) B d_S_kind_1 rfl rfl rfl ?_
  refine ax_gV1 (q := 5) B cv_S_152 d_S_kind_2 (by assumption) (Nat.le_of_ble_eq_true rfl) (by decide) (k_tree hG hS hI a) rfl (fun v h1 hv => ?_)
  obtain ⟨tb, rfl, ht, hT, hS1, hf⟩ := hv
  have it := ht.2.1
  unfold pz_kind at E
  generalize pz_tv S a = t at hT E
  refine ax_iload_n (q := 6) B d_S_kind_5 rfl rfl rfl ?_
  refine ax_qV1 (q := 9) B cv_S_106 d_S_kind_6 (by assumption) (Nat.le_of_ble_eq_true rfl) (by decide) (k_nodeAt hG.1 ht hT x) rfl ?_
  cases hx : pz_nd t (fun c => c != 0) x with
  | none =>
    rw [hx] at E
    refine ax_astore_n (q := 10) B d_S_kind_9 rfl (by decide) rfl ?_
    refine ax_aload_n (q := 11) B d_S_kind_10 rfl rfl rfl ?_
    refine ax_ifnonnull (q := 18) (q2 := 14) B d_S_kind_11 rfl rfl (fun _ h11 => ?_) (fun h11 => ?_)
    · cases h11
    · refine ax_iconst (v := (-1)) (q := 15) B d_S_kind_14 ci_m1 rfl ?_
      refine ax_goto (q := 22) B d_S_kind_15 rfl ?_
      refine ax_iret B E d_S_kind_22 ?_
      exact ⟨_, rfl, rfl, hS1, hf⟩
  | some i =>
    rw [hx] at E
    obtain ⟨hi8, -, -⟩ := pz_nd_lt hx
    have ii := (ht.2.2.2.2 i hi8).2.1
    have e1 := (hT i hi8).1
    show aw_X M G 4 9 [some (.inl (some 0)), some (.inr a), some (.inr x), none] [.inl (some (tb + 2 + 2 * i))] h1
    refine ax_astore_n (q := 10) B d_S_kind_9 rfl (by decide) rfl ?_
    refine ax_aload_n (q := 11) B d_S_kind_10 rfl rfl rfl ?_
    refine ax_ifnonnull (q := 18) (q2 := 14) B d_S_kind_11 rfl rfl (fun _ h11 => ?_) (fun h11 => ?_)
    · refine ax_aload_n (q := 19) B d_S_kind_18 rfl rfl rfl ?_
      refine ax_getN (q := 22) B fl_S_109 rfl d_S_kind_19 (by assumption) (by first | assumption | rfl) rfl ?_
      refine ax_iret B E d_S_kind_22 ?_
      exact ⟨_, rfl, rfl, hS1, hf⟩
    · cases h11
theorem p_items {l : Launch} {G : aw_G} (hG : gz G) {h : aw_H} {S : pz_S} (hS : cz G S h) (hI : pz_inv S) (a x : Int32) : aw_F l G 6 Y_S_items [.inl (some 0), .inr a, .inr x] h (fun v h' => v = .inr (pz_items S a x) ∧ cz G S h' ∧ ∀ q, 40 ≤ q → h' q = h q) := by
  refine aw_met hG.1 (by decide) (Nat.le_of_ble_eq_true rfl) (fun M hM B E => ?_)
  show aw_X M G 4 0 [some (.inl (some 0)), some (.inr a), some (.inr x), none] [] h
  have i0 := hG.is0
  refine ax_aload_n (q := 1) B d_S_items_0 rfl rfl rfl ?_
  refine ax_iload_n (q := 2) B d_S_items_1 rfl rfl rfl ?_
  refine ax_gV1 (q := 5) B cv_S_152 d_S_items_2 (by assumption) (Nat.le_of_ble_eq_true rfl) (by decide) (k_tree hG hS hI a) rfl (fun v h1 hv => ?_)
  obtain ⟨tb, rfl, ht, hT, hS1, hf⟩ := hv
  have it := ht.2.1
  unfold pz_items at E
  generalize pz_tv S a = t at hT E
  refine ax_iload_n (q := 6) B d_S_items_5 rfl rfl rfl ?_
  refine ax_qV1 (q := 9) B cv_S_106 d_S_items_6 (by assumption) (Nat.le_of_ble_eq_true rfl) (by decide) (k_nodeAt hG.1 ht hT x) rfl ?_
  cases hx : pz_nd t (fun c => c != 0) x with
  | none =>
    rw [hx] at E
    refine ax_astore_n (q := 10) B d_S_items_9 rfl (by decide) rfl ?_
    refine ax_aload_n (q := 11) B d_S_items_10 rfl rfl rfl ?_
    refine ax_ifnonnull (q := 18) (q2 := 14) B d_S_items_11 rfl rfl (fun _ h11 => ?_) (fun h11 => ?_)
    · cases h11
    · refine ax_iconst (v := (-1)) (q := 15) B d_S_items_14 ci_m1 rfl ?_
      refine ax_goto (q := 22) B d_S_items_15 rfl ?_
      refine ax_iret B E d_S_items_22 ?_
      exact ⟨_, rfl, rfl, hS1, hf⟩
  | some i =>
    rw [hx] at E
    obtain ⟨hi8, -, -⟩ := pz_nd_lt hx
    have ii := (ht.2.2.2.2 i hi8).2.1
    have e1 := (hT i hi8).2.1
    show aw_X M G 4 9 [some (.inl (some 0)), some (.inr a), some (.inr x), none] [.inl (some (tb + 2 + 2 * i))] h1
    refine ax_astore_n (q := 10) B d_S_items_9 rfl (by decide) rfl ?_
    refine ax_aload_n (q := 11) B d_S_items_10 rfl rfl rfl ?_
    refine ax_ifnonnull (q := 18) (q2 := 14) B d_S_items_11 rfl rfl (fun _ h11 => ?_) (fun h11 => ?_)
    · refine ax_aload_n (q := 19) B d_S_items_18 rfl rfl rfl ?_
      refine ax_getN (q := 22) B fl_S_80 rfl d_S_items_19 (by assumption) (by first | assumption | rfl) rfl ?_
      refine ax_iret B E d_S_items_22 ?_
      exact ⟨_, rfl, rfl, hS1, hf⟩
    · cases h11
theorem pz_ix_lt {f : Nat → Nat} {x : Int32} {j : Nat} : ∀ c, pz_ix f x c = some j → j < c
  | 0, h => by cases h
  | c + 1, h => by
    cases hq : pz_ix f x c with
    | some q =>
      rw [pz_ix_mono hq (by omega)] at h
      cases h
      have := pz_ix_lt c hq
      omega
    | none =>
      have h : (match pz_ix f x c with | some i => some i | none => if nI (f c / 16) = x then some c else none) = some j := h
      rw [hq] at h
      have h : (if nI (f c / 16) = x then some c else none) = some j := h
      by_cases hv : nI (f c / 16) = x
      · rw [if_pos hv] at h
        cases h
        omega
      · rw [if_neg hv] at h
        cases h
theorem p_find {l : Launch} {G : aw_G} (hG : gz G) {h : aw_H} {S : pz_S} (hS : cz G S h) (hI : pz_inv S) (a x nm : Int32) : aw_F l G 6 Y_S_find [.inl (some 0), .inr a, .inr x, .inr nm] h (fun v h' => v = .inr (pz_find S a x nm) ∧ cz G S h' ∧ ∀ q, 40 ≤ q → h' q = h q) := by
  refine aw_met hG.1 (by decide) (Nat.le_of_ble_eq_true rfl) (fun M hM B E => ?_)
  show aw_X M G 6 0 [some (.inl (some 0)), some (.inr a), some (.inr x), some (.inr nm), none, none] [] h
  have i0 := hG.is0
  refine ax_aload_n (q := 1) B d_S_find_0 rfl rfl rfl ?_
  refine ax_iload_n (q := 2) B d_S_find_1 rfl rfl rfl ?_
  refine ax_gV1 (q := 5) B cv_S_152 d_S_find_2 (by assumption) (Nat.le_of_ble_eq_true rfl) (by decide) (k_tree hG hS hI a) rfl (fun v h1 hv => ?_)
  obtain ⟨tb, rfl, ht, hT, hS1, hf⟩ := hv
  have it := ht.2.1
  unfold pz_find at E
  generalize pz_tv S a = t at hT E
  refine ax_iload_n (q := 6) B d_S_find_5 rfl rfl rfl ?_
  refine ax_qV1 (q := 9) B cv_S_40 d_S_find_6 (by assumption) (Nat.le_of_ble_eq_true rfl) (by decide) (k_directoryAt hG.1 ht hT x) rfl ?_
  cases hx : pz_nd t (fun c => c == 1) x with
  | none =>
    rw [hx] at E
    refine ax_astore (q := 11) B d_S_find_9 (by decide) rfl ?_
    refine ax_aload (q := 13) B d_S_find_11 rfl rfl ?_
    refine ax_ifnonnull (q := 18) (q2 := 16) B d_S_find_13 rfl rfl (fun _ h13 => ?_) (fun h13 => ?_)
    · cases h13
    · refine ax_iconst (v := (-1)) (q := 17) B d_S_find_16 ci_m1 rfl ?_
      refine ax_iret B E d_S_find_17 ?_
      exact ⟨_, rfl, rfl, hS1, hf⟩
  | some i =>
    rw [hx] at E
    obtain ⟨hi8, -, -⟩ := pz_nd_lt hx
    have ni := (ht.2.2.2.2 i hi8).2
    have ii := ni.1
    have hL := (hT i hi8).lz
    have hlt : ∀ j, pz_ix (pz_it t i) nm (pz_ct t i) = some j → j < pz_ct t i := fun j hj => pz_ix_lt _ hj
    have E : aw_E M G (some .int) (fun r h' => ∃ v, r = some v ∧ (v = .inr (oI ((pz_ix (pz_it t i) nm (pz_ct t i)).map (fun j => pz_it t i j % 16))) ∧ cz G S h' ∧ ∀ q, 40 ≤ q → h' q = h q)) := E
    show aw_X M G 6 9 [some (.inl (some 0)), some (.inr a), some (.inr x), some (.inr nm), none, none] [.inl (some (tb + 2 + 2 * i))] h1
    refine ax_astore (q := 11) B d_S_find_9 (by decide) rfl ?_
    refine ax_aload (q := 13) B d_S_find_11 rfl rfl ?_
    refine ax_ifnonnull (q := 18) (q2 := 16) B d_S_find_13 rfl rfl (fun _ h13 => ?_) (fun h13 => ?_)
    · refine ax_aload (q := 20) B d_S_find_18 rfl rfl ?_
      refine ax_iload_n (q := 21) B d_S_find_20 rfl rfl rfl ?_
      refine ax_qV1 (q := 24) B cv_S_48 d_S_find_21 (by assumption) (Nat.le_of_ble_eq_true rfl) (by decide) (k_indexOfName hG.1 ni hL nm) rfl ?_
      refine ax_istore (q := 26) B d_S_find_24 (by decide) rfl ?_
      refine ax_iload (q := 28) B d_S_find_26 rfl rfl ?_
      refine ax_iconst (v := (-1)) (q := 29) B d_S_find_28 ci_m1 rfl ?_
      refine ax_icmp_ne (q := 36) (q2 := 32) B d_S_find_29 rfl rfl (fun h29 => ?_) (fun h29 => ?_)
      · refine ax_aload (q := 38) B d_S_find_36 rfl rfl ?_
        refine ax_iload (q := 40) B d_S_find_38 rfl rfl ?_
        refine ax_qV1 (q := 43) B cv_S_103 d_S_find_40 (by assumption) (Nat.le_of_ble_eq_true rfl) (by decide) (k_nodeOfItem hG.1 ni hL hlt) rfl ?_
        refine ax_iret B E d_S_find_43 ?_
        exact ⟨_, rfl, rfl, hS1, hf⟩
      · rw [oI_m1 (fun j hj => by have h2 := hlt j hj; have h3 := hL.2.1; omega) h29] at E
        refine ax_iconst (v := (-1)) (q := 33) B d_S_find_32 ci_m1 rfl ?_
        refine ax_goto (q := 43) B d_S_find_33 rfl ?_
        refine ax_iret B E d_S_find_43 ?_
        exact ⟨_, rfl, rfl, hS1, hf⟩
    · cases h13
theorem p_item {l : Launch} {G : aw_G} (hG : gz G) {h : aw_H} {S : pz_S} (hS : cz G S h) (hI : pz_inv S) (a x y : Int32) : aw_F l G 6 Y_S_item [.inl (some 0), .inr a, .inr x, .inr y] h (fun v h' => v = .inr (pz_item S a x y) ∧ cz G S h' ∧ ∀ q, 40 ≤ q → h' q = h q) := by
  refine aw_met hG.1 (by decide) (Nat.le_of_ble_eq_true rfl) (fun M hM B E => ?_)
  show aw_X M G 5 0 [some (.inl (some 0)), some (.inr a), some (.inr x), some (.inr y), none] [] h
  have i0 := hG.is0
  refine ax_aload_n (q := 1) B d_S_item_0 rfl rfl rfl ?_
  refine ax_iload_n (q := 2) B d_S_item_1 rfl rfl rfl ?_
  refine ax_gV1 (q := 5) B cv_S_152 d_S_item_2 (by assumption) (Nat.le_of_ble_eq_true rfl) (by decide) (k_tree hG hS hI a) rfl (fun v h1 hv => ?_)
  obtain ⟨tb, rfl, ht, hT, hS1, hf⟩ := hv
  have it := ht.2.1
  unfold pz_item at E
  generalize pz_tv S a = t at hT E
  refine ax_iload_n (q := 6) B d_S_item_5 rfl rfl rfl ?_
  refine ax_qV1 (q := 9) B cv_S_40 d_S_item_6 (by assumption) (Nat.le_of_ble_eq_true rfl) (by decide) (k_directoryAt hG.1 ht hT x) rfl ?_
  cases hx : pz_nd t (fun c => c == 1) x with
  | none =>
    rw [hx] at E
    refine ax_astore (q := 11) B d_S_item_9 (by decide) rfl ?_
    refine ax_aload (q := 13) B d_S_item_11 rfl rfl ?_
    refine ax_ifnull (q := 25) (q2 := 16) B d_S_item_13 rfl rfl (fun h13 => ?_) (fun _ h13 => ?_)
    · refine ax_iconst (v := (-1)) (q := 26) B d_S_item_25 ci_m1 rfl ?_
      refine ax_goto (q := 36) B d_S_item_26 rfl ?_
      refine ax_iret B E d_S_item_36 ?_
      exact ⟨_, rfl, rfl, hS1, hf⟩
    · cases h13
  | some i =>
    rw [hx] at E
    obtain ⟨hi8, -, -⟩ := pz_nd_lt hx
    obtain ⟨ii, ri, ai⟩ := (ht.2.2.2.2 i hi8).2
    have ni := (ht.2.2.2.2 i hi8).2
    have hN := hT i hi8
    have hc := hN.2.2.2.2.2.1
    have E : aw_E M G (some .int) (fun r h' => ∃ v, r = some v ∧ (v = .inr (if pz_small y (pz_ct t i) = true then nI (pz_it t i y.toNatClampNeg) else -1) ∧ cz G S h' ∧ ∀ q, 40 ≤ q → h' q = h q)) := E
    show aw_X M G 5 9 [some (.inl (some 0)), some (.inr a), some (.inr x), some (.inr y), none] [.inl (some (tb + 2 + 2 * i))] h1
    refine ax_astore (q := 11) B d_S_item_9 (by decide) rfl ?_
    refine ax_aload (q := 13) B d_S_item_11 rfl rfl ?_
    refine ax_ifnull (q := 25) (q2 := 16) B d_S_item_13 rfl rfl (fun h13 => ?_) (fun _ h13 => ?_)
    · first | (cases h13; done) | (rw [if_neg (by rw [h22]; decide)] at E; refine ax_iconst (v := (-1)) (q := 26) B d_S_item_25 ci_m1 rfl ?_; refine ax_goto (q := 36) B d_S_item_26 rfl ?_; exact ax_iret B E d_S_item_36 ⟨_, rfl, rfl, hS1, hf⟩)
    · refine ax_aload (q := 18) B d_S_item_16 rfl rfl ?_
      refine ax_iload_n (q := 19) B d_S_item_18 rfl rfl rfl ?_
      refine ax_qV1 (q := 22) B cv_S_156 d_S_item_19 (by assumption) (Nat.le_of_ble_eq_true rfl) (by decide) (k_has hG.1 ni hN.2.1 y) rfl ?_
      refine ax_ifZ_ne (q := 29) (q2 := 25) B d_S_item_22 rfl rfl (fun h22 => ?_) (fun h22 => ?_)
      · rw [if_pos h22] at E
        obtain ⟨j, hj, rfl⟩ := pz_small_e (by omega) h22
        rw [nI_clamp (by omega)] at E
        have ej := (hN.2.2.2.2.2.2 j hj).1
        refine ax_aload (q := 31) B d_S_item_29 rfl rfl ?_
        refine ax_getP (q := 34) B fl_S_159 rfl d_S_item_31 (by assumption) (by assumption) rfl ?_
        refine ax_iload_n (q := 35) B d_S_item_34 rfl rfl rfl ?_
        refine ax_ialdN (q := 36) B d_S_item_35 (by assumption) rfl (by omega) (by omega) ej rfl ?_
        exact ax_iret B E d_S_item_36 ⟨_, rfl, rfl, hS1, hf⟩
      · first | (cases h13; done) | (rw [if_neg (by rw [h22]; decide)] at E; refine ax_iconst (v := (-1)) (q := 26) B d_S_item_25 ci_m1 rfl ?_; refine ax_goto (q := 36) B d_S_item_26 rfl ?_; exact ax_iret B E d_S_item_36 ⟨_, rfl, rfl, hS1, hf⟩)
end
section
/-- a file's blocks in any tree that can be seen lie on the medium -/
theorem pz_tv_blk {S : pz_S} (hI : pz_inv S) (a : Int32) {i j : Nat} (hi : i < 8) (h2 : pz_kd (pz_tv S a) i = 2) (hj : j < pz_ct (pz_tv S a) i) : pz_it (pz_tv S a) i j < S.2.1 := by
  obtain ⟨n, k, w, sp, t⟩ := S
  obtain ⟨-, -, -, -, -, -, hw, -, h9⟩ := hI
  unfold pz_tv at h2 hj ⊢
  by_cases ha : a = 0
  · rw [if_pos ha] at h2 hj ⊢
    exact (hw.2.2.2.1 i hi h2).2 j hj
  · rw [if_neg ha] at h2 hj ⊢
    have h2 : pz_kd (pz_past w a k) i = 2 := h2
    have hj : j < pz_ct (pz_past w a k) i := hj
    show pz_it (pz_past w a k) i j < k
    unfold pz_past at h2 hj ⊢
    cases hx : pz_tabAt w a k with
    | none => rw [hx] at h2; cases h2
    | some p =>
      rw [hx] at h2 hj
      obtain ⟨hp, hv⟩ := pz_tabAt_lt k hx
      exact ((h9 p hp (pz_valid_3 hv)).2.1.2.2.2.1 i hi h2).2 j hj
theorem p_block {l : Launch} {G : aw_G} (hG : gz G) {h : aw_H} {S : pz_S} (hS : cz G S h) (hI : pz_inv S) (a x y : Int32) : aw_F l G 6 Y_S_block [.inl (some 0), .inr a, .inr x, .inr y] h (fun v h' => v = .inr (pz_block S a x y) ∧ cz G S h' ∧ ∀ q, 40 ≤ q → h' q = h q) := by
  refine aw_met hG.1 (by decide) (Nat.le_of_ble_eq_true rfl) (fun M hM B E => ?_)
  show aw_X M G 6 0 [some (.inl (some 0)), some (.inr a), some (.inr x), some (.inr y), none, none] [] h
  have i0 := hG.is0
  have i1 := hG.is1
  have r0 : aw_rM 0 0 = some 1 := rfl
  have n2 := hG.2.2.2
  refine ax_aload_n (q := 1) B d_S_block_0 rfl rfl rfl ?_
  refine ax_iload_n (q := 2) B d_S_block_1 rfl rfl rfl ?_
  refine ax_gV1 (q := 5) B cv_S_152 d_S_block_2 (by assumption) (Nat.le_of_ble_eq_true rfl) (by decide) (k_tree hG hS hI a) rfl (fun v h1 hv => ?_)
  obtain ⟨tb, rfl, ht, hT, hS1, hf⟩ := hv
  have it := ht.2.1
  unfold pz_block at E
  have hb := fun i j => pz_tv_blk hI a (i := i) (j := j)
  generalize pz_tv S a = t at hT E hb
  refine ax_iload_n (q := 6) B d_S_block_5 rfl rfl rfl ?_
  refine ax_qV1 (q := 9) B cv_S_76 d_S_block_6 (by assumption) (Nat.le_of_ble_eq_true rfl) (by decide) (k_fileAt hG.1 ht hT x) rfl ?_
  cases hx : pz_nd t (fun c => c == 2) x with
  | none =>
    rw [hx] at E
    refine ax_astore (q := 11) B d_S_block_9 (by decide) rfl ?_
    refine ax_aload (q := 13) B d_S_block_11 rfl rfl ?_
    refine ax_ifnull (q := 25) (q2 := 16) B d_S_block_13 rfl rfl (fun h13 => ?_) (fun _ h13 => ?_)
    · refine ax_iconst (v := (-1)) (q := 26) B d_S_block_25 ci_m1 rfl ?_
      refine ax_iret B E d_S_block_26 ?_
      exact ⟨_, rfl, rfl, hS1, hf⟩
    · cases h13
  | some i =>
    rw [hx] at E
    obtain ⟨hi8, hk2, -⟩ := pz_nd_lt hx
    have hk2 : pz_kd t i = 2 := beq_iff_eq.mp hk2
    obtain ⟨ii, ri, ai⟩ := (ht.2.2.2.2 i hi8).2
    have ni := (ht.2.2.2.2 i hi8).2
    have hN := hT i hi8
    have hc := hN.2.2.2.2.2.1
    have E : aw_E M G (some .int) (fun r h' => ∃ v, r = some v ∧ (v = .inr (if pz_small y (pz_ct t i) = true then (if pz_good S.2.2.1 (pz_it t i y.toNatClampNeg) = true then nI (S.2.2.1 (16 * pz_it t i y.toNatClampNeg + 4)) else -8) else -1) ∧ cz G S h' ∧ ∀ q, 40 ≤ q → h' q = h q)) := E
    show aw_X M G 6 9 [some (.inl (some 0)), some (.inr a), some (.inr x), some (.inr y), none, none] [.inl (some (tb + 2 + 2 * i))] h1
    have tail : ∀ j, y = nI j → j < pz_ct t i → aw_X M G 6 27 [some (.inl (some 0)), some (.inr a), some (.inr x), some (.inr y), some (.inl (some (tb + 2 + 2 * i))), none] [] h1 := by
      intro j hy hj
      subst hy
      rw [if_pos (pz_small_N (by omega) hj), nI_clamp (by omega)] at E
      have ej := (hN.2.2.2.2.2.2 j hj).1
      have hbj := hb i j hi8 hk2 hj
      have hkn := hS1.2.1.2.2.2.1
      generalize pz_it t i j = p at ej hbj E
      refine ax_aload (q := 29) B d_S_block_27 rfl rfl ?_
      refine ax_getP (q := 32) B fl_S_159 rfl d_S_block_29 (by assumption) (by assumption) rfl ?_
      refine ax_iload_n (q := 33) B d_S_block_32 rfl rfl rfl ?_
      refine ax_ialdN (q := 34) B d_S_block_33 (by assumption) rfl (by omega) (by omega) (by first | assumption | rfl) rfl ?_
      refine ax_istore (q := 36) B d_S_block_34 (by decide) rfl ?_
      refine ax_aload_n (q := 37) B d_S_block_36 rfl rfl rfl ?_
      refine ax_getP (q := 40) B fl_S_23 rfl d_S_block_37 (by assumption) (by assumption) rfl ?_
      refine ax_iload (q := 42) B d_S_block_40 rfl rfl ?_
      refine ax_qV1 (q := 45) B cv_S_163 d_S_block_42 (by assumption) (Nat.le_of_ble_eq_true rfl) (by decide) (k_good hG hS1.2.1 hbj) rfl ?_
      refine ax_ifZ_eq (q := 61) (q2 := 48) B d_S_block_45 rfl rfl (fun h45 => ?_) (fun h45 => ?_)
      · refine ax_bipush (v := (-8)) (q := 63) B d_S_block_61 cb_m8 rfl ?_
        refine ax_iret B E d_S_block_63 ?_
        exact ⟨_, rfl, by rw [h45]; rfl, hS1, hf⟩
      · refine ax_aload_n (q := 49) B d_S_block_48 rfl rfl rfl ?_
        refine ax_getP (q := 52) B fl_S_23 rfl d_S_block_49 (by assumption) (by assumption) rfl ?_
        refine ax_iload (q := 54) B d_S_block_52 rfl rfl ?_
        refine ax_iconst (v := nI 4) (q := 55) B d_S_block_54 ci_4 rfl ?_
        refine ax_qV2 (q := 58) B cv_S_166 d_S_block_55 (by assumption) (Nat.le_of_ble_eq_true rfl) (by decide) (k_word hG hS1.2.1.1 (by omega) (by omega)) rfl ?_
        refine ax_goto (q := 63) B d_S_block_58 rfl ?_
        refine ax_iret B E d_S_block_63 ?_
        exact ⟨_, rfl, by rw [h45]; rfl, hS1, hf⟩
    refine ax_astore (q := 11) B d_S_block_9 (by decide) rfl ?_
    refine ax_aload (q := 13) B d_S_block_11 rfl rfl ?_
    refine ax_ifnull (q := 25) (q2 := 16) B d_S_block_13 rfl rfl (fun h13 => ?_) (fun _ h13 => ?_)
    · first | (cases h13; done) | (rw [if_neg (by rw [h22]; decide)] at E; refine ax_iconst (v := (-1)) (q := 26) B d_S_block_25 ci_m1 rfl ?_; exact ax_iret B E d_S_block_26 ⟨_, rfl, rfl, hS1, hf⟩)
    · refine ax_aload (q := 18) B d_S_block_16 rfl rfl ?_
      refine ax_iload_n (q := 19) B d_S_block_18 rfl rfl rfl ?_
      refine ax_qV1 (q := 22) B cv_S_156 d_S_block_19 (by assumption) (Nat.le_of_ble_eq_true rfl) (by decide) (k_has hG.1 ni hN.2.1 y) rfl ?_
      refine ax_ifZ_ne (q := 27) (q2 := 25) B d_S_block_22 rfl rfl (fun h22 => ?_) (fun h22 => ?_)
      · obtain ⟨j, hj, hy⟩ := pz_small_e (by omega) h22
        exact tail j hy hj
      · first | (cases h13; done) | (rw [if_neg (by rw [h22]; decide)] at E; refine ax_iconst (v := (-1)) (q := 26) B d_S_block_25 ci_m1 rfl ?_; exact ax_iret B E d_S_block_26 ⟨_, rfl, rfl, hS1, hf⟩)
end
section
/- the class's calls that change something -/
theorem p_arm {l : Launch} {G : aw_G} (hG : gz G) {h : aw_H} {S : pz_S} (hS : cz G S h) (x : Int32) : aw_F l G 0 Y_S_arm [.inl (some 0), .inr x] h (fun v h' => v = .inr (pz_arm S x).1 ∧ cz G (pz_arm S x).2 h' ∧ ∀ q, 40 ≤ q → h' q = h q) := by
  obtain ⟨n, k, w, sp, t⟩ := S
  refine aw_met hG.1 (by decide) (Nat.le_of_ble_eq_true rfl) (fun M hM B E => ?_)
  show aw_X M G 2 0 [some (.inl (some 0)), some (.inr x)] [] h
  have i0 := hG.is0
  have i1 := hG.is1
  have r0 : aw_rM 0 0 = some 1 := rfl
  unfold pz_arm at E
  cases hx : pz_small x 1001 with
  | false =>
    have E : aw_E M G (some .boolean) (fun r h' => ∃ v, r = some v ∧ (v = .inr (if pz_small x 1001 = false then (nI 0, (n, k, w, sp, t)) else (nI 1, (n, k, w, x.toNatClampNeg + 1, t)) : Int32 × pz_S).1 ∧ cz G (if pz_small x 1001 = false then (nI 0, (n, k, w, sp, t)) else (nI 1, (n, k, w, x.toNatClampNeg + 1, t)) : Int32 × pz_S).2 h' ∧ ∀ q, 40 ≤ q → h' q = h q)) := E
    rw [if_pos hx] at E
    refine ax_iload_n (q := 1) B d_S_arm_0 rfl rfl rfl ?_
    refine ax_if_lt (q := 11) (q2 := 4) B d_S_arm_1 rfl rfl (fun h1 => ?_) (fun h1 => ?_)
    · refine ax_iconst (v := nI 0) (q := 12) B d_S_arm_11 ci_0 rfl ?_
      refine ax_zret B E (by first | exact bI_or _ | decide) d_S_arm_12 ?_
      exact ⟨_, rfl, rfl, hS, fun q _ => rfl⟩
    · refine ax_iload_n (q := 5) B d_S_arm_4 rfl rfl rfl ?_
      refine ax_sipush (v := nI 1000) (q := 8) B d_S_arm_5 cs_1000 rfl ?_
      refine ax_icmp_le (q := 13) (q2 := 11) B d_S_arm_8 rfl rfl (fun h8 => ?_) (fun h8 => ?_)
      · rw [pz_small_t h1 (fun z => by rw [Int32.le_iff_toInt_le] at z h8; rw [nI_toInt (by omega)] at z h8; omega)] at hx
        cases hx
      · refine ax_iconst (v := nI 0) (q := 12) B d_S_arm_11 ci_0 rfl ?_
        refine ax_zret B E (by first | exact bI_or _ | decide) d_S_arm_12 ?_
        exact ⟨_, rfl, rfl, hS, fun q _ => rfl⟩
  | true =>
    have E : aw_E M G (some .boolean) (fun r h' => ∃ v, r = some v ∧ (v = .inr (if pz_small x 1001 = false then (nI 0, (n, k, w, sp, t)) else (nI 1, (n, k, w, x.toNatClampNeg + 1, t)) : Int32 × pz_S).1 ∧ cz G (if pz_small x 1001 = false then (nI 0, (n, k, w, sp, t)) else (nI 1, (n, k, w, x.toNatClampNeg + 1, t)) : Int32 × pz_S).2 h' ∧ ∀ q, 40 ≤ q → h' q = h q)) := E
    rw [if_neg (by rw [hx]; decide)] at E
    obtain ⟨j, hj, rfl⟩ := pz_small_e (by omega) hx
    rw [nI_clamp (by omega)] at E
    obtain ⟨hn, ⟨hw, e3, e4, hk, hsp, hc⟩, hT⟩ := hS
    refine ax_iload_n (q := 1) B d_S_arm_0 rfl rfl rfl ?_
    refine ax_ifN_lt (q := 11) (q2 := 4) B (by omega) d_S_arm_1 rfl rfl ?_
    refine ax_iload_n (q := 5) B d_S_arm_4 rfl rfl rfl ?_
    refine ax_sipush (v := nI 1000) (q := 8) B d_S_arm_5 cs_1000 rfl ?_
    refine ax_icmpN_le (q := 13) (q2 := 11) B (by omega) (by omega) d_S_arm_8 rfl rfl (fun h8 => ?_) (fun h8 => ?_)
    · refine ax_aload_n (q := 14) B d_S_arm_13 rfl rfl rfl ?_
      refine ax_getP (q := 17) B fl_S_23 rfl d_S_arm_14 (by assumption) (by assumption) rfl ?_
      refine ax_iload_n (q := 18) B d_S_arm_17 rfl rfl rfl ?_
      refine ax_putN (q := 21) B fp_S_137 d_S_arm_18 (by assumption) rfl ?_
      refine ax_iconst (v := nI 1) (q := 22) B d_S_arm_21 ci_1 rfl ?_
      refine ax_zret B E (by first | exact bI_or _ | decide) d_S_arm_22 ?_
      exact ⟨_, rfl, rfl, ⟨hn, ⟨⟨aw_rd (by omega) hw.1, fun y hy => ⟨aw_rd (by omega) (hw.2 y hy).1, (hw.2 y hy).2⟩⟩, aw_rd (by omega) e3, aw_rs.trans (pk_m1 j).symm, hk, (show j + 1 ≤ 1001 by omega), fun p hp => aw_rd (by omega) (hc p hp)⟩, hT.kept (fun q q1 q2 => aw_u_ne (by omega))⟩, fun q hq => aw_u_ne (by omega)⟩
    · omega
theorem p_crash {l : Launch} {G : aw_G} (hG : gz G) {h : aw_H} {S : pz_S} (hS : cz G S h) (hI : pz_inv S) : aw_F l G 6 Y_S_crash [.inl (some 0)] h (fun v h' => v = .inr (pz_crash S).1 ∧ cz G (pz_crash S).2 h' ∧ ∀ q, 40 ≤ q → h' q = h q) := by
  obtain ⟨n, k, w, sp, t⟩ := S
  have hi := hI.iz
  obtain ⟨hn, hm, hT⟩ := hS
  have hm : mz G k sp w h := hm
  refine aw_met hG.1 (by decide) (Nat.le_of_ble_eq_true rfl) (fun M hM B E => ?_)
  show aw_X M G 1 0 [some (.inl (some 0))] [] h
  have i0 := hG.is0
  have i1 := hG.is1
  have r0 : aw_rM 0 0 = some 1 := rfl
  refine ax_aload_n (q := 1) B d_S_crash_0 rfl rfl rfl ?_
  refine ax_pV0 (q := 4) B cv_S_97 d_S_crash_1 (by assumption) (Nat.le_of_ble_eq_true rfl) (by decide) (k_readBack hG hm hi) rfl (fun h1 hh1 => ?_)
  obtain ⟨hT1, hf1⟩ := hh1
  have hm1 : mz G k sp w h1 := hm.kept (hf1 1 (by omega)) (hf1 2 (by omega)) (hf1 3 (by omega))
  refine ax_aload_n (q := 5) B d_S_crash_4 rfl rfl rfl ?_
  refine ax_getP (q := 8) B fl_S_23 rfl d_S_crash_5 (by assumption) (by assumption) rfl ?_
  refine ax_iconst (v := (-1)) (q := 9) B d_S_crash_8 ci_m1 rfl ?_
  refine ax_putN (q := 12) B fp_S_137 d_S_crash_9 (by assumption) rfl ?_
  obtain ⟨h2, hh2⟩ : ∃ h2, h2 = aw_u h1 1 4 (-1) := ⟨_, rfl⟩
  rw [← hh2]
  have hm2 : mz G k 0 w h2 := by
    obtain ⟨hw, e3, e4, hk, hsp, hc⟩ := hm1
    rw [hh2]
    exact ⟨⟨aw_rd (by omega) hw.1, fun y hy => ⟨aw_rd (by omega) (hw.2 y hy).1, (hw.2 y hy).2⟩⟩, aw_rd (by omega) e3, aw_rs, hk, by omega, fun p hp => aw_rd (by omega) (hc p hp)⟩
  have hT2 : hz_T 4 (pz_back w k) h2 := hT1.kept (fun q q1 q2 => by rw [hh2]; exact aw_u_ne (by omega))
  refine ax_aload_n (q := 13) B d_S_crash_12 rfl rfl rfl ?_
  refine ax_qV0 (q := 16) B cv_S_131 d_S_crash_13 (by assumption) (Nat.le_of_ble_eq_true rfl) (by decide) (k_newestNumber hG hm2 hi) rfl ?_
  exact ax_iret B E d_S_crash_16 ⟨_, rfl, rfl, ⟨hn, hm2, hT2⟩, fun q hq => by rw [hh2, aw_u_ne (by omega), hf1 q (by omega)]⟩
theorem sp_word {h : aw_H} {w : Nat → Nat} {n j y : Nat} (hw : ∀ x, x < 16 * n → h 2 x = nI (w x) ∧ w x < 65536) (wl : w (16 * j + 1) < 65536) (hy : y < 16 * n) : aw_u h 2 (16 * j + 1) (nI (w (16 * j + 1) ^^^ 1)) 2 y = nI (pz_up w (16 * j + 1) (w (16 * j + 1) ^^^ 1) y) ∧ pz_up w (16 * j + 1) (w (16 * j + 1) ^^^ 1) y < 65536 := by
  by_cases h1 : y = 16 * j + 1
  · subst h1
    rw [pz_up_s]
    exact ⟨aw_rs, pz_xor_lt (j := 16) wl (by omega)⟩
  · rw [pz_up_n h1]
    exact ⟨aw_rd (by omega) (hw y hy).1, (hw y hy).2⟩
theorem p_spoil {l : Launch} {G : aw_G} (hG : gz G) {h : aw_H} {S : pz_S} (hS : cz G S h) (x : Int32) : aw_F l G 2 Y_S_spoil [.inl (some 0), .inr x] h (fun v h' => v = .inr (pz_spoil S x).1 ∧ cz G (pz_spoil S x).2 h' ∧ ∀ q, 40 ≤ q → h' q = h q) := by
  obtain ⟨n, k, w, sp, t⟩ := S
  obtain ⟨hn, hm, hT⟩ := hS
  have hm : mz G k sp w h := hm
  refine aw_met hG.1 (by decide) (Nat.le_of_ble_eq_true rfl) (fun M hM B E => ?_)
  show aw_X M G 2 0 [some (.inl (some 0)), some (.inr x)] [] h
  have i0 := hG.is0
  have i1 := hG.is1
  have r0 : aw_rM 0 0 = some 1 := rfl
  have n2 := hG.2.2.2
  obtain ⟨hw, e3, e4, hk, hsp, hc⟩ := hm
  have E : aw_E M G (some .boolean) (fun r h' => ∃ v, r = some v ∧ (v = .inr (if pz_small x k = false then (nI 0, (n, k, w, sp, t)) else (nI 1, (n, k, pz_up w (16 * x.toNatClampNeg + 1) (w (16 * x.toNatClampNeg + 1) ^^^ 1), sp, t)) : Int32 × pz_S).1 ∧ cz G (if pz_small x k = false then (nI 0, (n, k, w, sp, t)) else (nI 1, (n, k, pz_up w (16 * x.toNatClampNeg + 1) (w (16 * x.toNatClampNeg + 1) ^^^ 1), sp, t)) : Int32 × pz_S).2 h' ∧ ∀ q, 40 ≤ q → h' q = h q)) := E
  refine ax_aload_n (q := 1) B d_S_spoil_0 rfl rfl rfl ?_
  refine ax_getP (q := 4) B fl_S_23 rfl d_S_spoil_1 (by assumption) (by assumption) rfl ?_
  refine ax_iload_n (q := 5) B d_S_spoil_4 rfl rfl rfl ?_
  refine ax_qV1 (q := 8) B cv_S_140 d_S_spoil_5 (by assumption) (Nat.le_of_ble_eq_true rfl) (by decide) (k_isWritten hG e3 _) rfl ?_
  cases hx : pz_small x k with
  | false =>
    rw [if_pos hx] at E
    refine ax_ifZ_ne (q := 13) (q2 := 11) B d_S_spoil_8 rfl rfl (fun h8 => ?_) (fun h8 => ?_)
    · cases h8
    · refine ax_iconst (v := nI 0) (q := 12) B d_S_spoil_11 ci_0 rfl ?_
      refine ax_zret B E (by first | exact bI_or _ | decide) d_S_spoil_12 ?_
      exact ⟨_, rfl, rfl, ⟨hn, ⟨hw, e3, e4, hk, hsp, hc⟩, hT⟩, fun q _ => rfl⟩
  | true =>
    rw [if_neg (by rw [hx]; decide)] at E
    obtain ⟨j, hj, rfl⟩ := pz_small_e (by omega) hx
    rw [nI_clamp (by omega)] at E
    obtain ⟨wj, wl⟩ := hw.2 (16 * j + 1) (by omega)
    refine ax_ifZ_ne (q := 13) (q2 := 11) B d_S_spoil_8 rfl rfl (fun h8 => ?_) (fun h8 => ?_)
    · refine ax_aload_n (q := 14) B d_S_spoil_13 rfl rfl rfl ?_
      refine ax_getP (q := 17) B fl_S_23 rfl d_S_spoil_14 (by assumption) (by assumption) rfl ?_
      refine ax_iload_n (q := 18) B d_S_spoil_17 rfl rfl rfl ?_
      refine ax_pV1 (q := 21) B cv_S_143 d_S_spoil_18 (by assumption) (Nat.le_of_ble_eq_true rfl) (by decide) (k_flipCheck hG e3 hk hj) rfl (fun h1 hh1 => ?_)
      rw [wj, nx_xor] at hh1
      subst hh1
      refine ax_iconst (v := nI 1) (q := 22) B d_S_spoil_21 ci_1 rfl ?_
      refine ax_zret B E (by first | exact bI_or _ | decide) d_S_spoil_22 ?_
      exact ⟨_, rfl, rfl, ⟨hn, ⟨⟨aw_rd (by omega) hw.1, fun y hy => sp_word hw.2 wl hy⟩, aw_rd (by omega) e3, aw_rd (by omega) e4, hk, hsp, fun p hp => aw_rd (by omega) ((hc p hp).trans (congrArg nI (pz_chk_ext (fun i hi h1 => (pz_up_n (by omega)).symm))))⟩, hT.kept (fun q q1 q2 => aw_u_ne (by omega))⟩, fun q hq => aw_u_ne (by omega)⟩
    · cases h8
end
section
theorem new_T {t : pz_T} {h : aw_H} {m x : Nat} (hT : hz_T 4 t h) (hm : m < 8) (hx : x < 65536) : hz_T 4 (pz_new t m x) (hz_new h (4 + 2 + 2 * m) (nI x)) := fun i hi => by
  by_cases him : i = m
  · subst him
    exact hz_new_N hx pz_up_s pz_up_s pz_up_s pz_up_s
  · exact ((hT i hi).ext (t' := pz_new t m x) (pz_up_n him) (pz_up_n him) (pz_up_n him) (pz_up_n him) (fun j hj => rfl)).kept (hz_new_ne (by omega)) (hz_new_ne (by omega))
theorem gone_T {t : pz_T} {h : aw_H} {m : Nat} (hT : hz_T 4 t h) (hm : m < 8) : hz_T 4 (pz_gone t m) (hz_abs h (4 + 2 + 2 * m)) := fun i hi => by
  by_cases him : i = m
  · subst him
    exact hz_abs_N pz_up_s pz_up_s pz_up_s pz_up_s
  · exact ((hT i hi).ext (t' := pz_gone t m) (pz_up_n him) (pz_up_n him) (pz_up_n him) (pz_up_n him) (fun j hj => rfl)).kept (hz_abs_ne (by omega)) (hz_abs_ne (by omega))
theorem add_T {t : pz_T} {h : aw_H} {d v : Nat} (hT : hz_T 4 t h) (hd : d < 8) (hc : pz_ct t d < 10) (hv : v < 65536) : hz_T 4 (pz_add t d v) (aw_u (aw_u (aw_u h (4 + 2 + 2 * d + 1) (pz_ct t d) (nI v)) (4 + 2 + 2 * d) 2 (nI (pz_ct t d + 1))) (4 + 2 + 2 * d) 4 (nI 1)) := fun i hi => by
  by_cases hid : i = d
  · subst hid
    obtain ⟨a1, a2, a3, a4, a5, a6, a7⟩ := hT i hi
    have e2 : pz_ct (pz_add t i v) i = pz_ct t i + 1 := pz_up_s
    have e3 : pz_ch (pz_add t i v) i = true := pz_up_s
    unfold hz_N
    rw [e2, e3]
    refine ⟨aw_rd (by omega) (aw_rd (by omega) (aw_rd (by omega) a1)), aw_rd (by omega) aw_rs, aw_rd (by omega) (aw_rd (by omega) (aw_rd (by omega) a3)), aw_rs, a5, by omega, fun j hj => ?_⟩
    have e4 : pz_it (pz_add t i v) i j = pz_up (pz_it t i) (pz_ct t i) v j := by
      show pz_up (pz_it t) i (pz_up (pz_it t i) (pz_ct t i) v) i j = _
      rw [pz_up_s]
    rw [e4]
    by_cases hj2 : j = pz_ct t i
    · subst hj2
      rw [pz_up_s]
      exact ⟨aw_rd (by omega) (aw_rd (by omega) aw_rs), hv⟩
    · rw [pz_up_n hj2]
      obtain ⟨b1, b2⟩ := a7 j (by omega)
      exact ⟨aw_rd (by omega) (aw_rd (by omega) (aw_rd (by omega) b1)), b2⟩
  · refine ((hT i hi).ext (t' := pz_add t d v) rfl (pz_up_n hid) (pz_up_n hid) rfl (fun j hj => ?_)).kept ?_ ?_
    · show pz_up (pz_it t) d _ i j = _
      rw [pz_up_n hid]
    · rw [aw_u_ne (by omega), aw_u_ne (by omega), aw_u_ne (by omega)]
    · rw [aw_u_ne (by omega), aw_u_ne (by omega), aw_u_ne (by omega)]
theorem p_make {l : Launch} {G : aw_G} (hG : gz G) {h : aw_H} {S : pz_S} (hS : cz G S h) (hI : pz_inv S) (dir name : Int32) (b : Bool) : aw_F l G 3 Y_S_make [.inl (some 0), .inr dir, .inr name, .inr (bI b)] h (fun v h' => v = .inr (pz_make S dir name b).1 ∧ cz G (pz_make S dir name b).2 h' ∧ ∀ q, 40 ≤ q → h' q = h q) := by
  obtain ⟨n, k, w, sp, t⟩ := S
  obtain ⟨-, -, -, -, -, -, hwf, -, -⟩ := hI
  have hS' := hS
  obtain ⟨hn, hm, hT⟩ := hS
  have hn : n = aw_n G := hn
  have hm : mz G k sp w h := hm
  have hT : hz_T 4 t h := hT
  have hwf : pz_wf k t := hwf
  refine aw_met hG.1 (by decide) (Nat.le_of_ble_eq_true rfl) (fun M hM B E => ?_)
  show aw_X M G 6 0 [some (.inl (some 0)), some (.inr dir), some (.inr name), some (.inr (bI b)), none, none] [] h
  have i0 := hG.is0
  have r1 : aw_rM 0 1 = some 4 := rfl
  have i4 := hG.t4.2.1
  have r4 := hG.t4.2.2.1
  have a5 := hG.t4.2.2.2.1
  have n2 := hG.2.2.2
  unfold pz_make at E
  refine ax_aload_n (q := 1) B d_S_make_0 rfl rfl rfl ?_
  refine ax_getP (q := 4) B fl_S_30 rfl d_S_make_1 (by assumption) (by assumption) rfl ?_
  refine ax_iload_n (q := 5) B d_S_make_4 rfl rfl rfl ?_
  refine ax_qV1 (q := 8) B cv_S_40 d_S_make_5 (by assumption) (Nat.le_of_ble_eq_true rfl) (by decide) (k_directoryAt hG.1 hG.t4 hT dir) rfl ?_
  cases hx : pz_nd t (fun c => c == 1) dir with
  | none =>
    simp only [hx] at E
    refine ax_astore (q := 10) B d_S_make_8 (by decide) rfl ?_
    refine ax_aload (q := 12) B d_S_make_10 rfl rfl ?_
    refine ax_ifnull (q := 22) (q2 := 15) B d_S_make_12 rfl rfl (fun h12 => ?_) (fun _ h12 => ?_)
    · refine ax_iconst (v := (-1)) (q := 23) B d_S_make_22 ci_m1 rfl ?_
      refine ax_iret B E d_S_make_23 ?_
      exact ⟨_, rfl, rfl, hS', fun q _ => rfl⟩
    · cases h12
  | some d =>
    simp only [hx] at E
    obtain ⟨hd8, hk1, -⟩ := pz_nd_lt hx
    have hk1 : pz_kd t d = 1 := beq_iff_eq.mp hk1
    have nd := (hG.t4.2.2.2.2 d hd8).2
    have id := nd.1
    have hN := hT d hd8
    show aw_X M G 6 8 [some (.inl (some 0)), some (.inr dir), some (.inr name), some (.inr (bI b)), none, none] [.inl (some (4 + 2 + 2 * d))] h
    refine ax_astore (q := 10) B d_S_make_8 (by decide) rfl ?_
    refine ax_aload (q := 12) B d_S_make_10 rfl rfl ?_
    refine ax_ifnull (q := 22) (q2 := 15) B d_S_make_12 rfl rfl (fun z => by cases z) (fun _ _ => ?_)
    refine ax_iload_n (q := 16) B d_S_make_15 rfl rfl rfl ?_
    refine ax_qS1 (q := 19) B cv_S_44 d_S_make_16 (Nat.le_of_ble_eq_true rfl) (by decide) (k_isName hG.1 h name) rfl ?_
    cases hnm : pz_small name 100 with
    | false =>
      simp only [hnm, if_true] at E
      refine ax_ifZ_ne (q := 24) (q2 := 22) B d_S_make_19 rfl rfl (fun h19 => ?_) (fun h19 => ?_)
      · cases h19
      · refine ax_iconst (v := (-1)) (q := 23) B d_S_make_22 ci_m1 rfl ?_
        refine ax_iret B E d_S_make_23 ?_
        exact ⟨_, rfl, rfl, hS', fun q _ => rfl⟩
    | true =>
      simp only [hnm, Bool.true_eq_false, if_false] at E
      obtain ⟨x, hx100, rfl⟩ := pz_small_e (by omega) hnm
      rw [nI_clamp (by omega)] at E
      refine ax_ifZ_ne (q := 24) (q2 := 22) B d_S_make_19 rfl rfl (fun _ => ?_) (fun z => by cases z)
      refine ax_aload (q := 26) B d_S_make_24 rfl rfl ?_
      refine ax_iload_n (q := 27) B d_S_make_26 rfl rfl rfl ?_
      refine ax_qV1 (q := 30) B cv_S_48 d_S_make_27 (by assumption) (Nat.le_of_ble_eq_true rfl) (by decide) (k_indexOfName hG.1 nd hN.lz _) rfl ?_
      cases hix : pz_ix (pz_it t d) (nI x) (pz_ct t d) with
      | some j =>
        simp only [hix] at E
        have hj := pz_ix_lt _ hix
        have hc10 := hN.2.2.2.2.2.1
        refine ax_iconst (v := (-1)) (q := 31) B d_S_make_30 ci_m1 rfl ?_
        refine ax_icmp_eq (q := 37) (q2 := 34) B d_S_make_31 rfl rfl (fun h31 => ?_) (fun h31 => ?_)
        · exact absurd h31 (nI_nm1 (by omega))
        · refine ax_bipush (v := (-2)) (q := 36) B d_S_make_34 cb_m2 rfl ?_
          refine ax_iret B E d_S_make_36 ?_
          exact ⟨_, rfl, rfl, hS', fun q _ => rfl⟩
      | none =>
        simp only [hix] at E
        refine ax_iconst (v := -1) (q := 31) B d_S_make_30 ci_m1 rfl ?_
        refine ax_icmp_eq (q := 37) (q2 := 34) B d_S_make_31 rfl rfl (fun _ => ?_) (fun z => absurd rfl z)
        refine ax_aload_n (q := 38) B d_S_make_37 rfl rfl rfl ?_
        refine ax_getP (q := 41) B fl_S_30 rfl d_S_make_38 (by assumption) (by assumption) rfl ?_
        refine ax_qV0 (q := 44) B cv_S_54 d_S_make_41 (by assumption) (Nat.le_of_ble_eq_true rfl) (by decide) (k_leastAbsent hG.1 hG.t4 hT) rfl ?_
        cases hle : pz_least (pz_kd t) 8 with
        | none =>
          simp only [hle] at E
          refine ax_istore (q := 46) B d_S_make_44 (by decide) rfl ?_
          refine ax_iload (q := 48) B d_S_make_46 rfl rfl ?_
          refine ax_iconst (v := (-1)) (q := 49) B d_S_make_48 ci_m1 rfl ?_
          refine ax_icmp_ne (q := 55) (q2 := 52) B d_S_make_49 rfl rfl (fun h49 => ?_) (fun h49 => ?_)
          · exact absurd rfl h49
          · refine ax_bipush (v := (-3)) (q := 54) B d_S_make_52 cb_m3 rfl ?_
            refine ax_iret B E d_S_make_54 ?_
            exact ⟨_, rfl, rfl, hS', fun q _ => rfl⟩
        | some m =>
          simp only [hle] at E
          obtain ⟨hm8, hm0⟩ := pz_least_some 8 hle
          obtain ⟨rm, nm⟩ := hG.t4.2.2.2.2 m hm8
          have im := nm.1
          have hmd : m ≠ d := fun z => by rw [z, hk1] at hm0; cases hm0
          have hcm := (hwf.2.2.1 m hm8 hm0).2.1
          have hcd : pz_ct t d ≤ 7 := hwf.ct hd8 hk1
          have hcw := pz_cw_two (ch := pz_ch t) hd8 hm8 hmd
          rw [hcm] at hcw
          have hcp := pz_cp_le (pz_ch t) 8
          have hcl : pz_cw (pz_ch t) d m 8 8 ≤ 100 := by rw [hcw]; split <;> simp <;> omega
          show aw_X M G 6 44 [some (.inl (some 0)), some (.inr dir), some (.inr (nI x)), some (.inr (bI b)), some (.inl (some (4 + 2 + 2 * d))), none] [.inr (nI m)] h
          refine ax_istore (q := 46) B d_S_make_44 (by decide) rfl ?_
          refine ax_iload (q := 48) B d_S_make_46 rfl rfl ?_
          refine ax_iconst (v := (-1)) (q := 49) B d_S_make_48 ci_m1 rfl ?_
          refine ax_icmp_ne (q := 55) (q2 := 52) B d_S_make_49 rfl rfl (fun _ => ?_) (fun z => absurd z (nI_nm1 (by omega)))
          refine ax_aload_n (q := 56) B d_S_make_55 rfl rfl rfl ?_
          refine ax_iconst (v := nI 0) (q := 57) B d_S_make_56 ci_0 rfl ?_
          refine ax_iconst (v := nI 1) (q := 58) B d_S_make_57 ci_1 rfl ?_
          refine ax_aload (q := 60) B d_S_make_58 rfl rfl ?_
          refine ax_qV0 (q := 63) B cv_S_58 d_S_make_60 (by assumption) (Nat.le_of_ble_eq_true rfl) (by decide) (k_ifUnchanged hG.1 nd hN.2.2.2.1) rfl ?_
          first | refine ax_iaddN (q := 64) B d_S_make_63 rfl ?_ | refine ax_iadd (q := 64) B d_S_make_63 rfl ?_
          refine ax_qV2 (q := 67) B cv_S_61 d_S_make_64 (by assumption) (Nat.le_of_ble_eq_true rfl) (by decide) (k_isTooFull hG hm hT (c := pz_cw (pz_ch t) d m 8 8) (by omega) hcl (by rw [nI_add]; congr 1; rw [hcw]; show pz_cp (pz_ch t) 8 + _ = _; simp; omega)) rfl ?_
          by_cases hfull : aw_n G < k + 0 + pz_cw (pz_ch t) d m 8 8 + 1
          · rw [decide_eq_true hfull]
            rw [if_pos (by rw [hn]; exact hfull)] at E
            refine ax_ifZ_eq (q := 73) (q2 := 70) B d_S_make_67 rfl rfl (fun z => by cases z) (fun _ => ?_)
            refine ax_bipush (v := (-4)) (q := 72) B d_S_make_70 cb_m4 rfl ?_
            refine ax_iret B E d_S_make_72 ?_
            exact ⟨_, rfl, rfl, hS', fun q _ => rfl⟩
          · rw [decide_eq_false hfull]
            rw [if_neg (by rw [hn]; exact hfull)] at E
            refine ax_ifZ_eq (q := 73) (q2 := 70) B d_S_make_67 rfl rfl (fun _ => ?_) (fun z => by cases z)
            have tail : ∀ kind : Nat, (if b = true then 1 else 2) = kind → aw_X M G 6 92 [some (.inl (some 0)), some (.inr dir), some (.inr (nI x)), some (.inr (bI b)), some (.inl (some (4 + 2 + 2 * d))), some (.inr (nI m))] [.inr (nI kind), .inl (some (4 + 2 + 2 * m))] h := by
              intro kind hkind
              have hk12 : kind < 65536 := by rw [← hkind]; split <;> omega
              rw [hkind] at E
              refine ax_pV1 (q := 95) B cv_S_69 d_S_make_92 (by assumption) (Nat.le_of_ble_eq_true rfl) (by decide) (k_becomeNew hG.1 nm h _) rfl (fun h1 hh1 => ?_)
              have hT1 : hz_T 4 (pz_new t m kind) h1 := by rw [hh1]; exact new_T hT hm8 hk12
              have hcd1 : pz_ct (pz_new t m kind) d = pz_ct t d := pz_up_n (Ne.symm hmd)
              have hm1 : mz G k sp w h1 := hm.kept (by rw [hh1, hz_new_ne (by omega)]) (by rw [hh1, hz_new_ne (by omega)]) (by rw [hh1, hz_new_ne (by omega)])
              refine ax_aload (q := 97) B d_S_make_95 rfl rfl ?_
              refine ax_iload_n (q := 98) B d_S_make_97 rfl rfl rfl ?_
              refine ax_iload (q := 100) B d_S_make_98 rfl rfl ?_
              refine ax_pV2 (q := 103) B cv_S_72 d_S_make_100 (by assumption) (Nat.le_of_ble_eq_true rfl) (by decide) (k_addItem hG.1 nd (hT1 d hd8).2.1 (by rw [hcd1]; omega) _ _) rfl (fun h2 hh2 => ?_)
              have hT2 : hz_T 4 (pz_add (pz_new t m kind) d (16 * x + m)) h2 := by
                rw [hh2, Nat.mul_comm x 16]
                exact add_T hT1 hd8 (by rw [hcd1]; omega) (by omega)
              have hm2 : mz G k sp w h2 := hm1.kept (by rw [hh2, aw_u_ne (by omega), aw_u_ne (by omega), aw_u_ne (by omega)]) (by rw [hh2, aw_u_ne (by omega), aw_u_ne (by omega), aw_u_ne (by omega)]) (by rw [hh2, aw_u_ne (by omega), aw_u_ne (by omega), aw_u_ne (by omega)])
              refine ax_iload (q := 105) B d_S_make_103 rfl rfl ?_
              refine ax_iret B E d_S_make_105 ?_
              exact ⟨_, rfl, rfl, ⟨hn, hm2, hT2⟩, fun q hq => by rw [hh2, aw_u_ne (by omega), aw_u_ne (by omega), aw_u_ne (by omega), hh1, hz_new_ne (by omega)]⟩
            refine ax_aload_n (q := 74) B d_S_make_73 rfl rfl rfl ?_
            refine ax_getP (q := 77) B fl_S_30 rfl d_S_make_74 (by assumption) (by assumption) rfl ?_
            refine ax_getP (q := 80) B fl_S_65 rfl d_S_make_77 (by assumption) (by assumption) rfl ?_
            refine ax_iload (q := 82) B d_S_make_80 rfl rfl ?_
            refine ax_aaldN (q := 83) B d_S_make_82 (by assumption) rfl (by omega) (by omega) (by first | assumption | rfl) rfl ?_
            refine ax_iload_n (q := 84) B d_S_make_83 rfl rfl rfl ?_
            refine ax_ifZ_eq (q := 91) (q2 := 87) B d_S_make_84 rfl rfl (fun h84 => ?_) (fun h84 => ?_)
            · refine ax_iconst (v := nI 2) (q := 92) B d_S_make_91 ci_2 rfl ?_
              first | exact tail 2 (by rw [h84]; rfl) | exact tail 1 (by rw [h84]; rfl)
            · refine ax_iconst (v := nI 1) (q := 88) B d_S_make_87 ci_1 rfl ?_
              refine ax_goto (q := 92) B d_S_make_88 rfl ?_
              first | exact tail 2 (by rw [h84]; rfl) | exact tail 1 (by rw [h84]; rfl)
end
section
theorem i32_gt {c : Nat} {x : Int32} (hc : c + 1 < 2 ^ 31) (h : nI c < x) : nI (c + 1) ≤ x := by
  rw [Int32.lt_iff_toInt_lt, nI_toInt (by omega)] at h
  rw [Int32.le_iff_toInt_le, nI_toInt hc]
  omega
theorem i32_le {c : Nat} {x : Int32} (hc : c + 1 < 2 ^ 31) (h : x ≤ nI c) : ¬ nI (c + 1) ≤ x := by
  rw [Int32.le_iff_toInt_le, nI_toInt (by omega)] at h
  rw [Int32.le_iff_toInt_le, nI_toInt hc]
  omega
theorem blk_T {t : pz_T} {h : aw_H} {f j v : Nat} (hT : hz_T 4 t h) (hf : f < 8) (hj : j < 10) (hjc : j ≤ pz_ct t f) (hv : v < 65536) : hz_T 4 (pz_blk t f j v) (aw_u (aw_u (aw_u h (4 + 2 + 2 * f + 1) j (nI v)) (4 + 2 + 2 * f) 2 (nI (if j = pz_ct t f then j + 1 else pz_ct t f))) (4 + 2 + 2 * f) 4 (nI 1)) := fun i hi => by
  by_cases hid : i = f
  · subst hid
    obtain ⟨a1, a2, a3, a4, a5, a6, a7⟩ := hT i hi
    have e2 : pz_ct (pz_blk t i j v) i = (if j = pz_ct t i then j + 1 else pz_ct t i) := pz_up_s
    have e3 : pz_ch (pz_blk t i j v) i = true := pz_up_s
    unfold hz_N
    rw [e2, e3]
    refine ⟨aw_rd (by omega) (aw_rd (by omega) (aw_rd (by omega) a1)), aw_rd (by omega) aw_rs, aw_rd (by omega) (aw_rd (by omega) (aw_rd (by omega) a3)), aw_rs, a5, by split <;> omega, fun s hs => ?_⟩
    have e4 : pz_it (pz_blk t i j v) i s = pz_up (pz_it t i) j v s := by
      show pz_up (pz_it t) i (pz_up (pz_it t i) j v) i s = _
      rw [pz_up_s]
    rw [e4]
    by_cases hj2 : s = j
    · subst hj2
      rw [pz_up_s]
      exact ⟨aw_rd (by omega) (aw_rd (by omega) aw_rs), hv⟩
    · rw [pz_up_n hj2]
      obtain ⟨b1, b2⟩ := a7 s (by split at hs <;> omega)
      exact ⟨aw_rd (by omega) (aw_rd (by omega) (aw_rd (by omega) b1)), b2⟩
  · refine ((hT i hi).ext (t' := pz_blk t f j v) rfl (pz_up_n hid) (pz_up_n hid) rfl (fun s hs => ?_)).kept ?_ ?_
    · show pz_up (pz_it t) f _ i s = _
      rw [pz_up_n hid]
    · rw [aw_u_ne (by omega), aw_u_ne (by omega), aw_u_ne (by omega)]
    · rw [aw_u_ne (by omega), aw_u_ne (by omega), aw_u_ne (by omega)]
/-- a new sector that is no table leaves the tables as they were -/
theorem iz_sec {k : Nat} {w f : Nat → Nat} {b : Bool} (hi : iz k w) (hf : f 0 ≠ 3) : iz (k + 1) (pz_sec w k f b) := by
  intro p hp h3 i hi8
  by_cases hpk : p = k
  · subst hpk
    have h0 : pz_sec w p f b (16 * p + 0) = f 0 := pz_sec_new (by omega) (by omega)
    rw [Nat.add_zero] at h0
    rw [h0] at h3
    exact absurd h3 hf
  · rw [pz_sec_old (by omega)] at h3
    obtain ⟨h1, h2⟩ := hi p (by omega) h3 i hi8
    rw [pz_nm_old (by omega) hi8]
    refine ⟨h1, ?_⟩
    rcases h2 with h2 | h2
    · exact Or.inl h2
    · by_cases hz : pz_nm w p i = 0
      · exact Or.inl hz
      · refine Or.inr ?_
        rw [pz_sec_old (by omega)]
        exact h2
theorem p_write {l : Launch} {G : aw_G} (hG : gz G) {h : aw_H} {S : pz_S} (hS : cz G S h) (hI : pz_inv S) (file y v : Int32) : aw_F l G 6 Y_S_write [.inl (some 0), .inr file, .inr y, .inr v] h (fun r h' => r = .inr (pz_write S file y v).1 ∧ cz G (pz_write S file y v).2 h' ∧ ∀ q, 40 ≤ q → h' q = h q) := by
  obtain ⟨n, k, w, sp, t⟩ := S
  have hi := hI.iz
  obtain ⟨-, -, -, -, -, h0, hwf, -, -⟩ := hI
  have hS' := hS
  obtain ⟨hn, hm, hT⟩ := hS
  have hn : n = aw_n G := hn
  have hm : mz G k sp w h := hm
  have hT : hz_T 4 t h := hT
  have hwf : pz_wf k t := hwf
  have h0 : ∀ x, 16 * k ≤ x → w x = 0 := h0
  refine aw_met hG.1 (by decide) (Nat.le_of_ble_eq_true rfl) (fun M hM B E => ?_)
  show aw_X M G 6 0 [some (.inl (some 0)), some (.inr file), some (.inr y), some (.inr v), none, none] [] h
  have i0 := hG.is0
  have i1 := hG.is1
  have r0 : aw_rM 0 0 = some 1 := rfl
  have r1 : aw_rM 0 1 = some 4 := rfl
  have i4 := hG.t4.2.1
  have n2 := hG.2.2.2
  have e3 := hm.2.1
  have hkn := hm.2.2.2.1
  unfold pz_write at E
  refine ax_aload_n (q := 1) B d_S_write_0 rfl rfl rfl ?_
  refine ax_getP (q := 4) B fl_S_30 rfl d_S_write_1 (by assumption) (by assumption) rfl ?_
  refine ax_iload_n (q := 5) B d_S_write_4 rfl rfl rfl ?_
  refine ax_qV1 (q := 8) B cv_S_76 d_S_write_5 (by assumption) (Nat.le_of_ble_eq_true rfl) (by decide) (k_fileAt hG.1 hG.t4 hT file) rfl ?_
  cases hx : pz_nd t (fun c => c == 2) file with
  | none =>
    simp only [hx] at E
    refine ax_astore (q := 10) B d_S_write_8 (by decide) rfl ?_
    refine ax_aload (q := 12) B d_S_write_10 rfl rfl ?_
    refine ax_ifnull (q := 25) (q2 := 15) B d_S_write_12 rfl rfl (fun h12 => ?_) (fun _ h12 => ?_)
    · refine ax_iconst (v := (-1)) (q := 26) B d_S_write_25 ci_m1 rfl ?_
      refine ax_iret B E d_S_write_26 ?_
      exact ⟨_, rfl, rfl, hS', fun q _ => rfl⟩
    · cases h12
  | some f =>
    simp only [hx] at E
    obtain ⟨hf8, hk2, hfn⟩ := pz_nd_lt hx
    have hk2 : pz_kd t f = 2 := beq_iff_eq.mp hk2
    have hfile : file = nI f := by
      cases hsm : pz_small file 8 with
      | false => rw [pz_no_8 hsm] at hfn; omega
      | true =>
        obtain ⟨j, hj, rfl⟩ := pz_small_e (by omega) hsm
        rw [pz_no_N hj] at hfn
        rw [hfn]
    subst hfile
    have nf := (hG.t4.2.2.2.2 f hf8).2
    have jf := nf.1
    have hN := hT f hf8
    have e2 := hN.2.1
    have hc10 := hN.2.2.2.2.2.1
    show aw_X M G 6 8 [some (.inl (some 0)), some (.inr (nI f)), some (.inr y), some (.inr v), none, none] [.inl (some (4 + 2 + 2 * f))] h
    refine ax_astore (q := 10) B d_S_write_8 (by decide) rfl ?_
    refine ax_aload (q := 12) B d_S_write_10 rfl rfl ?_
    refine ax_ifnull (q := 25) (q2 := 15) B d_S_write_12 rfl rfl (fun z => by cases z) (fun _ _ => ?_)
    cases hv : pz_small v 65536 with
    | false =>
      simp only [hv, if_true] at E
      refine ax_iload_n (q := 16) B d_S_write_15 rfl rfl rfl ?_
      refine ax_if_lt (q := 25) (q2 := 19) B d_S_write_16 rfl rfl (fun h16 => ?_) (fun h16 => ?_)
      · refine ax_iconst (v := (-1)) (q := 26) B d_S_write_25 ci_m1 rfl ?_
        refine ax_iret B E d_S_write_26 ?_
        exact ⟨_, rfl, rfl, hS', fun q _ => rfl⟩
      · refine ax_iload_n (q := 20) B d_S_write_19 rfl rfl rfl ?_
        refine ax_ldc (v := nI 65535) (q := 22) B wc_S_79 d_S_write_20 rfl ?_
        refine ax_icmp_le (q := 27) (q2 := 25) B d_S_write_22 rfl rfl (fun h22 => ?_) (fun h22 => ?_)
        · rw [pz_small_t h16 (i32_le (by omega) h22)] at hv
          cases hv
        · refine ax_iconst (v := (-1)) (q := 26) B d_S_write_25 ci_m1 rfl ?_
          refine ax_iret B E d_S_write_26 ?_
          exact ⟨_, rfl, rfl, hS', fun q _ => rfl⟩
    | true =>
      simp only [hv, Bool.true_eq_false, if_false] at E
      obtain ⟨x, hx16, rfl⟩ := pz_small_e (by omega) hv
      rw [nI_clamp (by omega)] at E
      have tail1 : aw_X M G 6 27 [some (.inl (some 0)), some (.inr (nI f)), some (.inr y), some (.inr (nI x)), some (.inl (some (4 + 2 + 2 * f))), none] [] h := by
        cases hy1 : pz_small y (pz_ct t f + 1) with
        | false =>
          simp only [hy1, if_true] at E
          refine ax_iload_n (q := 28) B d_S_write_27 rfl rfl rfl ?_
          refine ax_if_lt (q := 46) (q2 := 31) B d_S_write_28 rfl rfl (fun h28 => ?_) (fun h28 => ?_)
          · refine ax_iconst (v := (-1)) (q := 47) B d_S_write_46 ci_m1 rfl ?_
            refine ax_iret B E d_S_write_47 ?_
            exact ⟨_, rfl, rfl, hS', fun q _ => rfl⟩
          · refine ax_iload_n (q := 32) B d_S_write_31 rfl rfl rfl ?_
            refine ax_aload (q := 34) B d_S_write_32 rfl rfl ?_
            refine ax_getN (q := 37) B fl_S_80 rfl d_S_write_34 (by assumption) (by first | assumption | rfl) rfl ?_
            refine ax_icmp_gt (q := 46) (q2 := 40) B d_S_write_37 rfl rfl (fun h37 => ?_) (fun h37 => ?_)
            · refine ax_iconst (v := (-1)) (q := 47) B d_S_write_46 ci_m1 rfl ?_
              refine ax_iret B E d_S_write_47 ?_
              exact ⟨_, rfl, rfl, hS', fun q _ => rfl⟩
            · refine ax_iload_n (q := 41) B d_S_write_40 rfl rfl rfl ?_
              refine ax_bipush (v := nI 10) (q := 43) B d_S_write_41 cb_10 rfl ?_
              refine ax_icmp_lt (q := 48) (q2 := 46) B d_S_write_43 rfl rfl (fun h43 => ?_) (fun h43 => ?_)
              · rw [pz_small_t h28 (i32_le (by omega) (by rw [Int32.le_iff_toInt_le]; rw [Int32.lt_iff_toInt_lt] at h37; omega))] at hy1
                cases hy1
              · refine ax_iconst (v := (-1)) (q := 47) B d_S_write_46 ci_m1 rfl ?_
                refine ax_iret B E d_S_write_47 ?_
                exact ⟨_, rfl, rfl, hS', fun q _ => rfl⟩
        | true =>
          simp only [hy1, Bool.true_eq_false, if_false] at E
          obtain ⟨j, hj, rfl⟩ := pz_small_e (by omega) hy1
          rw [nI_clamp (by omega)] at E
          by_cases hj10 : j < 10
          · simp only [pz_small_N (show (10 : Nat) < 2 ^ 31 by omega) hj10, Bool.true_eq_false, if_false] at E
            have hcw := pz_cw_one (ch := pz_ch t) hf8
            have hcp := pz_cp_le (pz_ch t) 8
            have hcl : pz_cw (pz_ch t) f 8 8 8 ≤ 100 := by rw [hcw]; split <;> omega
            have tail2 : ¬ aw_n G < k + 1 + pz_cw (pz_ch t) f 8 8 8 + 1 → aw_X M G 6 64 [some (.inl (some 0)), some (.inr (nI f)), some (.inr (nI j)), some (.inr (nI x)), some (.inl (some (4 + 2 + 2 * f))), none] [] h := by
              intro hfull
              rw [if_neg (by rw [hn]; exact hfull)] at E
              have hk : k < aw_n G := by omega
              refine ax_aload_n (q := 65) B d_S_write_64 rfl rfl rfl ?_
              refine ax_getP (q := 68) B fl_S_23 rfl d_S_write_65 (by assumption) (by assumption) rfl ?_
              refine ax_getN (q := 71) B fl_S_84 rfl d_S_write_68 (by assumption) (by first | assumption | rfl) rfl ?_
              refine ax_istore (q := 73) B d_S_write_71 (by decide) rfl ?_
              refine ax_aload_n (q := 74) B d_S_write_73 rfl rfl rfl ?_
              refine ax_getP (q := 77) B fl_S_23 rfl d_S_write_74 (by assumption) (by assumption) rfl ?_
              refine ax_iconst (v := nI 1) (q := 78) B d_S_write_77 ci_1 rfl ?_
              refine ax_iload_n (q := 79) B d_S_write_78 rfl rfl rfl ?_
              refine ax_pV2 (q := 82) B cv_S_87 d_S_write_79 (by assumption) (Nat.le_of_ble_eq_true rfl) (by decide) (kk_begin hG hm hk h0 (by omega) (by omega)) rfl (fun h1 hh1 => ?_)
              refine ax_aload_n (q := 83) B d_S_write_82 rfl rfl rfl ?_
              refine ax_getP (q := 86) B fl_S_23 rfl d_S_write_83 (by assumption) (by assumption) rfl ?_
              refine ax_iconst (v := nI 4) (q := 87) B d_S_write_86 ci_4 rfl ?_
              refine ax_iload_n (q := 88) B d_S_write_87 rfl rfl rfl ?_
              refine ax_pV2 (q := 91) B cv_S_90 d_S_write_88 (by assumption) (Nat.le_of_ble_eq_true rfl) (by decide) (kk_put hG hh1.1 (by omega) hx16) rfl (fun h2 hh2 => ?_)
              have hdat : ∀ i, i < 16 → i ≠ 1 → pz_up (pz_up (pz_up (pz_up (fun _ => 0) 0 1) 2 k) 3 f) 4 x i = pz_data k f x i := fun i hi16 hi1 => by
                unfold pz_data pz_up
                by_cases x0 : i = 0
                · subst x0; rfl
                · by_cases x2 : i = 2
                  · subst x2; rfl
                  · by_cases x3 : i = 3
                    · subst x3; rfl
                    · by_cases x4 : i = 4
                      · subst x4; rfl
                      · rw [if_neg x4, if_neg x3, if_neg x2, if_neg x0, if_neg x0, if_neg x2, if_neg x3, if_neg x4]
              refine ax_aload_n (q := 92) B d_S_write_91 rfl rfl rfl ?_
              refine ax_getP (q := 95) B fl_S_23 rfl d_S_write_92 (by assumption) (by assumption) rfl ?_
              refine ax_gV0 (q := 98) B cv_S_93 d_S_write_95 (by assumption) (Nat.le_of_ble_eq_true rfl) (by decide) (kk_finish hG hh2.1) rfl (fun r h3 hh3 => ?_)
              obtain ⟨rfl, hm3, hf3⟩ := hh3
              rw [pz_sec_congr hdat] at hm3
              have hf4 : ∀ q, 4 ≤ q → h3 q = h q := fun q hq => by rw [hf3 q (by omega), hh2.2 q (by omega), hh1.2 q (by omega)]
              have hT3 : hz_T 4 t h3 := hT.kept (fun q q1 q2 => hf4 q (by omega))
              by_cases hsp : sp = 1
              · subst hsp
                rw [if_pos rfl] at E
                refine ax_ifZ_ne (q := 108) (q2 := 101) B d_S_write_98 rfl rfl (fun z => absurd z (by decide)) (fun _ => ?_)
                refine ax_aload_n (q := 102) B d_S_write_101 rfl rfl rfl ?_
                refine ax_pV0 (q := 105) B cv_S_97 d_S_write_102 (by assumption) (Nat.le_of_ble_eq_true rfl) (by decide) (k_readBack hG hm3 (iz_sec hi (by show (1 : Nat) ≠ 3; omega))) rfl (fun h4 hh4 => ?_)
                refine ax_bipush (v := (-5)) (q := 107) B d_S_write_105 cb_m5 rfl ?_
                refine ax_iret B E d_S_write_107 ?_
                exact ⟨_, rfl, rfl, ⟨hn, hm3.kept (hh4.2 1 (by omega)) (hh4.2 2 (by omega)) (hh4.2 3 (by omega)), hh4.1⟩, fun q hq => by rw [hh4.2 q (by omega), hf4 q (by omega)]⟩
              · rw [if_neg hsp] at E
                rw [pz_beq_ne hsp] at hm3
                refine ax_ifZ_ne (q := 108) (q2 := 101) B d_S_write_98 rfl rfl (fun _ => ?_) (fun z => by rw [decide_eq_true hsp] at z; cases z)
                refine ax_aload (q := 110) B d_S_write_108 rfl rfl ?_
                refine ax_iload_n (q := 111) B d_S_write_110 rfl rfl rfl ?_
                refine ax_iload (q := 113) B d_S_write_111 rfl rfl ?_
                refine ax_pV2 (q := 116) B cv_S_100 d_S_write_113 (by assumption) (Nat.le_of_ble_eq_true rfl) (by decide) (k_setBlock hG.1 nf (hT3 f hf8).2.1 hc10 hj10 (by omega) _) rfl (fun h4 hh4 => ?_)
                have hT4 : hz_T 4 (pz_blk t f j k) h4 := by rw [hh4]; exact blk_T hT3 hf8 hj10 (by omega) (by omega)
                have hf5 : ∀ q, q < 6 ∨ 22 ≤ q → h4 q = h3 q := fun q hq => by rw [hh4, aw_u_ne (by omega), aw_u_ne (by omega), aw_u_ne (by omega)]
                refine ax_iload (q := 118) B d_S_write_116 rfl rfl ?_
                refine ax_iret B E d_S_write_118 ?_
                exact ⟨_, rfl, rfl, ⟨hn, hm3.kept (hf5 1 (by omega)) (hf5 2 (by omega)) (hf5 3 (by omega)), hT4⟩, fun q hq => by rw [hf5 q (by omega), hf4 q (by omega)]⟩
            refine ax_iload_n (q := 28) B d_S_write_27 rfl rfl rfl ?_
            refine ax_ifN_lt (q := 46) (q2 := 31) B (by omega) d_S_write_28 rfl rfl ?_
            refine ax_iload_n (q := 32) B d_S_write_31 rfl rfl rfl ?_
            refine ax_aload (q := 34) B d_S_write_32 rfl rfl ?_
            refine ax_getN (q := 37) B fl_S_80 rfl d_S_write_34 (by assumption) (by first | assumption | rfl) rfl ?_
            refine ax_icmpN_gt (q := 46) (q2 := 40) B (by omega) (by omega) d_S_write_37 rfl rfl (fun h37 => ?_) (fun h37 => ?_)
            · omega
            · refine ax_iload_n (q := 41) B d_S_write_40 rfl rfl rfl ?_
              refine ax_bipush (v := nI 10) (q := 43) B d_S_write_41 cb_10 rfl ?_
              refine ax_icmpN_lt (q := 48) (q2 := 46) B (by omega) (by omega) d_S_write_43 rfl rfl (fun h43 => ?_) (fun h43 => ?_)
              · refine ax_aload_n (q := 49) B d_S_write_48 rfl rfl rfl ?_
                refine ax_iconst (v := nI 1) (q := 50) B d_S_write_49 ci_1 rfl ?_
                refine ax_aload (q := 52) B d_S_write_50 rfl rfl ?_
                refine ax_qV0 (q := 55) B cv_S_58 d_S_write_52 (by assumption) (Nat.le_of_ble_eq_true rfl) (by decide) (k_ifUnchanged hG.1 nf hN.2.2.2.1) rfl ?_
                refine ax_qV2 (q := 58) B cv_S_61 d_S_write_55 (by assumption) (Nat.le_of_ble_eq_true rfl) (by decide) (k_isTooFull hG hm hT (c := pz_cw (pz_ch t) f 8 8 8) (by omega) hcl (by rw [nI_add]; congr 1; exact hcw.symm)) rfl ?_
                refine ax_ifZ_eq (q := 64) (q2 := 61) B d_S_write_58 rfl rfl (fun h58 => ?_) (fun h58 => ?_)
                · exact tail2 (of_decide_eq_false h58)
                · rw [if_pos (by rw [hn]; exact of_decide_eq_true h58)] at E
                  refine ax_bipush (v := (-4)) (q := 63) B d_S_write_61 cb_m4 rfl ?_
                  refine ax_iret B E d_S_write_63 ?_
                  exact ⟨_, rfl, rfl, hS', fun q _ => rfl⟩
              · omega
          · have hsm : pz_small (nI j) 10 = false := pz_small_2 (nI_le (by omega) (by omega))
            simp only [hsm, if_true] at E
            refine ax_iload_n (q := 28) B d_S_write_27 rfl rfl rfl ?_
            refine ax_ifN_lt (q := 46) (q2 := 31) B (by omega) d_S_write_28 rfl rfl ?_
            refine ax_iload_n (q := 32) B d_S_write_31 rfl rfl rfl ?_
            refine ax_aload (q := 34) B d_S_write_32 rfl rfl ?_
            refine ax_getN (q := 37) B fl_S_80 rfl d_S_write_34 (by assumption) (by first | assumption | rfl) rfl ?_
            refine ax_icmpN_gt (q := 46) (q2 := 40) B (by omega) (by omega) d_S_write_37 rfl rfl (fun h37 => ?_) (fun h37 => ?_)
            · refine ax_iconst (v := (-1)) (q := 47) B d_S_write_46 ci_m1 rfl ?_
              refine ax_iret B E d_S_write_47 ?_
              exact ⟨_, rfl, rfl, hS', fun q _ => rfl⟩
            · refine ax_iload_n (q := 41) B d_S_write_40 rfl rfl rfl ?_
              refine ax_bipush (v := nI 10) (q := 43) B d_S_write_41 cb_10 rfl ?_
              refine ax_icmpN_lt (q := 48) (q2 := 46) B (by omega) (by omega) d_S_write_43 rfl rfl (fun h43 => ?_) (fun h43 => ?_)
              · omega
              · refine ax_iconst (v := (-1)) (q := 47) B d_S_write_46 ci_m1 rfl ?_
                refine ax_iret B E d_S_write_47 ?_
                exact ⟨_, rfl, rfl, hS', fun q _ => rfl⟩
      refine ax_iload_n (q := 16) B d_S_write_15 rfl rfl rfl ?_
      refine ax_ifN_lt (q := 25) (q2 := 19) B (by omega) d_S_write_16 rfl rfl ?_
      refine ax_iload_n (q := 20) B d_S_write_19 rfl rfl rfl ?_
      refine ax_ldc (v := nI 65535) (q := 22) B wc_S_79 d_S_write_20 rfl ?_
      refine ax_icmpN_le (q := 27) (q2 := 25) B (by omega) (by omega) d_S_write_22 rfl rfl (fun h22 => ?_) (fun h22 => ?_)
      · exact tail1
      · omega
end
section
theorem take_T {t : pz_T} {h h' : aw_H} {d j : Nat} (hT : hz_T 4 t h) (hd : d < 8) (hj : j < pz_ct t d) (hh : h' (4 + 2 + 2 * d) 1 = h (4 + 2 + 2 * d) 1 ∧ h' (4 + 2 + 2 * d) 2 = nI (pz_ct t d - 1) ∧ h' (4 + 2 + 2 * d) 3 = h (4 + 2 + 2 * d) 3 ∧ h' (4 + 2 + 2 * d) 4 = nI 1 ∧ (∀ s, s < pz_ct t d - 1 → h' (4 + 2 + 2 * d + 1) s = if s < j then h (4 + 2 + 2 * d + 1) s else h (4 + 2 + 2 * d + 1) (s + 1)) ∧ ∀ q, q ≠ 4 + 2 + 2 * d → q ≠ 4 + 2 + 2 * d + 1 → h' q = h q) : hz_T 4 (pz_take t d j) h' := fun i hi => by
  obtain ⟨b1, b2, b3, b4, b5, b6⟩ := hh
  by_cases hid : i = d
  · subst hid
    obtain ⟨a1, a2, a3, a4, a5, a6, a7⟩ := hT i hi
    have e2 : pz_ct (pz_take t i j) i = pz_ct t i - 1 := pz_up_s
    have e3 : pz_ch (pz_take t i j) i = true := pz_up_s
    unfold hz_N
    rw [e2, e3]
    refine ⟨b1.trans a1, b2, b3.trans a3, b4, a5, by omega, fun s hs => ?_⟩
    have e4 : pz_it (pz_take t i j) i s = if s < j then pz_it t i s else pz_it t i (s + 1) := by
      show pz_up (pz_it t) i (fun s => if s < j then pz_it t i s else pz_it t i (s + 1)) i s = _
      rw [pz_up_s]
    rw [e4, b5 s hs]
    by_cases hsj : s < j
    · rw [if_pos hsj, if_pos hsj]; exact a7 s (by omega)
    · rw [if_neg hsj, if_neg hsj]; exact a7 (s + 1) (by omega)
  · refine ((hT i hi).ext (t' := pz_take t d j) rfl (pz_up_n hid) (pz_up_n hid) rfl (fun s hs => ?_)).kept (b6 _ (by omega) (by omega)) (b6 _ (by omega) (by omega))
    show pz_up (pz_it t) d _ i s = _
    rw [pz_up_n hid]
theorem nI_upd {a u g c : Nat} (h : c + g = a + u) : nI a + (nI u - nI g) = nI c := by
  rw [Int32.sub_eq_add_neg, ← Int32.add_assoc, nI_add, ← Int32.sub_eq_add_neg, pk_sub (by omega)]
  congr 1
  omega
theorem pz_nd_m1 {t : pz_T} {P : Nat → Bool} : pz_nd t P (-1) = none := by
  unfold pz_nd
  exact if_neg (fun z => by rw [pz_no_8 (pz_small_1 (by decide))] at z; omega)
theorem p_remove {l : Launch} {G : aw_G} (hG : gz G) {h : aw_H} {S : pz_S} (hS : cz G S h) (hI : pz_inv S) (dir name : Int32) : aw_F l G 3 Y_S_remove [.inl (some 0), .inr dir, .inr name] h (fun v h' => v = .inr (pz_remove S dir name).1 ∧ cz G (pz_remove S dir name).2 h' ∧ ∀ q, 40 ≤ q → h' q = h q) := by
  obtain ⟨n, k, w, sp, t⟩ := S
  obtain ⟨-, -, -, -, -, -, hwf, -, -⟩ := hI
  have hS' := hS
  obtain ⟨hn, hm, hT⟩ := hS
  have hn : n = aw_n G := hn
  have hm : mz G k sp w h := hm
  have hT : hz_T 4 t h := hT
  have hwf : pz_wf k t := hwf
  refine aw_met hG.1 (by decide) (Nat.le_of_ble_eq_true rfl) (fun M hM B E => ?_)
  show aw_X M G 8 0 [some (.inl (some 0)), some (.inr dir), some (.inr name), none, none, none, none, none] [] h
  have i0 := hG.is0
  have r1 : aw_rM 0 1 = some 4 := rfl
  have i4 := hG.t4.2.1
  have n2 := hG.2.2.2
  unfold pz_remove at E
  refine ax_aload_n (q := 1) B d_S_remove_0 rfl rfl rfl ?_
  refine ax_getP (q := 4) B fl_S_30 rfl d_S_remove_1 (by assumption) (by assumption) rfl ?_
  refine ax_iload_n (q := 5) B d_S_remove_4 rfl rfl rfl ?_
  refine ax_qV1 (q := 8) B cv_S_40 d_S_remove_5 (by assumption) (Nat.le_of_ble_eq_true rfl) (by decide) (k_directoryAt hG.1 hG.t4 hT dir) rfl ?_
  cases hx : pz_nd t (fun c => c == 1) dir with
  | none =>
    simp only [hx] at E
    refine ax_astore_n (q := 9) B d_S_remove_8 rfl (by decide) rfl ?_
    refine ax_aload_n (q := 10) B d_S_remove_9 rfl rfl rfl ?_
    refine ax_ifnonnull (q := 15) (q2 := 13) B d_S_remove_10 rfl rfl (fun _ h10 => ?_) (fun h10 => ?_)
    · cases h10
    · refine ax_iconst (v := (-1)) (q := 14) B d_S_remove_13 ci_m1 rfl ?_
      refine ax_iret B E d_S_remove_14 ?_
      exact ⟨_, rfl, rfl, hS', fun q _ => rfl⟩
  | some d =>
    simp only [hx] at E
    obtain ⟨hd8, hk1, -⟩ := pz_nd_lt hx
    have hk1 : pz_kd t d = 1 := beq_iff_eq.mp hk1
    have nd := (hG.t4.2.2.2.2 d hd8).2
    have id := nd.1
    have hN := hT d hd8
    have hc10 := hN.2.2.2.2.2.1
    show aw_X M G 8 8 [some (.inl (some 0)), some (.inr dir), some (.inr name), none, none, none, none, none] [.inl (some (4 + 2 + 2 * d))] h
    refine ax_astore_n (q := 9) B d_S_remove_8 rfl (by decide) rfl ?_
    refine ax_aload_n (q := 10) B d_S_remove_9 rfl rfl rfl ?_
    refine ax_ifnonnull (q := 15) (q2 := 13) B d_S_remove_10 rfl rfl (fun _ _ => ?_) (fun z => by cases z)
    refine ax_aload_n (q := 16) B d_S_remove_15 rfl rfl rfl ?_
    refine ax_iload_n (q := 17) B d_S_remove_16 rfl rfl rfl ?_
    refine ax_qV1 (q := 20) B cv_S_48 d_S_remove_17 (by assumption) (Nat.le_of_ble_eq_true rfl) (by decide) (k_indexOfName hG.1 nd hN.lz _) rfl ?_
    refine ax_istore (q := 22) B d_S_remove_20 (by decide) rfl ?_
    refine ax_aload_n (q := 23) B d_S_remove_22 rfl rfl rfl ?_
    refine ax_getP (q := 26) B fl_S_30 rfl d_S_remove_23 (by assumption) (by assumption) rfl ?_
    refine ax_aload_n (q := 27) B d_S_remove_26 rfl rfl rfl ?_
    refine ax_iload (q := 29) B d_S_remove_27 rfl rfl ?_
    refine ax_qV1 (q := 32) B cv_S_103 d_S_remove_29 (by assumption) (Nat.le_of_ble_eq_true rfl) (by decide) (k_nodeOfItem hG.1 nd hN.lz (fun j hj => pz_ix_lt _ hj)) rfl ?_
    refine ax_qV1 (q := 35) B cv_S_106 d_S_remove_32 (by assumption) (Nat.le_of_ble_eq_true rfl) (by decide) (k_nodeAt hG.1 hG.t4 hT _) rfl ?_
    cases hix : pz_ix (pz_it t d) name (pz_ct t d) with
    | none =>
      simp only [hix] at E
      have hnd : pz_nd t (fun c => c != 0) (oI ((none : Option Nat).map (fun j => pz_it t d j % 16))) = none := pz_nd_m1
      rw [hnd]
      refine ax_astore (q := 37) B d_S_remove_35 (by decide) rfl ?_
      refine ax_aload (q := 39) B d_S_remove_37 rfl rfl ?_
      refine ax_ifnonnull (q := 44) (q2 := 42) B d_S_remove_39 rfl rfl (fun _ h39 => ?_) (fun h39 => ?_)
      · cases h39
      · refine ax_iconst (v := (-1)) (q := 43) B d_S_remove_42 ci_m1 rfl ?_
        refine ax_iret B E d_S_remove_43 ?_
        exact ⟨_, rfl, rfl, hS', fun q _ => rfl⟩
    | some j =>
      simp only [hix] at E
      have hj := pz_ix_lt _ hix
      obtain ⟨-, hm8, hm0, hmd, hmk⟩ := hwf.2.2.2.2.1 d hd8 hk1 j hj
      obtain ⟨m, hmm⟩ : ∃ m, m = pz_it t d j % 16 := ⟨_, rfl⟩
      rw [← hmm] at hm8 hm0 hmd hmk E
      have hnd : pz_nd t (fun c => c != 0) (oI ((some j).map (fun j => pz_it t d j % 16))) = some m := by
        show pz_nd t (fun c => c != 0) (nI (pz_it t d j % 16)) = some m
        rw [← hmm]
        unfold pz_nd
        rw [pz_no_N hm8, if_pos ⟨hm8, by simp [hmk]⟩]
      rw [hnd]
      have nm := (hG.t4.2.2.2.2 m hm8).2
      have im := nm.1
      obtain ⟨f1, f2, -, f4, f5, f6, -⟩ := hT m hm8
      have hcw := pz_cw_gone (ch := pz_ch t) hd8 hm8 hmd
      have hcp := pz_cp_le (pz_ch t) 8
      have hcl : pz_cw (pz_ch t) d 8 m 8 ≤ 100 := by split at hcw <;> split at hcw <;> omega
      have tail3 : ¬ aw_n G < k + 0 + pz_cw (pz_ch t) d 8 m 8 + 1 → ¬ (pz_kd t m = 1 ∧ 0 < pz_ct t m) → ∀ u, aw_X M G 8 97 [some (.inl (some 0)), some (.inr dir), some (.inr name), some (.inl (some (4 + 2 + 2 * d))), some (.inr (nI j)), some (.inl (some (4 + 2 + 2 * m))), u, none] [] h := by
        intro hfull hbusy u
        rw [if_neg hbusy, if_neg (by rw [hn]; exact hfull)] at E
        have hC := k_nodeOfItem (l := M.2.1) hG.1 nd hN.lz (o := some j) (fun i hi => by cases hi; exact hj)
        have hC : aw_I M.2.1 G 1 Y_N_nodeOfItem [.inl (some (4 + 2 + 2 * d)), .inr (nI j)] h (.inr (nI m)) := by
          rw [hmm]; exact hC
        refine ax_aload_n (q := 98) B d_S_remove_97 rfl rfl rfl ?_
        refine ax_iload (q := 100) B d_S_remove_98 rfl rfl ?_
        refine ax_qV1 (q := 103) B cv_S_103 d_S_remove_100 (by assumption) (Nat.le_of_ble_eq_true rfl) (by decide) hC rfl ?_
        refine ax_istore (q := 105) B d_S_remove_103 (by decide) rfl ?_
        refine ax_aload_n (q := 106) B d_S_remove_105 rfl rfl rfl ?_
        refine ax_iload (q := 108) B d_S_remove_106 rfl rfl ?_
        refine ax_pV1 (q := 111) B cv_S_116 d_S_remove_108 (by assumption) (Nat.le_of_ble_eq_true rfl) (by decide) (k_dropItem hG.1 nd hN.2.1 hc10 hj) rfl (fun h1 hh1 => ?_)
        have hT1 : hz_T 4 (pz_take t d j) h1 := take_T hT hd8 hj hh1
        have hf1 := hh1.2.2.2.2.2
        refine ax_aload (q := 113) B d_S_remove_111 rfl rfl ?_
        refine ax_pV0 (q := 116) B cv_S_119 d_S_remove_113 (by assumption) (Nat.le_of_ble_eq_true rfl) (by decide) (k_becomeAbsent hG.1 nm h1) rfl (fun h2 hh2 => ?_)
        have hT2 : hz_T 4 (pz_gone (pz_take t d j) m) h2 := by rw [hh2]; exact gone_T hT1 hm8
        have hf2 : ∀ q, q < 6 ∨ 22 ≤ q → h2 q = h q := fun q hq => by rw [hh2, hz_abs_ne (by omega), hf1 q (by omega) (by omega)]
        refine ax_iload (q := 118) B d_S_remove_116 rfl rfl ?_
        refine ax_iret B E d_S_remove_118 ?_
        exact ⟨_, rfl, rfl, ⟨hn, hm.kept (hf2 1 (by omega)) (hf2 2 (by omega)) (hf2 3 (by omega)), hT2⟩, fun q hq => hf2 q (by omega)⟩
      have tail2 : ¬ (pz_kd t m = 1 ∧ 0 < pz_ct t m) → ∀ g : Nat, (if pz_ch t m = true then 1 else 0) = g → aw_X M G 8 77 [some (.inl (some 0)), some (.inr dir), some (.inr name), some (.inl (some (4 + 2 + 2 * d))), some (.inr (nI j)), some (.inl (some (4 + 2 + 2 * m))), none, none] [.inr (nI g)] h := by
        intro hbusy g hg
        rw [hg] at hcw
        refine ax_istore (q := 79) B d_S_remove_77 (by decide) rfl ?_
        refine ax_aload_n (q := 80) B d_S_remove_79 rfl rfl rfl ?_
        refine ax_iconst (v := nI 0) (q := 81) B d_S_remove_80 ci_0 rfl ?_
        refine ax_aload_n (q := 82) B d_S_remove_81 rfl rfl rfl ?_
        refine ax_qV0 (q := 85) B cv_S_58 d_S_remove_82 (by assumption) (Nat.le_of_ble_eq_true rfl) (by decide) (k_ifUnchanged hG.1 nd hN.2.2.2.1) rfl ?_
        refine ax_iload (q := 87) B d_S_remove_85 rfl rfl ?_
        refine ax_isub (q := 88) B d_S_remove_87 rfl ?_
        refine ax_qV2 (q := 91) B cv_S_61 d_S_remove_88 (by assumption) (Nat.le_of_ble_eq_true rfl) (by decide) (k_isTooFull hG hm hT (c := pz_cw (pz_ch t) d 8 m 8) (by omega) hcl (nI_upd hcw)) rfl ?_
        refine ax_ifZ_eq (q := 97) (q2 := 94) B d_S_remove_91 rfl rfl (fun h91 => ?_) (fun h91 => ?_)
        · exact tail3 (of_decide_eq_false h91) hbusy _
        · rw [if_neg hbusy, if_pos (by rw [hn]; exact of_decide_eq_true h91)] at E
          refine ax_bipush (v := (-4)) (q := 96) B d_S_remove_94 cb_m4 rfl ?_
          refine ax_iret B E d_S_remove_96 ?_
          exact ⟨_, rfl, rfl, hS', fun q _ => rfl⟩
      have tail1 : ¬ (pz_kd t m = 1 ∧ 0 < pz_ct t m) → aw_X M G 8 64 [some (.inl (some 0)), some (.inr dir), some (.inr name), some (.inl (some (4 + 2 + 2 * d))), some (.inr (nI j)), some (.inl (some (4 + 2 + 2 * m))), none, none] [] h := by
        intro hbusy
        refine ax_aload (q := 66) B d_S_remove_64 rfl rfl ?_
        refine ax_getN (q := 69) B fl_S_112 rfl d_S_remove_66 (by assumption) (by first | assumption | rfl) rfl ?_
        refine ax_ifZ_eq (q := 76) (q2 := 72) B d_S_remove_69 rfl rfl (fun h69 => ?_) (fun h69 => ?_)
        · refine ax_iconst (v := nI 0) (q := 77) B d_S_remove_76 ci_0 rfl ?_
          first | exact tail2 hbusy 0 (by rw [h69]; rfl) | exact tail2 hbusy 1 (by rw [h69]; rfl)
        · refine ax_iconst (v := nI 1) (q := 73) B d_S_remove_72 ci_1 rfl ?_
          refine ax_goto (q := 77) B d_S_remove_73 rfl ?_
          first | exact tail2 hbusy 0 (by rw [h69]; rfl) | exact tail2 hbusy 1 (by rw [h69]; rfl)
      show aw_X M G 8 35 [some (.inl (some 0)), some (.inr dir), some (.inr name), some (.inl (some (4 + 2 + 2 * d))), some (.inr (nI j)), none, none, none] [.inl (some (4 + 2 + 2 * m))] h
      refine ax_astore (q := 37) B d_S_remove_35 (by decide) rfl ?_
      refine ax_aload (q := 39) B d_S_remove_37 rfl rfl ?_
      refine ax_ifnonnull (q := 44) (q2 := 42) B d_S_remove_39 rfl rfl (fun _ _ => ?_) (fun z => by cases z)
      refine ax_aload (q := 46) B d_S_remove_44 rfl rfl ?_
      refine ax_getN (q := 49) B fl_S_109 rfl d_S_remove_46 (by assumption) (by first | assumption | rfl) rfl ?_
      refine ax_iconst (v := nI 1) (q := 50) B d_S_remove_49 ci_1 rfl ?_
      refine ax_icmpN_ne (q := 64) (q2 := 53) B (by omega) (by omega) d_S_remove_50 rfl rfl (fun h50 => ?_) (fun h50 => ?_)
      · exact tail1 (fun z => by omega)
      · refine ax_aload (q := 55) B d_S_remove_53 rfl rfl ?_
        refine ax_getN (q := 58) B fl_S_80 rfl d_S_remove_55 (by assumption) (by first | assumption | rfl) rfl ?_
        refine ax_ifN_le (q := 64) (q2 := 61) B (by omega) d_S_remove_58 rfl rfl (fun h58 => ?_) (fun h58 => ?_)
        · exact tail1 (fun z => by omega)
        · rw [if_pos ⟨by omega, by omega⟩] at E
          refine ax_bipush (v := (-6)) (q := 63) B d_S_remove_61 cb_m6 rfl ?_
          refine ax_iret B E d_S_remove_63 ?_
          exact ⟨_, rfl, rfl, hS', fun q _ => rfl⟩
end
section
theorem pz_nd_arg {t : pz_T} {P : Nat → Bool} {x : Int32} {i : Nat} (h : pz_nd t P x = some i) : x = nI i := by
  obtain ⟨h8, -, hn⟩ := pz_nd_lt h
  cases hsm : pz_small x 8 with
  | false => rw [pz_no_8 hsm] at hn; omega
  | true =>
    obtain ⟨j, hj, rfl⟩ := pz_small_e (by omega) hsm
    rw [pz_no_N hj] at hn
    rw [hn]
theorem p_move {l : Launch} {G : aw_G} (hG : gz G) {h : aw_H} {S : pz_S} (hS : cz G S h) (hI : pz_inv S) (dir name to as : Int32) : aw_F l G 3 Y_S_move [.inl (some 0), .inr dir, .inr name, .inr to, .inr as] h (fun v h' => v = .inr (pz_move S dir name to as).1 ∧ cz G (pz_move S dir name to as).2 h' ∧ ∀ q, 40 ≤ q → h' q = h q) := by
  obtain ⟨n, k, w, sp, t⟩ := S
  obtain ⟨-, -, -, -, -, -, hwf, -, -⟩ := hI
  have hS' := hS
  obtain ⟨hn, hm, hT⟩ := hS
  have hn : n = aw_n G := hn
  have hm : mz G k sp w h := hm
  have hT : hz_T 4 t h := hT
  have hwf : pz_wf k t := hwf
  refine aw_met hG.1 (by decide) (Nat.le_of_ble_eq_true rfl) (fun M hM B E => ?_)
  show aw_X M G 10 0 [some (.inl (some 0)), some (.inr dir), some (.inr name), some (.inr to), some (.inr as), none, none, none, none, none] [] h
  have i0 := hG.is0
  have r1 : aw_rM 0 1 = some 4 := rfl
  have i4 := hG.t4.2.1
  have n2 := hG.2.2.2
  unfold pz_move at E
  refine ax_aload_n (q := 1) B d_S_move_0 rfl rfl rfl ?_
  refine ax_getP (q := 4) B fl_S_30 rfl d_S_move_1 (by assumption) (by assumption) rfl ?_
  refine ax_iload_n (q := 5) B d_S_move_4 rfl rfl rfl ?_
  refine ax_qV1 (q := 8) B cv_S_40 d_S_move_5 (by assumption) (Nat.le_of_ble_eq_true rfl) (by decide) (k_directoryAt hG.1 hG.t4 hT dir) rfl ?_
  refine ax_astore (q := 10) B d_S_move_8 (by decide) rfl ?_
  refine ax_aload_n (q := 11) B d_S_move_10 rfl rfl rfl ?_
  refine ax_getP (q := 14) B fl_S_30 rfl d_S_move_11 (by assumption) (by assumption) rfl ?_
  refine ax_iload_n (q := 15) B d_S_move_14 rfl rfl rfl ?_
  refine ax_qV1 (q := 18) B cv_S_40 d_S_move_15 (by assumption) (Nat.le_of_ble_eq_true rfl) (by decide) (k_directoryAt hG.1 hG.t4 hT to) rfl ?_
  cases hx : pz_nd t (fun c => c == 1) dir with
  | none =>
    simp only [hx] at E
    refine ax_astore (q := 20) B d_S_move_18 (by decide) rfl ?_
    refine ax_aload (q := 22) B d_S_move_20 rfl rfl ?_
    refine ax_ifnull (q := 38) (q2 := 25) B d_S_move_22 rfl rfl (fun h22 => ?_) (fun _ h22 => ?_)
    · refine ax_iconst (v := (-1)) (q := 39) B d_S_move_38 ci_m1 rfl ?_
      refine ax_iret B E d_S_move_39 ?_
      exact ⟨_, rfl, rfl, hS', fun q _ => rfl⟩
    · cases h22
  | some d =>
  cases hx2 : pz_nd t (fun c => c == 1) to with
  | none =>
    simp only [hx, hx2] at E
    refine ax_astore (q := 20) B d_S_move_18 (by decide) rfl ?_
    refine ax_aload (q := 22) B d_S_move_20 rfl rfl ?_
    refine ax_ifnull (q := 38) (q2 := 25) B d_S_move_22 rfl rfl (fun h22 => ?_) (fun _ h22 => ?_)
    · refine ax_iconst (v := (-1)) (q := 39) B d_S_move_38 ci_m1 rfl ?_
      refine ax_iret B E d_S_move_39 ?_
      exact ⟨_, rfl, rfl, hS', fun q _ => rfl⟩
    · refine ax_aload (q := 27) B d_S_move_25 rfl rfl ?_
      refine ax_ifnull (q := 38) (q2 := 30) B d_S_move_27 rfl rfl (fun h27 => ?_) (fun _ h27 => ?_)
      · refine ax_iconst (v := (-1)) (q := 39) B d_S_move_38 ci_m1 rfl ?_
        refine ax_iret B E d_S_move_39 ?_
        exact ⟨_, rfl, rfl, hS', fun q _ => rfl⟩
      · cases h27
  | some e =>
    simp only [hx, hx2] at E
    have ea := pz_nd_arg hx
    have eb := pz_nd_arg hx2
    obtain ⟨hd8, hk1, -⟩ := pz_nd_lt hx
    obtain ⟨he8, hk1', -⟩ := pz_nd_lt hx2
    have hk1 : pz_kd t d = 1 := beq_iff_eq.mp hk1
    have hk1' : pz_kd t e = 1 := beq_iff_eq.mp hk1'
    subst ea
    subst eb
    have nd := (hG.t4.2.2.2.2 d hd8).2
    have id := nd.1
    have ne := (hG.t4.2.2.2.2 e he8).2
    have ie := ne.1
    have hN := hT d hd8
    have hNe := hT e he8
    have hc10 := hN.2.2.2.2.2.1
    have hcd := hwf.ct hd8 hk1
    have hce := hwf.ct he8 hk1'
    show aw_X M G 10 18 [some (.inl (some 0)), some (.inr (nI d)), some (.inr name), some (.inr (nI e)), some (.inr as), some (.inl (some (4 + 2 + 2 * d))), none, none, none, none] [.inl (some (4 + 2 + 2 * e))] h
    refine ax_astore (q := 20) B d_S_move_18 (by decide) rfl ?_
    refine ax_aload (q := 22) B d_S_move_20 rfl rfl ?_
    refine ax_ifnull (q := 38) (q2 := 25) B d_S_move_22 rfl rfl (fun z => by cases z) (fun _ _ => ?_)
    refine ax_aload (q := 27) B d_S_move_25 rfl rfl ?_
    refine ax_ifnull (q := 38) (q2 := 30) B d_S_move_27 rfl rfl (fun z => by cases z) (fun _ _ => ?_)
    refine ax_iload (q := 32) B d_S_move_30 rfl rfl ?_
    refine ax_qS1 (q := 35) B cv_S_44 d_S_move_32 (Nat.le_of_ble_eq_true rfl) (by decide) (k_isName hG.1 h as) rfl ?_
    cases hnm : pz_small as 100 with
    | false =>
      simp only [hnm, if_true] at E
      refine ax_ifZ_ne (q := 40) (q2 := 38) B d_S_move_35 rfl rfl (fun h35 => ?_) (fun h35 => ?_)
      · cases h35
      · refine ax_iconst (v := (-1)) (q := 39) B d_S_move_38 ci_m1 rfl ?_
        refine ax_iret B E d_S_move_39 ?_
        exact ⟨_, rfl, rfl, hS', fun q _ => rfl⟩
    | true =>
      simp only [hnm, Bool.true_eq_false, if_false] at E
      obtain ⟨x, hx100, rfl⟩ := pz_small_e (by omega) hnm
      rw [nI_clamp (by omega)] at E
      refine ax_ifZ_ne (q := 40) (q2 := 38) B d_S_move_35 rfl rfl (fun _ => ?_) (fun z => by cases z)
      refine ax_aload (q := 42) B d_S_move_40 rfl rfl ?_
      refine ax_iload_n (q := 43) B d_S_move_42 rfl rfl rfl ?_
      refine ax_qV1 (q := 46) B cv_S_48 d_S_move_43 (by assumption) (Nat.le_of_ble_eq_true rfl) (by decide) (k_indexOfName hG.1 nd hN.lz _) rfl ?_
      cases hix : pz_ix (pz_it t d) name (pz_ct t d) with
      | none =>
        simp only [hix] at E
        refine ax_istore (q := 48) B d_S_move_46 (by decide) rfl ?_
        refine ax_iload (q := 50) B d_S_move_48 rfl rfl ?_
        refine ax_iconst (v := (-1)) (q := 51) B d_S_move_50 ci_m1 rfl ?_
        refine ax_icmp_ne (q := 56) (q2 := 54) B d_S_move_51 rfl rfl (fun h51 => ?_) (fun h51 => ?_)
        · exact absurd rfl h51
        · refine ax_iconst (v := (-1)) (q := 55) B d_S_move_54 ci_m1 rfl ?_
          refine ax_iret B E d_S_move_55 ?_
          exact ⟨_, rfl, rfl, hS', fun q _ => rfl⟩
      | some j =>
        simp only [hix] at E
        have hj := pz_ix_lt _ hix
        obtain ⟨-, hm8, hm0, hmd, hmk⟩ := hwf.2.2.2.2.1 d hd8 hk1 j hj
        have hC := k_nodeOfItem (l := M.2.1) hG.1 nd hN.lz (o := some j) (fun i hi => by cases hi; exact hj)
        have hC : aw_I M.2.1 G 1 Y_N_nodeOfItem [.inl (some (4 + 2 + 2 * d)), .inr (nI j)] h (.inr (nI (pz_it t d j % 16))) := hC
        generalize pz_it t d j % 16 = m at hm8 hm0 hmd hmk E hC
        show aw_X M G 10 46 [some (.inl (some 0)), some (.inr (nI d)), some (.inr name), some (.inr (nI e)), some (.inr (nI x)), some (.inl (some (4 + 2 + 2 * d))), some (.inl (some (4 + 2 + 2 * e))), none, none, none] [.inr (nI j)] h
        refine ax_istore (q := 48) B d_S_move_46 (by decide) rfl ?_
        refine ax_iload (q := 50) B d_S_move_48 rfl rfl ?_
        refine ax_iconst (v := (-1)) (q := 51) B d_S_move_50 ci_m1 rfl ?_
        refine ax_icmp_ne (q := 56) (q2 := 54) B d_S_move_51 rfl rfl (fun _ => ?_) (fun z => absurd z (nI_nm1 (by omega)))
        refine ax_aload (q := 58) B d_S_move_56 rfl rfl ?_
        refine ax_iload (q := 60) B d_S_move_58 rfl rfl ?_
        refine ax_qV1 (q := 63) B cv_S_48 d_S_move_60 (by assumption) (Nat.le_of_ble_eq_true rfl) (by decide) (k_indexOfName hG.1 ne hNe.lz _) rfl ?_
        cases hix2 : pz_ix (pz_it t e) (nI x) (pz_ct t e) with
        | some j2 =>
          simp only [hix2] at E
          have hj2 := pz_ix_lt _ hix2
          refine ax_iconst (v := (-1)) (q := 64) B d_S_move_63 ci_m1 rfl ?_
          refine ax_icmp_eq (q := 70) (q2 := 67) B d_S_move_64 rfl rfl (fun h64 => ?_) (fun h64 => ?_)
          · exact absurd h64 (nI_nm1 (by omega))
          · refine ax_bipush (v := (-2)) (q := 69) B d_S_move_67 cb_m2 rfl ?_
            refine ax_iret B E d_S_move_69 ?_
            exact ⟨_, rfl, rfl, hS', fun q _ => rfl⟩
        | none =>
          simp only [hix2] at E
          refine ax_iconst (v := -1) (q := 64) B d_S_move_63 ci_m1 rfl ?_
          refine ax_icmp_eq (q := 70) (q2 := 67) B d_S_move_64 rfl rfl (fun _ => ?_) (fun z => absurd rfl z)
          refine ax_aload (q := 72) B d_S_move_70 rfl rfl ?_
          refine ax_iload (q := 74) B d_S_move_72 rfl rfl ?_
          refine ax_qV1 (q := 77) B cv_S_103 d_S_move_74 (by assumption) (Nat.le_of_ble_eq_true rfl) (by decide) hC rfl ?_
          refine ax_istore (q := 79) B d_S_move_77 (by decide) rfl ?_
          refine ax_aload_n (q := 80) B d_S_move_79 rfl rfl rfl ?_
          refine ax_getP (q := 83) B fl_S_30 rfl d_S_move_80 (by assumption) (by assumption) rfl ?_
          refine ax_iload_n (q := 84) B d_S_move_83 rfl rfl rfl ?_
          refine ax_iload (q := 86) B d_S_move_84 rfl rfl ?_
          refine ax_qV2 (q := 89) B cv_S_122 d_S_move_86 (by assumption) (Nat.le_of_ble_eq_true rfl) (by decide) (k_isAtOrBelow hG.1 hG.t4 hT he8 (by omega)) rfl ?_
          have hcw : pz_cw (pz_ch t) d e 8 8 = pz_cp (pz_ch t) 8 + ((if pz_ch t d = true then 0 else 1) + (if e = d then 0 else if pz_ch t e = true then 0 else 1)) := by
            by_cases hed : e = d
            · subst hed
              rw [if_pos rfl, pz_cw_same, pz_cw_one hd8]
              omega
            · rw [if_neg hed, pz_cw_two hd8 he8 hed]
              omega
          have hcp := pz_cp_le (pz_ch t) 8
          have hcl : pz_cw (pz_ch t) d e 8 8 ≤ 100 := by rw [hcw]; split <;> split <;> (try split) <;> omega
          cases hbl : pz_below t e m 8 with
          | true =>
            rw [if_pos hbl] at E
            refine ax_ifZ_eq (q := 95) (q2 := 92) B d_S_move_89 rfl rfl (fun h89 => ?_) (fun h89 => ?_)
            · cases h89
            · refine ax_bipush (v := (-7)) (q := 94) B d_S_move_92 cb_m7 rfl ?_
              refine ax_iret B E d_S_move_94 ?_
              exact ⟨_, rfl, rfl, hS', fun q _ => rfl⟩
          | false =>
            rw [if_neg (by rw [hbl]; decide)] at E
            refine ax_ifZ_eq (q := 95) (q2 := 92) B d_S_move_89 rfl rfl (fun _ => ?_) (fun z => by cases z)
            have tail3 : ¬ aw_n G < k + 0 + pz_cw (pz_ch t) d e 8 8 + 1 → ∀ u, aw_X M G 10 130 [some (.inl (some 0)), some (.inr (nI d)), some (.inr name), some (.inr (nI e)), some (.inr (nI x)), some (.inl (some (4 + 2 + 2 * d))), some (.inl (some (4 + 2 + 2 * e))), some (.inr (nI j)), some (.inr (nI m)), u] [] h := by
              intro hfull u
              rw [if_neg (by rw [hn]; exact hfull)] at E
              refine ax_aload (q := 132) B d_S_move_130 rfl rfl ?_
              refine ax_iload (q := 134) B d_S_move_132 rfl rfl ?_
              refine ax_pV1 (q := 137) B cv_S_116 d_S_move_134 (by assumption) (Nat.le_of_ble_eq_true rfl) (by decide) (k_dropItem hG.1 nd hN.2.1 hc10 hj) rfl (fun h1 hh1 => ?_)
              have hT1 : hz_T 4 (pz_take t d j) h1 := take_T hT hd8 hj hh1
              have hf1 := hh1.2.2.2.2.2
              have hct : pz_ct (pz_take t d j) e ≤ 7 := by
                by_cases hed : e = d
                · subst hed
                  have e2 : pz_ct (pz_take t e j) e = pz_ct t e - 1 := pz_up_s
                  omega
                · have e2 : pz_ct (pz_take t d j) e = pz_ct t e := pz_up_n hed
                  omega
              refine ax_aload (q := 139) B d_S_move_137 rfl rfl ?_
              refine ax_iload (q := 141) B d_S_move_139 rfl rfl ?_
              refine ax_iload (q := 143) B d_S_move_141 rfl rfl ?_
              refine ax_pV2 (q := 146) B cv_S_72 d_S_move_143 (by assumption) (Nat.le_of_ble_eq_true rfl) (by decide) (k_addItem hG.1 ne (hT1 e he8).2.1 (by omega) _ _) rfl (fun h2 hh2 => ?_)
              have hT2 : hz_T 4 (pz_add (pz_take t d j) e (16 * x + m)) h2 := by
                rw [hh2, Nat.mul_comm x 16]
                exact add_T hT1 he8 (by omega) (by omega)
              have hf2 : ∀ q, q < 6 ∨ 22 ≤ q → h2 q = h q := fun q hq => by rw [hh2, aw_u_ne (by omega), aw_u_ne (by omega), aw_u_ne (by omega), hf1 q (by omega) (by omega)]
              refine ax_iload (q := 148) B d_S_move_146 rfl rfl ?_
              refine ax_iret B E d_S_move_148 ?_
              exact ⟨_, rfl, rfl, ⟨hn, hm.kept (hf2 1 (by omega)) (hf2 2 (by omega)) (hf2 3 (by omega)), hT2⟩, fun q hq => hf2 q (by omega)⟩
            have tail2 : ∀ g : Nat, (if e = d then 0 else if pz_ch t e = true then 0 else 1) = g → aw_X M G 10 109 [some (.inl (some 0)), some (.inr (nI d)), some (.inr name), some (.inr (nI e)), some (.inr (nI x)), some (.inl (some (4 + 2 + 2 * d))), some (.inl (some (4 + 2 + 2 * e))), some (.inr (nI j)), some (.inr (nI m)), none] [.inr (nI g)] h := by
              intro g hg
              rw [hg] at hcw
              refine ax_istore (q := 111) B d_S_move_109 (by decide) rfl ?_
              refine ax_aload_n (q := 112) B d_S_move_111 rfl rfl rfl ?_
              refine ax_iconst (v := nI 0) (q := 113) B d_S_move_112 ci_0 rfl ?_
              refine ax_aload (q := 115) B d_S_move_113 rfl rfl ?_
              refine ax_qV0 (q := 118) B cv_S_58 d_S_move_115 (by assumption) (Nat.le_of_ble_eq_true rfl) (by decide) (k_ifUnchanged hG.1 nd hN.2.2.2.1) rfl ?_
              refine ax_iload (q := 120) B d_S_move_118 rfl rfl ?_
              first | refine ax_iaddN (q := 121) B d_S_move_120 rfl ?_ | refine ax_iadd (q := 121) B d_S_move_120 rfl ?_
              refine ax_qV2 (q := 124) B cv_S_61 d_S_move_121 (by assumption) (Nat.le_of_ble_eq_true rfl) (by decide) (k_isTooFull hG hm hT (c := pz_cw (pz_ch t) d e 8 8) (by omega) hcl (by rw [nI_add]; congr 1; exact hcw.symm)) rfl ?_
              refine ax_ifZ_eq (q := 130) (q2 := 127) B d_S_move_124 rfl rfl (fun h124 => ?_) (fun h124 => ?_)
              · exact tail3 (of_decide_eq_false h124) _
              · rw [if_pos (by rw [hn]; exact of_decide_eq_true h124)] at E
                refine ax_bipush (v := (-4)) (q := 129) B d_S_move_127 cb_m4 rfl ?_
                refine ax_iret B E d_S_move_129 ?_
                exact ⟨_, rfl, rfl, hS', fun q _ => rfl⟩
            refine ax_iload_n (q := 96) B d_S_move_95 rfl rfl rfl ?_
            refine ax_iload_n (q := 97) B d_S_move_96 rfl rfl rfl ?_
            refine ax_icmpN_ne (q := 104) (q2 := 100) B (by omega) (by omega) d_S_move_97 rfl rfl (fun h97 => ?_) (fun h97 => ?_)
            · refine ax_aload (q := 106) B d_S_move_104 rfl rfl ?_
              refine ax_qV0 (q := 109) B cv_S_58 d_S_move_106 (by assumption) (Nat.le_of_ble_eq_true rfl) (by decide) (k_ifUnchanged hG.1 ne hNe.2.2.2.1) rfl ?_
              first | exact tail2 0 (by rw [if_pos h97]) | exact tail2 _ (by rw [if_neg h97])
            · refine ax_iconst (v := nI 0) (q := 101) B d_S_move_100 ci_0 rfl ?_
              refine ax_goto (q := 109) B d_S_move_101 rfl ?_
              first | exact tail2 0 (by rw [if_pos h97]) | exact tail2 _ (by rw [if_neg h97])
end
section
/-- what holds while the entries are being written -/
theorem pz_es_ok {t : pz_T} {k sp n : Nat} {w : Nat → Nat} (hi : iz k w) (h0 : ∀ x, 16 * k ≤ x → w x = 0) (hk : k + pz_nch t 8 < n) (hn : n ≤ 128) : ∀ j, j ≤ 8 → iz (pz_es t k w sp j).1.1 (pz_es t k w sp j).1.2.1 ∧ (∀ x, 16 * (pz_es t k w sp j).1.1 ≤ x → (pz_es t k w sp j).1.2.1 x = 0) ∧ (pz_es t k w sp j).1.1 ≤ k + pz_nch t j ∧ k ≤ (pz_es t k w sp j).1.1 ∧ (∀ x, x < 16 * k → (pz_es t k w sp j).1.2.1 x = w x) ∧ (∀ p, k ≤ p → p < (pz_es t k w sp j).1.1 → (pz_es t k w sp j).1.2.1 (16 * p) = 2) := by
  intro j
  induction j with
  | zero => exact fun _ => ⟨hi, h0, Nat.le_add_right k _, Nat.le_refl k, fun x _ => rfl, fun p h1 h2 => absurd h2 (by show ¬ p < k; omega)⟩
  | succ j ih =>
    intro hj
    obtain ⟨a1, a2, a3, a4, a5, a7⟩ := ih (by omega)
    have hnc : pz_nch t (j + 1) = pz_nch t j + (if pz_ch t j = true then 1 else 0) := rfl
    have hmono : pz_nch t (j + 1) ≤ pz_nch t 8 := pz_cp_mono (by omega)
    cases hb : (pz_es t k w sp j).2 with
    | true =>
      rw [pz_es_t hb 1]
      exact ⟨a1, a2, by omega, a4, a5, a7⟩
    | false =>
      rcases hes : pz_es t k w sp j with ⟨⟨k', w', sp', en'⟩, b⟩
      rw [hes] at hb a1 a2 a3 a4 a5 a7
      have hb : b = false := hb
      subst hb
      rw [pz_es_s hes]
      have a3 : k' ≤ k + pz_nch t j := a3
      have a4 : k ≤ k' := a4
      by_cases hc : pz_ch t j = true
      · rw [if_pos hc] at hnc ⊢
        refine ⟨iz_sec a1 (by show (2 : Nat) ≠ 3; omega), pz_sec_zero a2, by show k' + 1 ≤ _; omega, by show k ≤ k' + 1; omega, fun x hx => ?_, fun p h1 h2 => ?_⟩
        · show pz_sec w' k' _ _ x = w x
          rw [pz_sec_old (by omega)]
          exact a5 x hx
        · have h2 : p < k' + 1 := h2
          show pz_sec w' k' _ _ (16 * p) = 2
          by_cases hpk : p = k'
          · subst hpk
            have h3 : pz_sec w' p (pz_entry p j t) (sp' == 1) (16 * p + 0) = pz_entry p j t 0 := pz_sec_new (by omega) (by omega)
            exact h3
          · rw [pz_sec_old (by omega)]
            exact a7 p h1 (show p < k' by omega)
      · rw [if_neg hc] at hnc ⊢
        exact ⟨a1, a2, by show k' ≤ _; omega, a4, a5, a7⟩
theorem pz_es_k {t : pz_T} {k sp : Nat} {w : Nat → Nat} : ∀ j, (pz_es t k w sp j).2 = false → (pz_es t k w sp j).1.1 = k + pz_nch t j
  | 0, _ => rfl
  | j + 1, h => by
    cases hb : (pz_es t k w sp j).2 with
    | true =>
      rw [pz_es_t hb 1, hb] at h
      cases h
    | false =>
      have ih := pz_es_k j hb
      rcases hes : pz_es t k w sp j with ⟨⟨k', w', sp', en'⟩, b⟩
      rw [hes] at hb ih
      have hb : b = false := hb
      subst hb
      have ih : k' = k + pz_nch t j := ih
      have hnc : pz_nch t (j + 1) = pz_nch t j + (if pz_ch t j = true then 1 else 0) := rfl
      rw [pz_es_s hes]
      by_cases hc : pz_ch t j = true
      · rw [if_pos hc] at hnc ⊢
        show k' + 1 = _
        omega
      · rw [if_neg hc] at hnc ⊢
        show k' = _
        omega
/-- sectors that are no tables don't change which table is the newest -/
theorem pz_newest_more {w w' : Nat → Nat} {k k' : Nat} (hi : iz k w) (hk : k ≤ k') (ho : ∀ x, x < 16 * k → w' x = w x) (h2 : ∀ p, k ≤ p → p < k' → w' (16 * p) = 2) : pz_newest w' k' = pz_newest w k := by
  have hold : ∀ p, p < k → pz_valid w' p = pz_valid w p := fun p hp => by
    have hg : ∀ q, q < k → pz_good w' q = pz_good w q := fun q hq => by
      unfold pz_good
      rw [ho _ (by omega), pz_chk_ext (w := w') (v := w) (fun i hi _ => ho _ (by omega))]
    unfold pz_valid
    rw [hg p hp, ho _ (by omega)]
    by_cases h3 : w (16 * p) = 3
    · rw [pz_ents_ext (w := w') (v := w) 8 (fun i hi8 => ⟨?_, ?_⟩)]
      · unfold pz_nm; rw [ho _ (by omega)]
      · obtain ⟨h1, -⟩ := hi p hp h3 i hi8
        rcases Nat.eq_zero_or_pos (pz_nm w p i) with h0 | h0
        · exact Or.inl h0
        · exact Or.inr (hg _ (by omega))
    · rw [show (w (16 * p) == 3) = false by simp [h3], Bool.false_and, Bool.false_and, Bool.false_and]
  have key : ∀ m, k + m ≤ k' → pz_newest w' (k + m) = pz_newest w k := by
    intro m
    induction m with
    | zero => exact fun _ => pz_newest_ext k hold
    | succ m ih =>
      intro hm
      have hv : pz_valid w' (k + m) = false := by
        unfold pz_valid
        rw [h2 (k + m) (by omega) (by omega), show ((2 : Nat) == 3) = false from rfl, Bool.false_and, Bool.false_and]
      show (if pz_valid w' (k + m) = true then some (k + m) else pz_newest w' (k + m)) = _
      rw [hv, if_neg (by decide)]
      exact ih (by omega)
  have := key (k' - k) (by omega)
  rw [show k + (k' - k) = k' by omega] at this
  exact this
theorem iz_tab {k num : Nat} {w en : Nat → Nat} {b : Bool} (hi : iz k w) (hen : ∀ i, i < 8 → en i ≤ k ∧ (en i = 0 ∨ w (16 * (en i - 1) + 5) ≤ 10)) : iz (k + 1) (pz_sec w k (pz_table k num en) b) := by
  intro p hp h3 i hi8
  by_cases hpk : p = k
  · subst hpk
    have h4 : pz_nm (pz_sec w p (pz_table p num en) b) p i = en i := by
      unfold pz_nm
      rw [Nat.add_assoc, pz_sec_new (by omega) (by omega)]
      unfold pz_table
      rw [if_neg (by omega), if_neg (by omega), if_neg (by omega), if_pos (by omega), show 4 + i - 4 = i by omega]
    rw [h4]
    obtain ⟨h1, h2⟩ := hen i hi8
    refine ⟨h1, ?_⟩
    rcases h2 with h2 | h2
    · exact Or.inl h2
    · by_cases hz : en i = 0
      · exact Or.inl hz
      · refine Or.inr ?_
        rw [pz_sec_old (by omega)]
        exact h2
  · rw [pz_sec_old (by omega)] at h3
    obtain ⟨h1, h2⟩ := hi p (by omega) h3 i hi8
    rw [pz_nm_old (by omega) hi8]
    refine ⟨h1, ?_⟩
    rcases h2 with h2 | h2
    · exact Or.inl h2
    · by_cases hz : pz_nm w p i = 0
      · exact Or.inl hz
      · refine Or.inr ?_
        rw [pz_sec_old (by omega)]
        exact h2
end
section
/-- node i's entry lies at en - 1 and says what the node is -/
def ez (k : Nat) (w en : Nat → Nat) (t : pz_T) (i : Nat) : Prop := (pz_kd t i = 0 → en i = 0) ∧ (pz_kd t i ≠ 0 → 1 ≤ en i ∧ en i ≤ k ∧ w (16 * (en i - 1) + 4) = pz_kd t i ∧ w (16 * (en i - 1) + 5) = pz_ct t i ∧ ∀ s, s < pz_ct t i → w (16 * (en i - 1) + 6 + s) = pz_it t i s)
theorem ez.sec {k i : Nat} {w f en : Nat → Nat} {t : pz_T} {b : Bool} (h : ez k w en t i) (hc : pz_ct t i ≤ 10) : ez (k + 1) (pz_sec w k f b) en t i := by
  refine ⟨h.1, fun hk => ?_⟩
  obtain ⟨h1, h2, h3, h4, h5⟩ := h.2 hk
  refine ⟨h1, by omega, ?_, ?_, fun s hs => ?_⟩
  · rw [pz_sec_old (by omega)]; exact h3
  · rw [pz_sec_old (by omega)]; exact h4
  · rw [pz_sec_old (by omega)]; exact h5 s hs
theorem pz_es_kept {t : pz_T} {k sp : Nat} {w : Nat → Nat} (hwf : pz_wf k t) (hkp : pz_kept k w t) : ∀ j, j ≤ 8 → (pz_es t k w sp j).2 = false → ∀ i, i < 8 → (i < j ∨ pz_ch t i = false) → ez (pz_es t k w sp j).1.1 (pz_es t k w sp j).1.2.1 (pz_es t k w sp j).1.2.2.2 t i := by
  intro j
  induction j with
  | zero =>
    intro _ _ i hi hor
    have hch : pz_ch t i = false := by
      rcases hor with h | h
      · omega
      · exact h
    exact ⟨fun h0 => (hwf.2.2.1 i hi h0).2.2, fun h0 => hkp i hi h0 hch⟩
  | succ j ih =>
    intro hj hb1 i hi hor
    cases hb : (pz_es t k w sp j).2 with
    | true =>
      rw [pz_es_t hb 1, hb] at hb1
      cases hb1
    | false =>
      have ih := ih (by omega) hb
      rcases hes : pz_es t k w sp j with ⟨⟨k', w', sp', en'⟩, b⟩
      rw [hes] at hb ih
      have hb : b = false := hb
      subst hb
      rw [pz_es_s hes] at hb1 ⊢
      have hc10 := hwf.ct10 hi
      by_cases hc : pz_ch t j = true
      · rw [if_pos hc] at hb1 ⊢
        show ez (k' + 1) (pz_sec w' k' (pz_entry k' j t) (sp' == 1)) (pz_up en' j (k' + 1)) t i
        by_cases hij : i = j
        · subst hij
          have hk0 : pz_kd t i ≠ 0 := fun z => by
            have := (hwf.2.2.1 i hi z).2.1
            rw [this] at hc
            cases hc
          have e1 : pz_up en' i (k' + 1) i = k' + 1 := pz_up_s
          refine ⟨fun z => absurd z hk0, fun _ => ?_⟩
          rw [e1]
          refine ⟨by omega, by omega, ?_, ?_, fun s hs => ?_⟩
          · rw [Nat.add_sub_cancel, pz_sec_new (by omega) (by omega)]; rfl
          · rw [Nat.add_sub_cancel, pz_sec_new (by omega) (by omega)]; rfl
          · rw [Nat.add_sub_cancel, Nat.add_assoc, pz_sec_new (by omega) (by omega)]
            unfold pz_entry
            rw [if_neg (by omega), if_neg (by omega), if_neg (by omega), if_neg (by omega), if_neg (by omega), if_pos (by omega), show 6 + s - 6 = s by omega]
        · have h1 : ez k' w' en' t i := ih i hi (by
            rcases hor with h | h
            · exact Or.inl (by omega)
            · exact Or.inr h)
          have e1 : pz_up en' j (k' + 1) i = en' i := pz_up_n hij
          have h2 := h1.sec (f := pz_entry k' j t) (b := (sp' == 1)) hc10
          unfold ez at h2 ⊢
          rw [e1]
          exact h2
      · rw [if_neg hc] at hb1 ⊢
        refine ih i hi ?_
        rcases hor with h | h
        · by_cases hij : i = j
          · subst hij
            refine Or.inr ?_
            cases hz : pz_ch t i with
            | true => exact absurd hz hc
            | false => rfl
          · exact Or.inl (by omega)
        · exact Or.inr h
theorem ez.en {k i : Nat} {w en : Nat → Nat} {t : pz_T} (h : ez k w en t i) (hc : pz_ct t i ≤ 10) : en i ≤ k ∧ (en i = 0 ∨ w (16 * (en i - 1) + 5) ≤ 10) := by
  by_cases h0 : pz_kd t i = 0
  · rw [h.1 h0]; exact ⟨Nat.zero_le _, Or.inl rfl⟩
  · obtain ⟨h1, h2, h3, h4, h5⟩ := h.2 h0
    exact ⟨h2, Or.inr (by rw [h4]; exact hc)⟩
theorem pz_num_le {k : Nat} {w : Nat → Nat} (h : ∀ p, p < k → w (16 * p) = 3 → w (16 * p + 3) ≤ p + 1) : pz_num w k ≤ k := by
  unfold pz_num
  cases hx : pz_newest w k with
  | none => exact Nat.zero_le _
  | some p =>
    obtain ⟨hp, hv⟩ := pz_newest_lt k hx
    have := h p hp (pz_valid_3 hv)
    show w (16 * p + 3) ≤ k
    omega
theorem pz_num_more {w w' : Nat → Nat} {k k' : Nat} (hi : iz k w) (hk : k ≤ k') (ho : ∀ x, x < 16 * k → w' x = w x) (h2 : ∀ p, k ≤ p → p < k' → w' (16 * p) = 2) : pz_num w' k' = pz_num w k := by
  unfold pz_num
  rw [pz_newest_more hi hk ho h2]
  cases hx : pz_newest w k with
  | none => rfl
  | some p =>
    obtain ⟨hp, -⟩ := pz_newest_lt k hx
    exact ho _ (by omega)
theorem p_close {l : Launch} {G : aw_G} (hG : gz G) {h : aw_H} {S : pz_S} (hS : cz G S h) (hI : pz_inv S) : aw_F l G 6 Y_S_close [.inl (some 0)] h (fun v h' => v = .inr (pz_close S).1 ∧ cz G (pz_close S).2 h' ∧ ∀ q, 40 ≤ q → h' q = h q) := by
  obtain ⟨n, k, w, sp, t⟩ := S
  have hi := hI.iz
  obtain ⟨-, -, -, -, -, h0, hwf, hkp, h9⟩ := hI
  have hS' := hS
  obtain ⟨hn, hm, hT⟩ := hS
  have hn : n = aw_n G := hn
  have hm : mz G k sp w h := hm
  have hT : hz_T 4 t h := hT
  have hwf : pz_wf k t := hwf
  have h0 : ∀ x, 16 * k ≤ x → w x = 0 := h0
  have n2 := hG.2.2.2
  have hkn := hm.2.2.2.1
  have hnum : pz_num w k ≤ k := pz_num_le (fun p hp h3 => (h9 p hp h3).2.2)
  refine aw_met hG.1 (by decide) (Nat.le_of_ble_eq_true rfl) (fun M hM B E => ?_)
  show aw_X M G 2 0 [some (.inl (some 0)), none] [] h
  have i0 := hG.is0
  have r1 : aw_rM 0 1 = some 4 := rfl
  have i4 := hG.t4.2.1
  have hcp := pz_cp_le (pz_ch t) 8
  have hcp : pz_nch t 8 ≤ 8 := hcp
  unfold pz_close at E
  refine ax_aload_n (q := 1) B d_S_close_0 rfl rfl rfl ?_
  refine ax_getP (q := 4) B fl_S_30 rfl d_S_close_1 (by assumption) (by assumption) rfl ?_
  refine ax_qV0 (q := 7) B cv_S_125 d_S_close_4 (by assumption) (Nat.le_of_ble_eq_true rfl) (by decide) (k_countChanged hG.1 hG.t4 hT) rfl ?_
  by_cases hc0 : pz_nch t 8 = 0
  · simp only [hc0, if_true] at E
    rw [hc0]
    refine ax_istore_n (q := 8) B d_S_close_7 rfl (by decide) rfl ?_
    refine ax_iload_n (q := 9) B d_S_close_8 rfl rfl rfl ?_
    refine ax_ifN_ne (q := 14) (q2 := 12) B (by omega) d_S_close_9 rfl rfl (fun h9 => ?_) (fun h9 => ?_)
    · omega
    · refine ax_iconst (v := nI 0) (q := 13) B d_S_close_12 ci_0 rfl ?_
      refine ax_iret B E d_S_close_13 ?_
      exact ⟨_, rfl, rfl, hS', fun q _ => rfl⟩
  simp only [hc0, if_false] at E
  have tail3 : ∀ (k2 sp2 : Nat) (w2 : Nat → Nat) (f : aw_H), mz G k2 sp2 w2 f → iz k2 w2 → (∀ q, 22 ≤ q → f q = h q) → aw_E M G (some .int) (fun r h' => ∃ v, r = some v ∧ (v = .inr (-5) ∧ cz G (n, k2, w2, sp2, pz_back w2 k2) h' ∧ ∀ q, 40 ≤ q → h' q = h q)) → ∀ u, aw_X M G 2 46 [some (.inl (some 0)), u] [] f := by
    intro k2 sp2 w2 f hmf hif hff E u
    refine ax_aload_n (q := 47) B d_S_close_46 rfl rfl rfl ?_
    refine ax_pV0 (q := 50) B cv_S_97 d_S_close_47 (by assumption) (Nat.le_of_ble_eq_true rfl) (by decide) (k_readBack hG hmf hif) rfl (fun h4 hh4 => ?_)
    refine ax_bipush (v := (-5)) (q := 52) B d_S_close_50 cb_m5 rfl ?_
    refine ax_iret B E d_S_close_52 ?_
    exact ⟨_, rfl, rfl, ⟨hn, hmf.kept (hh4.2 1 (by omega)) (hh4.2 2 (by omega)) (hh4.2 3 (by omega)), hh4.1⟩, fun q hq => by rw [hh4.2 q (by omega), hff q (by omega)]⟩
  have tail : ¬ aw_n G < k + 0 + pz_nch t 8 + 1 → aw_X M G 2 26 [some (.inl (some 0)), some (.inr (nI (pz_nch t 8)))] [] h := by
    intro hfull
    rw [if_neg (by rw [hn]; exact hfull)] at E
    have hC := k_writeEntries (l := M.2.1) hG hm hT (by omega) h0
    have hok := pz_es_ok (t := t) (sp := sp) hi h0 (n := aw_n G) (by omega) n2 8 (by omega)
    have hez := pz_es_kept (sp := sp) hwf hkp 8 (by omega)
    have hek := pz_es_k (t := t) (k := k) (sp := sp) (w := w) 8
    rcases hes : pz_es t k w sp 8 with ⟨⟨k', w', sp', en'⟩, b⟩
    rw [hes] at hC hok hez hek
    simp only [hes] at E
    obtain ⟨a1, a2, a3, a4, a5, a7⟩ := hok
    have a1 : iz k' w' := a1
    have a2 : ∀ x, 16 * k' ≤ x → w' x = 0 := a2
    have a3 : k' ≤ k + pz_nch t 8 := a3
    have a4 : k ≤ k' := a4
    refine ax_aload_n (q := 27) B d_S_close_26 rfl rfl rfl ?_
    refine ax_gV0 (q := 30) B cv_S_128 d_S_close_27 (by assumption) (Nat.le_of_ble_eq_true rfl) (by decide) hC rfl (fun v h1 hv => ?_)
    obtain ⟨rfl, hm1, hT1, hf1⟩ := hv
    have hm1 : mz G k' sp' w' h1 := hm1
    cases b with
    | true =>
      refine ax_ifZ_eq (q := 46) (q2 := 33) B d_S_close_30 rfl rfl (fun _ => ?_) (fun z => by cases z)
      exact tail3 k' sp' w' h1 hm1 a1 hf1 E _
    | false =>
      have hT1 : hz_T 4 (pz_tj t 8 en') h1 := hT1 rfl
      have hek : k' = k + pz_nch t 8 := hek rfl
      have hez : ∀ i, i < 8 → ez k' w' en' t i := fun i hi8 => hez rfl i hi8 (Or.inl hi8)
      have hen : ∀ i, i < 8 → en' i ≤ k' ∧ (en' i = 0 ∨ w' (16 * (en' i - 1) + 5) ≤ 10) := fun i hi8 => (hez i hi8).en (hwf.ct10 hi8)
      have hnm : pz_num w' k' = pz_num w k := pz_num_more hi a4 a5 a7
      refine ax_ifZ_eq (q := 46) (q2 := 33) B d_S_close_30 rfl rfl (fun z => by cases z) (fun _ => ?_)
      refine ax_aload_n (q := 34) B d_S_close_33 rfl rfl rfl ?_
      refine ax_aload_n (q := 35) B d_S_close_34 rfl rfl rfl ?_
      refine ax_qV0 (q := 38) B cv_S_131 d_S_close_35 (by assumption) (Nat.le_of_ble_eq_true rfl) (by decide) (k_newestNumber hG hm1 a1) rfl ?_
      refine ax_top (congrArg nI hnm) ?_
      refine ax_iconst (v := nI 1) (q := 39) B d_S_close_38 ci_1 rfl ?_
      first | refine ax_iaddN (q := 40) B d_S_close_39 rfl ?_ | refine ax_iadd (q := 40) B d_S_close_39 rfl ?_
      refine ax_gV1 (q := 43) B cv_S_134 d_S_close_40 (by assumption) (Nat.le_of_ble_eq_true rfl) (by decide) (k_writeTable hG hm1 hT1 (by omega) a2 (fun i hi8 => by show en' i < 65536; have := (hen i hi8).1; omega) (by omega)) rfl (fun v h2 hv => ?_)
      obtain ⟨rfl, hm2, hf2⟩ := hv
      have hm2 : mz G (k' + 1) (sp' - 1) (pz_sec w' k' (pz_table k' (pz_num w k + 1) en') (sp' == 1)) h2 := hm2
      have hi2 : iz (k' + 1) (pz_sec w' k' (pz_table k' (pz_num w k + 1) en') (sp' == 1)) := iz_tab a1 hen
      have hf3 : ∀ q, 22 ≤ q → h2 q = h q := fun q hq => by rw [hf2 q (by omega), hf1 q hq]
      by_cases hsp : sp' = 1
      · subst hsp
        simp only [if_true] at E
        refine ax_ifZ_ne (q := 53) (q2 := 46) B d_S_close_43 rfl rfl (fun z => absurd (show (decide ((1 : Nat) ≠ 1)) = true from z) (by decide)) (fun _ => ?_)
        exact tail3 (k' + 1) 0 _ h2 hm2 hi2 hf3 E _
      · simp only [hsp, if_false] at E
        rw [pz_beq_ne hsp] at hm2
        refine ax_ifZ_ne (q := 53) (q2 := 46) B d_S_close_43 rfl rfl (fun _ => ?_) (fun z => by rw [decide_eq_true hsp] at z; cases z)
        have hT2 : hz_T 4 (pz_kd t, pz_ct t, fun _ => false, en', pz_it t) h2 := fun i hi8 => ((hT1 i hi8).ext (t' := (pz_kd t, pz_ct t, fun _ => false, en', pz_it t)) rfl rfl (by show false = (if i < 8 then false else pz_ch t i); rw [if_pos hi8]) rfl (fun s hs => rfl)).kept (hf2 _ (by omega)) (hf2 _ (by omega))
        refine ax_iload_n (q := 54) B d_S_close_53 rfl rfl rfl ?_
        refine ax_iconst (v := nI 1) (q := 55) B d_S_close_54 ci_1 rfl ?_
        first | refine ax_iaddN (q := 56) B d_S_close_55 rfl ?_ | refine ax_iadd (q := 56) B d_S_close_55 rfl ?_
        refine ax_iret B E d_S_close_56 ?_
        exact ⟨_, rfl, rfl, ⟨hn, hm2, hT2⟩, fun q hq => hf3 q (by omega)⟩
  refine ax_istore_n (q := 8) B d_S_close_7 rfl (by decide) rfl ?_
  refine ax_iload_n (q := 9) B d_S_close_8 rfl rfl rfl ?_
  refine ax_ifN_ne (q := 14) (q2 := 12) B (by omega) d_S_close_9 rfl rfl (fun h9 => ?_) (fun h9 => ?_)
  · refine ax_aload_n (q := 15) B d_S_close_14 rfl rfl rfl ?_
    refine ax_iconst (v := nI 0) (q := 16) B d_S_close_15 ci_0 rfl ?_
    refine ax_iconst (v := nI 0) (q := 17) B d_S_close_16 ci_0 rfl ?_
    refine ax_qV2 (q := 20) B cv_S_61 d_S_close_17 (by assumption) (Nat.le_of_ble_eq_true rfl) (by decide) (k_isTooFull hG hm hT (c := pz_nch t 8) (by omega) (by omega) (by rw [nI_add]; rfl)) rfl ?_
    refine ax_ifZ_eq (q := 26) (q2 := 23) B d_S_close_20 rfl rfl (fun h20 => ?_) (fun h20 => ?_)
    · exact tail (of_decide_eq_false h20)
    · rw [if_pos (by rw [hn]; exact of_decide_eq_true h20)] at E
      refine ax_bipush (v := (-4)) (q := 25) B d_S_close_23 cb_m4 rfl ?_
      refine ax_iret B E d_S_close_25 ?_
      exact ⟨_, rfl, rfl, hS', fun q _ => rfl⟩
  · omega
end
section
/- THE REFERENCE at place 40; its arrays at 41 .. 51 -/
def gr (G : aw_G) : Prop := gz G ∧ 52 ≤ aw_N G
theorem gr.i40 {G : aw_G} (h : gr G) : aw_is G 40 4 := ⟨by have := h.2; omega, rfl⟩
theorem gr.a41 {G : aw_G} (h : gr G) : aw_ar G 41 0 2048 := ⟨by have := h.2; omega, rfl⟩
theorem gr.a42 {G : aw_G} (h : gr G) : aw_ar G 42 0 8 := ⟨by have := h.2; omega, rfl⟩
theorem gr.a43 {G : aw_G} (h : gr G) : aw_ar G 43 0 8 := ⟨by have := h.2; omega, rfl⟩
theorem gr.a44 {G : aw_G} (h : gr G) : aw_ar G 44 0 80 := ⟨by have := h.2; omega, rfl⟩
theorem gr.a45 {G : aw_G} (h : gr G) : aw_ar G 45 1 8 := ⟨by have := h.2; omega, rfl⟩
theorem gr.a46 {G : aw_G} (h : gr G) : aw_ar G 46 0 8 := ⟨by have := h.2; omega, rfl⟩
theorem gr.a47 {G : aw_G} (h : gr G) : aw_ar G 47 0 8 := ⟨by have := h.2; omega, rfl⟩
theorem gr.a48 {G : aw_G} (h : gr G) : aw_ar G 48 0 8 := ⟨by have := h.2; omega, rfl⟩
theorem gr.a49 {G : aw_G} (h : gr G) : aw_ar G 49 0 80 := ⟨by have := h.2; omega, rfl⟩
theorem gr.a50 {G : aw_G} (h : gr G) : aw_ar G 50 0 16 := ⟨by have := h.2; omega, rfl⟩
theorem gr.a51 {G : aw_G} (h : gr G) : aw_ar G 51 1 8 := ⟨by have := h.2; omega, rfl⟩
/-- the reference's words -/
def rw_ (w : Nat → Nat) (h : aw_H) : Prop := ∀ x, x < 2048 → h 41 x = nI (w x) ∧ w x < 65536
set_option maxHeartbeats 1000000 in
theorem r_step {l : Launch} {G : aw_G} (hG : aw_ok G) (h : aw_H) {c o : Nat} (hc : c < 65536) (ho : o < 256) : aw_I l G 0 Y_R_step [.inr (nI c), .inr (nI o)] h (.inr (nI (pz_byte c o))) := by
  refine aw_met hG (by decide) (Nat.le_of_ble_eq_true rfl) (fun M hM B E => ?_)
  show aw_X M G 4 0 [some (.inr (nI c)), some (.inr (nI o)), none, none] [] h
  have hb0 : c ^^^ 256 * o < 65536 := pz_xor_lt (j := 16) (by omega) (by omega)
  have loop : ∀ m j, j + m = 8 → aw_X M G 4 10 [some (.inr (nI c)), some (.inr (nI o)), some (.inr (nI (pz_bits j (c ^^^ 256 * o)))), some (.inr (nI j))] [] h := by
    intro m
    induction m with
    | zero =>
      intro j hj
      have hj : j = 8 := by omega
      subst hj
      refine ax_iload_n (q := 11) B d_R_step_10 rfl rfl rfl ?_
      refine ax_bipush (v := nI 8) (q := 13) B d_R_step_11 cb_8 rfl ?_
      refine ax_icmpN_ge (q := 45) (q2 := 16) B (by omega) (by omega) d_R_step_13 rfl rfl (fun h13 => ?_) (fun h13 => ?_)
      · refine ax_iload_n (q := 46) B d_R_step_45 rfl rfl rfl ?_
        refine ax_iret B E d_R_step_46 ?_
        exact ⟨rfl, rfl⟩
      · omega
    | succ m ih =>
      intro j hj
      have hb := pz_bits_lt hb0 j
      have hs : pz_bits (j + 1) (c ^^^ 256 * o) = pz_bit (pz_bits j (c ^^^ 256 * o)) := rfl
      generalize pz_bits j (c ^^^ 256 * o) = x at hb hs ⊢
      refine ax_iload_n (q := 11) B d_R_step_10 rfl rfl rfl ?_
      refine ax_bipush (v := nI 8) (q := 13) B d_R_step_11 cb_8 rfl ?_
      refine ax_icmpN_ge (q := 45) (q2 := 16) B (by omega) (by omega) d_R_step_13 rfl rfl (fun h13 => ?_) (fun h13 => ?_)
      · omega
      · refine ax_iload_n (q := 17) B d_R_step_16 rfl rfl rfl ?_
        refine ax_ldc (v := nI 32768) (q := 19) B wc_R_51 d_R_step_17 rfl ?_
        refine ax_icmpN_ge (q := 28) (q2 := 22) B (by omega) (by omega) d_R_step_19 rfl rfl (fun h19 => ?_) (fun h19 => ?_)
        · refine ax_iconst (v := nI 2) (q := 29) B d_R_step_28 ci_2 rfl ?_
          refine ax_iload_n (q := 30) B d_R_step_29 rfl rfl rfl ?_
          first | refine ax_imulN (q := 31) B d_R_step_30 rfl ?_ | refine ax_imul (q := 31) B d_R_step_30 rfl ?_
          refine ax_ldc (v := nI 65536) (q := 33) B wc_R_52 d_R_step_31 rfl ?_
          first | refine ax_isubN (q := 34) B (by omega) d_R_step_33 rfl ?_ | refine ax_isub (q := 34) B d_R_step_33 rfl ?_
          refine ax_sipush (v := nI 4129) (q := 37) B d_R_step_34 cs_4129 rfl ?_
          first | refine ax_ixorN (q := 38) B d_R_step_37 rfl ?_ | refine ax_ixor (q := 38) B d_R_step_37 rfl ?_
          refine ax_istore_n (q := 39) B d_R_step_38 rfl (by decide) rfl ?_
          refine ax_iincN (j := 1) (q := 42) B d_R_step_39 rfl ii_1 (by decide) rfl ?_
          refine ax_goto (q := 10) B d_R_step_42 rfl ?_
          have h3 := ih (j + 1) (by omega)
          rw [hs, pz_bit] at h3
          first | (rw [if_pos (by omega)] at h3; exact h3) | (rw [if_neg (by omega)] at h3; exact h3)
        · refine ax_iconst (v := nI 2) (q := 23) B d_R_step_22 ci_2 rfl ?_
          refine ax_iload_n (q := 24) B d_R_step_23 rfl rfl rfl ?_
          first | refine ax_imulN (q := 25) B d_R_step_24 rfl ?_ | refine ax_imul (q := 25) B d_R_step_24 rfl ?_
          refine ax_goto (q := 38) B d_R_step_25 rfl ?_
          refine ax_istore_n (q := 39) B d_R_step_38 rfl (by decide) rfl ?_
          refine ax_iincN (j := 1) (q := 42) B d_R_step_39 rfl ii_1 (by decide) rfl ?_
          refine ax_goto (q := 10) B d_R_step_42 rfl ?_
          have h3 := ih (j + 1) (by omega)
          rw [hs, pz_bit] at h3
          first | (rw [if_pos (by omega)] at h3; exact h3) | (rw [if_neg (by omega)] at h3; exact h3)
  refine ax_iload_n (q := 1) B d_R_step_0 rfl rfl rfl ?_
  refine ax_sipush (v := nI 256) (q := 4) B d_R_step_1 cs_256 rfl ?_
  refine ax_iload_n (q := 5) B d_R_step_4 rfl rfl rfl ?_
  first | refine ax_imulN (q := 6) B d_R_step_5 rfl ?_ | refine ax_imul (q := 6) B d_R_step_5 rfl ?_
  first | refine ax_ixorN (q := 7) B d_R_step_6 rfl ?_ | refine ax_ixor (q := 7) B d_R_step_6 rfl ?_
  refine ax_istore_n (q := 8) B d_R_step_7 rfl (by decide) rfl ?_
  refine ax_iconst (v := nI 0) (q := 9) B d_R_step_8 ci_0 rfl ?_
  refine ax_istore_n (q := 10) B d_R_step_9 rfl (by decide) rfl ?_
  exact loop 8 0 rfl
set_option maxHeartbeats 1000000 in
theorem r_checkOf {l : Launch} {G : aw_G} (hG : gr G) {h : aw_H} {p : Nat} (hp : p < 128) {f : Nat → Nat} (hf : ∀ i, i < 16 → h 41 (16 * p + i) = nI (f i) ∧ f i < 2 ^ 31) : aw_I l G 1 Y_R_checkOf [.inl (some 40), .inr (nI p)] h (.inr (nI (pz_chkN f 16))) := by
  refine aw_met hG.1.1 (by decide) (Nat.le_of_ble_eq_true rfl) (fun M hM B E => ?_)
  show aw_X M G 6 0 [some (.inl (some 40)), some (.inr (nI p)), none, none, none, none] [] h
  have i40 := hG.i40
  have a41 := hG.a41
  have r0 : aw_rM 40 0 = some 41 := rfl
  have hm : ∀ x : Nat, x % 2 ^ 8 < 256 := fun x => Nat.mod_lt _ (by omega)
  have step : ∀ (i x v j : Nat) (s : Int32), i ≠ 1 → i < 16 → v < 2 ^ 31 → x < 65536 → j ≤ 24 → s = nI j → ((s &&& 31).toBitVec.smod 32).toNat = j → aw_X M G 6 52 [some (.inl (some 40)), some (.inr (nI p)), some (.inr (nI (pz_byte x (v / 2 ^ j % 2 ^ 8)))), some (.inr (nI i)), some (.inr (nI v)), some (.inr s)] [] h → aw_X M G 6 28 [some (.inl (some 40)), some (.inr (nI p)), some (.inr (nI x)), some (.inr (nI i)), some (.inr (nI v)), some (.inr s)] [] h := by
    intro i x v j s hi1 hi16 hv hx hj hs hs2 K
    have hvj : v / 2 ^ j < 2 ^ 32 := Nat.lt_of_le_of_lt (Nat.div_le_self _ _) (by omega)
    refine ax_iload (q := 30) B d_R_checkOf_28 rfl rfl ?_
    refine ax_top hs ?_
    refine ax_ifN_lt (q := 58) (q2 := 33) B (by omega) d_R_checkOf_30 rfl rfl ?_
    refine ax_iload_n (q := 34) B d_R_checkOf_33 rfl rfl rfl ?_
    refine ax_iconst (v := nI 1) (q := 35) B d_R_checkOf_34 ci_1 rfl ?_
    refine ax_icmpN_eq (q := 58) (q2 := 38) B (by omega) (by omega) d_R_checkOf_35 rfl rfl (fun h35 => ?_) (fun h35 => ?_)
    · omega
    · refine ax_iload_n (q := 39) B d_R_checkOf_38 rfl rfl rfl ?_
      refine ax_iload (q := 41) B d_R_checkOf_39 rfl rfl ?_
      refine ax_iload (q := 43) B d_R_checkOf_41 rfl rfl ?_
      refine ax_ishrN (q := 44) B j (by omega) hs2 d_R_checkOf_43 rfl ?_
      refine ax_sipush (v := nI 255) (q := 47) B d_R_checkOf_44 cs_255 rfl ?_
      refine ax_iandN (q := 48) B 8 (by omega) (by decide) d_R_checkOf_47 rfl ?_
      refine ax_qS2 (q := 51) B cv_R_54 d_R_checkOf_48 (Nat.le_of_ble_eq_true rfl) (by decide) (r_step hG.1.1 h hx (hm _)) rfl ?_
      refine ax_istore_n (q := 52) B d_R_checkOf_51 rfl (by decide) rfl ?_
      exact K
  have loop : ∀ m j (u1 u2 : Option aw_V), j + m = 16 → aw_X M G 6 5 [some (.inl (some 40)), some (.inr (nI p)), some (.inr (nI (pz_chkN f j))), some (.inr (nI j)), u1, u2] [] h := by
    intro m
    induction m with
    | zero =>
      intro j u1 u2 hj
      have hj : j = 16 := by omega
      subst hj
      generalize pz_chkN f 16 = x at E ⊢
      refine ax_iload_n (q := 6) B d_R_checkOf_5 rfl rfl rfl ?_
      refine ax_bipush (v := nI 16) (q := 8) B d_R_checkOf_6 cb_16 rfl ?_
      refine ax_icmpN_ge (q := 64) (q2 := 11) B (by omega) (by omega) d_R_checkOf_8 rfl rfl (fun h8 => ?_) (fun h8 => ?_)
      · refine ax_iload_n (q := 65) B d_R_checkOf_64 rfl rfl rfl ?_
        refine ax_iret B E d_R_checkOf_65 ?_
        exact ⟨rfl, rfl⟩
      · omega
    | succ m ih =>
      intro j u1 u2 hj
      obtain ⟨ej, hfj⟩ := hf j (by omega)
      have h3 := ih (j + 1)
      have hc := pz_chkN_lt f j
      rw [show pz_chkN f (j + 1) = if j = 1 then pz_chkN f j else pz_crcw (pz_chkN f j) (f j) from rfl] at h3
      generalize pz_chkN f j = x at hc h3 ⊢
      generalize f j = v at ej hfj h3
      have fin : ∀ (y : Nat) (s : Int32), (if j = 1 then x else pz_crcw x v) = y → aw_X M G 6 58 [some (.inl (some 40)), some (.inr (nI p)), some (.inr (nI y)), some (.inr (nI j)), some (.inr (nI v)), some (.inr s)] [] h := by
        intro y s hy
        rw [hy] at h3
        refine ax_iincN (j := 1) (q := 61) B d_R_checkOf_58 rfl ii_1 (by decide) rfl ?_
        refine ax_goto (q := 5) B d_R_checkOf_61 rfl ?_
        exact h3 _ _ (by omega)
      have start : aw_X M G 6 28 [some (.inl (some 40)), some (.inr (nI p)), some (.inr (nI x)), some (.inr (nI j)), some (.inr (nI v)), some (.inr (nI 24))] [] h := by
        by_cases hj1 : j = 1
        · refine ax_iload (q := 30) B d_R_checkOf_28 rfl rfl ?_
          refine ax_ifN_lt (q := 58) (q2 := 33) B (by omega) d_R_checkOf_30 rfl rfl ?_
          refine ax_iload_n (q := 34) B d_R_checkOf_33 rfl rfl rfl ?_
          refine ax_iconst (v := nI 1) (q := 35) B d_R_checkOf_34 ci_1 rfl ?_
          refine ax_icmpN_eq (q := 58) (q2 := 38) B (by omega) (by omega) d_R_checkOf_35 rfl rfl (fun h35 => ?_) (fun h35 => ?_)
          · exact fin x _ (if_pos hj1)
          · omega
        · have h1 := pz_byte_lt hc (hm (v / 2 ^ 24))
          have h2 := pz_byte_lt h1 (hm (v / 2 ^ 16))
          have h4 := pz_byte_lt h2 (hm (v / 2 ^ 8))
          refine step j x v 24 (nI 24) hj1 (by omega) hfj hc (by omega) rfl (by decide) ?_
          refine ax_iinc (v := nI 16) (q := 55) B d_R_checkOf_52 rfl (by decide) (by decide) rfl ?_
          refine ax_goto (q := 28) B d_R_checkOf_55 rfl ?_
          refine step j _ v 16 (nI 16) hj1 (by omega) hfj h1 (by omega) rfl (by decide) ?_
          refine ax_iinc (v := nI 8) (q := 55) B d_R_checkOf_52 rfl (by decide) (by decide) rfl ?_
          refine ax_goto (q := 28) B d_R_checkOf_55 rfl ?_
          refine step j _ v 8 (nI 8) hj1 (by omega) hfj h2 (by omega) rfl (by decide) ?_
          refine ax_iinc (v := nI 0) (q := 55) B d_R_checkOf_52 rfl (by decide) (by decide) rfl ?_
          refine ax_goto (q := 28) B d_R_checkOf_55 rfl ?_
          refine step j _ v 0 (nI 0) hj1 (by omega) hfj h4 (by omega) rfl (by decide) ?_
          refine ax_iinc (v := -8) (q := 55) B d_R_checkOf_52 rfl (by decide) (by decide) rfl ?_
          refine ax_goto (q := 28) B d_R_checkOf_55 rfl ?_
          refine ax_iload (q := 30) B d_R_checkOf_28 rfl rfl ?_
          refine ax_if_lt (q := 58) (q2 := 33) B d_R_checkOf_30 rfl rfl (fun h30 => ?_) (fun h30 => ?_)
          · exact fin _ _ (if_neg hj1)
          · exact absurd (by decide) h30
      refine ax_iload_n (q := 6) B d_R_checkOf_5 rfl rfl rfl ?_
      refine ax_bipush (v := nI 16) (q := 8) B d_R_checkOf_6 cb_16 rfl ?_
      refine ax_icmpN_ge (q := 64) (q2 := 11) B (by omega) (by omega) d_R_checkOf_8 rfl rfl (fun h8 => ?_) (fun h8 => ?_)
      · omega
      · refine ax_aload_n (q := 12) B d_R_checkOf_11 rfl rfl rfl ?_
        refine ax_getP (q := 15) B fl_R_7 rfl d_R_checkOf_12 (by assumption) (by assumption) rfl ?_
        refine ax_bipush (v := nI 16) (q := 17) B d_R_checkOf_15 cb_16 rfl ?_
        refine ax_iload_n (q := 18) B d_R_checkOf_17 rfl rfl rfl ?_
        first | refine ax_imulN (q := 19) B d_R_checkOf_18 rfl ?_ | refine ax_imul (q := 19) B d_R_checkOf_18 rfl ?_
        refine ax_iload_n (q := 20) B d_R_checkOf_19 rfl rfl rfl ?_
        first | refine ax_iaddN (q := 21) B d_R_checkOf_20 rfl ?_ | refine ax_iadd (q := 21) B d_R_checkOf_20 rfl ?_
        refine ax_ialdN (q := 22) B d_R_checkOf_21 (by assumption) rfl (by omega) (by omega) ej rfl ?_
        refine ax_istore (q := 24) B d_R_checkOf_22 (by decide) rfl ?_
        refine ax_bipush (v := nI 24) (q := 26) B d_R_checkOf_24 cb_24 rfl ?_
        refine ax_istore (q := 28) B d_R_checkOf_26 (by decide) rfl ?_
        exact start
  refine ax_ldc (v := nI 65535) (q := 2) B wc_R_53 d_R_checkOf_0 rfl ?_
  refine ax_istore_n (q := 3) B d_R_checkOf_2 rfl (by decide) rfl ?_
  refine ax_iconst (v := nI 0) (q := 4) B d_R_checkOf_3 ci_0 rfl ?_
  refine ax_istore_n (q := 5) B d_R_checkOf_4 rfl (by decide) rfl ?_
  exact loop 16 0 none none rfl
theorem r_isGood {l : Launch} {G : aw_G} (hG : gr G) {h : aw_H} {w : Nat → Nat} (hw : rw_ w h) {p : Nat} (hp : p < 128) : aw_I l G 2 Y_R_isGood [.inl (some 40), .inr (nI p)] h (.inr (bI (pz_good w p))) := by
  refine aw_met hG.1.1 (by decide) (Nat.le_of_ble_eq_true rfl) (fun M hM B E => ?_)
  show aw_X M G 3 0 [some (.inl (some 40)), some (.inr (nI p)), none] [] h
  have i40 := hG.i40
  have a41 := hG.a41
  have r0 : aw_rM 40 0 = some 41 := rfl
  have hC : aw_I M.2.1 G 1 Y_R_checkOf [.inl (some 40), .inr (nI p)] h (.inr (nI (pz_chk w p))) := r_checkOf hG hp (f := fun i => w (16 * p + i)) (fun i hi => ⟨(hw _ (by omega)).1, by have := (hw (16 * p + i) (by omega)).2; omega⟩)
  obtain ⟨e1, l1⟩ := hw (16 * p + 1) (by omega)
  have hcl := pz_chk_lt w p
  have hgd : pz_good w p = (w (16 * p + 1) == pz_chk w p) := rfl
  rw [hgd] at E
  generalize pz_chk w p = c at hC hcl E
  refine ax_aload_n (q := 1) B d_R_isGood_0 rfl rfl rfl ?_
  refine ax_iload_n (q := 2) B d_R_isGood_1 rfl rfl rfl ?_
  refine ax_qV1 (q := 5) B cv_R_58 d_R_isGood_2 (by assumption) (Nat.le_of_ble_eq_true rfl) (by decide) hC rfl ?_
  refine ax_istore_n (q := 6) B d_R_isGood_5 rfl (by decide) rfl ?_
  refine ax_aload_n (q := 7) B d_R_isGood_6 rfl rfl rfl ?_
  refine ax_getP (q := 10) B fl_R_7 rfl d_R_isGood_7 (by assumption) (by assumption) rfl ?_
  refine ax_bipush (v := nI 16) (q := 12) B d_R_isGood_10 cb_16 rfl ?_
  refine ax_iload_n (q := 13) B d_R_isGood_12 rfl rfl rfl ?_
  first | refine ax_imulN (q := 14) B d_R_isGood_13 rfl ?_ | refine ax_imul (q := 14) B d_R_isGood_13 rfl ?_
  refine ax_iconst (v := nI 1) (q := 15) B d_R_isGood_14 ci_1 rfl ?_
  first | refine ax_iaddN (q := 16) B d_R_isGood_15 rfl ?_ | refine ax_iadd (q := 16) B d_R_isGood_15 rfl ?_
  refine ax_ialdN (q := 17) B d_R_isGood_16 (by assumption) rfl (by omega) (by omega) e1 rfl ?_
  refine ax_iload_n (q := 18) B d_R_isGood_17 rfl rfl rfl ?_
  refine ax_icmpN_ne (q := 25) (q2 := 21) B (by omega) (by omega) d_R_isGood_18 rfl rfl (fun h18 => ?_) (fun h18 => ?_)
  · refine ax_iconst (v := nI 0) (q := 26) B d_R_isGood_25 ci_0 rfl ?_
    refine ax_zret B E (by first | exact bI_or _ | decide) d_R_isGood_26 ?_
    first | exact ⟨by rw [pz_beq_ne h18]; rfl, rfl⟩ | exact ⟨by rw [h18, beq_self_eq_true]; rfl, rfl⟩
  · refine ax_iconst (v := nI 1) (q := 22) B d_R_isGood_21 ci_1 rfl ?_
    refine ax_goto (q := 26) B d_R_isGood_22 rfl ?_
    refine ax_zret B E (by first | exact bI_or _ | decide) d_R_isGood_26 ?_
    first | exact ⟨by rw [pz_beq_ne h18]; rfl, rfl⟩ | exact ⟨by rw [h18, beq_self_eq_true]; rfl, rfl⟩
theorem r_isValid {l : Launch} {G : aw_G} (hG : gr G) {h : aw_H} {w : Nat → Nat} (hw : rw_ w h) {k : Nat} (hk : k ≤ 128) (hi : iz k w) {p : Nat} (hp : p < k) : aw_I l G 3 Y_R_isValid [.inl (some 40), .inr (nI p)] h (.inr (bI (pz_valid w p))) := by
  refine aw_met hG.1.1 (by decide) (Nat.le_of_ble_eq_true rfl) (fun M hM B E => ?_)
  show aw_X M G 4 0 [some (.inl (some 40)), some (.inr (nI p)), none, none] [] h
  have i40 := hG.i40
  have a41 := hG.a41
  have r0 : aw_rM 40 0 = some 41 := rfl
  obtain ⟨e0, l0⟩ := hw (16 * p) (by omega)
  have loop : w (16 * p) = 3 → pz_good w p = true → ∀ m j (u : Option aw_V), j + m = 8 → pz_ents w p j = true → aw_X M G 4 25 [some (.inl (some 40)), some (.inr (nI p)), some (.inr (nI j)), u] [] h := by
    intro h3 hg m
    have hv : pz_valid w p = pz_ents w p 8 := by unfold pz_valid; rw [h3, hg]; simp
    rw [hv] at E
    induction m with
    | zero =>
      intro j u hj hz
      have hj : j = 8 := by omega
      subst hj
      refine ax_iload_n (q := 26) B d_R_isValid_25 rfl rfl rfl ?_
      refine ax_bipush (v := nI 8) (q := 28) B d_R_isValid_26 cb_8 rfl ?_
      refine ax_icmpN_ge (q := 67) (q2 := 31) B (by omega) (by omega) d_R_isValid_28 rfl rfl (fun h28 => ?_) (fun h28 => ?_)
      · refine ax_iconst (v := nI 1) (q := 68) B d_R_isValid_67 ci_1 rfl ?_
        refine ax_zret B E (by first | exact bI_or _ | decide) d_R_isValid_68 ?_
        exact ⟨by rw [hz]; rfl, rfl⟩
      · omega
    | succ m ih =>
      intro j u hj hz
      obtain ⟨hn, -⟩ := hi p hp h3 j (by omega)
      obtain ⟨ej, lj⟩ := hw (16 * p + 4 + j) (by omega)
      have ej : h 41 (16 * p + 4 + j) = nI (pz_nm w p j) := ej
      have hs : pz_ents w p (j + 1) = (pz_nm w p j == 0 || pz_good w (pz_nm w p j - 1)) := by
        show (pz_ents w p j && _) = _
        rw [hz, Bool.true_and]
      refine ax_iload_n (q := 26) B d_R_isValid_25 rfl rfl rfl ?_
      refine ax_bipush (v := nI 8) (q := 28) B d_R_isValid_26 cb_8 rfl ?_
      refine ax_icmpN_ge (q := 67) (q2 := 31) B (by omega) (by omega) d_R_isValid_28 rfl rfl (fun h28 => ?_) (fun h28 => ?_)
      · omega
      · refine ax_aload_n (q := 32) B d_R_isValid_31 rfl rfl rfl ?_
        refine ax_getP (q := 35) B fl_R_7 rfl d_R_isValid_32 (by assumption) (by assumption) rfl ?_
        refine ax_bipush (v := nI 16) (q := 37) B d_R_isValid_35 cb_16 rfl ?_
        refine ax_iload_n (q := 38) B d_R_isValid_37 rfl rfl rfl ?_
        first | refine ax_imulN (q := 39) B d_R_isValid_38 rfl ?_ | refine ax_imul (q := 39) B d_R_isValid_38 rfl ?_
        refine ax_iconst (v := nI 4) (q := 40) B d_R_isValid_39 ci_4 rfl ?_
        first | refine ax_iaddN (q := 41) B d_R_isValid_40 rfl ?_ | refine ax_iadd (q := 41) B d_R_isValid_40 rfl ?_
        refine ax_iload_n (q := 42) B d_R_isValid_41 rfl rfl rfl ?_
        first | refine ax_iaddN (q := 43) B d_R_isValid_42 rfl ?_ | refine ax_iadd (q := 43) B d_R_isValid_42 rfl ?_
        refine ax_ialdN (q := 44) B d_R_isValid_43 (by assumption) rfl (by omega) (by omega) ej rfl ?_
        refine ax_istore_n (q := 45) B d_R_isValid_44 rfl (by decide) rfl ?_
        refine ax_iload_n (q := 46) B d_R_isValid_45 rfl rfl rfl ?_
        refine ax_ifN_le (q := 61) (q2 := 49) B (by omega) d_R_isValid_46 rfl rfl (fun h46 => ?_) (fun h46 => ?_)
        · refine ax_iincN (j := 1) (q := 64) B d_R_isValid_61 rfl ii_1 (by decide) rfl ?_
          refine ax_goto (q := 25) B d_R_isValid_64 rfl ?_
          refine ih (j + 1) _ (by omega) ?_
          rw [hs]
          first | (rw [h56]; simp; done) | (rw [h46]; simp)
        · refine ax_aload_n (q := 50) B d_R_isValid_49 rfl rfl rfl ?_
          refine ax_iload_n (q := 51) B d_R_isValid_50 rfl rfl rfl ?_
          refine ax_iconst (v := nI 1) (q := 52) B d_R_isValid_51 ci_1 rfl ?_
          refine ax_isubN (q := 53) B (by omega) d_R_isValid_52 rfl ?_
          refine ax_qV1 (q := 56) B cv_R_62 d_R_isValid_53 (by assumption) (Nat.le_of_ble_eq_true rfl) (by decide) (r_isGood hG hw (by omega)) rfl ?_
          refine ax_ifZ_ne (q := 61) (q2 := 59) B d_R_isValid_56 rfl rfl (fun h56 => ?_) (fun h56 => ?_)
          · refine ax_iincN (j := 1) (q := 64) B d_R_isValid_61 rfl ii_1 (by decide) rfl ?_
            refine ax_goto (q := 25) B d_R_isValid_64 rfl ?_
            refine ih (j + 1) _ (by omega) ?_
            rw [hs]
            first | (rw [h56]; simp; done) | (rw [h46]; simp)
          · refine ax_iconst (v := nI 0) (q := 60) B d_R_isValid_59 ci_0 rfl ?_
            refine ax_zret B E (by first | exact bI_or _ | decide) d_R_isValid_60 ?_
            exact ⟨by rw [show (8 : Nat) = j + 1 + m by omega, pz_ents_f (by rw [hs, h56, pz_beq_ne (by omega)]; rfl) m]; rfl, rfl⟩
  refine ax_aload_n (q := 1) B d_R_isValid_0 rfl rfl rfl ?_
  refine ax_getP (q := 4) B fl_R_7 rfl d_R_isValid_1 (by assumption) (by assumption) rfl ?_
  refine ax_bipush (v := nI 16) (q := 6) B d_R_isValid_4 cb_16 rfl ?_
  refine ax_iload_n (q := 7) B d_R_isValid_6 rfl rfl rfl ?_
  first | refine ax_imulN (q := 8) B d_R_isValid_7 rfl ?_ | refine ax_imul (q := 8) B d_R_isValid_7 rfl ?_
  refine ax_ialdN (q := 9) B d_R_isValid_8 (by assumption) rfl (by omega) (by omega) e0 rfl ?_
  refine ax_iconst (v := nI 3) (q := 10) B d_R_isValid_9 ci_3 rfl ?_
  refine ax_icmpN_ne (q := 21) (q2 := 13) B (by omega) (by omega) d_R_isValid_10 rfl rfl (fun h10 => ?_) (fun h10 => ?_)
  · refine ax_iconst (v := nI 0) (q := 22) B d_R_isValid_21 ci_0 rfl ?_
    refine ax_zret B E (by first | exact bI_or _ | decide) d_R_isValid_22 ?_
    first | exact ⟨by unfold pz_valid; rw [h18]; simp; rfl, rfl⟩ | exact ⟨by unfold pz_valid; rw [show (w (16 * p) == 3) = false from pz_beq_ne h10]; rfl, rfl⟩
  · refine ax_aload_n (q := 14) B d_R_isValid_13 rfl rfl rfl ?_
    refine ax_iload_n (q := 15) B d_R_isValid_14 rfl rfl rfl ?_
    refine ax_qV1 (q := 18) B cv_R_62 d_R_isValid_15 (by assumption) (Nat.le_of_ble_eq_true rfl) (by decide) (r_isGood hG hw (by omega)) rfl ?_
    refine ax_ifZ_ne (q := 23) (q2 := 21) B d_R_isValid_18 rfl rfl (fun h18 => ?_) (fun h18 => ?_)
    · refine ax_iconst (v := nI 0) (q := 24) B d_R_isValid_23 ci_0 rfl ?_
      refine ax_istore_n (q := 25) B d_R_isValid_24 rfl (by decide) rfl ?_
      exact loop h10 h18 8 0 _ rfl rfl
    · refine ax_iconst (v := nI 0) (q := 22) B d_R_isValid_21 ci_0 rfl ?_
      refine ax_zret B E (by first | exact bI_or _ | decide) d_R_isValid_22 ?_
      first | exact ⟨by unfold pz_valid; rw [h18]; simp; rfl, rfl⟩ | exact ⟨by unfold pz_valid; rw [show (w (16 * p) == 3) = false from pz_beq_ne h10]; rfl, rfl⟩
theorem r_newest {l : Launch} {G : aw_G} (hG : gr G) {h : aw_H} {k : Nat} {w : Nat → Nat} (hw : rw_ w h) (hk : k ≤ 128) (e3 : h 40 2 = nI k) (hi : iz k w) : aw_I l G 4 Y_R_newest [.inl (some 40)] h (.inr (oI (pz_newest w k))) := by
  refine aw_met hG.1.1 (by decide) (Nat.le_of_ble_eq_true rfl) (fun M hM B E => ?_)
  show aw_X M G 2 0 [some (.inl (some 40)), none] [] h
  have i40 := hG.i40
  have loop : ∀ j, j ≤ k → pz_newest w k = pz_newest w j → aw_X M G 2 7 [some (.inl (some 40)), some (.inr (nI j + (-1)))] [] h := by
    intro j
    induction j with
    | zero =>
      intro _ he
      rw [he] at E
      refine ax_iload_n (q := 8) B d_R_newest_7 rfl rfl rfl ?_
      refine ax_if_lt (q := 27) (q2 := 11) B d_R_newest_8 rfl rfl (fun h8 => ?_) (fun h8 => ?_)
      · refine ax_iconst (v := (-1)) (q := 28) B d_R_newest_27 ci_m1 rfl ?_
        refine ax_iret B E d_R_newest_28 ?_
        exact ⟨rfl, rfl⟩
      · exact absurd (show (nI 0 + (-1) : Int32) < 0 by decide) h8
    | succ j ih =>
      intro hj he
      have hs : pz_newest w (j + 1) = if pz_valid w j = true then some j else pz_newest w j := rfl
      rw [pk_m1]
      refine ax_iload_n (q := 8) B d_R_newest_7 rfl rfl rfl ?_
      refine ax_ifN_lt (q := 27) (q2 := 11) B (by omega) d_R_newest_8 rfl rfl ?_
      refine ax_aload_n (q := 12) B d_R_newest_11 rfl rfl rfl ?_
      refine ax_iload_n (q := 13) B d_R_newest_12 rfl rfl rfl ?_
      refine ax_qV1 (q := 16) B cv_R_69 d_R_newest_13 (by assumption) (Nat.le_of_ble_eq_true rfl) (by decide) (r_isValid hG hw hk hi (by omega)) rfl ?_
      refine ax_ifZ_eq (q := 21) (q2 := 19) B d_R_newest_16 rfl rfl (fun h16 => ?_) (fun h16 => ?_)
      · refine ax_iinc (v := nI j + (-1)) (q := 24) B d_R_newest_21 rfl rfl (by decide) rfl ?_
        refine ax_goto (q := 7) B d_R_newest_24 rfl ?_
        exact ih (by omega) (by rw [he, hs, if_neg (by rw [h16]; decide)])
      · refine ax_iload_n (q := 20) B d_R_newest_19 rfl rfl rfl ?_
        refine ax_iret B E d_R_newest_20 ?_
        exact ⟨by rw [he, hs, if_pos h16]; rfl, rfl⟩
  refine ax_aload_n (q := 1) B d_R_newest_0 rfl rfl rfl ?_
  refine ax_getN (q := 4) B fl_R_66 rfl d_R_newest_1 (by assumption) (by first | assumption | rfl) rfl ?_
  refine ax_iconst (v := nI 1) (q := 5) B d_R_newest_4 ci_1 rfl ?_
  refine ax_isub (q := 6) B d_R_newest_5 rfl ?_
  refine ax_top (show nI k - nI 1 = nI k + (-1) from Int32.sub_eq_add_neg _ _) ?_
  refine ax_istore_n (q := 7) B d_R_newest_6 rfl (by decide) rfl ?_
  exact loop k (Nat.le_refl k) rfl
theorem r_tableAt {l : Launch} {G : aw_G} (hG : gr G) {h : aw_H} {k : Nat} {w : Nat → Nat} (hw : rw_ w h) (hk : k ≤ 128) (e3 : h 40 2 = nI k) (hi : iz k w) (x : Int32) : aw_I l G 4 Y_R_tableAt [.inl (some 40), .inr x] h (.inr (oI (pz_tabAt w x k))) := by
  refine aw_met hG.1.1 (by decide) (Nat.le_of_ble_eq_true rfl) (fun M hM B E => ?_)
  show aw_X M G 4 0 [some (.inl (some 40)), some (.inr x), none, none] [] h
  have i40 := hG.i40
  have loop : ∀ m j, j + m = k → pz_tabAt w x j = none → aw_X M G 4 4 [some (.inl (some 40)), some (.inr x), some (.inr (nI (pz_tabs w j))), some (.inr (nI j))] [] h := by
    intro m
    induction m with
    | zero =>
      intro j hj hz
      have hj : j = k := by omega
      subst hj
      refine ax_iload_n (q := 5) B d_R_tableAt_4 rfl rfl rfl ?_
      refine ax_aload_n (q := 6) B d_R_tableAt_5 rfl rfl rfl ?_
      refine ax_getN (q := 9) B fl_R_66 rfl d_R_tableAt_6 (by assumption) (by first | assumption | rfl) rfl ?_
      refine ax_icmpN_ge (q := 36) (q2 := 12) B (by omega) (by omega) d_R_tableAt_9 rfl rfl (fun h9 => ?_) (fun h9 => ?_)
      · refine ax_iconst (v := (-1)) (q := 37) B d_R_tableAt_36 ci_m1 rfl ?_
        refine ax_iret B E d_R_tableAt_37 ?_
        exact ⟨by rw [hz]; rfl, rfl⟩
      · omega
    | succ m ih =>
      intro j hj hz
      have hs := pz_tabAt_s hz
      have h3 := ih (j + 1) (by omega)
      have ht : pz_tabs w (j + 1) = pz_tabs w j + (if pz_valid w j = true then 1 else 0) := rfl
      refine ax_iload_n (q := 5) B d_R_tableAt_4 rfl rfl rfl ?_
      refine ax_aload_n (q := 6) B d_R_tableAt_5 rfl rfl rfl ?_
      refine ax_getN (q := 9) B fl_R_66 rfl d_R_tableAt_6 (by assumption) (by first | assumption | rfl) rfl ?_
      refine ax_icmpN_ge (q := 36) (q2 := 12) B (by omega) (by omega) d_R_tableAt_9 rfl rfl (fun h9 => ?_) (fun h9 => ?_)
      · omega
      · refine ax_aload_n (q := 13) B d_R_tableAt_12 rfl rfl rfl ?_
        refine ax_iload_n (q := 14) B d_R_tableAt_13 rfl rfl rfl ?_
        refine ax_qV1 (q := 17) B cv_R_69 d_R_tableAt_14 (by assumption) (Nat.le_of_ble_eq_true rfl) (by decide) (r_isValid hG hw hk hi (by omega)) rfl ?_
        refine ax_ifZ_eq (q := 30) (q2 := 20) B d_R_tableAt_17 rfl rfl (fun h17 => ?_) (fun h17 => ?_)
        · refine ax_iincN (j := 1) (q := 33) B d_R_tableAt_30 rfl ii_1 (by decide) rfl ?_
          refine ax_goto (q := 4) B d_R_tableAt_33 rfl ?_
          rw [ht, h17] at h3 hs
          first | exact h3 (by rw [hs]; exact if_neg (fun z => h25 z.2)) | exact h3 (by rw [hs]; exact if_neg (fun z => Bool.noConfusion z.1))
        · refine ax_iincN (j := 1) (q := 23) B d_R_tableAt_20 rfl ii_1 (by decide) rfl ?_
          refine ax_iload_n (q := 24) B d_R_tableAt_23 rfl rfl rfl ?_
          refine ax_iload_n (q := 25) B d_R_tableAt_24 rfl rfl rfl ?_
          refine ax_icmp_ne (q := 30) (q2 := 28) B d_R_tableAt_25 rfl rfl (fun h25 => ?_) (fun h25 => ?_)
          · refine ax_iincN (j := 1) (q := 33) B d_R_tableAt_30 rfl ii_1 (by decide) rfl ?_
            refine ax_goto (q := 4) B d_R_tableAt_33 rfl ?_
            rw [ht, h17] at h3 hs
            first | exact h3 (by rw [hs]; exact if_neg (fun z => h25 z.2)) | exact h3 (by rw [hs]; exact if_neg (fun z => Bool.noConfusion z.1))
          · refine ax_iload_n (q := 29) B d_R_tableAt_28 rfl rfl rfl ?_
            refine ax_iret B E d_R_tableAt_29 ?_
            exact ⟨by rw [show k = j + 1 + m by omega, pz_tabAt_m (by rw [hs]; exact if_pos ⟨h17, by rw [ht, h17]; exact h25⟩) m]; rfl, rfl⟩
  refine ax_iconst (v := nI 0) (q := 1) B d_R_tableAt_0 ci_0 rfl ?_
  refine ax_istore_n (q := 2) B d_R_tableAt_1 rfl (by decide) rfl ?_
  refine ax_iconst (v := nI 0) (q := 3) B d_R_tableAt_2 ci_0 rfl ?_
  refine ax_istore_n (q := 4) B d_R_tableAt_3 rfl (by decide) rfl ?_
  exact loop k 0 (by omega) rfl
end
section
/-- the reference's tree in hand, node by node -/
def rtN (t : pz_T) (h : aw_H) (i : Nat) : Prop := h 42 i = nI (pz_kd t i) ∧ h 43 i = nI (pz_ct t i) ∧ h 45 i = bI (pz_ch t i) ∧ pz_kd t i < 65536 ∧ pz_ct t i ≤ 10 ∧ (∀ j, j < pz_ct t i → h 44 (10 * i + j) = nI (pz_it t i j) ∧ pz_it t i j < 65536) ∧ (pz_kd t i ≠ 0 → pz_ch t i = false → h 46 i = nI (pz_en t i) + (-1))
def rt (t : pz_T) (h : aw_H) : Prop := ∀ i, i < 8 → rtN t h i
/-- the tree that it looks at -/
def rsN (t : pz_T) (h : aw_H) (i : Nat) : Prop := h 47 i = nI (pz_kd t i) ∧ h 48 i = nI (pz_ct t i) ∧ pz_kd t i < 65536 ∧ pz_ct t i ≤ 10 ∧ ∀ j, j < pz_ct t i → h 49 (10 * i + j) = nI (pz_it t i j) ∧ pz_it t i j < 65536
def rs (t : pz_T) (h : aw_H) : Prop := ∀ i, i < 8 → rsN t h i
theorem rt.kept {t : pz_T} {h h' : aw_H} (hT : rt t h) (e : ∀ q, 42 ≤ q → q < 47 → h' q = h q) : rt t h' := fun i hi => by
  unfold rtN
  rw [e 42 (by omega) (by omega), e 43 (by omega) (by omega), e 44 (by omega) (by omega), e 45 (by omega) (by omega), e 46 (by omega) (by omega)]
  exact hT i hi
theorem r_emptyN {f : aw_H} (g1 : ∀ i, i < 8 → f 42 i = nI 0 ∧ f 43 i = nI 0 ∧ f 45 i = nI 0) (i : Nat) (hi : i < 8) : rtN pz_empty (aw_u (aw_u f 42 0 (nI 1)) 45 0 (nI 1)) i := by
  obtain ⟨q1, q2, q3⟩ := g1 i hi
  by_cases h0 : i = 0
  · subst h0
    exact ⟨aw_rd (by omega) aw_rs, aw_rd (by omega) (aw_rd (by omega) q2), aw_rs, by show (1 : Nat) < 65536; omega, by show (0 : Nat) ≤ 10; omega, fun j hj => absurd hj (by show ¬ j < 0; omega), fun _ z => by cases z⟩
  · have e1 : pz_kd pz_empty i = 0 := if_neg h0
    have e2 : pz_ch pz_empty i = false := pz_beq_ne h0
    unfold rtN
    rw [e1, e2]
    exact ⟨aw_rd (by omega) (aw_rd (by omega) q1), aw_rd (by omega) (aw_rd (by omega) q2), aw_rd (by omega) (aw_rd (by omega) q3), by omega, by show (0 : Nat) ≤ 10; omega, fun j hj => absurd hj (by show ¬ j < 0; omega), fun z => absurd rfl z⟩
theorem r_empty {l : Launch} {G : aw_G} (hG : gr G) (h : aw_H) : aw_P l G 0 Y_R_empty [.inl (some 40)] h (fun h' => rt pz_empty h' ∧ ∀ q, q < 42 ∨ 46 ≤ q → h' q = h q) := by
  refine aw_met hG.1.1 (by decide) (Nat.le_of_ble_eq_true rfl) (fun M hM B E => ?_)
  show aw_X M G 2 0 [some (.inl (some 40)), none] [] h
  have i40 := hG.i40
  have a42 := hG.a42
  have a43 := hG.a43
  have a45 := hG.a45
  have r5 : aw_rM 40 5 = some 42 := rfl
  have r6 : aw_rM 40 6 = some 43 := rfl
  have r8 : aw_rM 40 8 = some 45 := rfl
  have loop : ∀ m j (f : aw_H), j + m = 8 → (∀ i, i < j → f 42 i = nI 0 ∧ f 43 i = nI 0 ∧ f 45 i = nI 0) → (∀ q, q < 42 ∨ 46 ≤ q → f q = h q) → aw_X M G 2 2 [some (.inl (some 40)), some (.inr (nI j))] [] f := by
    intro m
    induction m with
    | zero =>
      intro j f hj g1 g2
      have hj : j = 8 := by omega
      subst hj
      refine ax_iload_n (q := 3) B d_R_empty_2 rfl rfl rfl ?_
      refine ax_bipush (v := nI 8) (q := 5) B d_R_empty_3 cb_8 rfl ?_
      refine ax_icmpN_ge (q := 35) (q2 := 8) B (by omega) (by omega) d_R_empty_5 rfl rfl (fun h5 => ?_) (fun h5 => ?_)
      · refine ax_aload_n (q := 36) B d_R_empty_35 rfl rfl rfl ?_
        refine ax_getP (q := 39) B fl_R_13 rfl d_R_empty_36 (by assumption) (by assumption) rfl ?_
        refine ax_iconst (v := nI 0) (q := 40) B d_R_empty_39 ci_0 rfl ?_
        refine ax_iconst (v := nI 1) (q := 41) B d_R_empty_40 ci_1 rfl ?_
        refine ax_iastN (q := 42) B d_R_empty_41 (by assumption) rfl (by omega) (by omega) rfl ?_
        refine ax_aload_n (q := 43) B d_R_empty_42 rfl rfl rfl ?_
        refine ax_getP (q := 46) B fl_R_22 rfl d_R_empty_43 (by assumption) (by assumption) rfl ?_
        refine ax_iconst (v := nI 0) (q := 47) B d_R_empty_46 ci_0 rfl ?_
        refine ax_iconst (v := nI 1) (q := 48) B d_R_empty_47 ci_1 rfl ?_
        refine ax_zastN (q := 49) B d_R_empty_48 (by assumption) rfl (by omega) (by omega) (by first | exact bI_or _ | decide) rfl ?_
        refine ax_vret B E d_R_empty_49 ?_
        exact ⟨rfl, fun i hi => r_emptyN g1 i hi, fun q hq => by rw [aw_u_ne (by omega), aw_u_ne (by omega)]; exact g2 q hq⟩
      · omega
    | succ m ih =>
      intro j f hj g1 g2
      refine ax_iload_n (q := 3) B d_R_empty_2 rfl rfl rfl ?_
      refine ax_bipush (v := nI 8) (q := 5) B d_R_empty_3 cb_8 rfl ?_
      refine ax_icmpN_ge (q := 35) (q2 := 8) B (by omega) (by omega) d_R_empty_5 rfl rfl (fun h5 => ?_) (fun h5 => ?_)
      · omega
      · refine ax_aload_n (q := 9) B d_R_empty_8 rfl rfl rfl ?_
        refine ax_getP (q := 12) B fl_R_13 rfl d_R_empty_9 (by assumption) (by assumption) rfl ?_
        refine ax_iload_n (q := 13) B d_R_empty_12 rfl rfl rfl ?_
        refine ax_iconst (v := nI 0) (q := 14) B d_R_empty_13 ci_0 rfl ?_
        refine ax_iastN (q := 15) B d_R_empty_14 (by assumption) rfl (by omega) (by omega) rfl ?_
        refine ax_aload_n (q := 16) B d_R_empty_15 rfl rfl rfl ?_
        refine ax_getP (q := 19) B fl_R_16 rfl d_R_empty_16 (by assumption) (by assumption) rfl ?_
        refine ax_iload_n (q := 20) B d_R_empty_19 rfl rfl rfl ?_
        refine ax_iconst (v := nI 0) (q := 21) B d_R_empty_20 ci_0 rfl ?_
        refine ax_iastN (q := 22) B d_R_empty_21 (by assumption) rfl (by omega) (by omega) rfl ?_
        refine ax_aload_n (q := 23) B d_R_empty_22 rfl rfl rfl ?_
        refine ax_getP (q := 26) B fl_R_22 rfl d_R_empty_23 (by assumption) (by assumption) rfl ?_
        refine ax_iload_n (q := 27) B d_R_empty_26 rfl rfl rfl ?_
        refine ax_iconst (v := nI 0) (q := 28) B d_R_empty_27 ci_0 rfl ?_
        refine ax_zastN (q := 29) B d_R_empty_28 (by assumption) rfl (by omega) (by omega) (by first | exact bI_or _ | decide) rfl ?_
        refine ax_iincN (j := 1) (q := 32) B d_R_empty_29 rfl ii_1 (by decide) rfl ?_
        refine ax_goto (q := 2) B d_R_empty_32 rfl ?_
        refine ih (j + 1) _ (by omega) (fun i hi => ?_) (fun q hq => by rw [aw_u_ne (by omega), aw_u_ne (by omega), aw_u_ne (by omega)]; exact g2 q hq)
        by_cases hij : i = j
        · subst hij; exact ⟨aw_rd (by omega) (aw_rd (by omega) aw_rs), aw_rd (by omega) aw_rs, aw_rs⟩
        · obtain ⟨q1, q2, q3⟩ := g1 i (by omega)
          exact ⟨aw_rd (by omega) (aw_rd (by omega) (aw_rd (by omega) q1)), aw_rd (by omega) (aw_rd (by omega) (aw_rd (by omega) q2)), aw_rd (by omega) (aw_rd (by omega) (aw_rd (by omega) q3))⟩
  refine ax_iconst (v := nI 0) (q := 1) B d_R_empty_0 ci_0 rfl ?_
  refine ax_istore_n (q := 2) B d_R_empty_1 rfl (by decide) rfl ?_
  exact loop 8 0 h rfl (fun i hi => absurd hi (by omega)) (fun q _ => rfl)
theorem r_lookAtHand {l : Launch} {G : aw_G} (hG : gr G) {h : aw_H} {t : pz_T} (hT : rt t h) : aw_P l G 0 Y_R_lookAtHand [.inl (some 40)] h (fun h' => rs t h' ∧ ∀ q, q < 47 ∨ 50 ≤ q → h' q = h q) := by
  refine aw_met hG.1.1 (by decide) (Nat.le_of_ble_eq_true rfl) (fun M hM B E => ?_)
  show aw_X M G 2 0 [some (.inl (some 40)), none] [] h
  have i40 := hG.i40
  have a42 := hG.a42
  have a43 := hG.a43
  have a44 := hG.a44
  have a47 := hG.a47
  have a48 := hG.a48
  have a49 := hG.a49
  have r5 : aw_rM 40 5 = some 42 := rfl
  have r6 : aw_rM 40 6 = some 43 := rfl
  have r7 : aw_rM 40 7 = some 44 := rfl
  have r10 : aw_rM 40 10 = some 47 := rfl
  have r11 : aw_rM 40 11 = some 48 := rfl
  have r12 : aw_rM 40 12 = some 49 := rfl
  have loop2 : ∀ m j (f : aw_H), j + m = 80 → (∀ i, i < 8 → f 47 i = h 42 i ∧ f 48 i = h 43 i) → (∀ x, x < j → f 49 x = h 44 x) → (∀ q, q < 47 ∨ 50 ≤ q → f q = h q) → aw_X M G 2 40 [some (.inl (some 40)), some (.inr (nI j))] [] f := by
    intro m
    induction m with
    | zero =>
      intro j f hj g1 g3 g2
      have hj : j = 80 := by omega
      subst hj
      refine ax_iload_n (q := 41) B d_R_lookAtHand_40 rfl rfl rfl ?_
      refine ax_bipush (v := nI 80) (q := 43) B d_R_lookAtHand_41 cb_80 rfl ?_
      refine ax_icmpN_ge (q := 64) (q2 := 46) B (by omega) (by omega) d_R_lookAtHand_43 rfl rfl (fun h43 => ?_) (fun h43 => ?_)
      · refine ax_vret B E d_R_lookAtHand_64 ?_
        exact ⟨rfl, fun i hi => ⟨(g1 i hi).1.trans (hT i hi).1, (g1 i hi).2.trans (hT i hi).2.1, (hT i hi).2.2.2.1, (hT i hi).2.2.2.2.1, fun s hs => ⟨(g3 _ (by have := (hT i hi).2.2.2.2.1; omega)).trans ((hT i hi).2.2.2.2.2.1 s hs).1, ((hT i hi).2.2.2.2.2.1 s hs).2⟩⟩, g2⟩
      · omega
    | succ m ih =>
      intro j f hj g1 g3 g2
      have e4 : f 44 j = h 44 j := by rw [g2 44 (by omega)]
      refine ax_iload_n (q := 41) B d_R_lookAtHand_40 rfl rfl rfl ?_
      refine ax_bipush (v := nI 80) (q := 43) B d_R_lookAtHand_41 cb_80 rfl ?_
      refine ax_icmpN_ge (q := 64) (q2 := 46) B (by omega) (by omega) d_R_lookAtHand_43 rfl rfl (fun h43 => ?_) (fun h43 => ?_)
      · omega
      · refine ax_aload_n (q := 47) B d_R_lookAtHand_46 rfl rfl rfl ?_
        refine ax_getP (q := 50) B fl_R_35 rfl d_R_lookAtHand_47 (by assumption) (by assumption) rfl ?_
        refine ax_iload_n (q := 51) B d_R_lookAtHand_50 rfl rfl rfl ?_
        refine ax_aload_n (q := 52) B d_R_lookAtHand_51 rfl rfl rfl ?_
        refine ax_getP (q := 55) B fl_R_19 rfl d_R_lookAtHand_52 (by assumption) (by assumption) rfl ?_
        refine ax_iload_n (q := 56) B d_R_lookAtHand_55 rfl rfl rfl ?_
        refine ax_ialdN (q := 57) B d_R_lookAtHand_56 (by assumption) rfl (by omega) (by omega) (by first | assumption | rfl) rfl ?_
        refine ax_iastN (q := 58) B d_R_lookAtHand_57 (by assumption) rfl (by omega) (by omega) rfl ?_
        refine ax_iincN (j := 1) (q := 61) B d_R_lookAtHand_58 rfl ii_1 (by decide) rfl ?_
        refine ax_goto (q := 40) B d_R_lookAtHand_61 rfl ?_
        refine ih (j + 1) _ (by omega) (fun i hi => ⟨aw_rd (by omega) (g1 i hi).1, aw_rd (by omega) (g1 i hi).2⟩) (fun x hx => ?_) (fun q hq => (aw_u_ne (by omega)).trans (g2 q hq))
        by_cases hxj : x = j
        · subst hxj; exact aw_rs
        · exact aw_rd (by omega) (g3 x (by omega))
  have loop : ∀ m j (f : aw_H), j + m = 8 → (∀ i, i < j → f 47 i = h 42 i ∧ f 48 i = h 43 i) → (∀ q, q < 47 ∨ 50 ≤ q → f q = h q) → aw_X M G 2 2 [some (.inl (some 40)), some (.inr (nI j))] [] f := by
    intro m
    induction m with
    | zero =>
      intro j f hj g1 g2
      have hj : j = 8 := by omega
      subst hj
      refine ax_iload_n (q := 3) B d_R_lookAtHand_2 rfl rfl rfl ?_
      refine ax_bipush (v := nI 8) (q := 5) B d_R_lookAtHand_3 cb_8 rfl ?_
      refine ax_icmpN_ge (q := 38) (q2 := 8) B (by omega) (by omega) d_R_lookAtHand_5 rfl rfl (fun h5 => ?_) (fun h5 => ?_)
      · refine ax_iconst (v := nI 0) (q := 39) B d_R_lookAtHand_38 ci_0 rfl ?_
        refine ax_istore_n (q := 40) B d_R_lookAtHand_39 rfl (by decide) rfl ?_
        exact loop2 80 0 f rfl g1 (fun x hx => absurd hx (by omega)) g2
      · omega
    | succ m ih =>
      intro j f hj g1 g2
      have e2 : f 42 j = h 42 j := by rw [g2 42 (by omega)]
      have e3 : aw_u f 47 j (h 42 j) 43 j = h 43 j := aw_rd (by omega) (by rw [g2 43 (by omega)])
      refine ax_iload_n (q := 3) B d_R_lookAtHand_2 rfl rfl rfl ?_
      refine ax_bipush (v := nI 8) (q := 5) B d_R_lookAtHand_3 cb_8 rfl ?_
      refine ax_icmpN_ge (q := 38) (q2 := 8) B (by omega) (by omega) d_R_lookAtHand_5 rfl rfl (fun h5 => ?_) (fun h5 => ?_)
      · omega
      · refine ax_aload_n (q := 9) B d_R_lookAtHand_8 rfl rfl rfl ?_
        refine ax_getP (q := 12) B fl_R_29 rfl d_R_lookAtHand_9 (by assumption) (by assumption) rfl ?_
        refine ax_iload_n (q := 13) B d_R_lookAtHand_12 rfl rfl rfl ?_
        refine ax_aload_n (q := 14) B d_R_lookAtHand_13 rfl rfl rfl ?_
        refine ax_getP (q := 17) B fl_R_13 rfl d_R_lookAtHand_14 (by assumption) (by assumption) rfl ?_
        refine ax_iload_n (q := 18) B d_R_lookAtHand_17 rfl rfl rfl ?_
        refine ax_ialdN (q := 19) B d_R_lookAtHand_18 (by assumption) rfl (by omega) (by omega) (by first | assumption | rfl) rfl ?_
        refine ax_iastN (q := 20) B d_R_lookAtHand_19 (by assumption) rfl (by omega) (by omega) rfl ?_
        refine ax_aload_n (q := 21) B d_R_lookAtHand_20 rfl rfl rfl ?_
        refine ax_getP (q := 24) B fl_R_32 rfl d_R_lookAtHand_21 (by assumption) (by assumption) rfl ?_
        refine ax_iload_n (q := 25) B d_R_lookAtHand_24 rfl rfl rfl ?_
        refine ax_aload_n (q := 26) B d_R_lookAtHand_25 rfl rfl rfl ?_
        refine ax_getP (q := 29) B fl_R_16 rfl d_R_lookAtHand_26 (by assumption) (by assumption) rfl ?_
        refine ax_iload_n (q := 30) B d_R_lookAtHand_29 rfl rfl rfl ?_
        refine ax_ialdN (q := 31) B d_R_lookAtHand_30 (by assumption) rfl (by omega) (by omega) (by first | assumption | rfl) rfl ?_
        refine ax_iastN (q := 32) B d_R_lookAtHand_31 (by assumption) rfl (by omega) (by omega) rfl ?_
        refine ax_iincN (j := 1) (q := 35) B d_R_lookAtHand_32 rfl ii_1 (by decide) rfl ?_
        refine ax_goto (q := 2) B d_R_lookAtHand_35 rfl ?_
        refine ih (j + 1) _ (by omega) (fun i hi => ?_) (fun q hq => by rw [aw_u_ne (by omega), aw_u_ne (by omega)]; exact g2 q hq)
        by_cases hij : i = j
        · subst hij; exact ⟨aw_rd (by omega) aw_rs, aw_rs⟩
        · exact ⟨aw_rd (by omega) (aw_rd (by omega) (g1 i (by omega)).1), aw_rd (by omega) (aw_rd (by omega) (g1 i (by omega)).2)⟩
  refine ax_iconst (v := nI 0) (q := 1) B d_R_lookAtHand_0 ci_0 rfl ?_
  refine ax_istore_n (q := 2) B d_R_lookAtHand_1 rfl (by decide) rfl ?_
  exact loop 8 0 h rfl (fun i hi => absurd hi (by omega)) (fun q _ => rfl)
/-- what the sector at p names can be read -/
def rz2 (w : Nat → Nat) (p : Nat) : Prop := p < 128 ∧ ∀ i, i < 8 → pz_nm w p i = 0 ∨ (pz_nm w p i ≤ 128 ∧ w (16 * (pz_nm w p i - 1) + 5) ≤ 10)
theorem r_lookAtTable {l : Launch} {G : aw_G} (hG : gr G) {h : aw_H} {w : Nat → Nat} (hw : rw_ w h) {p : Nat} (hr : rz2 w p) : aw_P l G 0 Y_R_lookAtTable [.inl (some 40), .inr (nI p)] h (fun h' => rs (pz_read w p) h' ∧ ∀ q, q < 47 ∨ 50 ≤ q → h' q = h q) := by
  refine aw_met hG.1.1 (by decide) (Nat.le_of_ble_eq_true rfl) (fun M hM B E => ?_)
  show aw_X M G 6 0 [some (.inl (some 40)), some (.inr (nI p)), none, none, none, none] [] h
  have i40 := hG.i40
  have a41 := hG.a41
  have a47 := hG.a47
  have a48 := hG.a48
  have a49 := hG.a49
  have r0 : aw_rM 40 0 = some 41 := rfl
  have r10 : aw_rM 40 10 = some 47 := rfl
  have r11 : aw_rM 40 11 = some 48 := rfl
  have r12 : aw_rM 40 12 = some 49 := rfl
  obtain ⟨hp, hr⟩ := hr
  have loop : ∀ m j (f : aw_H) (u3 u4 u5 : Option aw_V), j + m = 8 → (∀ i, i < j → rsN (pz_read w p) f i) → (∀ q, q < 47 ∨ 50 ≤ q → f q = h q) → aw_X M G 6 2 [some (.inl (some 40)), some (.inr (nI p)), some (.inr (nI j)), u3, u4, u5] [] f := by
    intro m
    induction m with
    | zero =>
      intro j f u3 u4 u5 hj g1 g2
      have hj : j = 8 := by omega
      subst hj
      refine ax_iload_n (q := 3) B d_R_lookAtTable_2 rfl rfl rfl ?_
      refine ax_bipush (v := nI 8) (q := 5) B d_R_lookAtTable_3 cb_8 rfl ?_
      refine ax_icmpN_ge (q := 134) (q2 := 8) B (by omega) (by omega) d_R_lookAtTable_5 rfl rfl (fun h5 => ?_) (fun h5 => ?_)
      · refine ax_vret B E d_R_lookAtTable_134 ?_
        exact ⟨rfl, g1, g2⟩
      · omega
    | succ m ih =>
      intro j f u3 u4 u5 hj g1 g2
      have fw : ∀ x, x < 2048 → f 41 x = nI (w x) ∧ w x < 65536 := fun x hx => by rw [g2 41 (by omega)]; exact hw x hx
      obtain ⟨ej, lj⟩ := fw (16 * p + 4 + j) (by omega)
      have ej : f 41 (16 * p + 4 + j) = nI (pz_nm w p j) := ej
      have lj : pz_nm w p j < 65536 := lj
      have hrj := hr j (by omega)
      have hkd : pz_kd (pz_read w p) j = if pz_nm w p j = 0 then 0 else w (16 * (pz_nm w p j - 1) + 4) := rfl
      have hct : pz_ct (pz_read w p) j = if pz_nm w p j = 0 then 0 else w (16 * (pz_nm w p j - 1) + 5) := rfl
      have hit : ∀ s, pz_it (pz_read w p) j s = w (16 * (pz_nm w p j - 1) + 6 + s) := fun s => rfl
      generalize hK : pz_kd (pz_read w p) j = K at hkd
      generalize hC : pz_ct (pz_read w p) j = C at hct
      have inner : ∀ m2 s (f1 : aw_H) (L : Int32) (u : Option aw_V), s + m2 = C → (C = 0 ∨ (L = nI (16 * (pz_nm w p j - 1)) ∧ 1 ≤ pz_nm w p j ∧ pz_nm w p j ≤ 128)) → C ≤ 10 → K < 65536 → f1 47 j = nI K → f1 48 j = nI C → (∀ x, x < s → f1 49 (10 * j + x) = nI (w (16 * (pz_nm w p j - 1) + 6 + x))) → (∀ i, i < j → rsN (pz_read w p) f1 i) → (∀ q, q < 47 ∨ 50 ≤ q → f1 q = h q) → aw_X M G 6 87 [some (.inl (some 40)), some (.inr (nI p)), some (.inr (nI j)), some (.inr L), u, some (.inr (nI s))] [] f1 := by
        intro m2
        induction m2 with
        | zero =>
          intro s f1 L u hs hL hC10 hK16 k1 k2 k3 k4 k5
          have hs : s = C := by omega
          subst hs
          refine ax_iload (q := 89) B d_R_lookAtTable_87 rfl rfl ?_
          refine ax_aload_n (q := 90) B d_R_lookAtTable_89 rfl rfl rfl ?_
          refine ax_getP (q := 93) B fl_R_32 rfl d_R_lookAtTable_90 (by assumption) (by assumption) rfl ?_
          refine ax_iload_n (q := 94) B d_R_lookAtTable_93 rfl rfl rfl ?_
          refine ax_ialdN (q := 95) B d_R_lookAtTable_94 (by assumption) rfl (by omega) (by omega) (by first | assumption | rfl) rfl ?_
          refine ax_icmpN_ge (q := 128) (q2 := 98) B (by omega) (by omega) d_R_lookAtTable_95 rfl rfl (fun h95 => ?_) (fun h95 => ?_)
          · refine ax_iincN (j := 1) (q := 131) B d_R_lookAtTable_128 rfl ii_1 (by decide) rfl ?_
            refine ax_goto (q := 2) B d_R_lookAtTable_131 rfl ?_
            refine ih (j + 1) f1 _ _ _ (by omega) (fun i hi => ?_) k5
            by_cases hij : i = j
            · subst hij
              unfold rsN
              rw [hK, hC]
              exact ⟨k1, k2, hK16, hC10, fun x hx => ⟨k3 x hx, (fw _ (by rcases hL with hL | hL <;> omega)).2⟩⟩
            · exact k4 i (by omega)
          · omega
        | succ m2 ih2 =>
          intro s f1 L u hs hL hC10 hK16 k1 k2 k3 k4 k5
          obtain ⟨hL, hn1, hn2⟩ : L = nI (16 * (pz_nm w p j - 1)) ∧ 1 ≤ pz_nm w p j ∧ pz_nm w p j ≤ 128 := by
            rcases hL with hL | hL
            · omega
            · exact hL
          subst hL
          obtain ⟨es, ls⟩ := hw (16 * (pz_nm w p j - 1) + 6 + s) (by omega)
          have es : f1 41 (16 * (pz_nm w p j - 1) + 6 + s) = nI (w (16 * (pz_nm w p j - 1) + 6 + s)) := by rw [k5 41 (by omega)]; exact es
          refine ax_iload (q := 89) B d_R_lookAtTable_87 rfl rfl ?_
          refine ax_aload_n (q := 90) B d_R_lookAtTable_89 rfl rfl rfl ?_
          refine ax_getP (q := 93) B fl_R_32 rfl d_R_lookAtTable_90 (by assumption) (by assumption) rfl ?_
          refine ax_iload_n (q := 94) B d_R_lookAtTable_93 rfl rfl rfl ?_
          refine ax_ialdN (q := 95) B d_R_lookAtTable_94 (by assumption) rfl (by omega) (by omega) (by first | assumption | rfl) rfl ?_
          refine ax_icmpN_ge (q := 128) (q2 := 98) B (by omega) (by omega) d_R_lookAtTable_95 rfl rfl (fun h95 => ?_) (fun h95 => ?_)
          · omega
          · refine ax_aload_n (q := 99) B d_R_lookAtTable_98 rfl rfl rfl ?_
            refine ax_getP (q := 102) B fl_R_35 rfl d_R_lookAtTable_99 (by assumption) (by assumption) rfl ?_
            refine ax_bipush (v := nI 10) (q := 104) B d_R_lookAtTable_102 cb_10 rfl ?_
            refine ax_iload_n (q := 105) B d_R_lookAtTable_104 rfl rfl rfl ?_
            first | refine ax_imulN (q := 106) B d_R_lookAtTable_105 rfl ?_ | refine ax_imul (q := 106) B d_R_lookAtTable_105 rfl ?_
            refine ax_iload (q := 108) B d_R_lookAtTable_106 rfl rfl ?_
            first | refine ax_iaddN (q := 109) B d_R_lookAtTable_108 rfl ?_ | refine ax_iadd (q := 109) B d_R_lookAtTable_108 rfl ?_
            refine ax_aload_n (q := 110) B d_R_lookAtTable_109 rfl rfl rfl ?_
            refine ax_getP (q := 113) B fl_R_7 rfl d_R_lookAtTable_110 (by assumption) (by assumption) rfl ?_
            refine ax_iload_n (q := 114) B d_R_lookAtTable_113 rfl rfl rfl ?_
            refine ax_bipush (v := nI 6) (q := 116) B d_R_lookAtTable_114 cb_6 rfl ?_
            first | refine ax_iaddN (q := 117) B d_R_lookAtTable_116 rfl ?_ | refine ax_iadd (q := 117) B d_R_lookAtTable_116 rfl ?_
            refine ax_iload (q := 119) B d_R_lookAtTable_117 rfl rfl ?_
            first | refine ax_iaddN (q := 120) B d_R_lookAtTable_119 rfl ?_ | refine ax_iadd (q := 120) B d_R_lookAtTable_119 rfl ?_
            refine ax_ialdN (q := 121) B d_R_lookAtTable_120 (by assumption) rfl (by omega) (by omega) es rfl ?_
            refine ax_iastN (q := 122) B d_R_lookAtTable_121 (by assumption) rfl (by omega) (by omega) rfl ?_
            refine ax_iincN (j := 1) (q := 125) B d_R_lookAtTable_122 rfl ii_1 (by decide) rfl ?_
            refine ax_goto (q := 87) B d_R_lookAtTable_125 rfl ?_
            refine ih2 (s + 1) _ _ _ (by omega) (Or.inr ⟨rfl, hn1, hn2⟩) hC10 hK16 (aw_rd (by omega) k1) (aw_rd (by omega) k2) (fun x hx => ?_) (fun i hi => ?_) (fun q hq => (aw_u_ne (by omega)).trans (k5 q hq))
            · by_cases hxs : x = s
              · subst hxs; exact aw_rs
              · exact aw_rd (by omega) (k3 x (by omega))
            · obtain ⟨b1, b2, b3, b4, b5⟩ := k4 i hi
              exact ⟨aw_rd (by omega) b1, aw_rd (by omega) b2, b3, b4, fun x hx => ⟨aw_rd (by omega) (b5 x hx).1, (b5 x hx).2⟩⟩
      have keep : ∀ i, i < j → rsN (pz_read w p) (aw_u (aw_u f 47 j (nI K)) 48 j (nI C)) i := fun i hi => by
        obtain ⟨b1, b2, b3, b4, b5⟩ := g1 i hi
        exact ⟨aw_rd (by omega) (aw_rd (by omega) b1), aw_rd (by omega) (aw_rd (by omega) b2), b3, b4, fun x hx => ⟨aw_rd (by omega) (aw_rd (by omega) (b5 x hx).1), (b5 x hx).2⟩⟩
      have keep2 : ∀ q, q < 47 ∨ 50 ≤ q → aw_u (aw_u f 47 j (nI K)) 48 j (nI C) q = h q := fun q hq => by rw [aw_u_ne (by omega), aw_u_ne (by omega)]; exact g2 q hq
      by_cases hz : pz_nm w p j = 0
      · rw [if_pos hz] at hkd hct
        subst hkd
        subst hct
        rw [hz] at ej
        refine ax_iload_n (q := 3) B d_R_lookAtTable_2 rfl rfl rfl ?_
        refine ax_bipush (v := nI 8) (q := 5) B d_R_lookAtTable_3 cb_8 rfl ?_
        refine ax_icmpN_ge (q := 134) (q2 := 8) B (by omega) (by omega) d_R_lookAtTable_5 rfl rfl (fun h5 => ?_) (fun h5 => ?_)
        · omega
        · refine ax_bipush (v := nI 16) (q := 10) B d_R_lookAtTable_8 cb_16 rfl ?_
          refine ax_aload_n (q := 11) B d_R_lookAtTable_10 rfl rfl rfl ?_
          refine ax_getP (q := 14) B fl_R_7 rfl d_R_lookAtTable_11 (by assumption) (by assumption) rfl ?_
          refine ax_bipush (v := nI 16) (q := 16) B d_R_lookAtTable_14 cb_16 rfl ?_
          refine ax_iload_n (q := 17) B d_R_lookAtTable_16 rfl rfl rfl ?_
          first | refine ax_imulN (q := 18) B d_R_lookAtTable_17 rfl ?_ | refine ax_imul (q := 18) B d_R_lookAtTable_17 rfl ?_
          refine ax_iconst (v := nI 4) (q := 19) B d_R_lookAtTable_18 ci_4 rfl ?_
          first | refine ax_iaddN (q := 20) B d_R_lookAtTable_19 rfl ?_ | refine ax_iadd (q := 20) B d_R_lookAtTable_19 rfl ?_
          refine ax_iload_n (q := 21) B d_R_lookAtTable_20 rfl rfl rfl ?_
          first | refine ax_iaddN (q := 22) B d_R_lookAtTable_21 rfl ?_ | refine ax_iadd (q := 22) B d_R_lookAtTable_21 rfl ?_
          refine ax_ialdN (q := 23) B d_R_lookAtTable_22 (by assumption) rfl (by omega) (by omega) ej rfl ?_
          refine ax_iconst (v := nI 1) (q := 24) B d_R_lookAtTable_23 ci_1 rfl ?_
          refine ax_isub (q := 25) B d_R_lookAtTable_24 rfl ?_
          refine ax_imul (q := 26) B d_R_lookAtTable_25 rfl ?_
          refine ax_top (show nI 16 * (nI 0 - nI 1) = -16 by decide) ?_
          refine ax_istore_n (q := 27) B d_R_lookAtTable_26 rfl (by decide) rfl ?_
          refine ax_iload_n (q := 28) B d_R_lookAtTable_27 rfl rfl rfl ?_
          refine ax_if_lt (q := 35) (q2 := 31) B d_R_lookAtTable_28 rfl rfl (fun h28 => ?_) (fun h28 => ?_)
          · refine ax_iconst (v := nI 0) (q := 36) B d_R_lookAtTable_35 ci_0 rfl ?_
            refine ax_istore (q := 38) B d_R_lookAtTable_36 (by decide) rfl ?_
            refine ax_aload_n (q := 39) B d_R_lookAtTable_38 rfl rfl rfl ?_
            refine ax_getP (q := 42) B fl_R_29 rfl d_R_lookAtTable_39 (by assumption) (by assumption) rfl ?_
            refine ax_iload_n (q := 43) B d_R_lookAtTable_42 rfl rfl rfl ?_
            refine ax_iload (q := 45) B d_R_lookAtTable_43 rfl rfl ?_
            refine ax_ifN_eq (q := 59) (q2 := 48) B (by omega) d_R_lookAtTable_45 rfl rfl (fun h45 => ?_) (fun h45 => ?_)
            · refine ax_iconst (v := nI 0) (q := 60) B d_R_lookAtTable_59 ci_0 rfl ?_
              refine ax_iastN (q := 61) B d_R_lookAtTable_60 (by assumption) rfl (by omega) (by omega) rfl ?_
              refine ax_aload_n (q := 62) B d_R_lookAtTable_61 rfl rfl rfl ?_
              refine ax_getP (q := 65) B fl_R_32 rfl d_R_lookAtTable_62 (by assumption) (by assumption) rfl ?_
              refine ax_iload_n (q := 66) B d_R_lookAtTable_65 rfl rfl rfl ?_
              refine ax_iload (q := 68) B d_R_lookAtTable_66 rfl rfl ?_
              refine ax_ifN_eq (q := 82) (q2 := 71) B (by omega) d_R_lookAtTable_68 rfl rfl (fun h68 => ?_) (fun h68 => ?_)
              · refine ax_iconst (v := nI 0) (q := 83) B d_R_lookAtTable_82 ci_0 rfl ?_
                refine ax_iastN (q := 84) B d_R_lookAtTable_83 (by assumption) rfl (by omega) (by omega) rfl ?_
                refine ax_iconst (v := nI 0) (q := 85) B d_R_lookAtTable_84 ci_0 rfl ?_
                refine ax_istore (q := 87) B d_R_lookAtTable_85 (by decide) rfl ?_
                exact inner 0 0 _ _ _ rfl (Or.inl rfl) (by omega) (by omega) (aw_rd (by omega) aw_rs) aw_rs (fun x hx => absurd hx (by omega)) keep keep2
              · omega
            · omega
          · exact absurd (by decide) h28
      · rw [if_neg hz] at hkd hct
        obtain ⟨hn2, hc10⟩ : pz_nm w p j ≤ 128 ∧ w (16 * (pz_nm w p j - 1) + 5) ≤ 10 := by
          rcases hrj with h1 | h1
          · exact absurd h1 hz
          · exact h1
        obtain ⟨e4, l4⟩ := fw (16 * (pz_nm w p j - 1) + 4) (by omega)
        obtain ⟨e5, l5⟩ := fw (16 * (pz_nm w p j - 1) + 5) (by omega)
        rw [← hkd] at e4 l4
        rw [← hct] at e5 l5 hc10
        have e5' : aw_u f 47 j (nI K) 41 (16 * (pz_nm w p j - 1) + 5) = nI C := aw_rd (by omega) e5
        refine ax_iload_n (q := 3) B d_R_lookAtTable_2 rfl rfl rfl ?_
        refine ax_bipush (v := nI 8) (q := 5) B d_R_lookAtTable_3 cb_8 rfl ?_
        refine ax_icmpN_ge (q := 134) (q2 := 8) B (by omega) (by omega) d_R_lookAtTable_5 rfl rfl (fun h5 => ?_) (fun h5 => ?_)
        · omega
        · refine ax_bipush (v := nI 16) (q := 10) B d_R_lookAtTable_8 cb_16 rfl ?_
          refine ax_aload_n (q := 11) B d_R_lookAtTable_10 rfl rfl rfl ?_
          refine ax_getP (q := 14) B fl_R_7 rfl d_R_lookAtTable_11 (by assumption) (by assumption) rfl ?_
          refine ax_bipush (v := nI 16) (q := 16) B d_R_lookAtTable_14 cb_16 rfl ?_
          refine ax_iload_n (q := 17) B d_R_lookAtTable_16 rfl rfl rfl ?_
          first | refine ax_imulN (q := 18) B d_R_lookAtTable_17 rfl ?_ | refine ax_imul (q := 18) B d_R_lookAtTable_17 rfl ?_
          refine ax_iconst (v := nI 4) (q := 19) B d_R_lookAtTable_18 ci_4 rfl ?_
          first | refine ax_iaddN (q := 20) B d_R_lookAtTable_19 rfl ?_ | refine ax_iadd (q := 20) B d_R_lookAtTable_19 rfl ?_
          refine ax_iload_n (q := 21) B d_R_lookAtTable_20 rfl rfl rfl ?_
          first | refine ax_iaddN (q := 22) B d_R_lookAtTable_21 rfl ?_ | refine ax_iadd (q := 22) B d_R_lookAtTable_21 rfl ?_
          refine ax_ialdN (q := 23) B d_R_lookAtTable_22 (by assumption) rfl (by omega) (by omega) ej rfl ?_
          refine ax_iconst (v := nI 1) (q := 24) B d_R_lookAtTable_23 ci_1 rfl ?_
          refine ax_isubN (q := 25) B (by omega) d_R_lookAtTable_24 rfl ?_
          first | refine ax_imulN (q := 26) B d_R_lookAtTable_25 rfl ?_ | refine ax_imul (q := 26) B d_R_lookAtTable_25 rfl ?_
          refine ax_istore_n (q := 27) B d_R_lookAtTable_26 rfl (by decide) rfl ?_
          refine ax_iload_n (q := 28) B d_R_lookAtTable_27 rfl rfl rfl ?_
          refine ax_ifN_lt (q := 35) (q2 := 31) B (by omega) d_R_lookAtTable_28 rfl rfl ?_
          refine ax_iconst (v := nI 1) (q := 32) B d_R_lookAtTable_31 ci_1 rfl ?_
          refine ax_goto (q := 36) B d_R_lookAtTable_32 rfl ?_
          refine ax_istore (q := 38) B d_R_lookAtTable_36 (by decide) rfl ?_
          refine ax_aload_n (q := 39) B d_R_lookAtTable_38 rfl rfl rfl ?_
          refine ax_getP (q := 42) B fl_R_29 rfl d_R_lookAtTable_39 (by assumption) (by assumption) rfl ?_
          refine ax_iload_n (q := 43) B d_R_lookAtTable_42 rfl rfl rfl ?_
          refine ax_iload (q := 45) B d_R_lookAtTable_43 rfl rfl ?_
          refine ax_ifN_eq (q := 59) (q2 := 48) B (by omega) d_R_lookAtTable_45 rfl rfl (fun h45 => ?_) (fun h45 => ?_)
          · omega
          · refine ax_aload_n (q := 49) B d_R_lookAtTable_48 rfl rfl rfl ?_
            refine ax_getP (q := 52) B fl_R_7 rfl d_R_lookAtTable_49 (by assumption) (by assumption) rfl ?_
            refine ax_iload_n (q := 53) B d_R_lookAtTable_52 rfl rfl rfl ?_
            refine ax_iconst (v := nI 4) (q := 54) B d_R_lookAtTable_53 ci_4 rfl ?_
            first | refine ax_iaddN (q := 55) B d_R_lookAtTable_54 rfl ?_ | refine ax_iadd (q := 55) B d_R_lookAtTable_54 rfl ?_
            refine ax_ialdN (q := 56) B d_R_lookAtTable_55 (by assumption) rfl (by omega) (by omega) e4 rfl ?_
            refine ax_goto (q := 60) B d_R_lookAtTable_56 rfl ?_
            refine ax_iastN (q := 61) B d_R_lookAtTable_60 (by assumption) rfl (by omega) (by omega) rfl ?_
            refine ax_aload_n (q := 62) B d_R_lookAtTable_61 rfl rfl rfl ?_
            refine ax_getP (q := 65) B fl_R_32 rfl d_R_lookAtTable_62 (by assumption) (by assumption) rfl ?_
            refine ax_iload_n (q := 66) B d_R_lookAtTable_65 rfl rfl rfl ?_
            refine ax_iload (q := 68) B d_R_lookAtTable_66 rfl rfl ?_
            refine ax_ifN_eq (q := 82) (q2 := 71) B (by omega) d_R_lookAtTable_68 rfl rfl (fun h68 => ?_) (fun h68 => ?_)
            · omega
            · refine ax_aload_n (q := 72) B d_R_lookAtTable_71 rfl rfl rfl ?_
              refine ax_getP (q := 75) B fl_R_7 rfl d_R_lookAtTable_72 (by assumption) (by assumption) rfl ?_
              refine ax_iload_n (q := 76) B d_R_lookAtTable_75 rfl rfl rfl ?_
              refine ax_iconst (v := nI 5) (q := 77) B d_R_lookAtTable_76 ci_5 rfl ?_
              first | refine ax_iaddN (q := 78) B d_R_lookAtTable_77 rfl ?_ | refine ax_iadd (q := 78) B d_R_lookAtTable_77 rfl ?_
              refine ax_ialdN (q := 79) B d_R_lookAtTable_78 (by assumption) rfl (by omega) (by omega) e5' rfl ?_
              refine ax_goto (q := 83) B d_R_lookAtTable_79 rfl ?_
              refine ax_iastN (q := 84) B d_R_lookAtTable_83 (by assumption) rfl (by omega) (by omega) rfl ?_
              refine ax_iconst (v := nI 0) (q := 85) B d_R_lookAtTable_84 ci_0 rfl ?_
              refine ax_istore (q := 87) B d_R_lookAtTable_85 (by decide) rfl ?_
              exact inner C 0 _ _ _ (by omega) (Or.inr ⟨rfl, by omega, hn2⟩) hc10 l4 (aw_rd (by omega) aw_rs) aw_rs (fun x hx => absurd hx (by omega)) keep keep2
  refine ax_iconst (v := nI 0) (q := 1) B d_R_lookAtTable_0 ci_0 rfl ?_
  refine ax_istore_n (q := 2) B d_R_lookAtTable_1 rfl (by decide) rfl ?_
  exact loop 8 0 h none none none rfl (fun i hi => absurd hi (by omega)) (fun q _ => rfl)
end
section
theorem pz_tabs_le {w : Nat → Nat} : ∀ k, pz_tabs w k ≤ k
  | 0 => Nat.le_refl 0
  | k + 1 => by
    have := pz_tabs_le (w := w) k
    show pz_tabs w k + (if pz_valid w k = true then 1 else 0) ≤ k + 1
    split <;> omega
theorem pz_tabAt_neg {w : Nat → Nat} {x : Int32} (hx : x < 0) : ∀ k, k < 2 ^ 30 → pz_tabAt w x k = none
  | 0, _ => rfl
  | k + 1, hk => by
    rw [pz_tabAt_s (pz_tabAt_neg hx k (by omega))]
    refine if_neg (fun z => ?_)
    rw [← z.2] at hx
    exact nI_pos (by have := pz_tabs_le (w := w) (k + 1); omega) hx
theorem iz.rz2 {k p : Nat} {w : Nat → Nat} (hi : iz k w) (hk : k ≤ 128) (hp : p < k) (h3 : w (16 * p) = 3) : rz2 w p := ⟨by omega, fun i hi8 => by
  obtain ⟨h1, h2⟩ := hi p hp h3 i hi8
  rcases h2 with h2 | h2
  · exact Or.inl h2
  · exact Or.inr ⟨by omega, h2⟩⟩
theorem r_look {l : Launch} {G : aw_G} (hG : gr G) {h : aw_H} {k : Nat} {w : Nat → Nat} {t : pz_T} (hw : rw_ w h) (hk : k ≤ 128) (e3 : h 40 2 = nI k) (hi : iz k w) (hT : rt t h) (x : Int32) : aw_F l G 5 Y_R_look [.inl (some 40), .inr x] h (fun v h' => (∀ q, q < 47 ∨ 50 ≤ q → h' q = h q) ∧ ((v = .inr (bI true) ∧ rs (if x = 0 then t else pz_past w x k) h') ∨ (v = .inr (bI false) ∧ (if x = 0 then t else pz_past w x k) = pz_none))) := by
  refine aw_met hG.1.1 (by decide) (Nat.le_of_ble_eq_true rfl) (fun M hM B E => ?_)
  show aw_X M G 3 0 [some (.inl (some 40)), some (.inr x), none] [] h
  have i40 := hG.i40
  have tail : ¬ x = 0 → ∀ o : Option Nat, pz_tabAt w x k = o → aw_X M G 3 23 [some (.inl (some 40)), some (.inr x), none] [.inr (oI o)] h := by
    intro hx0 o ho
    rw [if_neg hx0] at E
    unfold pz_past at E
    rw [ho] at E
    cases o with
    | none =>
      refine ax_istore_n (q := 24) B d_R_look_23 rfl (by decide) rfl ?_
      refine ax_iload_n (q := 25) B d_R_look_24 rfl rfl rfl ?_
      refine ax_if_ge (q := 30) (q2 := 28) B d_R_look_25 rfl rfl (fun h25 => ?_) (fun h25 => ?_)
      · exact absurd h25 (by decide)
      · refine ax_iconst (v := nI 0) (q := 29) B d_R_look_28 ci_0 rfl ?_
        refine ax_zret B E (by first | exact bI_or _ | decide) d_R_look_29 ?_
        exact ⟨_, rfl, fun q _ => rfl, Or.inr ⟨rfl, rfl⟩⟩
    | some p =>
      obtain ⟨hp, hv⟩ := pz_tabAt_lt k ho
      show aw_X M G 3 23 [some (.inl (some 40)), some (.inr x), none] [.inr (nI p)] h
      refine ax_istore_n (q := 24) B d_R_look_23 rfl (by decide) rfl ?_
      refine ax_iload_n (q := 25) B d_R_look_24 rfl rfl rfl ?_
      refine ax_ifN_ge (q := 30) (q2 := 28) B (by omega) d_R_look_25 rfl rfl ?_
      refine ax_aload_n (q := 31) B d_R_look_30 rfl rfl rfl ?_
      refine ax_iload_n (q := 32) B d_R_look_31 rfl rfl rfl ?_
      refine ax_pV1 (q := 35) B cv_R_88 d_R_look_32 (by assumption) (Nat.le_of_ble_eq_true rfl) (by decide) (r_lookAtTable hG hw (hi.rz2 hk hp (pz_valid_3 hv))) rfl (fun h1 hh1 => ?_)
      refine ax_iconst (v := nI 1) (q := 36) B d_R_look_35 ci_1 rfl ?_
      refine ax_zret B E (by first | exact bI_or _ | decide) d_R_look_36 ?_
      exact ⟨_, rfl, hh1.2, Or.inl ⟨rfl, hh1.1⟩⟩
  refine ax_iload_n (q := 1) B d_R_look_0 rfl rfl rfl ?_
  refine ax_if_ne (q := 10) (q2 := 4) B d_R_look_1 rfl rfl (fun h1 => ?_) (fun h1 => ?_)
  · refine ax_iload_n (q := 11) B d_R_look_10 rfl rfl rfl ?_
    refine ax_if_ge (q := 18) (q2 := 14) B d_R_look_11 rfl rfl (fun h11 => ?_) (fun h11 => ?_)
    · refine ax_aload_n (q := 19) B d_R_look_18 rfl rfl rfl ?_
      refine ax_iload_n (q := 20) B d_R_look_19 rfl rfl rfl ?_
      refine ax_qV1 (q := 23) B cv_R_85 d_R_look_20 (by assumption) (Nat.le_of_ble_eq_true rfl) (by decide) (r_tableAt hG hw hk e3 hi x) rfl ?_
      first | exact tail h1 _ rfl | exact tail h1 none (pz_tabAt_neg (i32_lt h11) k (by omega))
    · refine ax_iconst (v := (-1)) (q := 15) B d_R_look_14 ci_m1 rfl ?_
      refine ax_goto (q := 23) B d_R_look_15 rfl ?_
      first | exact tail h1 _ rfl | exact tail h1 none (pz_tabAt_neg (i32_lt h11) k (by omega))
  · refine ax_aload_n (q := 5) B d_R_look_4 rfl rfl rfl ?_
    rw [if_pos h1] at E
    refine ax_pV0 (q := 8) B cv_R_82 d_R_look_5 (by assumption) (Nat.le_of_ble_eq_true rfl) (by decide) (r_lookAtHand hG hT) rfl (fun h2 hh2 => ?_)
    refine ax_iconst (v := nI 1) (q := 9) B d_R_look_8 ci_1 rfl ?_
    refine ax_zret B E (by first | exact bI_or _ | decide) d_R_look_9 ?_
    exact ⟨_, rfl, hh2.2, Or.inl ⟨rfl, hh2.1⟩⟩
theorem r_readBack {l : Launch} {G : aw_G} (hG : gr G) {h : aw_H} {k : Nat} {w : Nat → Nat} (hw : rw_ w h) (hk : k ≤ 128) (e3 : h 40 2 = nI k) (hi : iz k w) : aw_P l G 5 Y_R_readBack [.inl (some 40)] h (fun h' => rt (pz_back w k) h' ∧ ∀ q, q < 42 ∨ 50 ≤ q → h' q = h q) := by
  refine aw_met hG.1.1 (by decide) (Nat.le_of_ble_eq_true rfl) (fun M hM B E => ?_)
  show aw_X M G 3 0 [some (.inl (some 40)), none, none] [] h
  have i40 := hG.i40
  have a41 := hG.a41
  have a42 := hG.a42
  have a43 := hG.a43
  have a44 := hG.a44
  have a45 := hG.a45
  have a46 := hG.a46
  have a47 := hG.a47
  have a48 := hG.a48
  have a49 := hG.a49
  have r0 : aw_rM 40 0 = some 41 := rfl
  have r5 : aw_rM 40 5 = some 42 := rfl
  have r6 : aw_rM 40 6 = some 43 := rfl
  have r7 : aw_rM 40 7 = some 44 := rfl
  have r8 : aw_rM 40 8 = some 45 := rfl
  have r9 : aw_rM 40 9 = some 46 := rfl
  have r10 : aw_rM 40 10 = some 47 := rfl
  have r11 : aw_rM 40 11 = some 48 := rfl
  have r12 : aw_rM 40 12 = some 49 := rfl
  refine ax_aload_n (q := 1) B d_R_readBack_0 rfl rfl rfl ?_
  refine ax_qV0 (q := 4) B cv_R_92 d_R_readBack_1 (by assumption) (Nat.le_of_ble_eq_true rfl) (by decide) (r_newest hG hw hk e3 hi) rfl ?_
  unfold pz_back at E
  cases hx : pz_newest w k with
  | none =>
    rw [hx] at E
    refine ax_istore_n (q := 5) B d_R_readBack_4 rfl (by decide) rfl ?_
    refine ax_iload_n (q := 6) B d_R_readBack_5 rfl rfl rfl ?_
    refine ax_if_ge (q := 14) (q2 := 9) B d_R_readBack_6 rfl rfl (fun h6 => ?_) (fun h6 => ?_)
    · exact absurd h6 (by decide)
    · refine ax_aload_n (q := 10) B d_R_readBack_9 rfl rfl rfl ?_
      refine ax_pV0 (q := 13) B cv_R_48 d_R_readBack_10 (by assumption) (Nat.le_of_ble_eq_true rfl) (by decide) (r_empty hG h) rfl (fun h1 hh1 => ?_)
      refine ax_vret B E d_R_readBack_13 ?_
      exact ⟨rfl, hh1.1, fun q hq => hh1.2 q (by omega)⟩
  | some p =>
    rw [hx] at E
    obtain ⟨hp, hv⟩ := pz_newest_lt k hx
    show aw_X M G 3 4 [some (.inl (some 40)), none, none] [.inr (nI p)] h
    have E : aw_E M G none (fun r h' => r = none ∧ (rt (pz_read w p) h' ∧ ∀ q, q < 42 ∨ 50 ≤ q → h' q = h q)) := E
    have last : ∀ (h1 : aw_H), rs (pz_read w p) h1 → (∀ q, q < 47 ∨ 50 ≤ q → h1 q = h q) → ∀ m j (f : aw_H), j + m = 80 → (∀ i, i < 8 → f 42 i = h1 47 i ∧ f 43 i = h1 48 i ∧ f 45 i = nI 0 ∧ f 46 i = nI (pz_nm w p i) + (-1)) → (∀ y, y < j → f 44 y = h1 49 y) → (∀ q, q < 42 ∨ 47 ≤ q → f q = h1 q) → aw_X M G 3 87 [some (.inl (some 40)), some (.inr (nI p)), some (.inr (nI j))] [] f := by
      intro h1 hrs hf1 m
      induction m with
      | zero =>
        intro j f hj g1 g3 g2
        have hj : j = 80 := by omega
        subst hj
        have fin : rt (pz_read w p) f := fun i hi8 => by
          obtain ⟨b1, b2, b3, b4, b5⟩ := hrs i hi8
          obtain ⟨c1, c2, c3, c4⟩ := g1 i hi8
          exact ⟨c1.trans b1, c2.trans b2, c3, b3, b4, fun s hs => ⟨(g3 _ (by omega)).trans (b5 s hs).1, (b5 s hs).2⟩, fun _ _ => c4⟩
        have fr : ∀ q, q < 42 ∨ 50 ≤ q → f q = h q := fun q hq => (g2 q (by omega)).trans (hf1 q (by omega))
        refine ax_iload_n (q := 88) B d_R_readBack_87 rfl rfl rfl ?_
        refine ax_bipush (v := nI 80) (q := 90) B d_R_readBack_88 cb_80 rfl ?_
        refine ax_icmpN_ge (q := 111) (q2 := 93) B (by omega) (by omega) d_R_readBack_90 rfl rfl (fun h90 => ?_) (fun h90 => ?_)
        · refine ax_vret B E d_R_readBack_111 ?_
          exact ⟨rfl, fin, fr⟩
        · omega
      | succ m ih =>
        intro j f hj g1 g3 g2
        have e9 : f 49 j = h1 49 j := by rw [g2 49 (by omega)]
        refine ax_iload_n (q := 88) B d_R_readBack_87 rfl rfl rfl ?_
        refine ax_bipush (v := nI 80) (q := 90) B d_R_readBack_88 cb_80 rfl ?_
        refine ax_icmpN_ge (q := 111) (q2 := 93) B (by omega) (by omega) d_R_readBack_90 rfl rfl (fun h90 => ?_) (fun h90 => ?_)
        · omega
        · refine ax_aload_n (q := 94) B d_R_readBack_93 rfl rfl rfl ?_
          refine ax_getP (q := 97) B fl_R_19 rfl d_R_readBack_94 (by assumption) (by assumption) rfl ?_
          refine ax_iload_n (q := 98) B d_R_readBack_97 rfl rfl rfl ?_
          refine ax_aload_n (q := 99) B d_R_readBack_98 rfl rfl rfl ?_
          refine ax_getP (q := 102) B fl_R_35 rfl d_R_readBack_99 (by assumption) (by assumption) rfl ?_
          refine ax_iload_n (q := 103) B d_R_readBack_102 rfl rfl rfl ?_
          refine ax_ialdN (q := 104) B d_R_readBack_103 (by assumption) rfl (by omega) (by omega) (by first | assumption | rfl) rfl ?_
          refine ax_iastN (q := 105) B d_R_readBack_104 (by assumption) rfl (by omega) (by omega) rfl ?_
          refine ax_iincN (j := 1) (q := 108) B d_R_readBack_105 rfl ii_1 (by decide) rfl ?_
          refine ax_goto (q := 87) B d_R_readBack_108 rfl ?_
          refine ih (j + 1) _ (by omega) (fun i hi8 => ?_) (fun y hy => ?_) (fun q hq => (aw_u_ne (by omega)).trans (g2 q hq))
          · obtain ⟨b1, b2, b3, b4⟩ := g1 i hi8
            exact ⟨aw_rd (by omega) b1, aw_rd (by omega) b2, aw_rd (by omega) b3, aw_rd (by omega) b4⟩
          · by_cases hyj : y = j
            · subst hyj; exact aw_rs
            · exact aw_rd (by omega) (g3 y (by omega))
    have mid : ∀ (h1 : aw_H), rs (pz_read w p) h1 → (∀ q, q < 47 ∨ 50 ≤ q → h1 q = h q) → ∀ m j (f : aw_H), j + m = 8 → (∀ i, i < j → f 42 i = h1 47 i ∧ f 43 i = h1 48 i ∧ f 45 i = nI 0 ∧ f 46 i = nI (pz_nm w p i) + (-1)) → (∀ q, q < 42 ∨ 47 ≤ q → f q = h1 q) → aw_X M G 3 21 [some (.inl (some 40)), some (.inr (nI p)), some (.inr (nI j))] [] f := by
      intro h1 hrs hf1 m
      induction m with
      | zero =>
        intro j f hj g1 g2
        have hj : j = 8 := by omega
        subst hj
        refine ax_iload_n (q := 22) B d_R_readBack_21 rfl rfl rfl ?_
        refine ax_bipush (v := nI 8) (q := 24) B d_R_readBack_22 cb_8 rfl ?_
        refine ax_icmpN_ge (q := 85) (q2 := 27) B (by omega) (by omega) d_R_readBack_24 rfl rfl (fun h24 => ?_) (fun h24 => ?_)
        · refine ax_iconst (v := nI 0) (q := 86) B d_R_readBack_85 ci_0 rfl ?_
          refine ax_istore_n (q := 87) B d_R_readBack_86 rfl (by decide) rfl ?_
          exact last h1 hrs hf1 80 0 f rfl g1 (fun y hy => absurd hy (by omega)) g2
        · omega
      | succ m ih =>
        intro j f hj g1 g2
        obtain ⟨ej, lj⟩ := hw (16 * p + 4 + j) (by omega)
        have ej : h 41 (16 * p + 4 + j) = nI (pz_nm w p j) := ej
        have e7 : f 47 j = h1 47 j := by rw [g2 47 (by omega)]
        have e8 : aw_u f 42 j (h1 47 j) 48 j = h1 48 j := aw_rd (by omega) (by rw [g2 48 (by omega)])
        have ew : aw_u (aw_u (aw_u f 42 j (h1 47 j)) 43 j (h1 48 j)) 45 j (nI 0) 41 (16 * p + 4 + j) = nI (pz_nm w p j) := aw_rd (by omega) (aw_rd (by omega) (aw_rd (by omega) (by rw [g2 41 (by omega), hf1 41 (by omega)]; exact ej)))
        refine ax_iload_n (q := 22) B d_R_readBack_21 rfl rfl rfl ?_
        refine ax_bipush (v := nI 8) (q := 24) B d_R_readBack_22 cb_8 rfl ?_
        refine ax_icmpN_ge (q := 85) (q2 := 27) B (by omega) (by omega) d_R_readBack_24 rfl rfl (fun h24 => ?_) (fun h24 => ?_)
        · omega
        · refine ax_aload_n (q := 28) B d_R_readBack_27 rfl rfl rfl ?_
          refine ax_getP (q := 31) B fl_R_13 rfl d_R_readBack_28 (by assumption) (by assumption) rfl ?_
          refine ax_iload_n (q := 32) B d_R_readBack_31 rfl rfl rfl ?_
          refine ax_aload_n (q := 33) B d_R_readBack_32 rfl rfl rfl ?_
          refine ax_getP (q := 36) B fl_R_29 rfl d_R_readBack_33 (by assumption) (by assumption) rfl ?_
          refine ax_iload_n (q := 37) B d_R_readBack_36 rfl rfl rfl ?_
          refine ax_ialdN (q := 38) B d_R_readBack_37 (by assumption) rfl (by omega) (by omega) (by first | assumption | rfl) rfl ?_
          refine ax_iastN (q := 39) B d_R_readBack_38 (by assumption) rfl (by omega) (by omega) rfl ?_
          refine ax_aload_n (q := 40) B d_R_readBack_39 rfl rfl rfl ?_
          refine ax_getP (q := 43) B fl_R_16 rfl d_R_readBack_40 (by assumption) (by assumption) rfl ?_
          refine ax_iload_n (q := 44) B d_R_readBack_43 rfl rfl rfl ?_
          refine ax_aload_n (q := 45) B d_R_readBack_44 rfl rfl rfl ?_
          refine ax_getP (q := 48) B fl_R_32 rfl d_R_readBack_45 (by assumption) (by assumption) rfl ?_
          refine ax_iload_n (q := 49) B d_R_readBack_48 rfl rfl rfl ?_
          refine ax_ialdN (q := 50) B d_R_readBack_49 (by assumption) rfl (by omega) (by omega) (by first | assumption | rfl) rfl ?_
          refine ax_iastN (q := 51) B d_R_readBack_50 (by assumption) rfl (by omega) (by omega) rfl ?_
          refine ax_aload_n (q := 52) B d_R_readBack_51 rfl rfl rfl ?_
          refine ax_getP (q := 55) B fl_R_22 rfl d_R_readBack_52 (by assumption) (by assumption) rfl ?_
          refine ax_iload_n (q := 56) B d_R_readBack_55 rfl rfl rfl ?_
          refine ax_iconst (v := nI 0) (q := 57) B d_R_readBack_56 ci_0 rfl ?_
          refine ax_zastN (q := 58) B d_R_readBack_57 (by assumption) rfl (by omega) (by omega) (by first | exact bI_or _ | decide) rfl ?_
          refine ax_aload_n (q := 59) B d_R_readBack_58 rfl rfl rfl ?_
          refine ax_getP (q := 62) B fl_R_26 rfl d_R_readBack_59 (by assumption) (by assumption) rfl ?_
          refine ax_iload_n (q := 63) B d_R_readBack_62 rfl rfl rfl ?_
          refine ax_aload_n (q := 64) B d_R_readBack_63 rfl rfl rfl ?_
          refine ax_getP (q := 67) B fl_R_7 rfl d_R_readBack_64 (by assumption) (by assumption) rfl ?_
          refine ax_bipush (v := nI 16) (q := 69) B d_R_readBack_67 cb_16 rfl ?_
          refine ax_iload_n (q := 70) B d_R_readBack_69 rfl rfl rfl ?_
          first | refine ax_imulN (q := 71) B d_R_readBack_70 rfl ?_ | refine ax_imul (q := 71) B d_R_readBack_70 rfl ?_
          refine ax_iconst (v := nI 4) (q := 72) B d_R_readBack_71 ci_4 rfl ?_
          first | refine ax_iaddN (q := 73) B d_R_readBack_72 rfl ?_ | refine ax_iadd (q := 73) B d_R_readBack_72 rfl ?_
          refine ax_iload_n (q := 74) B d_R_readBack_73 rfl rfl rfl ?_
          first | refine ax_iaddN (q := 75) B d_R_readBack_74 rfl ?_ | refine ax_iadd (q := 75) B d_R_readBack_74 rfl ?_
          refine ax_ialdN (q := 76) B d_R_readBack_75 (by assumption) rfl (by omega) (by omega) ew rfl ?_
          refine ax_iconst (v := nI 1) (q := 77) B d_R_readBack_76 ci_1 rfl ?_
          refine ax_isub (q := 78) B d_R_readBack_77 rfl ?_
          refine ax_top (show nI (pz_nm w p j) - nI 1 = nI (pz_nm w p j) + (-1) from Int32.sub_eq_add_neg _ _) ?_
          refine ax_iastN (q := 79) B d_R_readBack_78 (by assumption) rfl (by omega) (by omega) rfl ?_
          refine ax_iincN (j := 1) (q := 82) B d_R_readBack_79 rfl ii_1 (by decide) rfl ?_
          refine ax_goto (q := 21) B d_R_readBack_82 rfl ?_
          refine ih (j + 1) _ (by omega) (fun i hi8 => ?_) (fun q hq => by rw [aw_u_ne (by omega), aw_u_ne (by omega), aw_u_ne (by omega), aw_u_ne (by omega)]; exact g2 q hq)
          by_cases hij : i = j
          · subst hij
            exact ⟨aw_rd (by omega) (aw_rd (by omega) (aw_rd (by omega) aw_rs)), aw_rd (by omega) (aw_rd (by omega) aw_rs), aw_rd (by omega) aw_rs, aw_rs⟩
          · obtain ⟨b1, b2, b3, b4⟩ := g1 i (by omega)
            exact ⟨aw_rd (by omega) (aw_rd (by omega) (aw_rd (by omega) (aw_rd (by omega) b1))), aw_rd (by omega) (aw_rd (by omega) (aw_rd (by omega) (aw_rd (by omega) b2))), aw_rd (by omega) (aw_rd (by omega) (aw_rd (by omega) (aw_rd (by omega) b3))), aw_rd (by omega) (aw_rd (by omega) (aw_rd (by omega) (aw_rd (by omega) b4)))⟩
    refine ax_istore_n (q := 5) B d_R_readBack_4 rfl (by decide) rfl ?_
    refine ax_iload_n (q := 6) B d_R_readBack_5 rfl rfl rfl ?_
    refine ax_ifN_ge (q := 14) (q2 := 9) B (by omega) d_R_readBack_6 rfl rfl ?_
    refine ax_aload_n (q := 15) B d_R_readBack_14 rfl rfl rfl ?_
    refine ax_iload_n (q := 16) B d_R_readBack_15 rfl rfl rfl ?_
    refine ax_pV1 (q := 19) B cv_R_88 d_R_readBack_16 (by assumption) (Nat.le_of_ble_eq_true rfl) (by decide) (r_lookAtTable hG hw (hi.rz2 hk hp (pz_valid_3 hv))) rfl (fun h1 hh1 => ?_)
    refine ax_iconst (v := nI 0) (q := 20) B d_R_readBack_19 ci_0 rfl ?_
    refine ax_istore_n (q := 21) B d_R_readBack_20 rfl (by decide) rfl ?_
    exact mid h1 hh1.1 hh1.2 8 0 h1 rfl (fun i hi8 => absurd hi8 (by omega)) (fun q hq => rfl)
end
section
/-- the sector that the reference is laying -/
def secz (f : Nat → Nat) (h : aw_H) : Prop := ∀ i, i < 16 → h 50 i = nI (f i) ∧ f i < 65536
def pz_hdr (a k b : Nat) : Nat → Nat := fun i => if i = 0 then a else if i = 2 then k else if i = 3 then b else 0
theorem secz.put {f : Nat → Nat} {h : aw_H} {i v : Nat} (hs : secz f h) (hv : v < 65536) : secz (pz_up f i v) (aw_u h 50 i (nI v)) := fun j hj => by
  by_cases hij : j = i
  · subst hij
    rw [pz_up_s]
    exact ⟨aw_rs, hv⟩
  · rw [pz_up_n hij]
    exact ⟨aw_rd (by omega) (hs j hj).1, (hs j hj).2⟩
theorem r_clearSector {l : Launch} {G : aw_G} (hG : gr G) {h : aw_H} {k a b : Nat} (e2 : h 40 2 = nI k) (hk : k ≤ 128) (ha : a < 65536) (hb : b < 65536) : aw_P l G 0 Y_R_clearSector [.inl (some 40), .inr (nI a), .inr (nI b)] h (fun h' => secz (pz_hdr a k b) h' ∧ ∀ q, q ≠ 50 → h' q = h q) := by
  refine aw_met hG.1.1 (by decide) (Nat.le_of_ble_eq_true rfl) (fun M hM B E => ?_)
  show aw_X M G 4 0 [some (.inl (some 40)), some (.inr (nI a)), some (.inr (nI b)), none] [] h
  have i40 := hG.i40
  have a50 := hG.a50
  have r13 : aw_rM 40 13 = some 50 := rfl
  have loop : ∀ m j (f : aw_H), j + m = 16 → (∀ i, i < j → f 50 i = nI 0) → (∀ q, q ≠ 50 → f q = h q) → aw_X M G 4 2 [some (.inl (some 40)), some (.inr (nI a)), some (.inr (nI b)), some (.inr (nI j))] [] f := by
    intro m
    induction m with
    | zero =>
      intro j f hj g1 g2
      have hj : j = 16 := by omega
      subst hj
      have f2 : aw_u f 50 0 (nI a) 40 2 = nI k := aw_rd (by omega) (by rw [g2 40 (by omega)]; exact e2)
      have z : secz (fun _ => 0) f := fun i hi => ⟨g1 i hi, by show (0 : Nat) < 65536; omega⟩
      have fin : secz (pz_hdr a k b) (aw_u (aw_u (aw_u f 50 0 (nI a)) 50 2 (nI k)) 50 3 (nI b)) := by
        have h3 := ((z.put (i := 0) ha).put (i := 2) (show k < 65536 by omega)).put (i := 3) hb
        have e : pz_hdr a k b = pz_up (pz_up (pz_up (fun _ => 0) 0 a) 2 k) 3 b := by
          funext x
          unfold pz_hdr pz_up
          by_cases x0 : x = 0
          · subst x0; rfl
          · by_cases x2 : x = 2
            · subst x2; rfl
            · by_cases x3 : x = 3
              · subst x3; rfl
              · rw [if_neg x0, if_neg x2, if_neg x3, if_neg x3, if_neg x2, if_neg x0]
        rw [e]
        exact h3
      refine ax_iload_n (q := 3) B d_R_clearSector_2 rfl rfl rfl ?_
      refine ax_bipush (v := nI 16) (q := 5) B d_R_clearSector_3 cb_16 rfl ?_
      refine ax_icmpN_ge (q := 21) (q2 := 8) B (by omega) (by omega) d_R_clearSector_5 rfl rfl (fun h5 => ?_) (fun h5 => ?_)
      · refine ax_aload_n (q := 22) B d_R_clearSector_21 rfl rfl rfl ?_
        refine ax_getP (q := 25) B fl_R_38 rfl d_R_clearSector_22 (by assumption) (by assumption) rfl ?_
        refine ax_iconst (v := nI 0) (q := 26) B d_R_clearSector_25 ci_0 rfl ?_
        refine ax_iload_n (q := 27) B d_R_clearSector_26 rfl rfl rfl ?_
        refine ax_iastN (q := 28) B d_R_clearSector_27 (by assumption) rfl (by omega) (by omega) rfl ?_
        refine ax_aload_n (q := 29) B d_R_clearSector_28 rfl rfl rfl ?_
        refine ax_getP (q := 32) B fl_R_38 rfl d_R_clearSector_29 (by assumption) (by assumption) rfl ?_
        refine ax_iconst (v := nI 2) (q := 33) B d_R_clearSector_32 ci_2 rfl ?_
        refine ax_aload_n (q := 34) B d_R_clearSector_33 rfl rfl rfl ?_
        refine ax_getN (x := nI k) (q := 37) B fl_R_66 rfl d_R_clearSector_34 (by assumption) f2 rfl ?_
        refine ax_iastN (q := 38) B d_R_clearSector_37 (by assumption) rfl (by omega) (by omega) rfl ?_
        refine ax_aload_n (q := 39) B d_R_clearSector_38 rfl rfl rfl ?_
        refine ax_getP (q := 42) B fl_R_38 rfl d_R_clearSector_39 (by assumption) (by assumption) rfl ?_
        refine ax_iconst (v := nI 3) (q := 43) B d_R_clearSector_42 ci_3 rfl ?_
        refine ax_iload_n (q := 44) B d_R_clearSector_43 rfl rfl rfl ?_
        refine ax_iastN (q := 45) B d_R_clearSector_44 (by assumption) rfl (by omega) (by omega) rfl ?_
        refine ax_vret B E d_R_clearSector_45 ?_
        exact ⟨rfl, fin, fun q hq => by rw [aw_u_ne hq, aw_u_ne hq, aw_u_ne hq]; exact g2 q hq⟩
      · omega
    | succ m ih =>
      intro j f hj g1 g2
      refine ax_iload_n (q := 3) B d_R_clearSector_2 rfl rfl rfl ?_
      refine ax_bipush (v := nI 16) (q := 5) B d_R_clearSector_3 cb_16 rfl ?_
      refine ax_icmpN_ge (q := 21) (q2 := 8) B (by omega) (by omega) d_R_clearSector_5 rfl rfl (fun h5 => ?_) (fun h5 => ?_)
      · omega
      · refine ax_aload_n (q := 9) B d_R_clearSector_8 rfl rfl rfl ?_
        refine ax_getP (q := 12) B fl_R_38 rfl d_R_clearSector_9 (by assumption) (by assumption) rfl ?_
        refine ax_iload_n (q := 13) B d_R_clearSector_12 rfl rfl rfl ?_
        refine ax_iconst (v := nI 0) (q := 14) B d_R_clearSector_13 ci_0 rfl ?_
        refine ax_iastN (q := 15) B d_R_clearSector_14 (by assumption) rfl (by omega) (by omega) rfl ?_
        refine ax_iincN (j := 1) (q := 18) B d_R_clearSector_15 rfl ii_1 (by decide) rfl ?_
        refine ax_goto (q := 2) B d_R_clearSector_18 rfl ?_
        refine ih (j + 1) _ (by omega) (fun i hi => ?_) (fun q hq => (aw_u_ne hq).trans (g2 q hq))
        by_cases hij : i = j
        · subst hij; exact aw_rs
        · exact aw_rd (by omega) (g1 i (by omega))
  refine ax_iconst (v := nI 0) (q := 1) B d_R_clearSector_0 ci_0 rfl ?_
  refine ax_istore_n (q := 2) B d_R_clearSector_1 rfl (by decide) rfl ?_
  exact loop 16 0 h rfl (fun i hi => absurd hi (by omega)) (fun q _ => rfl)
theorem r_isKind {l : Launch} {G : aw_G} (hG : gr G) {h : aw_H} {t : pz_T} (hT : rt t h) (x : Int32) {a : Nat} (ha : a < 65536) : aw_I l G 0 Y_R_isKind [.inl (some 40), .inr x, .inr (nI a)] h (.inr (bI (pz_nd t (fun c => c == a) x).isSome)) := by
  refine aw_met hG.1.1 (by decide) (Nat.le_of_ble_eq_true rfl) (fun M hM B E => ?_)
  show aw_X M G 3 0 [some (.inl (some 40)), some (.inr x), some (.inr (nI a))] [] h
  have i40 := hG.i40
  have a42 := hG.a42
  have r5 : aw_rM 40 5 = some 42 := rfl
  cases hx : pz_small x 8 with
  | false =>
    have hnd : pz_nd t (fun c => c == a) x = none := if_neg (by rw [pz_no_8 hx]; omega)
    rw [hnd] at E
    refine ax_iload_n (q := 1) B d_R_isKind_0 rfl rfl rfl ?_
    refine ax_if_lt (q := 24) (q2 := 4) B d_R_isKind_1 rfl rfl (fun h1 => ?_) (fun h1 => ?_)
    · refine ax_iconst (v := nI 0) (q := 25) B d_R_isKind_24 ci_0 rfl ?_
      refine ax_zret B E (by first | exact bI_or _ | decide) d_R_isKind_25 ?_
      exact ⟨rfl, rfl⟩
    · refine ax_iload_n (q := 5) B d_R_isKind_4 rfl rfl rfl ?_
      refine ax_bipush (v := nI 8) (q := 7) B d_R_isKind_5 cb_8 rfl ?_
      refine ax_icmp_ge (q := 24) (q2 := 10) B d_R_isKind_7 rfl rfl (fun h7 => ?_) (fun h7 => ?_)
      · refine ax_iconst (v := nI 0) (q := 25) B d_R_isKind_24 ci_0 rfl ?_
        refine ax_zret B E (by first | exact bI_or _ | decide) d_R_isKind_25 ?_
        exact ⟨rfl, rfl⟩
      · rw [pz_small_t h1 h7] at hx
        cases hx
  | true =>
    obtain ⟨j, hj, rfl⟩ := pz_small_e (by omega) hx
    obtain ⟨ej, -, -, hkd, -⟩ := hT j hj
    have hnd : pz_nd t (fun c => c == a) (nI j) = if pz_kd t j = a then some j else none := by
      unfold pz_nd
      rw [pz_no_N hj]
      by_cases hk : pz_kd t j = a
      · rw [if_pos hk, if_pos ⟨hj, beq_iff_eq.mpr hk⟩]
      · rw [if_neg hk, if_neg (fun z => hk (beq_iff_eq.mp z.2))]
    rw [hnd] at E
    refine ax_iload_n (q := 1) B d_R_isKind_0 rfl rfl rfl ?_
    refine ax_ifN_lt (q := 24) (q2 := 4) B (by omega) d_R_isKind_1 rfl rfl ?_
    refine ax_iload_n (q := 5) B d_R_isKind_4 rfl rfl rfl ?_
    refine ax_bipush (v := nI 8) (q := 7) B d_R_isKind_5 cb_8 rfl ?_
    refine ax_icmpN_ge (q := 24) (q2 := 10) B (by omega) (by omega) d_R_isKind_7 rfl rfl (fun h7 => ?_) (fun h7 => ?_)
    · first | (exfalso; omega) | (rw [if_neg h17] at E; refine ax_iconst (v := nI 0) (q := 25) B d_R_isKind_24 ci_0 rfl ?_; exact ax_zret B E (by decide) d_R_isKind_25 ⟨rfl, rfl⟩)
    · refine ax_aload_n (q := 11) B d_R_isKind_10 rfl rfl rfl ?_
      refine ax_getP (q := 14) B fl_R_13 rfl d_R_isKind_11 (by assumption) (by assumption) rfl ?_
      refine ax_iload_n (q := 15) B d_R_isKind_14 rfl rfl rfl ?_
      refine ax_ialdN (q := 16) B d_R_isKind_15 (by assumption) rfl (by omega) (by omega) (by first | assumption | rfl) rfl ?_
      refine ax_iload_n (q := 17) B d_R_isKind_16 rfl rfl rfl ?_
      refine ax_icmpN_ne (q := 24) (q2 := 20) B (by omega) (by omega) d_R_isKind_17 rfl rfl (fun h17 => ?_) (fun h17 => ?_)
      · first | (exfalso; omega) | (rw [if_neg h17] at E; refine ax_iconst (v := nI 0) (q := 25) B d_R_isKind_24 ci_0 rfl ?_; exact ax_zret B E (by decide) d_R_isKind_25 ⟨rfl, rfl⟩)
      · rw [if_pos h17] at E
        refine ax_iconst (v := nI 1) (q := 21) B d_R_isKind_20 ci_1 rfl ?_
        refine ax_goto (q := 25) B d_R_isKind_21 rfl ?_
        refine ax_zret B E (by first | exact bI_or _ | decide) d_R_isKind_25 ?_
        exact ⟨rfl, rfl⟩
theorem r_itemOf {l : Launch} {G : aw_G} (hG : gr G) {h : aw_H} {t : pz_T} (hT : rt t h) {d : Nat} (hd : d < 8) (x : Int32) : aw_I l G 0 Y_R_itemOf [.inl (some 40), .inr (nI d), .inr x] h (.inr (oI (pz_ix (pz_it t d) x (pz_ct t d)))) := by
  refine aw_met hG.1.1 (by decide) (Nat.le_of_ble_eq_true rfl) (fun M hM B E => ?_)
  show aw_X M G 4 0 [some (.inl (some 40)), some (.inr (nI d)), some (.inr x), none] [] h
  have i40 := hG.i40
  have a43 := hG.a43
  have a44 := hG.a44
  have r6 : aw_rM 40 6 = some 43 := rfl
  have r7 : aw_rM 40 7 = some 44 := rfl
  obtain ⟨-, e3, -, -, hc, hf, -⟩ := hT d hd
  have loop : ∀ m j, j + m = pz_ct t d → pz_ix (pz_it t d) x j = none → aw_X M G 4 2 [some (.inl (some 40)), some (.inr (nI d)), some (.inr x), some (.inr (nI j))] [] h := by
    intro m
    induction m with
    | zero =>
      intro j hj hn
      have hj : j = pz_ct t d := by omega
      subst hj
      refine ax_iload_n (q := 3) B d_R_itemOf_2 rfl rfl rfl ?_
      refine ax_aload_n (q := 4) B d_R_itemOf_3 rfl rfl rfl ?_
      refine ax_getP (q := 7) B fl_R_16 rfl d_R_itemOf_4 (by assumption) (by assumption) rfl ?_
      refine ax_iload_n (q := 8) B d_R_itemOf_7 rfl rfl rfl ?_
      refine ax_ialdN (q := 9) B d_R_itemOf_8 (by assumption) rfl (by omega) (by omega) (by first | assumption | rfl) rfl ?_
      refine ax_icmpN_ge (q := 38) (q2 := 12) B (by omega) (by omega) d_R_itemOf_9 rfl rfl (fun h9 => ?_) (fun h9 => ?_)
      · refine ax_iconst (v := (-1)) (q := 39) B d_R_itemOf_38 ci_m1 rfl ?_
        refine ax_iret B E d_R_itemOf_39 ?_
        exact ⟨by rw [hn]; rfl, rfl⟩
      · omega
    | succ m ih =>
      intro j hj hn
      obtain ⟨ej, hfj⟩ := hf j (by omega)
      have hx : pz_ix (pz_it t d) x (j + 1) = if nI (pz_it t d j / 16) = x then some j else none := by
        show (match pz_ix (pz_it t d) x j with | some i => some i | none => if nI (pz_it t d j / 16) = x then some j else none) = _
        rw [hn]
      refine ax_iload_n (q := 3) B d_R_itemOf_2 rfl rfl rfl ?_
      refine ax_aload_n (q := 4) B d_R_itemOf_3 rfl rfl rfl ?_
      refine ax_getP (q := 7) B fl_R_16 rfl d_R_itemOf_4 (by assumption) (by assumption) rfl ?_
      refine ax_iload_n (q := 8) B d_R_itemOf_7 rfl rfl rfl ?_
      refine ax_ialdN (q := 9) B d_R_itemOf_8 (by assumption) rfl (by omega) (by omega) (by first | assumption | rfl) rfl ?_
      refine ax_icmpN_ge (q := 38) (q2 := 12) B (by omega) (by omega) d_R_itemOf_9 rfl rfl (fun h9 => ?_) (fun h9 => ?_)
      · omega
      · refine ax_aload_n (q := 13) B d_R_itemOf_12 rfl rfl rfl ?_
        refine ax_getP (q := 16) B fl_R_19 rfl d_R_itemOf_13 (by assumption) (by assumption) rfl ?_
        refine ax_bipush (v := nI 10) (q := 18) B d_R_itemOf_16 cb_10 rfl ?_
        refine ax_iload_n (q := 19) B d_R_itemOf_18 rfl rfl rfl ?_
        first | refine ax_imulN (q := 20) B d_R_itemOf_19 rfl ?_ | refine ax_imul (q := 20) B d_R_itemOf_19 rfl ?_
        refine ax_iload_n (q := 21) B d_R_itemOf_20 rfl rfl rfl ?_
        first | refine ax_iaddN (q := 22) B d_R_itemOf_21 rfl ?_ | refine ax_iadd (q := 22) B d_R_itemOf_21 rfl ?_
        refine ax_ialdN (q := 23) B d_R_itemOf_22 (by assumption) rfl (by omega) (by omega) (by first | assumption | rfl) rfl ?_
        refine ax_bipush (v := nI 16) (q := 25) B d_R_itemOf_23 cb_16 rfl ?_
        refine ax_idivN (q := 26) B (by omega) (by omega) (by omega) d_R_itemOf_25 rfl ?_
        refine ax_iload_n (q := 27) B d_R_itemOf_26 rfl rfl rfl ?_
        refine ax_icmp_ne (q := 32) (q2 := 30) B d_R_itemOf_27 rfl rfl (fun h27 => ?_) (fun h27 => ?_)
        · refine ax_iincN (j := 1) (q := 35) B d_R_itemOf_32 rfl ii_1 (by decide) rfl ?_
          refine ax_goto (q := 2) B d_R_itemOf_35 rfl ?_
          exact ih (j + 1) (by omega) (by rw [hx, if_neg h27])
        · refine ax_iload_n (q := 31) B d_R_itemOf_30 rfl rfl rfl ?_
          refine ax_iret B E d_R_itemOf_31 ?_
          exact ⟨by rw [pz_ix_mono (hx.trans (if_pos h27)) (by omega)]; rfl, rfl⟩
  refine ax_iconst (v := nI 0) (q := 1) B d_R_itemOf_0 ci_0 rfl ?_
  refine ax_istore_n (q := 2) B d_R_itemOf_1 rfl (by decide) rfl ?_
  exact loop (pz_ct t d) 0 (by omega) rfl
theorem r_add {l : Launch} {G : aw_G} (hG : gr G) {h : aw_H} {t : pz_T} (hT : rt t h) {d v : Nat} (hd : d < 8) (hc : pz_ct t d < 10) (hv : v < 65536) : aw_P l G 0 Y_R_add [.inl (some 40), .inr (nI d), .inr (nI v)] h (fun h' => rt (pz_add t d v) h' ∧ ∀ q, q < 43 ∨ 46 ≤ q → h' q = h q) := by
  refine aw_met hG.1.1 (by decide) (Nat.le_of_ble_eq_true rfl) (fun M hM B E => ?_)
  show aw_X M G 3 0 [some (.inl (some 40)), some (.inr (nI d)), some (.inr (nI v))] [] h
  have i40 := hG.i40
  have a43 := hG.a43
  have a44 := hG.a44
  have a45 := hG.a45
  have r6 : aw_rM 40 6 = some 43 := rfl
  have r7 : aw_rM 40 7 = some 44 := rfl
  have r8 : aw_rM 40 8 = some 45 := rfl
  have e3 := (hT d hd).2.1
  have e3' : aw_u h 44 (10 * d + pz_ct t d) (nI v) 43 d = nI (pz_ct t d) := aw_rd (by omega) e3
  have fin : rt (pz_add t d v) (aw_u (aw_u (aw_u h 44 (10 * d + pz_ct t d) (nI v)) 43 d (nI (pz_ct t d + 1))) 45 d (nI 1)) := fun i hi => by
    obtain ⟨b1, b2, b3, b4, b5, b6, b7⟩ := hT i hi
    by_cases hid : i = d
    · subst hid
      have q2 : pz_ct (pz_add t i v) i = pz_ct t i + 1 := pz_up_s
      have q3 : pz_ch (pz_add t i v) i = true := pz_up_s
      unfold rtN
      rw [q2, q3]
      refine ⟨aw_rd (by omega) (aw_rd (by omega) (aw_rd (by omega) b1)), aw_rd (by omega) aw_rs, aw_rs, b4, by omega, fun j hj => ?_, fun _ z => by cases z⟩
      have q4 : pz_it (pz_add t i v) i j = pz_up (pz_it t i) (pz_ct t i) v j := by
        show pz_up (pz_it t) i (pz_up (pz_it t i) (pz_ct t i) v) i j = _
        rw [pz_up_s]
      rw [q4]
      by_cases hj2 : j = pz_ct t i
      · subst hj2
        rw [pz_up_s]
        exact ⟨aw_rd (by omega) (aw_rd (by omega) aw_rs), hv⟩
      · rw [pz_up_n hj2]
        exact ⟨aw_rd (by omega) (aw_rd (by omega) (aw_rd (by omega) (b6 j (by omega)).1)), (b6 j (by omega)).2⟩
    · have q2 : pz_ct (pz_add t d v) i = pz_ct t i := pz_up_n hid
      have q3 : pz_ch (pz_add t d v) i = pz_ch t i := pz_up_n hid
      have q4 : ∀ j, pz_it (pz_add t d v) i j = pz_it t i j := fun j => by
        show pz_up (pz_it t) d _ i j = _
        rw [pz_up_n hid]
      unfold rtN
      rw [q2, q3]
      exact ⟨aw_rd (by omega) (aw_rd (by omega) (aw_rd (by omega) b1)), aw_rd (by omega) (aw_rd (by omega) (aw_rd (by omega) b2)), aw_rd (by omega) (aw_rd (by omega) (aw_rd (by omega) b3)), b4, b5, fun j hj => by rw [q4 j]; exact ⟨aw_rd (by omega) (aw_rd (by omega) (aw_rd (by omega) (b6 j hj).1)), (b6 j hj).2⟩, fun z1 z2 => aw_rd (by omega) (aw_rd (by omega) (aw_rd (by omega) (b7 z1 z2)))⟩
  refine ax_aload_n (q := 1) B d_R_add_0 rfl rfl rfl ?_
  refine ax_getP (q := 4) B fl_R_19 rfl d_R_add_1 (by assumption) (by assumption) rfl ?_
  refine ax_bipush (v := nI 10) (q := 6) B d_R_add_4 cb_10 rfl ?_
  refine ax_iload_n (q := 7) B d_R_add_6 rfl rfl rfl ?_
  first | refine ax_imulN (q := 8) B d_R_add_7 rfl ?_ | refine ax_imul (q := 8) B d_R_add_7 rfl ?_
  refine ax_aload_n (q := 9) B d_R_add_8 rfl rfl rfl ?_
  refine ax_getP (q := 12) B fl_R_16 rfl d_R_add_9 (by assumption) (by assumption) rfl ?_
  refine ax_iload_n (q := 13) B d_R_add_12 rfl rfl rfl ?_
  refine ax_ialdN (q := 14) B d_R_add_13 (by assumption) rfl (by omega) (by omega) (by first | assumption | rfl) rfl ?_
  first | refine ax_iaddN (q := 15) B d_R_add_14 rfl ?_ | refine ax_iadd (q := 15) B d_R_add_14 rfl ?_
  refine ax_iload_n (q := 16) B d_R_add_15 rfl rfl rfl ?_
  refine ax_iastN (q := 17) B d_R_add_16 (by assumption) rfl (by omega) (by omega) rfl ?_
  refine ax_aload_n (q := 18) B d_R_add_17 rfl rfl rfl ?_
  refine ax_getP (q := 21) B fl_R_16 rfl d_R_add_18 (by assumption) (by assumption) rfl ?_
  refine ax_iload_n (q := 22) B d_R_add_21 rfl rfl rfl ?_
  refine ax_aload_n (q := 23) B d_R_add_22 rfl rfl rfl ?_
  refine ax_getP (q := 26) B fl_R_16 rfl d_R_add_23 (by assumption) (by assumption) rfl ?_
  refine ax_iload_n (q := 27) B d_R_add_26 rfl rfl rfl ?_
  refine ax_ialdN (q := 28) B d_R_add_27 (by assumption) rfl (by omega) (by omega) e3' rfl ?_
  refine ax_iconst (v := nI 1) (q := 29) B d_R_add_28 ci_1 rfl ?_
  first | refine ax_iaddN (q := 30) B d_R_add_29 rfl ?_ | refine ax_iadd (q := 30) B d_R_add_29 rfl ?_
  refine ax_iastN (q := 31) B d_R_add_30 (by assumption) rfl (by omega) (by omega) rfl ?_
  refine ax_aload_n (q := 32) B d_R_add_31 rfl rfl rfl ?_
  refine ax_getP (q := 35) B fl_R_22 rfl d_R_add_32 (by assumption) (by assumption) rfl ?_
  refine ax_iload_n (q := 36) B d_R_add_35 rfl rfl rfl ?_
  refine ax_iconst (v := nI 1) (q := 37) B d_R_add_36 ci_1 rfl ?_
  refine ax_zastN (q := 38) B d_R_add_37 (by assumption) rfl (by omega) (by omega) (by first | exact bI_or _ | decide) rfl ?_
  refine ax_vret B E d_R_add_38 ?_
  exact ⟨rfl, fin, fun q hq => by rw [aw_u_ne (by omega), aw_u_ne (by omega), aw_u_ne (by omega)]⟩
theorem r_take {l : Launch} {G : aw_G} (hG : gr G) {h : aw_H} {t : pz_T} (hT : rt t h) {d i : Nat} (hd : d < 8) (hi : i < pz_ct t d) : aw_P l G 0 Y_R_take [.inl (some 40), .inr (nI d), .inr (nI i)] h (fun h' => rt (pz_take t d i) h' ∧ ∀ q, q < 43 ∨ 46 ≤ q → h' q = h q) := by
  refine aw_met hG.1.1 (by decide) (Nat.le_of_ble_eq_true rfl) (fun M hM B E => ?_)
  show aw_X M G 4 0 [some (.inl (some 40)), some (.inr (nI d)), some (.inr (nI i)), none] [] h
  have i40 := hG.i40
  have a43 := hG.a43
  have a44 := hG.a44
  have a45 := hG.a45
  have r6 : aw_rM 40 6 = some 43 := rfl
  have r7 : aw_rM 40 7 = some 44 := rfl
  have r8 : aw_rM 40 8 = some 45 := rfl
  obtain ⟨-, e3, -, -, hc, -, -⟩ := hT d hd
  have loop : ∀ m j (f : aw_H), j + m + 1 = pz_ct t d → i ≤ j → (∀ s, s < j → f 44 (10 * d + s) = if s < i then h 44 (10 * d + s) else h 44 (10 * d + s + 1)) → (∀ x, (x < 10 * d ∨ 10 * d + j ≤ x) → f 44 x = h 44 x) → (∀ q, q ≠ 44 → f q = h q) → aw_X M G 4 2 [some (.inl (some 40)), some (.inr (nI d)), some (.inr (nI i)), some (.inr (nI j))] [] f := by
    intro m
    induction m with
    | zero =>
      intro j f hj hij g4 g5 g6
      have f3 : f 43 d = nI (pz_ct t d) := by rw [g6 43 (by omega)]; exact e3
      have fin : rt (pz_take t d i) (aw_u (aw_u f 43 d (nI (pz_ct t d - 1))) 45 d (nI 1)) := fun n hn => by
        obtain ⟨b1, b2, b3, b4, b5, b6, b7⟩ := hT n hn
        have c1 : f 42 n = nI (pz_kd t n) := by rw [g6 42 (by omega)]; exact b1
        by_cases hid : n = d
        · subst hid
          have q2 : pz_ct (pz_take t n i) n = pz_ct t n - 1 := pz_up_s
          have q3 : pz_ch (pz_take t n i) n = true := pz_up_s
          unfold rtN
          rw [q2, q3]
          refine ⟨aw_rd (by omega) (aw_rd (by omega) c1), aw_rd (by omega) aw_rs, aw_rs, b4, by omega, fun s hs => ?_, fun _ z => by cases z⟩
          have q4 : pz_it (pz_take t n i) n s = if s < i then pz_it t n s else pz_it t n (s + 1) := by
            show pz_up (pz_it t) n (fun s => if s < i then pz_it t n s else pz_it t n (s + 1)) n s = _
            rw [pz_up_s]
          rw [q4]
          have q5 := g4 s (by omega)
          by_cases hsi : s < i
          · rw [if_pos hsi] at q5 ⊢
            exact ⟨aw_rd (by omega) (aw_rd (by omega) (q5.trans (b6 s (by omega)).1)), (b6 s (by omega)).2⟩
          · rw [if_neg hsi] at q5 ⊢
            exact ⟨aw_rd (by omega) (aw_rd (by omega) (q5.trans (b6 (s + 1) (by omega)).1)), (b6 (s + 1) (by omega)).2⟩
        · have q2 : pz_ct (pz_take t d i) n = pz_ct t n := pz_up_n hid
          have q3 : pz_ch (pz_take t d i) n = pz_ch t n := pz_up_n hid
          have q4 : ∀ s, pz_it (pz_take t d i) n s = pz_it t n s := fun s => by
            show pz_up (pz_it t) d _ n s = _
            rw [pz_up_n hid]
          have c2 : f 43 n = nI (pz_ct t n) := by rw [g6 43 (by omega)]; exact b2
          have c3 : f 45 n = bI (pz_ch t n) := by rw [g6 45 (by omega)]; exact b3
          have c7 : pz_kd t n ≠ 0 → pz_ch t n = false → f 46 n = nI (pz_en t n) + (-1) := by rw [g6 46 (by omega)]; exact b7
          unfold rtN
          rw [q2, q3]
          refine ⟨aw_rd (by omega) (aw_rd (by omega) c1), aw_rd (by omega) (aw_rd (by omega) c2), aw_rd (by omega) (aw_rd (by omega) c3), b4, b5, fun s hs => ?_, fun z1 z2 => aw_rd (by omega) (aw_rd (by omega) (c7 z1 z2))⟩
          rw [q4 s]
          exact ⟨aw_rd (by omega) (aw_rd (by omega) ((g5 _ (by omega)).trans (b6 s hs).1)), (b6 s hs).2⟩
      refine ax_iload_n (q := 3) B d_R_take_2 rfl rfl rfl ?_
      refine ax_iconst (v := nI 1) (q := 4) B d_R_take_3 ci_1 rfl ?_
      first | refine ax_iaddN (q := 5) B d_R_take_4 rfl ?_ | refine ax_iadd (q := 5) B d_R_take_4 rfl ?_
      refine ax_aload_n (q := 6) B d_R_take_5 rfl rfl rfl ?_
      refine ax_getP (q := 9) B fl_R_16 rfl d_R_take_6 (by assumption) (by assumption) rfl ?_
      refine ax_iload_n (q := 10) B d_R_take_9 rfl rfl rfl ?_
      refine ax_ialdN (q := 11) B d_R_take_10 (by assumption) rfl (by omega) (by omega) (by first | assumption | rfl) rfl ?_
      refine ax_icmpN_ge (q := 44) (q2 := 14) B (by omega) (by omega) d_R_take_11 rfl rfl (fun h11 => ?_) (fun h11 => ?_)
      · refine ax_aload_n (q := 45) B d_R_take_44 rfl rfl rfl ?_
        refine ax_getP (q := 48) B fl_R_16 rfl d_R_take_45 (by assumption) (by assumption) rfl ?_
        refine ax_iload_n (q := 49) B d_R_take_48 rfl rfl rfl ?_
        refine ax_aload_n (q := 50) B d_R_take_49 rfl rfl rfl ?_
        refine ax_getP (q := 53) B fl_R_16 rfl d_R_take_50 (by assumption) (by assumption) rfl ?_
        refine ax_iload_n (q := 54) B d_R_take_53 rfl rfl rfl ?_
        refine ax_ialdN (q := 55) B d_R_take_54 (by assumption) rfl (by omega) (by omega) (by first | assumption | rfl) rfl ?_
        refine ax_iconst (v := nI 1) (q := 56) B d_R_take_55 ci_1 rfl ?_
        refine ax_isubN (q := 57) B (by omega) d_R_take_56 rfl ?_
        refine ax_iastN (q := 58) B d_R_take_57 (by assumption) rfl (by omega) (by omega) rfl ?_
        refine ax_aload_n (q := 59) B d_R_take_58 rfl rfl rfl ?_
        refine ax_getP (q := 62) B fl_R_22 rfl d_R_take_59 (by assumption) (by assumption) rfl ?_
        refine ax_iload_n (q := 63) B d_R_take_62 rfl rfl rfl ?_
        refine ax_iconst (v := nI 1) (q := 64) B d_R_take_63 ci_1 rfl ?_
        refine ax_zastN (q := 65) B d_R_take_64 (by assumption) rfl (by omega) (by omega) (by first | exact bI_or _ | decide) rfl ?_
        refine ax_vret B E d_R_take_65 ?_
        exact ⟨rfl, fin, fun q hq => by rw [aw_u_ne (by omega), aw_u_ne (by omega)]; exact g6 q (by omega)⟩
      · omega
    | succ m ih =>
      intro j f hj hij g4 g5 g6
      have f3 : f 43 d = nI (pz_ct t d) := by rw [g6 43 (by omega)]; exact e3
      have f4 : f 44 (10 * d + j + 1) = h 44 (10 * d + j + 1) := g5 _ (by omega)
      refine ax_iload_n (q := 3) B d_R_take_2 rfl rfl rfl ?_
      refine ax_iconst (v := nI 1) (q := 4) B d_R_take_3 ci_1 rfl ?_
      first | refine ax_iaddN (q := 5) B d_R_take_4 rfl ?_ | refine ax_iadd (q := 5) B d_R_take_4 rfl ?_
      refine ax_aload_n (q := 6) B d_R_take_5 rfl rfl rfl ?_
      refine ax_getP (q := 9) B fl_R_16 rfl d_R_take_6 (by assumption) (by assumption) rfl ?_
      refine ax_iload_n (q := 10) B d_R_take_9 rfl rfl rfl ?_
      refine ax_ialdN (q := 11) B d_R_take_10 (by assumption) rfl (by omega) (by omega) (by first | assumption | rfl) rfl ?_
      refine ax_icmpN_ge (q := 44) (q2 := 14) B (by omega) (by omega) d_R_take_11 rfl rfl (fun h11 => ?_) (fun h11 => ?_)
      · omega
      · refine ax_aload_n (q := 15) B d_R_take_14 rfl rfl rfl ?_
        refine ax_getP (q := 18) B fl_R_19 rfl d_R_take_15 (by assumption) (by assumption) rfl ?_
        refine ax_bipush (v := nI 10) (q := 20) B d_R_take_18 cb_10 rfl ?_
        refine ax_iload_n (q := 21) B d_R_take_20 rfl rfl rfl ?_
        first | refine ax_imulN (q := 22) B d_R_take_21 rfl ?_ | refine ax_imul (q := 22) B d_R_take_21 rfl ?_
        refine ax_iload_n (q := 23) B d_R_take_22 rfl rfl rfl ?_
        first | refine ax_iaddN (q := 24) B d_R_take_23 rfl ?_ | refine ax_iadd (q := 24) B d_R_take_23 rfl ?_
        refine ax_aload_n (q := 25) B d_R_take_24 rfl rfl rfl ?_
        refine ax_getP (q := 28) B fl_R_19 rfl d_R_take_25 (by assumption) (by assumption) rfl ?_
        refine ax_bipush (v := nI 10) (q := 30) B d_R_take_28 cb_10 rfl ?_
        refine ax_iload_n (q := 31) B d_R_take_30 rfl rfl rfl ?_
        first | refine ax_imulN (q := 32) B d_R_take_31 rfl ?_ | refine ax_imul (q := 32) B d_R_take_31 rfl ?_
        refine ax_iload_n (q := 33) B d_R_take_32 rfl rfl rfl ?_
        first | refine ax_iaddN (q := 34) B d_R_take_33 rfl ?_ | refine ax_iadd (q := 34) B d_R_take_33 rfl ?_
        refine ax_iconst (v := nI 1) (q := 35) B d_R_take_34 ci_1 rfl ?_
        first | refine ax_iaddN (q := 36) B d_R_take_35 rfl ?_ | refine ax_iadd (q := 36) B d_R_take_35 rfl ?_
        refine ax_ialdN (q := 37) B d_R_take_36 (by assumption) rfl (by omega) (by omega) (by first | assumption | rfl) rfl ?_
        refine ax_iastN (q := 38) B d_R_take_37 (by assumption) rfl (by omega) (by omega) rfl ?_
        refine ax_iincN (j := 1) (q := 41) B d_R_take_38 rfl ii_1 (by decide) rfl ?_
        refine ax_goto (q := 2) B d_R_take_41 rfl ?_
        refine ih (j + 1) _ (by omega) (by omega) (fun s hs => ?_) (fun x hx => aw_rd (by omega) (g5 x (by omega))) (fun q hq => (aw_u_ne hq).trans (g6 q hq))
        by_cases hsj : s = j
        · subst hsj; rw [if_neg (by omega)]; exact aw_rs
        · exact aw_rd (by omega) (g4 s (by omega))
  refine ax_iload_n (q := 1) B d_R_take_0 rfl rfl rfl ?_
  refine ax_istore_n (q := 2) B d_R_take_1 rfl (by decide) rfl ?_
  exact loop (pz_ct t d - 1 - i) i h (by omega) (Nat.le_refl _) (fun s hs => by rw [if_pos hs]) (fun x _ => rfl) (fun q _ => rfl)
end
section
def eI (a : Nat) : Int32 := if a < 8 then nI a else -1
theorem eI_eq {j a : Nat} (hj : j < 8) (ha : a ≤ 8) : nI j = eI a ↔ j = a := by
  unfold eI
  by_cases h : a < 8
  · rw [if_pos h]; exact nI_eq (by omega) (by omega)
  · rw [if_neg h]
    exact ⟨fun z => absurd z (nI_nm1 (by omega)), fun z => by omega⟩
theorem r_changedWith {l : Launch} {G : aw_G} (hG : gr G) {h : aw_H} {t : pz_T} (hT : rt t h) {a b g : Nat} (ha : a ≤ 8) (hb : b ≤ 8) (hg : g ≤ 8) : aw_I l G 0 Y_R_changedWith [.inl (some 40), .inr (eI a), .inr (eI b), .inr (eI g)] h (.inr (nI (pz_cw (pz_ch t) a b g 8))) := by
  refine aw_met hG.1.1 (by decide) (Nat.le_of_ble_eq_true rfl) (fun M hM B E => ?_)
  show aw_X M G 7 0 [some (.inl (some 40)), some (.inr (eI a)), some (.inr (eI b)), some (.inr (eI g)), none, none, none] [] h
  have i40 := hG.i40
  have a45 := hG.a45
  have r8 : aw_rM 40 8 = some 45 := rfl
  unfold pz_cw at E
  have loop : ∀ m j (u : Option aw_V), j + m = 8 → aw_X M G 7 6 [some (.inl (some 40)), some (.inr (eI a)), some (.inr (eI b)), some (.inr (eI g)), some (.inr (nI (pz_cp (fun n => (pz_ch t n || n == a || n == b) && n != g) j))), some (.inr (nI j)), u] [] h := by
    intro m
    induction m with
    | zero =>
      intro j u hj
      have hj : j = 8 := by omega
      subst hj
      refine ax_iload (q := 8) B d_R_changedWith_6 rfl rfl ?_
      refine ax_bipush (v := nI 8) (q := 10) B d_R_changedWith_8 cb_8 rfl ?_
      refine ax_icmpN_ge (q := 70) (q2 := 13) B (by omega) (by omega) d_R_changedWith_10 rfl rfl (fun h10 => ?_) (fun h10 => ?_)
      · refine ax_iload (q := 72) B d_R_changedWith_70 rfl rfl ?_
        refine ax_iret B E d_R_changedWith_72 ?_
        exact ⟨rfl, rfl⟩
      · omega
    | succ m ih =>
      intro j u hj
      have h3 := fun u => ih (j + 1) u (by omega)
      rw [show pz_cp (fun n => (pz_ch t n || n == a || n == b) && n != g) (j + 1) = pz_cp (fun n => (pz_ch t n || n == a || n == b) && n != g) j + (if ((pz_ch t j || j == a || j == b) && j != g) = true then 1 else 0) from rfl] at h3
      generalize pz_cp (fun n => (pz_ch t n || n == a || n == b) && n != g) j = x at h3 ⊢
      have ej := (hT j (by omega)).2.2.1
      have tail : ∀ s : Nat, (if (pz_ch t j || j == a || j == b) = true then 1 else 0) = s → aw_X M G 7 40 [some (.inl (some 40)), some (.inr (eI a)), some (.inr (eI b)), some (.inr (eI g)), some (.inr (nI x)), some (.inr (nI j)), u] [.inr (nI s)] h := by
        intro s hs
        have hs1 : s ≤ 1 := by rw [← hs]; split <;> omega
        refine ax_istore (q := 42) B d_R_changedWith_40 (by decide) rfl ?_
        refine ax_iload (q := 44) B d_R_changedWith_42 rfl rfl ?_
        refine ax_ifN_eq (q := 60) (q2 := 47) B (by omega) d_R_changedWith_44 rfl rfl (fun h44 => ?_) (fun h44 => ?_)
        · refine ax_iload (q := 62) B d_R_changedWith_60 rfl rfl ?_
          refine ax_istore (q := 64) B d_R_changedWith_62 (by decide) rfl ?_
          refine ax_iincN (j := 1) (q := 67) B d_R_changedWith_64 rfl ii_1 (by decide) rfl ?_
          refine ax_goto (q := 6) B d_R_changedWith_67 rfl ?_
          first | (have e9 : ((pz_ch t j || j == a || j == b) && j != g) = true := (by rw [Bool.and_eq_true]; exact ⟨Decidable.byContradiction (fun z => by rw [if_neg z] at hs; omega), by simp; exact fun z => h50 ((eI_eq (by omega) hg).mpr z)⟩); rw [if_pos e9] at h3; exact h3 _) | (have e9 : ¬ ((pz_ch t j || j == a || j == b) && j != g) = true := (fun z => by rw [Bool.and_eq_true] at z; have z2 := (eI_eq (by omega) hg).mp h50; rw [z2] at z; simp at z); rw [if_neg e9] at h3; exact h3 _) | (have e9 : ¬ ((pz_ch t j || j == a || j == b) && j != g) = true := (fun z => by rw [Bool.and_eq_true] at z; rw [if_pos z.1] at hs; omega); rw [if_neg e9] at h3; exact h3 _)
        · refine ax_iload (q := 49) B d_R_changedWith_47 rfl rfl ?_
          refine ax_iload_n (q := 50) B d_R_changedWith_49 rfl rfl rfl ?_
          refine ax_icmp_eq (q := 60) (q2 := 53) B d_R_changedWith_50 rfl rfl (fun h50 => ?_) (fun h50 => ?_)
          · refine ax_iload (q := 62) B d_R_changedWith_60 rfl rfl ?_
            refine ax_istore (q := 64) B d_R_changedWith_62 (by decide) rfl ?_
            refine ax_iincN (j := 1) (q := 67) B d_R_changedWith_64 rfl ii_1 (by decide) rfl ?_
            refine ax_goto (q := 6) B d_R_changedWith_67 rfl ?_
            first | (have e9 : ((pz_ch t j || j == a || j == b) && j != g) = true := (by rw [Bool.and_eq_true]; exact ⟨Decidable.byContradiction (fun z => by rw [if_neg z] at hs; omega), by simp; exact fun z => h50 ((eI_eq (by omega) hg).mpr z)⟩); rw [if_pos e9] at h3; exact h3 _) | (have e9 : ¬ ((pz_ch t j || j == a || j == b) && j != g) = true := (fun z => by rw [Bool.and_eq_true] at z; have z2 := (eI_eq (by omega) hg).mp h50; rw [z2] at z; simp at z); rw [if_neg e9] at h3; exact h3 _) | (have e9 : ¬ ((pz_ch t j || j == a || j == b) && j != g) = true := (fun z => by rw [Bool.and_eq_true] at z; rw [if_pos z.1] at hs; omega); rw [if_neg e9] at h3; exact h3 _)
          · refine ax_iload (q := 55) B d_R_changedWith_53 rfl rfl ?_
            refine ax_iconst (v := nI 1) (q := 56) B d_R_changedWith_55 ci_1 rfl ?_
            first | refine ax_iaddN (q := 57) B d_R_changedWith_56 rfl ?_ | refine ax_iadd (q := 57) B d_R_changedWith_56 rfl ?_
            refine ax_goto (q := 62) B d_R_changedWith_57 rfl ?_
            refine ax_istore (q := 64) B d_R_changedWith_62 (by decide) rfl ?_
            refine ax_iincN (j := 1) (q := 67) B d_R_changedWith_64 rfl ii_1 (by decide) rfl ?_
            refine ax_goto (q := 6) B d_R_changedWith_67 rfl ?_
            first | (have e9 : ((pz_ch t j || j == a || j == b) && j != g) = true := (by rw [Bool.and_eq_true]; exact ⟨Decidable.byContradiction (fun z => by rw [if_neg z] at hs; omega), by simp; exact fun z => h50 ((eI_eq (by omega) hg).mpr z)⟩); rw [if_pos e9] at h3; exact h3 _) | (have e9 : ¬ ((pz_ch t j || j == a || j == b) && j != g) = true := (fun z => by rw [Bool.and_eq_true] at z; have z2 := (eI_eq (by omega) hg).mp h50; rw [z2] at z; simp at z); rw [if_neg e9] at h3; exact h3 _) | (have e9 : ¬ ((pz_ch t j || j == a || j == b) && j != g) = true := (fun z => by rw [Bool.and_eq_true] at z; rw [if_pos z.1] at hs; omega); rw [if_neg e9] at h3; exact h3 _)
      refine ax_iload (q := 8) B d_R_changedWith_6 rfl rfl ?_
      refine ax_bipush (v := nI 8) (q := 10) B d_R_changedWith_8 cb_8 rfl ?_
      refine ax_icmpN_ge (q := 70) (q2 := 13) B (by omega) (by omega) d_R_changedWith_10 rfl rfl (fun h10 => ?_) (fun h10 => ?_)
      · omega
      · refine ax_aload_n (q := 14) B d_R_changedWith_13 rfl rfl rfl ?_
        refine ax_getP (q := 17) B fl_R_22 rfl d_R_changedWith_14 (by assumption) (by assumption) rfl ?_
        refine ax_iload (q := 19) B d_R_changedWith_17 rfl rfl ?_
        refine ax_zaldN (q := 20) B d_R_changedWith_19 (by assumption) rfl (by omega) (by omega) (by first | assumption | rfl) rfl ?_
        refine ax_ifZ_ne (q := 35) (q2 := 23) B d_R_changedWith_20 rfl rfl (fun h20 => ?_) (fun h20 => ?_)
        · refine ax_iconst (v := nI 1) (q := 36) B d_R_changedWith_35 ci_1 rfl ?_
          refine ax_goto (q := 40) B d_R_changedWith_36 rfl ?_
          first | exact tail 1 (by rw [h20]; rfl) | exact tail 1 (by rw [(eI_eq (by omega) ha).mp h26]; simp) | exact tail 1 (by rw [(eI_eq (by omega) hb).mp h32]; simp) | exact tail 0 (by rw [h20, pz_beq_ne (fun z => h26 ((eI_eq (by omega) ha).mpr z)), pz_beq_ne (fun z => h32 ((eI_eq (by omega) hb).mpr z))]; rfl)
        · refine ax_iload (q := 25) B d_R_changedWith_23 rfl rfl ?_
          refine ax_iload_n (q := 26) B d_R_changedWith_25 rfl rfl rfl ?_
          refine ax_icmp_eq (q := 35) (q2 := 29) B d_R_changedWith_26 rfl rfl (fun h26 => ?_) (fun h26 => ?_)
          · refine ax_iconst (v := nI 1) (q := 36) B d_R_changedWith_35 ci_1 rfl ?_
            refine ax_goto (q := 40) B d_R_changedWith_36 rfl ?_
            first | exact tail 1 (by rw [h20]; rfl) | exact tail 1 (by rw [(eI_eq (by omega) ha).mp h26]; simp) | exact tail 1 (by rw [(eI_eq (by omega) hb).mp h32]; simp) | exact tail 0 (by rw [h20, pz_beq_ne (fun z => h26 ((eI_eq (by omega) ha).mpr z)), pz_beq_ne (fun z => h32 ((eI_eq (by omega) hb).mpr z))]; rfl)
          · refine ax_iload (q := 31) B d_R_changedWith_29 rfl rfl ?_
            refine ax_iload_n (q := 32) B d_R_changedWith_31 rfl rfl rfl ?_
            refine ax_icmp_ne (q := 39) (q2 := 35) B d_R_changedWith_32 rfl rfl (fun h32 => ?_) (fun h32 => ?_)
            · refine ax_iconst (v := nI 0) (q := 40) B d_R_changedWith_39 ci_0 rfl ?_
              first | exact tail 1 (by rw [h20]; rfl) | exact tail 1 (by rw [(eI_eq (by omega) ha).mp h26]; simp) | exact tail 1 (by rw [(eI_eq (by omega) hb).mp h32]; simp) | exact tail 0 (by rw [h20, pz_beq_ne (fun z => h26 ((eI_eq (by omega) ha).mpr z)), pz_beq_ne (fun z => h32 ((eI_eq (by omega) hb).mpr z))]; rfl)
            · refine ax_iconst (v := nI 1) (q := 36) B d_R_changedWith_35 ci_1 rfl ?_
              refine ax_goto (q := 40) B d_R_changedWith_36 rfl ?_
              first | exact tail 1 (by rw [h20]; rfl) | exact tail 1 (by rw [(eI_eq (by omega) ha).mp h26]; simp) | exact tail 1 (by rw [(eI_eq (by omega) hb).mp h32]; simp) | exact tail 0 (by rw [h20, pz_beq_ne (fun z => h26 ((eI_eq (by omega) ha).mpr z)), pz_beq_ne (fun z => h32 ((eI_eq (by omega) hb).mpr z))]; rfl)
  refine ax_iconst (v := nI 0) (q := 1) B d_R_changedWith_0 ci_0 rfl ?_
  refine ax_istore (q := 3) B d_R_changedWith_1 (by decide) rfl ?_
  refine ax_iconst (v := nI 0) (q := 4) B d_R_changedWith_3 ci_0 rfl ?_
  refine ax_istore (q := 6) B d_R_changedWith_4 (by decide) rfl ?_
  exact loop 8 0 none rfl
theorem r_tooFew {l : Launch} {G : aw_G} (hG : gr G) {h : aw_H} {n k m c : Nat} (e1 : h 40 1 = nI n) (e2 : h 40 2 = nI k) (hn : n ≤ 128) (hk : k ≤ n) (hm : m ≤ 1) (hc : c ≤ 100) : aw_I l G 0 Y_R_tooFew [.inl (some 40), .inr (nI m), .inr (nI c)] h (.inr (bI (decide (n < k + m + c + 1)))) := by
  refine aw_met hG.1.1 (by decide) (Nat.le_of_ble_eq_true rfl) (fun M hM B E => ?_)
  show aw_X M G 3 0 [some (.inl (some 40)), some (.inr (nI m)), some (.inr (nI c))] [] h
  have i40 := hG.i40
  have hl := lt_full (u := n - k) (a := m) (v := c + 1) (by omega) (by omega) (by omega)
  refine ax_aload_n (q := 1) B d_R_tooFew_0 rfl rfl rfl ?_
  refine ax_getN (q := 4) B fl_R_44 rfl d_R_tooFew_1 (by assumption) (by first | assumption | rfl) rfl ?_
  refine ax_aload_n (q := 5) B d_R_tooFew_4 rfl rfl rfl ?_
  refine ax_getN (q := 8) B fl_R_66 rfl d_R_tooFew_5 (by assumption) (by first | assumption | rfl) rfl ?_
  refine ax_isubN (q := 9) B (by omega) d_R_tooFew_8 rfl ?_
  refine ax_iload_n (q := 10) B d_R_tooFew_9 rfl rfl rfl ?_
  refine ax_isub (q := 11) B d_R_tooFew_10 rfl ?_
  refine ax_iload_n (q := 12) B d_R_tooFew_11 rfl rfl rfl ?_
  refine ax_iconst (v := nI 1) (q := 13) B d_R_tooFew_12 ci_1 rfl ?_
  first | refine ax_iaddN (q := 14) B d_R_tooFew_13 rfl ?_ | refine ax_iadd (q := 14) B d_R_tooFew_13 rfl ?_
  refine ax_icmp_ge (q := 21) (q2 := 17) B d_R_tooFew_14 rfl rfl (fun h14 => ?_) (fun h14 => ?_)
  · refine ax_iconst (v := nI 0) (q := 22) B d_R_tooFew_21 ci_0 rfl ?_
    refine ax_zret B E (by first | exact bI_or _ | decide) d_R_tooFew_22 ?_
    first | exact ⟨by rw [decide_eq_true (show n < k + m + c + 1 by have h9 := hl.mp (i32_lt h14); omega)]; rfl, rfl⟩ | exact ⟨by rw [decide_eq_false (fun z => i32_nlt h14 (hl.mpr (by omega)))]; rfl, rfl⟩
  · refine ax_iconst (v := nI 1) (q := 18) B d_R_tooFew_17 ci_1 rfl ?_
    refine ax_goto (q := 22) B d_R_tooFew_18 rfl ?_
    refine ax_zret B E (by first | exact bI_or _ | decide) d_R_tooFew_22 ?_
    first | exact ⟨by rw [decide_eq_true (show n < k + m + c + 1 by have h9 := hl.mp (i32_lt h14); omega)]; rfl, rfl⟩ | exact ⟨by rw [decide_eq_false (fun z => i32_nlt h14 (hl.mpr (by omega)))]; rfl, rfl⟩
-- who is below whom, as the reference finds it
def pz_bi (t : pz_T) (n : Nat) (bl : Nat → Bool) : Nat → Nat → Bool | 0 => bl | s + 1 => pz_up (pz_bi t n bl s) (pz_it t n s % 16) true
def pz_bn (t : pz_T) (bl : Nat → Bool) (n : Nat) : Nat → Bool := if bl n = true ∧ pz_kd t n = 1 then pz_bi t n bl (pz_ct t n) else bl
def pz_br (t : pz_T) (bl : Nat → Bool) : Nat → Nat → Bool | 0 => bl | n + 1 => pz_bn t (pz_br t bl n) n
def pz_brr (t : pz_T) (bl : Nat → Bool) : Nat → Nat → Bool | 0 => bl | r + 1 => pz_br t (pz_brr t bl r) 8
theorem pz_bi_keep {t : pz_T} {n : Nat} {bl : Nat → Bool} {c : Nat} (h : bl c = true) : ∀ s, pz_bi t n bl s c = true
  | 0 => h
  | s + 1 => by
    show pz_up (pz_bi t n bl s) (pz_it t n s % 16) true c = true
    by_cases hc : c = pz_it t n s % 16
    · rw [hc, pz_up_s]
    · rw [pz_up_n hc]; exact pz_bi_keep h s
theorem r_isBelow {l : Launch} {G : aw_G} (hG : gr G) {h : aw_H} {t : pz_T} (hT : rt t h) (hit : ∀ n, n < 8 → pz_kd t n = 1 → ∀ s, s < pz_ct t n → pz_it t n s % 16 < 8) {c x : Nat} (hc : c < 8) (hx : x < 8) : aw_F l G 0 Y_R_isBelow [.inl (some 40), .inr (nI c), .inr (nI x)] h (fun v h' => v = .inr (bI (pz_brr t (fun n => n == x) 8 c)) ∧ ∀ q, q ≠ 51 → h' q = h q) := by
  refine aw_met hG.1.1 (by decide) (Nat.le_of_ble_eq_true rfl) (fun M hM B E => ?_)
  show aw_X M G 6 0 [some (.inl (some 40)), some (.inr (nI c)), some (.inr (nI x)), none, none, none] [] h
  have i40 := hG.i40
  have a42 := hG.a42
  have a43 := hG.a43
  have a44 := hG.a44
  have a51 := hG.a51
  have r5 : aw_rM 40 5 = some 42 := rfl
  have r6 : aw_rM 40 6 = some 43 := rfl
  have r7 : aw_rM 40 7 = some 44 := rfl
  have r14 : aw_rM 40 14 = some 51 := rfl
  have rounds : ∀ m r (f : aw_H) (u4 u5 : Option aw_V), r + m = 8 → (∀ i, i < 8 → f 51 i = bI (pz_brr t (fun n => n == x) r i)) → (∀ q, q ≠ 51 → f q = h q) → aw_X M G 6 32 [some (.inl (some 40)), some (.inr (nI c)), some (.inr (nI x)), some (.inr (nI r)), u4, u5] [] f := by
    intro m
    induction m with
    | zero =>
      intro r f u4 u5 hr g1 g2
      have hr : r = 8 := by omega
      subst hr
      have gc := g1 c hc
      generalize pz_brr t (fun n => n == x) 8 c = y at E gc
      refine ax_iload_n (q := 33) B d_R_isBelow_32 rfl rfl rfl ?_
      refine ax_bipush (v := nI 8) (q := 35) B d_R_isBelow_33 cb_8 rfl ?_
      refine ax_icmpN_ge (q := 124) (q2 := 38) B (by omega) (by omega) d_R_isBelow_35 rfl rfl (fun h35 => ?_) (fun h35 => ?_)
      · refine ax_aload_n (q := 125) B d_R_isBelow_124 rfl rfl rfl ?_
        refine ax_getP (q := 128) B fl_R_41 rfl d_R_isBelow_125 (by assumption) (by assumption) rfl ?_
        refine ax_iload_n (q := 129) B d_R_isBelow_128 rfl rfl rfl ?_
        refine ax_zaldN (q := 130) B d_R_isBelow_129 (by assumption) rfl (by omega) (by omega) (by first | assumption | rfl) rfl ?_
        refine ax_zret B E (by first | exact bI_or _ | decide) d_R_isBelow_130 ?_
        exact ⟨_, rfl, rfl, g2⟩
      · omega
    | succ m ih =>
      intro r f u4 u5 hr g1 g2
      generalize hbl : pz_brr t (fun n => n == x) r = bl at g1
      have nodes : ∀ m2 n (f2 : aw_H) (u5 : Option aw_V), n + m2 = 8 → (∀ i, i < 8 → f2 51 i = bI (pz_br t bl n i)) → (∀ q, q ≠ 51 → f2 q = h q) → aw_X M G 6 41 [some (.inl (some 40)), some (.inr (nI c)), some (.inr (nI x)), some (.inr (nI r)), some (.inr (nI n)), u5] [] f2 := by
        intro m2
        induction m2 with
        | zero =>
          intro n f2 u5 hn k1 k2
          have hn : n = 8 := by omega
          subst hn
          refine ax_iload (q := 43) B d_R_isBelow_41 rfl rfl ?_
          refine ax_bipush (v := nI 8) (q := 45) B d_R_isBelow_43 cb_8 rfl ?_
          refine ax_icmpN_ge (q := 118) (q2 := 48) B (by omega) (by omega) d_R_isBelow_45 rfl rfl (fun h45 => ?_) (fun h45 => ?_)
          · refine ax_iincN (j := 1) (q := 121) B d_R_isBelow_118 rfl ii_1 (by decide) rfl ?_
            refine ax_goto (q := 32) B d_R_isBelow_121 rfl ?_
            exact ih (r + 1) f2 _ _ (by omega) (fun i hi => by rw [k1 i hi]; show _ = bI (pz_br t (pz_brr t (fun n => n == x) r) 8 i); rw [hbl]) k2
          · omega
        | succ m2 ih2 =>
          intro n f2 u5 hn k1 k2
          have next : ∀ (f3 : aw_H) (u : Option aw_V), (∀ i, i < 8 → f3 51 i = bI (pz_br t bl (n + 1) i)) → (∀ q, q ≠ 51 → f3 q = h q) → aw_X M G 6 112 [some (.inl (some 40)), some (.inr (nI c)), some (.inr (nI x)), some (.inr (nI r)), some (.inr (nI n)), u] [] f3 := by
            intro f3 u k3 k4
            refine ax_iincN (j := 1) (q := 115) B d_R_isBelow_112 rfl ii_1 (by decide) rfl ?_
            refine ax_goto (q := 41) B d_R_isBelow_115 rfl ?_
            exact ih2 (n + 1) f3 u (by omega) k3 k4
          have hbr : pz_br t bl (n + 1) = if pz_br t bl n n = true ∧ pz_kd t n = 1 then pz_bi t n (pz_br t bl n) (pz_ct t n) else pz_br t bl n := rfl
          rw [hbr] at next
          generalize pz_br t bl n = b0 at k1 next
          obtain ⟨e2, e3, -, lk, lc, hI, -⟩ := hT n (by omega)
          by_cases hcond : b0 n = true ∧ pz_kd t n = 1
          · rw [if_pos hcond] at next
            have inner : ∀ m3 s (f3 : aw_H), s + m3 = pz_ct t n → (∀ i, i < 8 → f3 51 i = bI (pz_bi t n b0 s i)) → (∀ q, q ≠ 51 → f3 q = h q) → aw_X M G 6 51 [some (.inl (some 40)), some (.inr (nI c)), some (.inr (nI x)), some (.inr (nI r)), some (.inr (nI n)), some (.inr (nI s))] [] f3 := by
              intro m3
              induction m3 with
              | zero =>
                intro s f3 hs k3 k4
                have f3c : f3 43 n = nI (pz_ct t n) := by rw [k4 43 (by omega)]; exact e3
                have hs : s = pz_ct t n := by omega
                subst hs
                refine ax_iload (q := 53) B d_R_isBelow_51 rfl rfl ?_
                refine ax_aload_n (q := 54) B d_R_isBelow_53 rfl rfl rfl ?_
                refine ax_getP (q := 57) B fl_R_16 rfl d_R_isBelow_54 (by assumption) (by assumption) rfl ?_
                refine ax_iload (q := 59) B d_R_isBelow_57 rfl rfl ?_
                refine ax_ialdN (q := 60) B d_R_isBelow_59 (by assumption) rfl (by omega) (by omega) (by first | assumption | rfl) rfl ?_
                refine ax_icmpN_ge (q := 112) (q2 := 63) B (by omega) (by omega) d_R_isBelow_60 rfl rfl (fun h60 => ?_) (fun h60 => ?_)
                · exact next f3 _ k3 k4
                · omega
              | succ m3 ih3 =>
                intro s f3 hs k3 k4
                have f3c : f3 43 n = nI (pz_ct t n) := by rw [k4 43 (by omega)]; exact e3
                have f3k : f3 42 n = nI (pz_kd t n) := by rw [k4 42 (by omega)]; exact e2
                have f3b : f3 51 n = bI true := by rw [k3 n (by omega), pz_bi_keep hcond.1]
                obtain ⟨es, ls⟩ := hI s (by omega)
                have f3i : f3 44 (10 * n + s) = nI (pz_it t n s) := by rw [k4 44 (by omega)]; exact es
                have hm8 := hit n (by omega) hcond.2 s (by omega)
                have hlk := hcond.2
                refine ax_iload (q := 53) B d_R_isBelow_51 rfl rfl ?_
                refine ax_aload_n (q := 54) B d_R_isBelow_53 rfl rfl rfl ?_
                refine ax_getP (q := 57) B fl_R_16 rfl d_R_isBelow_54 (by assumption) (by assumption) rfl ?_
                refine ax_iload (q := 59) B d_R_isBelow_57 rfl rfl ?_
                refine ax_ialdN (q := 60) B d_R_isBelow_59 (by assumption) rfl (by omega) (by omega) (by first | assumption | rfl) rfl ?_
                refine ax_icmpN_ge (q := 112) (q2 := 63) B (by omega) (by omega) d_R_isBelow_60 rfl rfl (fun h60 => ?_) (fun h60 => ?_)
                · first | (exfalso; omega) | (cases h70; done)
                · refine ax_aload_n (q := 64) B d_R_isBelow_63 rfl rfl rfl ?_
                  refine ax_getP (q := 67) B fl_R_41 rfl d_R_isBelow_64 (by assumption) (by assumption) rfl ?_
                  refine ax_iload (q := 69) B d_R_isBelow_67 rfl rfl ?_
                  refine ax_zaldN (q := 70) B d_R_isBelow_69 (by assumption) rfl (by omega) (by omega) (by first | assumption | rfl) rfl ?_
                  refine ax_ifZ_eq (q := 112) (q2 := 73) B d_R_isBelow_70 rfl rfl (fun h70 => ?_) (fun h70 => ?_)
                  · first | (exfalso; omega) | (cases h70; done)
                  · refine ax_aload_n (q := 74) B d_R_isBelow_73 rfl rfl rfl ?_
                    refine ax_getP (q := 77) B fl_R_13 rfl d_R_isBelow_74 (by assumption) (by assumption) rfl ?_
                    refine ax_iload (q := 79) B d_R_isBelow_77 rfl rfl ?_
                    refine ax_ialdN (q := 80) B d_R_isBelow_79 (by assumption) rfl (by omega) (by omega) (by first | assumption | rfl) rfl ?_
                    refine ax_iconst (v := nI 1) (q := 81) B d_R_isBelow_80 ci_1 rfl ?_
                    refine ax_icmpN_ne (q := 112) (q2 := 84) B (by omega) (by omega) d_R_isBelow_81 rfl rfl (fun h81 => ?_) (fun h81 => ?_)
                    · first | (exfalso; omega) | (cases h70; done)
                    · refine ax_aload_n (q := 85) B d_R_isBelow_84 rfl rfl rfl ?_
                      refine ax_getP (q := 88) B fl_R_41 rfl d_R_isBelow_85 (by assumption) (by assumption) rfl ?_
                      refine ax_aload_n (q := 89) B d_R_isBelow_88 rfl rfl rfl ?_
                      refine ax_getP (q := 92) B fl_R_19 rfl d_R_isBelow_89 (by assumption) (by assumption) rfl ?_
                      refine ax_bipush (v := nI 10) (q := 94) B d_R_isBelow_92 cb_10 rfl ?_
                      refine ax_iload (q := 96) B d_R_isBelow_94 rfl rfl ?_
                      first | refine ax_imulN (q := 97) B d_R_isBelow_96 rfl ?_ | refine ax_imul (q := 97) B d_R_isBelow_96 rfl ?_
                      refine ax_iload (q := 99) B d_R_isBelow_97 rfl rfl ?_
                      first | refine ax_iaddN (q := 100) B d_R_isBelow_99 rfl ?_ | refine ax_iadd (q := 100) B d_R_isBelow_99 rfl ?_
                      refine ax_ialdN (q := 101) B d_R_isBelow_100 (by assumption) rfl (by omega) (by omega) (by first | assumption | rfl) rfl ?_
                      refine ax_bipush (v := nI 16) (q := 103) B d_R_isBelow_101 cb_16 rfl ?_
                      refine ax_iremN (q := 104) B (by omega) (by omega) (by omega) d_R_isBelow_103 rfl ?_
                      refine ax_iconst (v := nI 1) (q := 105) B d_R_isBelow_104 ci_1 rfl ?_
                      refine ax_zastN (q := 106) B d_R_isBelow_105 (by assumption) rfl (by omega) (by omega) (by first | exact bI_or _ | decide) rfl ?_
                      refine ax_iincN (j := 1) (q := 109) B d_R_isBelow_106 rfl ii_1 (by decide) rfl ?_
                      refine ax_goto (q := 51) B d_R_isBelow_109 rfl ?_
                      refine ih3 (s + 1) _ (by omega) (fun i hi => ?_) (fun q hq => (aw_u_ne hq).trans (k4 q hq))
                      show _ = bI (pz_up (pz_bi t n b0 s) (pz_it t n s % 16) true i)
                      by_cases hij : i = pz_it t n s % 16
                      · rw [hij, pz_up_s]; exact aw_rs
                      · rw [pz_up_n hij]; exact aw_rd (by omega) (k3 i hi)
            refine ax_iload (q := 43) B d_R_isBelow_41 rfl rfl ?_
            refine ax_bipush (v := nI 8) (q := 45) B d_R_isBelow_43 cb_8 rfl ?_
            refine ax_icmpN_ge (q := 118) (q2 := 48) B (by omega) (by omega) d_R_isBelow_45 rfl rfl (fun h45 => ?_) (fun h45 => ?_)
            · omega
            · refine ax_iconst (v := nI 0) (q := 49) B d_R_isBelow_48 ci_0 rfl ?_
              refine ax_istore (q := 51) B d_R_isBelow_49 (by decide) rfl ?_
              exact inner (pz_ct t n) 0 f2 (by omega) k1 k2
          · rw [if_neg hcond] at next
            have f2c : f2 43 n = nI (pz_ct t n) := by rw [k2 43 (by omega)]; exact e3
            have f2k : f2 42 n = nI (pz_kd t n) := by rw [k2 42 (by omega)]; exact e2
            have f2b := k1 n (by omega)
            refine ax_iload (q := 43) B d_R_isBelow_41 rfl rfl ?_
            refine ax_bipush (v := nI 8) (q := 45) B d_R_isBelow_43 cb_8 rfl ?_
            refine ax_icmpN_ge (q := 118) (q2 := 48) B (by omega) (by omega) d_R_isBelow_45 rfl rfl (fun h45 => ?_) (fun h45 => ?_)
            · omega
            · refine ax_iconst (v := nI 0) (q := 49) B d_R_isBelow_48 ci_0 rfl ?_
              refine ax_istore (q := 51) B d_R_isBelow_49 (by decide) rfl ?_
              refine ax_iload (q := 53) B d_R_isBelow_51 rfl rfl ?_
              refine ax_aload_n (q := 54) B d_R_isBelow_53 rfl rfl rfl ?_
              refine ax_getP (q := 57) B fl_R_16 rfl d_R_isBelow_54 (by assumption) (by assumption) rfl ?_
              refine ax_iload (q := 59) B d_R_isBelow_57 rfl rfl ?_
              refine ax_ialdN (q := 60) B d_R_isBelow_59 (by assumption) rfl (by omega) (by omega) (by first | assumption | rfl) rfl ?_
              refine ax_icmpN_ge (q := 112) (q2 := 63) B (by omega) (by omega) d_R_isBelow_60 rfl rfl (fun h60 => ?_) (fun h60 => ?_)
              · exact next f2 _ k1 k2
              · refine ax_aload_n (q := 64) B d_R_isBelow_63 rfl rfl rfl ?_
                refine ax_getP (q := 67) B fl_R_41 rfl d_R_isBelow_64 (by assumption) (by assumption) rfl ?_
                refine ax_iload (q := 69) B d_R_isBelow_67 rfl rfl ?_
                refine ax_zaldN (q := 70) B d_R_isBelow_69 (by assumption) rfl (by omega) (by omega) (by first | assumption | rfl) rfl ?_
                refine ax_ifZ_eq (q := 112) (q2 := 73) B d_R_isBelow_70 rfl rfl (fun h70 => ?_) (fun h70 => ?_)
                · exact next f2 _ k1 k2
                · refine ax_aload_n (q := 74) B d_R_isBelow_73 rfl rfl rfl ?_
                  refine ax_getP (q := 77) B fl_R_13 rfl d_R_isBelow_74 (by assumption) (by assumption) rfl ?_
                  refine ax_iload (q := 79) B d_R_isBelow_77 rfl rfl ?_
                  refine ax_ialdN (q := 80) B d_R_isBelow_79 (by assumption) rfl (by omega) (by omega) (by first | assumption | rfl) rfl ?_
                  refine ax_iconst (v := nI 1) (q := 81) B d_R_isBelow_80 ci_1 rfl ?_
                  refine ax_icmpN_ne (q := 112) (q2 := 84) B (by omega) (by omega) d_R_isBelow_81 rfl rfl (fun h81 => ?_) (fun h81 => ?_)
                  · exact next f2 _ k1 k2
                  · exact absurd ⟨h70, h81⟩ hcond
      refine ax_iload_n (q := 33) B d_R_isBelow_32 rfl rfl rfl ?_
      refine ax_bipush (v := nI 8) (q := 35) B d_R_isBelow_33 cb_8 rfl ?_
      refine ax_icmpN_ge (q := 124) (q2 := 38) B (by omega) (by omega) d_R_isBelow_35 rfl rfl (fun h35 => ?_) (fun h35 => ?_)
      · omega
      · refine ax_iconst (v := nI 0) (q := 39) B d_R_isBelow_38 ci_0 rfl ?_
        refine ax_istore (q := 41) B d_R_isBelow_39 (by decide) rfl ?_
        exact nodes 8 0 f _ rfl g1 g2
  have first : ∀ m j (f : aw_H), j + m = 8 → (∀ i, i < j → f 51 i = bI (i == x)) → (∀ q, q ≠ 51 → f q = h q) → aw_X M G 6 2 [some (.inl (some 40)), some (.inr (nI c)), some (.inr (nI x)), some (.inr (nI j)), none, none] [] f := by
    intro m
    induction m with
    | zero =>
      intro j f hj g1 g2
      have hj : j = 8 := by omega
      subst hj
      refine ax_iload_n (q := 3) B d_R_isBelow_2 rfl rfl rfl ?_
      refine ax_bipush (v := nI 8) (q := 5) B d_R_isBelow_3 cb_8 rfl ?_
      refine ax_icmpN_ge (q := 30) (q2 := 8) B (by omega) (by omega) d_R_isBelow_5 rfl rfl (fun h5 => ?_) (fun h5 => ?_)
      · refine ax_iconst (v := nI 0) (q := 31) B d_R_isBelow_30 ci_0 rfl ?_
        refine ax_istore_n (q := 32) B d_R_isBelow_31 rfl (by decide) rfl ?_
        exact rounds 8 0 f none none rfl g1 g2
      · omega
    | succ m ih =>
      intro j f hj g1 g2
      have step : ∀ y : Nat, y ≤ 1 → nI y = bI (j == x) → aw_X M G 6 23 [some (.inl (some 40)), some (.inr (nI c)), some (.inr (nI x)), some (.inr (nI j)), none, none] [.inr (nI y), .inr (nI j), .inl (some 51)] f := by
        intro y hy hyb
        refine ax_zastN (q := 24) B d_R_isBelow_23 (by assumption) rfl (by omega) (by omega) (by rw [hyb]; exact bI_or _) rfl ?_
        refine ax_iincN (j := 1) (q := 27) B d_R_isBelow_24 rfl ii_1 (by decide) rfl ?_
        refine ax_goto (q := 2) B d_R_isBelow_27 rfl ?_
        refine ih (j + 1) _ (by omega) (fun i hi => ?_) (fun q hq => (aw_u_ne hq).trans (g2 q hq))
        by_cases hij : i = j
        · subst hij; rw [aw_rs, hyb]
        · exact aw_rd (by omega) (g1 i (by omega))
      refine ax_iload_n (q := 3) B d_R_isBelow_2 rfl rfl rfl ?_
      refine ax_bipush (v := nI 8) (q := 5) B d_R_isBelow_3 cb_8 rfl ?_
      refine ax_icmpN_ge (q := 30) (q2 := 8) B (by omega) (by omega) d_R_isBelow_5 rfl rfl (fun h5 => ?_) (fun h5 => ?_)
      · omega
      · refine ax_aload_n (q := 9) B d_R_isBelow_8 rfl rfl rfl ?_
        refine ax_getP (q := 12) B fl_R_41 rfl d_R_isBelow_9 (by assumption) (by assumption) rfl ?_
        refine ax_iload_n (q := 13) B d_R_isBelow_12 rfl rfl rfl ?_
        refine ax_iload_n (q := 14) B d_R_isBelow_13 rfl rfl rfl ?_
        refine ax_iload_n (q := 15) B d_R_isBelow_14 rfl rfl rfl ?_
        refine ax_icmpN_ne (q := 22) (q2 := 18) B (by omega) (by omega) d_R_isBelow_15 rfl rfl (fun h15 => ?_) (fun h15 => ?_)
        · refine ax_iconst (v := nI 0) (q := 23) B d_R_isBelow_22 ci_0 rfl ?_
          first | exact step 0 (by omega) (by rw [pz_beq_ne h15]; rfl) | exact step 1 (by omega) (by rw [h15, beq_self_eq_true]; rfl)
        · refine ax_iconst (v := nI 1) (q := 19) B d_R_isBelow_18 ci_1 rfl ?_
          refine ax_goto (q := 23) B d_R_isBelow_19 rfl ?_
          first | exact step 0 (by omega) (by rw [pz_beq_ne h15]; rfl) | exact step 1 (by omega) (by rw [h15, beq_self_eq_true]; rfl)
  refine ax_iconst (v := nI 0) (q := 1) B d_R_isBelow_0 ci_0 rfl ?_
  refine ax_istore_n (q := 2) B d_R_isBelow_1 rfl (by decide) rfl ?_
  exact first 8 0 h rfl (fun i hi => absurd hi (by omega)) (fun q _ => rfl)
end
section
/- the two ways to find who is below whom agree -/
theorem pz_php : ∀ (n : Nat) (f : Nat → Nat), (∀ i, i ≤ n → f i < n) → ∃ a b, a < b ∧ b ≤ n ∧ f a = f b
  | 0, f, h => absurd (h 0 (Nat.le_refl 0)) (by omega)
  | n + 1, f, h => by
    by_cases hx : ∃ a, a ≤ n ∧ f a = f (n + 1)
    · obtain ⟨a, h1, h2⟩ := hx
      exact ⟨a, n + 1, by omega, by omega, h2⟩
    · have hx : ∀ a, a ≤ n → f a ≠ f (n + 1) := fun a h1 h2 => hx ⟨a, h1, h2⟩
      obtain ⟨a, b, h1, h2, h3⟩ := pz_php n (fun i => if f i = n then f (n + 1) else f i) (fun i hi => by
        show (if f i = n then f (n + 1) else f i) < n
        by_cases hn : f i = n
        · rw [if_pos hn]
          have := h (n + 1) (by omega)
          have := hx i hi
          omega
        · rw [if_neg hn]
          have := h i (by omega)
          omega)
      refine ⟨a, b, h1, by omega, ?_⟩
      have h3 : (if f a = n then f (n + 1) else f a) = (if f b = n then f (n + 1) else f b) := h3
      by_cases ha : f a = n
      · by_cases hb : f b = n
        · rw [ha, hb]
        · rw [if_pos ha, if_neg hb] at h3
          exact absurd h3.symm (hx b h2)
      · by_cases hb : f b = n
        · rw [if_neg ha, if_pos hb] at h3
          exact absurd h3 (hx a (by omega))
        · rw [if_neg ha, if_neg hb] at h3
          exact h3
theorem pz_hd_iff {f : Nat → Nat} {c : Nat} : ∀ n, pz_hd f c n = true → ∃ s, s < n ∧ f s % 16 = c
  | 0, h => by cases h
  | n + 1, h => by
    have h : (pz_hd f c n || (f n % 16 == c)) = true := h
    rw [Bool.or_eq_true] at h
    rcases h with h | h
    · obtain ⟨s, h1, h2⟩ := pz_hd_iff n h
      exact ⟨s, by omega, h2⟩
    · exact ⟨n, by omega, beq_iff_eq.mp h⟩
theorem pz_hd_of {f : Nat → Nat} {c s : Nat} (hs : f s % 16 = c) {n : Nat} (h : s < n) : pz_hd f c n = true := by
  refine pz_hd_mono (j := s + 1) ?_ (by omega)
  show (pz_hd f c s || (f s % 16 == c)) = true
  rw [hs, beq_self_eq_true, Bool.or_true]
theorem pz_par_of {t : pz_T} {c i : Nat} : ∀ n, pz_par t c n = some i → pz_kd t i = 1 ∧ ∃ s, s < pz_ct t i ∧ pz_it t i s % 16 = c
  | 0, h => by cases h
  | n + 1, h => by
    cases hq : pz_par t c n with
    | some q =>
      have h2 := pz_par_m hq 1
      rw [h2] at h
      cases h
      exact pz_par_of n hq
    | none =>
      rw [pz_par_s hq] at h
      by_cases hv : pz_kd t n = 1 ∧ pz_hold t n c (pz_ct t n) = true
      · rw [if_pos hv] at h
        cases h
        exact ⟨hv.1, pz_hd_iff _ hv.2⟩
      · rw [if_neg hv] at h
        cases h
theorem pz_of_par {k : Nat} {t : pz_T} (hw : pz_wf k t) {n s c : Nat} (hn : n < 8) (h1 : pz_kd t n = 1) (hs : s < pz_ct t n) (hc : pz_it t n s % 16 = c) : pz_par t c 8 = some n := by
  have hsome : ∃ i, pz_par t c 8 = some i := by
    cases hq : pz_par t c (n + 1) with
    | some i =>
      have := pz_par_m hq (8 - (n + 1))
      rw [show n + 1 + (8 - (n + 1)) = 8 by omega] at this
      exact ⟨i, this⟩
    | none =>
      cases hq2 : pz_par t c n with
      | some i => rw [pz_par_m hq2 1] at hq; cases hq
      | none =>
        rw [pz_par_s hq2, if_pos ⟨h1, pz_hd_of hc hs⟩] at hq
        cases hq
  obtain ⟨i, hi⟩ := hsome
  obtain ⟨g1, s', g2, g3⟩ := pz_par_of 8 hi
  have hi8 := pz_par_lt 8 hi
  have := (hw.2.2.2.2.2.1 n s i s' hn hi8 h1 g1 hs g2 (by rw [hc, g3])).1
  rw [hi, this]
theorem pz_anc_1 {t : pz_T} {c n : Nat} (h : pz_par t c 8 = some n) : ∀ j, pz_anc t c (j + 1) = pz_anc t n j
  | 0 => by
    show (some c).bind (fun x => pz_par t x 8) = some n
    exact h
  | j + 1 => by
    show (pz_anc t c (j + 1)).bind (fun x => pz_par t x 8) = (pz_anc t n j).bind (fun x => pz_par t x 8)
    rw [pz_anc_1 h j]
theorem pz_anc_0 {t : pz_T} {c x : Nat} : ∀ j, pz_anc t c (j + 1) = some x → ∃ n, pz_par t c 8 = some n ∧ pz_anc t n j = some x := by
  intro j h
  cases hp : pz_par t c 8 with
  | some n => exact ⟨n, rfl, by rw [← pz_anc_1 hp]; exact h⟩
  | none =>
    have h1 : pz_anc t c 1 = none := hp
    have := pz_anc_none h1 j
    rw [Nat.add_comm 1 j, h] at this
    cases this
theorem pz_anc_add {t : pz_T} {c d : Nat} {a : Nat} (h : pz_anc t c a = some d) : ∀ m, pz_anc t c (a + m) = pz_anc t d m
  | 0 => h
  | m + 1 => by
    show (pz_anc t c (a + m)).bind (fun x => pz_par t x 8) = (pz_anc t d m).bind (fun x => pz_par t x 8)
    rw [pz_anc_add h m]
theorem pz_anc_lt {t : pz_T} {c : Nat} (hc : c < 8) : ∀ j x, pz_anc t c j = some x → x < 8
  | 0, x, h => by cases h; exact hc
  | j + 1, x, h => by
    cases hq : pz_anc t c j with
    | none =>
      have h : (pz_anc t c j).bind (fun x => pz_par t x 8) = some x := h
      rw [hq] at h
      cases h
    | some d =>
      have h : (pz_anc t c j).bind (fun x => pz_par t x 8) = some x := h
      rw [hq] at h
      exact pz_par_lt 8 h
/-- an ancestor is found within seven steps -/
theorem pz_anc_short {t : pz_T} {c x : Nat} (hc : c < 8) : ∀ j, pz_anc t c j = some x → ∃ i, i < 8 ∧ pz_anc t c i = some x := by
  intro j
  induction j using Nat.strongRecOn with
  | _ j ih =>
    intro h
    by_cases hj : j < 8
    · exact ⟨j, hj, h⟩
    · have hall : ∀ i, i ≤ 8 → ∃ d, pz_anc t c i = some d := fun i hi => by
        cases hq : pz_anc t c i with
        | some d => exact ⟨d, rfl⟩
        | none =>
          have := pz_anc_none hq (j - i)
          rw [show i + (j - i) = j by omega, h] at this
          cases this
      obtain ⟨a, b, h1, h2, h3⟩ := pz_php 8 (fun i => (pz_anc t c i).getD 0) (fun i hi => by
        obtain ⟨d, hd⟩ := hall i hi
        show (pz_anc t c i).getD 0 < 8
        rw [hd]
        exact pz_anc_lt hc i d hd)
      obtain ⟨d, hd⟩ := hall a (by omega)
      obtain ⟨e, he⟩ := hall b h2
      have h3 : (pz_anc t c a).getD 0 = (pz_anc t c b).getD 0 := h3
      rw [hd, he] at h3
      have h3 : d = e := h3
      subst h3
      refine ih (a + (j - b)) (by omega) ?_
      rw [pz_anc_add hd (j - b), ← pz_anc_add he (j - b), show b + (j - b) = j by omega]
      exact h
theorem pz_below_iff {t : pz_T} {c x : Nat} : ∀ k, pz_below t c x k = true ↔ ∃ j, j < k ∧ pz_anc t c j = some x
  | 0 => ⟨fun h => (by cases h), fun ⟨j, h, _⟩ => (by omega)⟩
  | k + 1 => by
    have ih := pz_below_iff (t := t) (c := c) (x := x) k
    show (pz_below t c x k || (pz_anc t c k == some x)) = true ↔ _
    rw [Bool.or_eq_true, ih, beq_iff_eq]
    constructor
    · intro h
      rcases h with ⟨j, h1, h2⟩ | h
      · exact ⟨j, by omega, h2⟩
      · exact ⟨k, by omega, h⟩
    · intro ⟨j, h1, h2⟩
      by_cases hj : j = k
      · subst hj; exact Or.inr h2
      · exact Or.inl ⟨j, by omega, h2⟩
theorem pz_bi_iff {t : pz_T} {n : Nat} {bl : Nat → Bool} {c : Nat} : ∀ s, pz_bi t n bl s c = true ↔ bl c = true ∨ ∃ i, i < s ∧ pz_it t n i % 16 = c
  | 0 => ⟨fun h => Or.inl h, fun h => by
      rcases h with h | ⟨i, h, _⟩
      · exact h
      · omega⟩
  | s + 1 => by
    have ih := pz_bi_iff (t := t) (n := n) (bl := bl) (c := c) s
    show pz_up (pz_bi t n bl s) (pz_it t n s % 16) true c = true ↔ _
    by_cases hc : c = pz_it t n s % 16
    · subst hc
      rw [pz_up_s]
      exact ⟨fun _ => Or.inr ⟨s, by omega, rfl⟩, fun _ => rfl⟩
    · rw [pz_up_n hc, ih]
      constructor
      · intro h
        rcases h with h | ⟨i, h1, h2⟩
        · exact Or.inl h
        · exact Or.inr ⟨i, by omega, h2⟩
      · intro h
        rcases h with h | ⟨i, h1, h2⟩
        · exact Or.inl h
        · refine Or.inr ⟨i, ?_, h2⟩
          by_cases his : i = s
          · subst his; exact absurd h2.symm hc
          · omega
theorem pz_bn_keep {t : pz_T} {bl : Nat → Bool} {n c : Nat} (h : bl c = true) : pz_bn t bl n c = true := by
  unfold pz_bn
  split
  · exact pz_bi_keep h _
  · exact h
theorem pz_br_keep {t : pz_T} {bl : Nat → Bool} {c a : Nat} (h : pz_br t bl a c = true) : ∀ m, pz_br t bl (a + m) c = true
  | 0 => h
  | m + 1 => pz_bn_keep (pz_br_keep h m)
theorem pz_below_eq {k : Nat} {t : pz_T} (hw : pz_wf k t) {c x : Nat} (hc : c < 8) (hx : x < 8) : pz_brr t (fun n => n == x) 8 c = pz_below t c x 8 := by
  -- what is marked is below
  have sbn : ∀ (bl : Nat → Bool), (∀ d, bl d = true → ∃ j, pz_anc t d j = some x) → ∀ n, n < 8 → ∀ d, pz_bn t bl n d = true → ∃ j, pz_anc t d j = some x := by
    intro bl hb n hn d hd
    unfold pz_bn at hd
    by_cases hcond : bl n = true ∧ pz_kd t n = 1
    · rw [if_pos hcond, pz_bi_iff] at hd
      rcases hd with hd | ⟨i, h1, h2⟩
      · exact hb d hd
      · obtain ⟨j, hj⟩ := hb n hcond.1
        exact ⟨j + 1, by rw [pz_anc_1 (pz_of_par hw hn hcond.2 h1 h2)]; exact hj⟩
    · rw [if_neg hcond] at hd
      exact hb d hd
  have sbr : ∀ (bl : Nat → Bool), (∀ d, bl d = true → ∃ j, pz_anc t d j = some x) → ∀ n, n ≤ 8 → ∀ d, pz_br t bl n d = true → ∃ j, pz_anc t d j = some x := by
    intro bl hb n
    induction n with
    | zero => exact fun _ d hd => hb d hd
    | succ n ih => exact fun hn d hd => sbn _ (ih (by omega)) n (by omega) d hd
  have srr : ∀ r d, pz_brr t (fun n => n == x) r d = true → ∃ j, pz_anc t d j = some x := by
    intro r
    induction r with
    | zero => exact fun d hd => ⟨0, by rw [beq_iff_eq.mp hd]; rfl⟩
    | succ r ih => exact fun d hd => sbr _ ih 8 (Nat.le_refl 8) d hd
  -- what is below is marked
  have crr : ∀ r d, d < 8 → ∀ j, j ≤ r → pz_anc t d j = some x → pz_brr t (fun n => n == x) r d = true := by
    intro r
    induction r with
    | zero =>
      intro d hd j hj ha
      have : j = 0 := by omega
      subst this
      have ha : some d = some x := ha
      cases ha
      exact beq_self_eq_true _
    | succ r ih =>
      intro d hd j hj ha
      show pz_br t (pz_brr t (fun n => n == x) r) 8 d = true
      cases j with
      | zero =>
        have h1 := ih d hd 0 (by omega) ha
        have := pz_br_keep (t := t) (a := 0) (bl := pz_brr t (fun n => n == x) r) (c := d) h1 8
        rw [Nat.zero_add] at this
        exact this
      | succ j =>
        obtain ⟨n, hn, han⟩ := pz_anc_0 j ha
        have hn8 := pz_par_lt 8 hn
        obtain ⟨g1, s, g2, g3⟩ := pz_par_of 8 hn
        have h1 := ih n hn8 j (by omega) han
        have h2 := pz_br_keep (t := t) (a := 0) (bl := pz_brr t (fun n => n == x) r) (c := n) h1 n
        rw [Nat.zero_add] at h2
        have h3 : pz_br t (pz_brr t (fun n => n == x) r) (n + 1) d = true := by
          show pz_bn t (pz_br t (pz_brr t (fun n => n == x) r) n) n d = true
          unfold pz_bn
          rw [if_pos ⟨h2, g1⟩, pz_bi_iff]
          exact Or.inr ⟨s, g2, g3⟩
        have h4 := pz_br_keep h3 (8 - (n + 1))
        rw [show n + 1 + (8 - (n + 1)) = 8 by omega] at h4
        exact h4
  cases hb : pz_below t c x 8 with
  | true =>
    obtain ⟨j, h1, h2⟩ := (pz_below_iff 8).mp hb
    exact crr 8 c hc j (by omega) h2
  | false =>
    cases hr : pz_brr t (fun n => n == x) 8 c with
    | false => rfl
    | true =>
      obtain ⟨j, hj⟩ := srr 8 c hr
      obtain ⟨i, h1, h2⟩ := pz_anc_short hc j hj
      rw [(pz_below_iff 8).mpr ⟨i, h1, h2⟩] at hb
      cases hb
end
section
/-- the reference's medium -/
def rm_ (G : aw_G) (k sp : Nat) (h : aw_H) : Prop := h 40 1 = nI (aw_n G) ∧ h 40 2 = nI k ∧ k ≤ aw_n G ∧ sp ≤ 1001 ∧ h 40 3 = bI (decide (sp ≠ 0)) ∧ (sp ≠ 0 → h 40 4 = nI (sp - 1))
theorem rm_.kept {G : aw_G} {k sp : Nat} {h h' : aw_H} (hm : rm_ G k sp h) (e : h' 40 = h 40) : rm_ G k sp h' := by
  unfold rm_
  rw [e]
  exact hm
theorem rw_.kept {w : Nat → Nat} {h h' : aw_H} (hm : rw_ w h) (e : h' 41 = h 41) : rw_ w h' := by
  unfold rw_
  rw [e]
  exact hm
theorem rw_sec {w f : Nat → Nat} {h h' : aw_H} {k : Nat} {b : Bool} (hw : rw_ w h) (hf : ∀ i, i < 16 → f i < 65536) (h1 : ∀ x, x < 2048 → (x < 16 * k ∨ 16 * k + 16 ≤ x) → h' 41 x = h 41 x) (h2 : ∀ i, i < 16 → i ≠ 1 → h' 41 (16 * k + i) = nI (f i)) (h3 : h' 41 (16 * k + 1) = nI (if b = true then pz_chkN f 16 ^^^ 1 else pz_chkN f 16)) : rw_ (pz_sec w k f b) h' := by
  intro x hx
  by_cases hx1 : x = 16 * k + 1
  · subst hx1
    rw [h3, pz_sec_1]
    refine ⟨rfl, ?_⟩
    have hc := pz_chkN_lt f 16
    generalize pz_chkN f 16 = c at hc
    split
    · exact pz_xor_lt (j := 16) (by omega) (by omega)
    · exact hc
  · by_cases hx2 : x < 16 * k ∨ 16 * k + 16 ≤ x
    · have e : pz_sec w k f b x = w x := by
        rcases hx2 with h4 | h4
        · exact pz_sec_old h4
        · exact pz_sec_far h4
      rw [e, h1 x hx hx2]
      exact hw x hx
    · obtain ⟨i, hi⟩ : ∃ i, x = 16 * k + i := ⟨x - 16 * k, by omega⟩
      subst hi
      rw [pz_sec_new (by omega) (by omega), h2 i (by omega) (by omega)]
      exact ⟨rfl, hf i (by omega)⟩
set_option maxRecDepth 100000 in
theorem r_writeSector {l : Launch} {G : aw_G} (hG : gr G) {h : aw_H} {k sp : Nat} {w f : Nat → Nat} {t : pz_T} (hw : rw_ w h) (hm : rm_ G k sp h) (hT : rt t h) (hs : secz f h) (hk : k < aw_n G) (hi : iz (k + 1) (pz_sec w k f true)) :
    aw_F l G 6 Y_R_writeSector [.inl (some 40)] h (fun v h' => v = .inr (bI (decide (sp ≠ 1))) ∧ rw_ (pz_sec w k f (sp == 1)) h' ∧ rm_ G (k + 1) (sp - 1) h' ∧ (sp = 1 → rt (pz_back (pz_sec w k f true) (k + 1)) h') ∧ (sp ≠ 1 → ∀ q, 42 ≤ q → h' q = h q) ∧ ∀ q, q < 40 → h' q = h q) := by
  refine aw_met hG.1.1 (by decide) (Nat.le_of_ble_eq_true rfl) (fun M hM B E => ?_)
  show aw_X M G 3 0 [some (.inl (some 40)), none, none] [] h
  have i40 := hG.i40
  have a41 := hG.a41
  have a50 := hG.a50
  have r0 : aw_rM 40 0 = some 41 := rfl
  have r13 : aw_rM 40 13 = some 50 := rfl
  have n2 := hG.1.2.2.2
  obtain ⟨e1, e2, -, hsp, e3, e4⟩ := hm
  have hfl : ∀ i, i < 16 → f i < 65536 := fun i hi => (hs i hi).2
  -- the end: torn or not
  have fin : ∀ g : aw_H, rw_ (pz_sec w k f (sp == 1)) g → g 40 1 = nI (aw_n G) → g 40 2 = nI (k + 1) → g 40 3 = bI (decide (sp ≠ 0)) → (sp ≠ 0 → g 40 4 = nI (sp - 1) - nI 1) → (∀ q, q ≠ 40 → q ≠ 41 → g q = h q) → ∀ y : Nat, y = (if sp = 1 then 1 else 0) → aw_X M G 3 114 [some (.inl (some 40)), some (.inr (nI (16 * k))), some (.inr (nI y))] [] g := by
    intro g gw g1 g2 g3 g4 g5 y hy
    by_cases hsp1 : sp = 1
    · subst hsp1
      rw [if_pos rfl] at hy
      subst hy
      have gw : rw_ (pz_sec w k f true) g := gw
      refine ax_iload_n (q := 115) B d_R_writeSector_114 rfl rfl rfl ?_
      refine ax_ifN_eq (q := 127) (q2 := 118) B (by omega) d_R_writeSector_115 rfl rfl (fun z => by omega) (fun _ => ?_)
      refine ax_aload_n (q := 119) B d_R_writeSector_118 rfl rfl rfl ?_
      refine ax_pV0 (q := 122) B cv_R_79 d_R_writeSector_119 (by assumption) (Nat.le_of_ble_eq_true rfl) (by decide) (r_readBack hG gw (by omega) g2 hi) rfl (fun g' hg' => ?_)
      refine ax_aload_n (q := 123) B d_R_writeSector_122 rfl rfl rfl ?_
      refine ax_iconst (v := nI 0) (q := 124) B d_R_writeSector_123 ci_0 rfl ?_
      refine ax_putB (q := 127) B fp_R_72 (by first | exact bI_or _ | decide) d_R_writeSector_124 (by assumption) rfl ?_
      have fr : ∀ q, q < 40 → aw_u g' 40 3 (nI 0) q = h q := fun q hq => by rw [aw_u_ne (by omega), hg'.2 q (by omega), g5 q (by omega) (by omega)]
      have mt : rm_ G (k + 1) 0 (aw_u g' 40 3 (nI 0)) := ⟨aw_rd (by omega) (by rw [hg'.2 40 (by omega)]; exact g1), aw_rd (by omega) (by rw [hg'.2 40 (by omega)]; exact g2), by omega, by omega, aw_rs, fun z => absurd rfl z⟩
      have wt : rw_ (pz_sec w k f true) (aw_u g' 40 3 (nI 0)) := gw.kept (by rw [aw_u_ne (by omega), hg'.2 41 (by omega)])
      have tt : rt (pz_back (pz_sec w k f true) (k + 1)) (aw_u g' 40 3 (nI 0)) := hg'.1.kept (fun q q1 q2 => aw_u_ne (by omega))
      refine ax_iload_n (q := 128) B d_R_writeSector_127 rfl rfl rfl ?_
      refine ax_ifN_ne (q := 135) (q2 := 131) B (by omega) d_R_writeSector_128 rfl rfl (fun h128 => ?_) (fun h128 => ?_)
      · refine ax_iconst (v := nI 0) (q := 136) B d_R_writeSector_135 ci_0 rfl ?_
        refine ax_zret B E (by first | exact bI_or _ | decide) d_R_writeSector_136 ?_
        exact ⟨_, rfl, rfl, wt, mt, fun _ => tt, fun z => absurd rfl z, fr⟩
      · omega
    · rw [if_neg hsp1] at hy
      subst hy
      have mt : rm_ G (k + 1) (sp - 1) g := by
        refine ⟨g1, g2, by omega, by omega, ?_, fun z => ?_⟩
        · rw [g3]
          by_cases h0 : sp = 0
          · subst h0; rfl
          · rw [decide_eq_true h0, decide_eq_true (show sp - 1 ≠ 0 by omega)]
        · rw [g4 (by omega), pk_sub (by omega)]
      refine ax_iload_n (q := 115) B d_R_writeSector_114 rfl rfl rfl ?_
      refine ax_ifN_eq (q := 127) (q2 := 118) B (by omega) d_R_writeSector_115 rfl rfl (fun _ => ?_) (fun z => by omega)
      refine ax_iload_n (q := 128) B d_R_writeSector_127 rfl rfl rfl ?_
      refine ax_ifN_ne (q := 135) (q2 := 131) B (by omega) d_R_writeSector_128 rfl rfl (fun h128 => ?_) (fun h128 => ?_)
      · omega
      · refine ax_iconst (v := nI 1) (q := 132) B d_R_writeSector_131 ci_1 rfl ?_
        refine ax_goto (q := 136) B d_R_writeSector_132 rfl ?_
        refine ax_zret B E (by first | exact bI_or _ | decide) d_R_writeSector_136 ?_
        exact ⟨_, rfl, by rw [decide_eq_true hsp1]; rfl, gw, mt, fun z => absurd z hsp1, fun _ q hq => g5 q (by omega) (by omega), fun q hq => g5 q (by omega) (by omega)⟩
  -- until, written
  have cnt : ∀ g : aw_H, rw_ (pz_sec w k f (sp == 1)) g → (∀ q, q ≠ 41 → g q = h q) → ∀ y : Nat, y = (if sp = 1 then 1 else 0) → aw_X M G 3 94 [some (.inl (some 40)), some (.inr (nI (16 * k))), some (.inr (nI y))] [] g := by
    intro g gw g5 y hy
    have c2 : g 40 2 = nI k := by rw [g5 40 (by omega)]; exact e2
    have c2' : ∀ v, aw_u g 40 4 v 40 2 = nI k := fun v => aw_rd (by omega) c2
    refine ax_aload_n (q := 95) B d_R_writeSector_94 rfl rfl rfl ?_
    refine ax_dup (q := 96) B d_R_writeSector_95 rfl ?_
    refine ax_getN (q := 99) B fl_R_76 rfl d_R_writeSector_96 (by assumption) (by first | assumption | rfl) rfl ?_
    refine ax_iconst (v := nI 1) (q := 100) B d_R_writeSector_99 ci_1 rfl ?_
    refine ax_isub (q := 101) B d_R_writeSector_100 rfl ?_
    refine ax_putN (q := 104) B fp_R_76 d_R_writeSector_101 (by assumption) rfl ?_
    refine ax_aload_n (q := 105) B d_R_writeSector_104 rfl rfl rfl ?_
    refine ax_dup (q := 106) B d_R_writeSector_105 rfl ?_
    refine ax_getN (x := nI k) (q := 109) B fl_R_66 rfl d_R_writeSector_106 (by assumption) (c2' _) rfl ?_
    refine ax_iconst (v := nI 1) (q := 110) B d_R_writeSector_109 ci_1 rfl ?_
    first | refine ax_iaddN (q := 111) B d_R_writeSector_110 rfl ?_ | refine ax_iadd (q := 111) B d_R_writeSector_110 rfl ?_
    refine ax_putN (q := 114) B fp_R_66 d_R_writeSector_111 (by assumption) rfl ?_
    refine fin _ (gw.kept (by rw [aw_u_ne (by omega), aw_u_ne (by omega)])) (aw_rd (by omega) (aw_rd (by omega) (by rw [g5 40 (by omega)]; exact e1))) aw_rs (aw_rd (by omega) (aw_rd (by omega) (by rw [g5 40 (by omega)]; exact e3))) (fun z => aw_rd (by omega) (aw_rs.trans (by rw [g5 40 (by omega), e4 z]))) (fun q q1 q2 => by rw [aw_u_ne q1, aw_u_ne q1]; exact g5 q q2) y hy
  have loop : ∀ m j (g : aw_H), j + m = 16 → (∀ i, i < j → g 41 (16 * k + i) = nI (f i)) → (∀ x, (x < 16 * k ∨ 16 * k + 16 ≤ x) → g 41 x = h 41 x) → (∀ q, q ≠ 41 → g q = h q) → aw_X M G 3 10 [some (.inl (some 40)), some (.inr (nI (16 * k))), some (.inr (nI j))] [] g := by
    intro m
    induction m with
    | zero =>
      intro j g hj g1 g2 g5
      have hj : j = 16 := by omega
      subst hj
      have c2 : g 40 2 = nI k := by rw [g5 40 (by omega)]; exact e2
      have hC := r_checkOf (l := M.2.1) hG (h := g) (p := k) (by omega) (f := f) (fun i hi => ⟨g1 i hi, by have := hfl i hi; omega⟩)
      have hxl := pz_chkN_lt f 16
      have secF : ∀ b : Bool, ∀ g' : aw_H, (∀ y, y ≠ 16 * k + 1 → g' 41 y = g 41 y) → g' 41 (16 * k + 1) = nI (if b = true then pz_chkN f 16 ^^^ 1 else pz_chkN f 16) → rw_ (pz_sec w k f b) g' := fun b g' q1 q2 => rw_sec hw hfl (fun x hx hx2 => by rw [q1 x (by omega)]; exact g2 x hx2) (fun i hi h1 => by rw [q1 _ (by omega)]; exact g1 i hi) q2
      generalize pz_chkN f 16 = c at hC hxl secF
      have c3 : ∀ v y, aw_u g 41 y v 40 3 = bI (decide (sp ≠ 0)) := fun v y => aw_rd (by omega) (by rw [g5 40 (by omega)]; exact e3)
      have c4 : ∀ v y, sp ≠ 0 → aw_u g 41 y v 40 4 = nI (sp - 1) := fun v y z => aw_rd (by omega) (by rw [g5 40 (by omega)]; exact e4 z)
      have fl : ∀ y : Nat, y = (if sp = 1 then 1 else 0) → aw_X M G 3 71 [some (.inl (some 40)), some (.inr (nI (16 * k))), some (.inr (nI 16))] [.inr (nI y)] (aw_u g 41 (16 * k + 1) (nI c)) := by
        intro y hy
        by_cases hsp1 : sp = 1
        · have hy1 : y = 1 := by rw [hy, if_pos hsp1]
          have hb : (sp == 1) = true := by rw [hsp1]; rfl
          rw [hb] at cnt
          have er : aw_u g 41 (16 * k + 1) (nI c) 41 (16 * k + 1) = nI c := aw_rs
          refine ax_istore_n (q := 72) B d_R_writeSector_71 rfl (by decide) rfl ?_
          refine ax_iload_n (q := 73) B d_R_writeSector_72 rfl rfl rfl ?_
          refine ax_ifN_eq (q := 94) (q2 := 76) B (by omega) d_R_writeSector_73 rfl rfl (fun h73 => ?_) (fun h73 => ?_)
          · first | (exfalso; omega) | exact cnt _ (secF true _ (fun z hz => aw_rd (by omega) (aw_rd (by omega) rfl)) aw_rs) (fun q hq => by rw [aw_u_ne hq, aw_u_ne hq]; exact g5 q hq) y hy
          · refine ax_aload_n (q := 77) B d_R_writeSector_76 rfl rfl rfl ?_
            refine ax_getP (q := 80) B fl_R_7 rfl d_R_writeSector_77 (by assumption) (by assumption) rfl ?_
            refine ax_iload_n (q := 81) B d_R_writeSector_80 rfl rfl rfl ?_
            refine ax_iconst (v := nI 1) (q := 82) B d_R_writeSector_81 ci_1 rfl ?_
            first | refine ax_iaddN (q := 83) B d_R_writeSector_82 rfl ?_ | refine ax_iadd (q := 83) B d_R_writeSector_82 rfl ?_
            refine ax_aload_n (q := 84) B d_R_writeSector_83 rfl rfl rfl ?_
            refine ax_getP (q := 87) B fl_R_7 rfl d_R_writeSector_84 (by assumption) (by assumption) rfl ?_
            refine ax_iload_n (q := 88) B d_R_writeSector_87 rfl rfl rfl ?_
            refine ax_iconst (v := nI 1) (q := 89) B d_R_writeSector_88 ci_1 rfl ?_
            first | refine ax_iaddN (q := 90) B d_R_writeSector_89 rfl ?_ | refine ax_iadd (q := 90) B d_R_writeSector_89 rfl ?_
            refine ax_ialdN (q := 91) B d_R_writeSector_90 (by assumption) rfl (by omega) (by omega) er rfl ?_
            refine ax_iconst (v := nI 1) (q := 92) B d_R_writeSector_91 ci_1 rfl ?_
            first | refine ax_ixorN (q := 93) B d_R_writeSector_92 rfl ?_ | refine ax_ixor (q := 93) B d_R_writeSector_92 rfl ?_
            refine ax_iastN (q := 94) B d_R_writeSector_93 (by assumption) rfl (by omega) (by omega) rfl ?_
            first | (exfalso; omega) | exact cnt _ (secF true _ (fun z hz => aw_rd (by omega) (aw_rd (by omega) rfl)) aw_rs) (fun q hq => by rw [aw_u_ne hq, aw_u_ne hq]; exact g5 q hq) y hy
        · have hy1 : y = 0 := by rw [hy, if_neg hsp1]
          have hb : (sp == 1) = false := pz_beq_ne hsp1
          rw [hb] at cnt
          refine ax_istore_n (q := 72) B d_R_writeSector_71 rfl (by decide) rfl ?_
          refine ax_iload_n (q := 73) B d_R_writeSector_72 rfl rfl rfl ?_
          refine ax_ifN_eq (q := 94) (q2 := 76) B (by omega) d_R_writeSector_73 rfl rfl (fun h73 => ?_) (fun h73 => ?_)
          · exact cnt _ (secF false _ (fun z hz => aw_rd (by omega) rfl) aw_rs) (fun q hq => by rw [aw_u_ne hq]; exact g5 q hq) y hy
          · omega
      refine ax_iload_n (q := 11) B d_R_writeSector_10 rfl rfl rfl ?_
      refine ax_bipush (v := nI 16) (q := 13) B d_R_writeSector_11 cb_16 rfl ?_
      refine ax_icmpN_ge (q := 36) (q2 := 16) B (by omega) (by omega) d_R_writeSector_13 rfl rfl (fun h13 => ?_) (fun h13 => ?_)
      · refine ax_aload_n (q := 37) B d_R_writeSector_36 rfl rfl rfl ?_
        refine ax_getP (q := 40) B fl_R_7 rfl d_R_writeSector_37 (by assumption) (by assumption) rfl ?_
        refine ax_iload_n (q := 41) B d_R_writeSector_40 rfl rfl rfl ?_
        refine ax_iconst (v := nI 1) (q := 42) B d_R_writeSector_41 ci_1 rfl ?_
        first | refine ax_iaddN (q := 43) B d_R_writeSector_42 rfl ?_ | refine ax_iadd (q := 43) B d_R_writeSector_42 rfl ?_
        refine ax_aload_n (q := 44) B d_R_writeSector_43 rfl rfl rfl ?_
        refine ax_aload_n (q := 45) B d_R_writeSector_44 rfl rfl rfl ?_
        refine ax_getN (q := 48) B fl_R_66 rfl d_R_writeSector_45 (by assumption) (by first | assumption | rfl) rfl ?_
        refine ax_qV1 (q := 51) B cv_R_58 d_R_writeSector_48 (by assumption) (Nat.le_of_ble_eq_true rfl) (by decide) hC rfl ?_
        refine ax_iastN (q := 52) B d_R_writeSector_51 (by assumption) rfl (by omega) (by omega) rfl ?_
        refine ax_aload_n (q := 53) B d_R_writeSector_52 rfl rfl rfl ?_
        refine ax_getN (q := 56) B fl_R_72 rfl d_R_writeSector_53 (by assumption) (c3 _ _) rfl ?_
        refine ax_ifZ_eq (q := 70) (q2 := 59) B d_R_writeSector_56 rfl rfl (fun h56 => ?_) (fun h56 => ?_)
        · refine ax_iconst (v := nI 0) (q := 71) B d_R_writeSector_70 ci_0 rfl ?_
          first | exact fl 0 (by have := of_decide_eq_false h56; rw [if_neg (by omega)]) | exact fl 0 (by rw [if_neg (by omega)]) | exact fl 1 (by have := of_decide_eq_true h56; rw [if_pos (by omega)])
        · refine ax_aload_n (q := 60) B d_R_writeSector_59 rfl rfl rfl ?_
          refine ax_getN (q := 63) B fl_R_76 rfl d_R_writeSector_60 (by assumption) (c4 _ _ (of_decide_eq_true h56)) rfl ?_
          refine ax_ifN_ne (q := 70) (q2 := 66) B (by omega) d_R_writeSector_63 rfl rfl (fun h63 => ?_) (fun h63 => ?_)
          · refine ax_iconst (v := nI 0) (q := 71) B d_R_writeSector_70 ci_0 rfl ?_
            first | exact fl 0 (by have := of_decide_eq_false h56; rw [if_neg (by omega)]) | exact fl 0 (by rw [if_neg (by omega)]) | exact fl 1 (by have := of_decide_eq_true h56; rw [if_pos (by omega)])
          · refine ax_iconst (v := nI 1) (q := 67) B d_R_writeSector_66 ci_1 rfl ?_
            refine ax_goto (q := 71) B d_R_writeSector_67 rfl ?_
            first | exact fl 0 (by have := of_decide_eq_false h56; rw [if_neg (by omega)]) | exact fl 0 (by rw [if_neg (by omega)]) | exact fl 1 (by have := of_decide_eq_true h56; rw [if_pos (by omega)])
      · omega
    | succ m ih =>
      intro j g hj g1 g2 g5
      have e5 : g 50 j = nI (f j) := by rw [g5 50 (by omega)]; exact (hs j (by omega)).1
      refine ax_iload_n (q := 11) B d_R_writeSector_10 rfl rfl rfl ?_
      refine ax_bipush (v := nI 16) (q := 13) B d_R_writeSector_11 cb_16 rfl ?_
      refine ax_icmpN_ge (q := 36) (q2 := 16) B (by omega) (by omega) d_R_writeSector_13 rfl rfl (fun h13 => ?_) (fun h13 => ?_)
      · omega
      · refine ax_aload_n (q := 17) B d_R_writeSector_16 rfl rfl rfl ?_
        refine ax_getP (q := 20) B fl_R_7 rfl d_R_writeSector_17 (by assumption) (by assumption) rfl ?_
        refine ax_iload_n (q := 21) B d_R_writeSector_20 rfl rfl rfl ?_
        refine ax_iload_n (q := 22) B d_R_writeSector_21 rfl rfl rfl ?_
        first | refine ax_iaddN (q := 23) B d_R_writeSector_22 rfl ?_ | refine ax_iadd (q := 23) B d_R_writeSector_22 rfl ?_
        refine ax_aload_n (q := 24) B d_R_writeSector_23 rfl rfl rfl ?_
        refine ax_getP (q := 27) B fl_R_38 rfl d_R_writeSector_24 (by assumption) (by assumption) rfl ?_
        refine ax_iload_n (q := 28) B d_R_writeSector_27 rfl rfl rfl ?_
        refine ax_ialdN (q := 29) B d_R_writeSector_28 (by assumption) rfl (by omega) (by omega) (by first | assumption | rfl) rfl ?_
        refine ax_iastN (q := 30) B d_R_writeSector_29 (by assumption) rfl (by omega) (by omega) rfl ?_
        refine ax_iincN (j := 1) (q := 33) B d_R_writeSector_30 rfl ii_1 (by decide) rfl ?_
        refine ax_goto (q := 10) B d_R_writeSector_33 rfl ?_
        refine ih (j + 1) _ (by omega) (fun i hi => ?_) (fun x hx => aw_rd (by omega) (g2 x hx)) (fun q hq => (aw_u_ne hq).trans (g5 q hq))
        by_cases hij : i = j
        · subst hij; exact aw_rs
        · exact aw_rd (by omega) (g1 i (by omega))
  refine ax_bipush (v := nI 16) (q := 2) B d_R_writeSector_0 cb_16 rfl ?_
  refine ax_aload_n (q := 3) B d_R_writeSector_2 rfl rfl rfl ?_
  refine ax_getN (q := 6) B fl_R_66 rfl d_R_writeSector_3 (by assumption) (by first | assumption | rfl) rfl ?_
  first | refine ax_imulN (q := 7) B d_R_writeSector_6 rfl ?_ | refine ax_imul (q := 7) B d_R_writeSector_6 rfl ?_
  refine ax_istore_n (q := 8) B d_R_writeSector_7 rfl (by decide) rfl ?_
  refine ax_iconst (v := nI 0) (q := 9) B d_R_writeSector_8 ci_0 rfl ?_
  refine ax_istore_n (q := 10) B d_R_writeSector_9 rfl (by decide) rfl ?_
  exact loop 16 0 h rfl (fun i hi => absurd hi (by omega)) (fun x _ => rfl) (fun q _ => rfl)
end
section
/-- the reference's cells hold state S -/
def qz (G : aw_G) (S : pz_S) (h : aw_H) : Prop := S.1 = aw_n G ∧ rw_ S.2.2.1 h ∧ rm_ G S.2.1 S.2.2.2.1 h ∧ rt S.2.2.2.2 h
theorem qz.kept {G : aw_G} {S : pz_S} {h h' : aw_H} (hS : qz G S h) (e : ∀ q, 40 ≤ q → q < 47 → h' q = h q) : qz G S h' := ⟨hS.1, hS.2.1.kept (e 41 (by omega) (by omega)), hS.2.2.1.kept (e 40 (by omega) (by omega)), hS.2.2.2.kept (fun q q1 q2 => e q (by omega) q2)⟩
theorem q_left {l : Launch} {G : aw_G} (hG : gr G) {h : aw_H} {S : pz_S} (hS : qz G S h) : aw_I l G 0 Y_R_left [.inl (some 40)] h (.inr (pz_left S)) := by
  obtain ⟨n, k, w, sp, t⟩ := S
  obtain ⟨hn, hw, ⟨e1, e2, hk, -⟩, hT⟩ := hS
  have hn : n = aw_n G := hn
  subst hn
  have hk : k ≤ aw_n G := hk
  refine aw_met hG.1.1 (by decide) (Nat.le_of_ble_eq_true rfl) (fun M hM B E => ?_)
  show aw_X M G 1 0 [some (.inl (some 40))] [] h
  have i40 := hG.i40
  refine ax_aload_n (q := 1) B d_R_left_0 rfl rfl rfl ?_
  refine ax_getN (q := 4) B fl_R_44 rfl d_R_left_1 (by assumption) (by first | assumption | rfl) rfl ?_
  refine ax_aload_n (q := 5) B d_R_left_4 rfl rfl rfl ?_
  refine ax_getN (q := 8) B fl_R_66 rfl d_R_left_5 (by assumption) (by first | assumption | rfl) rfl ?_
  refine ax_isubN (q := 9) B hk d_R_left_8 rfl ?_
  refine ax_iret B E d_R_left_9 ?_
  exact ⟨rfl, rfl⟩
theorem q_changed {l : Launch} {G : aw_G} (hG : gr G) {h : aw_H} {S : pz_S} (hS : qz G S h) : aw_I l G 1 Y_R_changed [.inl (some 40)] h (.inr (pz_changed S)) := by
  refine aw_met hG.1.1 (by decide) (Nat.le_of_ble_eq_true rfl) (fun M hM B E => ?_)
  show aw_X M G 1 0 [some (.inl (some 40))] [] h
  have i40 := hG.i40
  have hC := r_changedWith (l := M.2.1) hG hS.2.2.2 (a := 8) (b := 8) (g := 8) (by omega) (by omega) (by omega)
  rw [pz_cw_none] at hC
  refine ax_aload_n (q := 1) B d_R_changed_0 rfl rfl rfl ?_
  refine ax_iconst (v := (-1)) (q := 2) B d_R_changed_1 ci_m1 rfl ?_
  refine ax_iconst (v := (-1)) (q := 3) B d_R_changed_2 ci_m1 rfl ?_
  refine ax_iconst (v := (-1)) (q := 4) B d_R_changed_3 ci_m1 rfl ?_
  refine ax_qV3 (q := 7) B cv_R_103 d_R_changed_4 (by assumption) (Nat.le_of_ble_eq_true rfl) (by decide) hC rfl ?_
  refine ax_iret B E d_R_changed_7 ?_
  exact ⟨rfl, rfl⟩
theorem q_tables {l : Launch} {G : aw_G} (hG : gr G) {h : aw_H} {S : pz_S} (hS : qz G S h) (hI : pz_inv S) : aw_I l G 4 Y_R_tables [.inl (some 40)] h (.inr (pz_tables S)) := by
  obtain ⟨n, k, w, sp, t⟩ := S
  have hi := hI.iz
  obtain ⟨-, hw, ⟨-, e2, hk, -⟩, -⟩ := hS
  have hk : k ≤ aw_n G := hk
  have hw : rw_ w h := hw
  have e2 : h 40 2 = nI k := e2
  refine aw_met hG.1.1 (by decide) (Nat.le_of_ble_eq_true rfl) (fun M hM B E => ?_)
  show aw_X M G 3 0 [some (.inl (some 40)), none, none] [] h
  have i40 := hG.i40
  have n2 := hG.1.2.2.2
  have loop : ∀ m j, j + m = k → aw_X M G 3 4 [some (.inl (some 40)), some (.inr (nI (pz_tabs w j))), some (.inr (nI j))] [] h := by
    intro m
    induction m with
    | zero =>
      intro j hj
      have hj : j = k := by omega
      subst hj
      refine ax_iload_n (q := 5) B d_R_tables_4 rfl rfl rfl ?_
      refine ax_aload_n (q := 6) B d_R_tables_5 rfl rfl rfl ?_
      refine ax_getN (q := 9) B fl_R_66 rfl d_R_tables_6 (by assumption) (by first | assumption | rfl) rfl ?_
      refine ax_icmpN_ge (q := 34) (q2 := 12) B (by omega) (by omega) d_R_tables_9 rfl rfl (fun h9 => ?_) (fun h9 => ?_)
      · refine ax_iload_n (q := 35) B d_R_tables_34 rfl rfl rfl ?_
        refine ax_iret B E d_R_tables_35 ?_
        exact ⟨rfl, rfl⟩
      · omega
    | succ m ih =>
      intro j hj
      have h3 := ih (j + 1) (by omega)
      have ht : pz_tabs w (j + 1) = pz_tabs w j + (if pz_valid w j = true then 1 else 0) := rfl
      rw [ht] at h3
      refine ax_iload_n (q := 5) B d_R_tables_4 rfl rfl rfl ?_
      refine ax_aload_n (q := 6) B d_R_tables_5 rfl rfl rfl ?_
      refine ax_getN (q := 9) B fl_R_66 rfl d_R_tables_6 (by assumption) (by first | assumption | rfl) rfl ?_
      refine ax_icmpN_ge (q := 34) (q2 := 12) B (by omega) (by omega) d_R_tables_9 rfl rfl (fun h9 => ?_) (fun h9 => ?_)
      · omega
      · refine ax_aload_n (q := 13) B d_R_tables_12 rfl rfl rfl ?_
        refine ax_iload_n (q := 14) B d_R_tables_13 rfl rfl rfl ?_
        refine ax_qV1 (q := 17) B cv_R_69 d_R_tables_14 (by assumption) (Nat.le_of_ble_eq_true rfl) (by decide) (r_isValid hG hw (by omega) hi (by omega)) rfl ?_
        refine ax_ifZ_eq (q := 26) (q2 := 20) B d_R_tables_17 rfl rfl (fun h17 => ?_) (fun h17 => ?_)
        · refine ax_iload_n (q := 27) B d_R_tables_26 rfl rfl rfl ?_
          refine ax_istore_n (q := 28) B d_R_tables_27 rfl (by decide) rfl ?_
          refine ax_iincN (j := 1) (q := 31) B d_R_tables_28 rfl ii_1 (by decide) rfl ?_
          refine ax_goto (q := 4) B d_R_tables_31 rfl ?_
          rw [h17] at h3
          exact h3
        · refine ax_iload_n (q := 21) B d_R_tables_20 rfl rfl rfl ?_
          refine ax_iconst (v := nI 1) (q := 22) B d_R_tables_21 ci_1 rfl ?_
          first | refine ax_iaddN (q := 23) B d_R_tables_22 rfl ?_ | refine ax_iadd (q := 23) B d_R_tables_22 rfl ?_
          refine ax_goto (q := 27) B d_R_tables_23 rfl ?_
          refine ax_istore_n (q := 28) B d_R_tables_27 rfl (by decide) rfl ?_
          refine ax_iincN (j := 1) (q := 31) B d_R_tables_28 rfl ii_1 (by decide) rfl ?_
          refine ax_goto (q := 4) B d_R_tables_31 rfl ?_
          rw [h17] at h3
          exact h3
  refine ax_iconst (v := nI 0) (q := 1) B d_R_tables_0 ci_0 rfl ?_
  refine ax_istore_n (q := 2) B d_R_tables_1 rfl (by decide) rfl ?_
  refine ax_iconst (v := nI 0) (q := 3) B d_R_tables_2 ci_0 rfl ?_
  refine ax_istore_n (q := 4) B d_R_tables_3 rfl (by decide) rfl ?_
  exact loop k 0 (by omega)
theorem q_word {l : Launch} {G : aw_G} (hG : gr G) {h : aw_H} {S : pz_S} (hS : qz G S h) (x i : Int32) : aw_I l G 0 Y_R_word [.inl (some 40), .inr x, .inr i] h (.inr (pz_word S x i)) := by
  obtain ⟨n, k, w, sp, t⟩ := S
  obtain ⟨hn, hw, ⟨e1, -⟩, -⟩ := hS
  have hn : n = aw_n G := hn
  subst hn
  have hw : rw_ w h := hw
  refine aw_met hG.1.1 (by decide) (Nat.le_of_ble_eq_true rfl) (fun M hM B E => ?_)
  show aw_X M G 3 0 [some (.inl (some 40)), some (.inr x), some (.inr i)] [] h
  have i40 := hG.i40
  have a41 := hG.a41
  have r0 : aw_rM 40 0 = some 41 := rfl
  have n2 := hG.1.2.2.2
  have E : aw_E M G (some .int) (fun r h' => r = some (.inr (if (pz_small x (aw_n G) && pz_small i 16) = true then nI (w (16 * x.toNatClampNeg + i.toNatClampNeg)) else -1)) ∧ h' = h) := E
  cases hc : (pz_small x (aw_n G) && pz_small i 16) with
  | true =>
    rw [if_pos hc] at E
    rw [Bool.and_eq_true] at hc
    obtain ⟨p, hp, rfl⟩ := pz_small_e (by omega) hc.1
    obtain ⟨j, hj, rfl⟩ := pz_small_e (by omega) hc.2
    rw [nI_clamp (by omega), nI_clamp (by omega)] at E
    have ew := (hw (16 * p + j) (by omega)).1
    refine ax_iload_n (q := 1) B d_R_word_0 rfl rfl rfl ?_
    refine ax_ifN_lt (q := 22) (q2 := 4) B (by omega) d_R_word_1 rfl rfl ?_
    refine ax_iload_n (q := 5) B d_R_word_4 rfl rfl rfl ?_
    refine ax_aload_n (q := 6) B d_R_word_5 rfl rfl rfl ?_
    refine ax_getN (q := 9) B fl_R_44 rfl d_R_word_6 (by assumption) (by first | assumption | rfl) rfl ?_
    refine ax_icmpN_ge (q := 22) (q2 := 12) B (by omega) (by omega) d_R_word_9 rfl rfl (fun h9 => ?_) (fun h9 => ?_)
    · omega
    · refine ax_iload_n (q := 13) B d_R_word_12 rfl rfl rfl ?_
      refine ax_ifN_lt (q := 22) (q2 := 16) B (by omega) d_R_word_13 rfl rfl ?_
      refine ax_iload_n (q := 17) B d_R_word_16 rfl rfl rfl ?_
      refine ax_bipush (v := nI 15) (q := 19) B d_R_word_17 cb_15 rfl ?_
      refine ax_icmpN_le (q := 26) (q2 := 22) B (by omega) (by omega) d_R_word_19 rfl rfl (fun h19 => ?_) (fun h19 => ?_)
      · refine ax_aload_n (q := 27) B d_R_word_26 rfl rfl rfl ?_
        refine ax_getP (q := 30) B fl_R_7 rfl d_R_word_27 (by assumption) (by assumption) rfl ?_
        refine ax_bipush (v := nI 16) (q := 32) B d_R_word_30 cb_16 rfl ?_
        refine ax_iload_n (q := 33) B d_R_word_32 rfl rfl rfl ?_
        first | refine ax_imulN (q := 34) B d_R_word_33 rfl ?_ | refine ax_imul (q := 34) B d_R_word_33 rfl ?_
        refine ax_iload_n (q := 35) B d_R_word_34 rfl rfl rfl ?_
        first | refine ax_iaddN (q := 36) B d_R_word_35 rfl ?_ | refine ax_iadd (q := 36) B d_R_word_35 rfl ?_
        refine ax_ialdN (q := 37) B d_R_word_36 (by assumption) rfl (by omega) (by omega) (by first | assumption | rfl) rfl ?_
        refine ax_iret B E d_R_word_37 ?_
        exact ⟨rfl, rfl⟩
      · omega
  | false =>
    rw [if_neg (by rw [hc]; decide)] at E
    refine ax_iload_n (q := 1) B d_R_word_0 rfl rfl rfl ?_
    refine ax_if_lt (q := 22) (q2 := 4) B d_R_word_1 rfl rfl (fun h1 => ?_) (fun h1 => ?_)
    · refine ax_iconst (v := (-1)) (q := 23) B d_R_word_22 ci_m1 rfl ?_
      refine ax_goto (q := 37) B d_R_word_23 rfl ?_
      refine ax_iret B E d_R_word_37 ?_
      exact ⟨rfl, rfl⟩
    · refine ax_iload_n (q := 5) B d_R_word_4 rfl rfl rfl ?_
      refine ax_aload_n (q := 6) B d_R_word_5 rfl rfl rfl ?_
      refine ax_getN (q := 9) B fl_R_44 rfl d_R_word_6 (by assumption) (by first | assumption | rfl) rfl ?_
      refine ax_icmp_ge (q := 22) (q2 := 12) B d_R_word_9 rfl rfl (fun h9 => ?_) (fun h9 => ?_)
      · refine ax_iconst (v := (-1)) (q := 23) B d_R_word_22 ci_m1 rfl ?_
        refine ax_goto (q := 37) B d_R_word_23 rfl ?_
        refine ax_iret B E d_R_word_37 ?_
        exact ⟨rfl, rfl⟩
      · refine ax_iload_n (q := 13) B d_R_word_12 rfl rfl rfl ?_
        refine ax_if_lt (q := 22) (q2 := 16) B d_R_word_13 rfl rfl (fun h13 => ?_) (fun h13 => ?_)
        · refine ax_iconst (v := (-1)) (q := 23) B d_R_word_22 ci_m1 rfl ?_
          refine ax_goto (q := 37) B d_R_word_23 rfl ?_
          refine ax_iret B E d_R_word_37 ?_
          exact ⟨rfl, rfl⟩
        · refine ax_iload_n (q := 17) B d_R_word_16 rfl rfl rfl ?_
          refine ax_bipush (v := nI 15) (q := 19) B d_R_word_17 cb_15 rfl ?_
          refine ax_icmp_le (q := 26) (q2 := 22) B d_R_word_19 rfl rfl (fun h19 => ?_) (fun h19 => ?_)
          · rw [pz_small_t h1 h9, pz_small_t h13 (i32_le (by omega) h19)] at hc
            cases hc
          · refine ax_iconst (v := (-1)) (q := 23) B d_R_word_22 ci_m1 rfl ?_
            refine ax_goto (q := 37) B d_R_word_23 rfl ?_
            refine ax_iret B E d_R_word_37 ?_
            exact ⟨rfl, rfl⟩
theorem q_arm {l : Launch} {G : aw_G} (hG : gr G) {h : aw_H} {S : pz_S} (hS : qz G S h) (x : Int32) : aw_F l G 0 Y_R_arm [.inl (some 40), .inr x] h (fun v h' => v = .inr (pz_arm S x).1 ∧ qz G (pz_arm S x).2 h' ∧ ∀ q, q < 40 → h' q = h q) := by
  obtain ⟨n, k, w, sp, t⟩ := S
  refine aw_met hG.1.1 (by decide) (Nat.le_of_ble_eq_true rfl) (fun M hM B E => ?_)
  show aw_X M G 2 0 [some (.inl (some 40)), some (.inr x)] [] h
  have i40 := hG.i40
  have E : aw_E M G (some .boolean) (fun r h' => ∃ v, r = some v ∧ (v = .inr (if pz_small x 1001 = false then (nI 0, (n, k, w, sp, t)) else (nI 1, (n, k, w, x.toNatClampNeg + 1, t)) : Int32 × pz_S).1 ∧ qz G (if pz_small x 1001 = false then (nI 0, (n, k, w, sp, t)) else (nI 1, (n, k, w, x.toNatClampNeg + 1, t)) : Int32 × pz_S).2 h' ∧ ∀ q, q < 40 → h' q = h q)) := E
  cases hx : pz_small x 1001 with
  | false =>
    rw [if_pos hx] at E
    refine ax_iload_n (q := 1) B d_R_arm_0 rfl rfl rfl ?_
    refine ax_if_lt (q := 11) (q2 := 4) B d_R_arm_1 rfl rfl (fun h1 => ?_) (fun h1 => ?_)
    · refine ax_iconst (v := nI 0) (q := 12) B d_R_arm_11 ci_0 rfl ?_
      refine ax_zret B E (by first | exact bI_or _ | decide) d_R_arm_12 ?_
      exact ⟨_, rfl, rfl, hS, fun q _ => rfl⟩
    · refine ax_iload_n (q := 5) B d_R_arm_4 rfl rfl rfl ?_
      refine ax_sipush (v := nI 1000) (q := 8) B d_R_arm_5 cs_1000 rfl ?_
      refine ax_icmp_le (q := 13) (q2 := 11) B d_R_arm_8 rfl rfl (fun h8 => ?_) (fun h8 => ?_)
      · rw [pz_small_t h1 (i32_le (by omega) h8)] at hx
        cases hx
      · refine ax_iconst (v := nI 0) (q := 12) B d_R_arm_11 ci_0 rfl ?_
        refine ax_zret B E (by first | exact bI_or _ | decide) d_R_arm_12 ?_
        exact ⟨_, rfl, rfl, hS, fun q _ => rfl⟩
  | true =>
    rw [if_neg (by rw [hx]; decide)] at E
    obtain ⟨j, hj, rfl⟩ := pz_small_e (by omega) hx
    rw [nI_clamp (by omega)] at E
    obtain ⟨hn, hw, ⟨e1, e2, hk, hsp, e3, e4⟩, hT⟩ := hS
    refine ax_iload_n (q := 1) B d_R_arm_0 rfl rfl rfl ?_
    refine ax_ifN_lt (q := 11) (q2 := 4) B (by omega) d_R_arm_1 rfl rfl ?_
    refine ax_iload_n (q := 5) B d_R_arm_4 rfl rfl rfl ?_
    refine ax_sipush (v := nI 1000) (q := 8) B d_R_arm_5 cs_1000 rfl ?_
    refine ax_icmpN_le (q := 13) (q2 := 11) B (by omega) (by omega) d_R_arm_8 rfl rfl (fun h8 => ?_) (fun h8 => ?_)
    · refine ax_aload_n (q := 14) B d_R_arm_13 rfl rfl rfl ?_
      refine ax_iconst (v := nI 1) (q := 15) B d_R_arm_14 ci_1 rfl ?_
      refine ax_putB (q := 18) B fp_R_72 (by first | exact bI_or _ | decide) d_R_arm_15 (by assumption) rfl ?_
      refine ax_aload_n (q := 19) B d_R_arm_18 rfl rfl rfl ?_
      refine ax_iload_n (q := 20) B d_R_arm_19 rfl rfl rfl ?_
      refine ax_putN (q := 23) B fp_R_76 d_R_arm_20 (by assumption) rfl ?_
      refine ax_iconst (v := nI 1) (q := 24) B d_R_arm_23 ci_1 rfl ?_
      refine ax_zret B E (by first | exact bI_or _ | decide) d_R_arm_24 ?_
      exact ⟨_, rfl, rfl, ⟨hn, hw.kept (by rw [aw_u_ne (by omega), aw_u_ne (by omega)]), ⟨aw_rd (by omega) (aw_rd (by omega) e1), aw_rd (by omega) (aw_rd (by omega) e2), hk, (show j + 1 ≤ 1001 by omega), aw_rd (by omega) (aw_rs.trans (by show nI 1 = bI (decide (j + 1 ≠ 0)); rw [decide_eq_true (by omega)]; rfl)), fun _ => aw_rs⟩, hT.kept (fun q q1 q2 => by rw [aw_u_ne (by omega), aw_u_ne (by omega)])⟩, fun q hq => by rw [aw_u_ne (by omega), aw_u_ne (by omega)]⟩
    · omega
theorem q_crash {l : Launch} {G : aw_G} (hG : gr G) {h : aw_H} {S : pz_S} (hS : qz G S h) (hI : pz_inv S) : aw_F l G 6 Y_R_crash [.inl (some 40)] h (fun v h' => v = .inr (pz_crash S).1 ∧ qz G (pz_crash S).2 h' ∧ ∀ q, q < 40 → h' q = h q) := by
  obtain ⟨n, k, w, sp, t⟩ := S
  have hi := hI.iz
  obtain ⟨hn, hw, ⟨e1, e2, hk, hsp, e3, e4⟩, hT⟩ := hS
  have hk : k ≤ aw_n G := hk
  have hw : rw_ w h := hw
  have e2 : h 40 2 = nI k := e2
  have n2 := hG.1.2.2.2
  refine aw_met hG.1.1 (by decide) (Nat.le_of_ble_eq_true rfl) (fun M hM B E => ?_)
  show aw_X M G 2 0 [some (.inl (some 40)), none] [] h
  have i40 := hG.i40
  have a41 := hG.a41
  have r0 : aw_rM 40 0 = some 41 := rfl
  refine ax_aload_n (q := 1) B d_R_crash_0 rfl rfl rfl ?_
  refine ax_pV0 (q := 4) B cv_R_79 d_R_crash_1 (by assumption) (Nat.le_of_ble_eq_true rfl) (by decide) (r_readBack hG hw (by omega) e2 hi) rfl (fun h1 hh1 => ?_)
  obtain ⟨hT1, hf1⟩ := hh1
  refine ax_aload_n (q := 5) B d_R_crash_4 rfl rfl rfl ?_
  refine ax_iconst (v := nI 0) (q := 6) B d_R_crash_5 ci_0 rfl ?_
  refine ax_putB (q := 9) B fp_R_72 (by first | exact bI_or _ | decide) d_R_crash_6 (by assumption) rfl ?_
  obtain ⟨h2, hh2⟩ : ∃ h2, h2 = aw_u h1 40 3 (nI 0) := ⟨_, rfl⟩
  rw [← hh2]
  have hw2 : rw_ w h2 := hw.kept (by rw [hh2, aw_u_ne (by omega), hf1 41 (by omega)])
  have e22 : h2 40 2 = nI k := by rw [hh2]; exact aw_rd (by omega) (by rw [hf1 40 (by omega)]; exact e2)
  have hm2 : rm_ G k 0 h2 := ⟨by rw [hh2]; exact aw_rd (by omega) (by rw [hf1 40 (by omega)]; exact e1), e22, hk, by omega, by rw [hh2]; exact aw_rs, fun z => absurd rfl z⟩
  have hT2 : rt (pz_back w k) h2 := hT1.kept (fun q q1 q2 => by rw [hh2]; exact aw_u_ne (by omega))
  have fr : ∀ q, q < 40 → h2 q = h q := fun q hq => by rw [hh2, aw_u_ne (by omega), hf1 q (by omega)]
  refine ax_aload_n (q := 10) B d_R_crash_9 rfl rfl rfl ?_
  refine ax_qV0 (q := 13) B cv_R_92 d_R_crash_10 (by assumption) (Nat.le_of_ble_eq_true rfl) (by decide) (r_newest hG hw2 (by omega) e22 hi) rfl ?_
  have E : aw_E M G (some .int) (fun r h' => ∃ v, r = some v ∧ (v = .inr (nI (pz_num w k)) ∧ qz G (n, k, w, 0, pz_back w k) h' ∧ ∀ q, q < 40 → h' q = h q)) := E
  unfold pz_num at E
  cases hx : pz_newest w k with
  | none =>
    rw [hx] at E
    refine ax_istore_n (q := 14) B d_R_crash_13 rfl (by decide) rfl ?_
    refine ax_iload_n (q := 15) B d_R_crash_14 rfl rfl rfl ?_
    refine ax_if_ge (q := 22) (q2 := 18) B d_R_crash_15 rfl rfl (fun h15 => ?_) (fun h15 => ?_)
    · exact absurd h15 (by decide)
    · refine ax_iconst (v := nI 0) (q := 19) B d_R_crash_18 ci_0 rfl ?_
      refine ax_goto (q := 33) B d_R_crash_19 rfl ?_
      refine ax_iret B E d_R_crash_33 ?_
      exact ⟨_, rfl, rfl, ⟨hn, hw2, hm2, hT2⟩, fr⟩
  | some p =>
    rw [hx] at E
    have hp := (pz_newest_lt k hx).1
    have ew := (hw2 (16 * p + 3) (by omega)).1
    show aw_X M G 2 13 [some (.inl (some 40)), none] [.inr (nI p)] h2
    refine ax_istore_n (q := 14) B d_R_crash_13 rfl (by decide) rfl ?_
    refine ax_iload_n (q := 15) B d_R_crash_14 rfl rfl rfl ?_
    refine ax_ifN_ge (q := 22) (q2 := 18) B (by omega) d_R_crash_15 rfl rfl ?_
    refine ax_aload_n (q := 23) B d_R_crash_22 rfl rfl rfl ?_
    refine ax_getP (q := 26) B fl_R_7 rfl d_R_crash_23 (by assumption) (by assumption) rfl ?_
    refine ax_bipush (v := nI 16) (q := 28) B d_R_crash_26 cb_16 rfl ?_
    refine ax_iload_n (q := 29) B d_R_crash_28 rfl rfl rfl ?_
    first | refine ax_imulN (q := 30) B d_R_crash_29 rfl ?_ | refine ax_imul (q := 30) B d_R_crash_29 rfl ?_
    refine ax_iconst (v := nI 3) (q := 31) B d_R_crash_30 ci_3 rfl ?_
    first | refine ax_iaddN (q := 32) B d_R_crash_31 rfl ?_ | refine ax_iadd (q := 32) B d_R_crash_31 rfl ?_
    refine ax_ialdN (q := 33) B d_R_crash_32 (by assumption) rfl (by omega) (by omega) (by first | assumption | rfl) rfl ?_
    refine ax_iret B E d_R_crash_33 ?_
    exact ⟨_, rfl, rfl, ⟨hn, hw2, hm2, hT2⟩, fr⟩
theorem q_spoil {l : Launch} {G : aw_G} (hG : gr G) {h : aw_H} {S : pz_S} (hS : qz G S h) (x : Int32) : aw_F l G 0 Y_R_spoil [.inl (some 40), .inr x] h (fun v h' => v = .inr (pz_spoil S x).1 ∧ qz G (pz_spoil S x).2 h' ∧ ∀ q, q < 40 → h' q = h q) := by
  obtain ⟨n, k, w, sp, t⟩ := S
  have hS' := hS
  obtain ⟨hn, hw, ⟨e1, e2, hk, hsp, e3, e4⟩, hT⟩ := hS
  have hk : k ≤ aw_n G := hk
  have hw : rw_ w h := hw
  have e2 : h 40 2 = nI k := e2
  have n2 := hG.1.2.2.2
  refine aw_met hG.1.1 (by decide) (Nat.le_of_ble_eq_true rfl) (fun M hM B E => ?_)
  show aw_X M G 2 0 [some (.inl (some 40)), some (.inr x)] [] h
  have i40 := hG.i40
  have a41 := hG.a41
  have r0 : aw_rM 40 0 = some 41 := rfl
  have E : aw_E M G (some .boolean) (fun r h' => ∃ v, r = some v ∧ (v = .inr (if pz_small x k = false then (nI 0, (n, k, w, sp, t)) else (nI 1, (n, k, pz_up w (16 * x.toNatClampNeg + 1) (w (16 * x.toNatClampNeg + 1) ^^^ 1), sp, t)) : Int32 × pz_S).1 ∧ qz G (if pz_small x k = false then (nI 0, (n, k, w, sp, t)) else (nI 1, (n, k, pz_up w (16 * x.toNatClampNeg + 1) (w (16 * x.toNatClampNeg + 1) ^^^ 1), sp, t)) : Int32 × pz_S).2 h' ∧ ∀ q, q < 40 → h' q = h q)) := E
  cases hx : pz_small x k with
  | false =>
    rw [if_pos hx] at E
    refine ax_iload_n (q := 1) B d_R_spoil_0 rfl rfl rfl ?_
    refine ax_if_lt (q := 12) (q2 := 4) B d_R_spoil_1 rfl rfl (fun h1 => ?_) (fun h1 => ?_)
    · refine ax_iconst (v := nI 0) (q := 13) B d_R_spoil_12 ci_0 rfl ?_
      refine ax_zret B E (by first | exact bI_or _ | decide) d_R_spoil_13 ?_
      exact ⟨_, rfl, rfl, hS', fun q _ => rfl⟩
    · refine ax_iload_n (q := 5) B d_R_spoil_4 rfl rfl rfl ?_
      refine ax_aload_n (q := 6) B d_R_spoil_5 rfl rfl rfl ?_
      refine ax_getN (q := 9) B fl_R_66 rfl d_R_spoil_6 (by assumption) (by first | assumption | rfl) rfl ?_
      refine ax_icmp_lt (q := 14) (q2 := 12) B d_R_spoil_9 rfl rfl (fun h9 => ?_) (fun h9 => ?_)
      · rw [pz_small_t h1 (fun z => i32_nlt z h9)] at hx
        cases hx
      · refine ax_iconst (v := nI 0) (q := 13) B d_R_spoil_12 ci_0 rfl ?_
        refine ax_zret B E (by first | exact bI_or _ | decide) d_R_spoil_13 ?_
        exact ⟨_, rfl, rfl, hS', fun q _ => rfl⟩
  | true =>
    rw [if_neg (by rw [hx]; decide)] at E
    obtain ⟨j, hj, rfl⟩ := pz_small_e (by omega) hx
    rw [nI_clamp (by omega)] at E
    obtain ⟨wj, wl⟩ := hw (16 * j + 1) (by omega)
    have fw : rw_ (pz_up w (16 * j + 1) (w (16 * j + 1) ^^^ 1)) (aw_u h 41 (16 * j + 1) (nI (w (16 * j + 1) ^^^ 1))) := fun y hy => by
      by_cases h1 : y = 16 * j + 1
      · subst h1
        rw [pz_up_s]
        exact ⟨aw_rs, pz_xor_lt (j := 16) wl (by omega)⟩
      · rw [pz_up_n h1]
        exact ⟨aw_rd (by omega) (hw y hy).1, (hw y hy).2⟩
    refine ax_iload_n (q := 1) B d_R_spoil_0 rfl rfl rfl ?_
    refine ax_ifN_lt (q := 12) (q2 := 4) B (by omega) d_R_spoil_1 rfl rfl ?_
    refine ax_iload_n (q := 5) B d_R_spoil_4 rfl rfl rfl ?_
    refine ax_aload_n (q := 6) B d_R_spoil_5 rfl rfl rfl ?_
    refine ax_getN (q := 9) B fl_R_66 rfl d_R_spoil_6 (by assumption) (by first | assumption | rfl) rfl ?_
    refine ax_icmpN_lt (q := 14) (q2 := 12) B (by omega) (by omega) d_R_spoil_9 rfl rfl (fun h9 => ?_) (fun h9 => ?_)
    · refine ax_aload_n (q := 15) B d_R_spoil_14 rfl rfl rfl ?_
      refine ax_getP (q := 18) B fl_R_7 rfl d_R_spoil_15 (by assumption) (by assumption) rfl ?_
      refine ax_bipush (v := nI 16) (q := 20) B d_R_spoil_18 cb_16 rfl ?_
      refine ax_iload_n (q := 21) B d_R_spoil_20 rfl rfl rfl ?_
      first | refine ax_imulN (q := 22) B d_R_spoil_21 rfl ?_ | refine ax_imul (q := 22) B d_R_spoil_21 rfl ?_
      refine ax_iconst (v := nI 1) (q := 23) B d_R_spoil_22 ci_1 rfl ?_
      first | refine ax_iaddN (q := 24) B d_R_spoil_23 rfl ?_ | refine ax_iadd (q := 24) B d_R_spoil_23 rfl ?_
      refine ax_aload_n (q := 25) B d_R_spoil_24 rfl rfl rfl ?_
      refine ax_getP (q := 28) B fl_R_7 rfl d_R_spoil_25 (by assumption) (by assumption) rfl ?_
      refine ax_bipush (v := nI 16) (q := 30) B d_R_spoil_28 cb_16 rfl ?_
      refine ax_iload_n (q := 31) B d_R_spoil_30 rfl rfl rfl ?_
      first | refine ax_imulN (q := 32) B d_R_spoil_31 rfl ?_ | refine ax_imul (q := 32) B d_R_spoil_31 rfl ?_
      refine ax_iconst (v := nI 1) (q := 33) B d_R_spoil_32 ci_1 rfl ?_
      first | refine ax_iaddN (q := 34) B d_R_spoil_33 rfl ?_ | refine ax_iadd (q := 34) B d_R_spoil_33 rfl ?_
      refine ax_ialdN (q := 35) B d_R_spoil_34 (by assumption) rfl (by omega) (by omega) (by first | assumption | rfl) rfl ?_
      refine ax_iconst (v := nI 1) (q := 36) B d_R_spoil_35 ci_1 rfl ?_
      first | refine ax_ixorN (q := 37) B d_R_spoil_36 rfl ?_ | refine ax_ixor (q := 37) B d_R_spoil_36 rfl ?_
      refine ax_iastN (q := 38) B d_R_spoil_37 (by assumption) rfl (by omega) (by omega) rfl ?_
      refine ax_iconst (v := nI 1) (q := 39) B d_R_spoil_38 ci_1 rfl ?_
      refine ax_zret B E (by first | exact bI_or _ | decide) d_R_spoil_39 ?_
      exact ⟨_, rfl, rfl, ⟨hn, fw, ⟨aw_rd (by omega) e1, aw_rd (by omega) e2, hk, hsp, aw_rd (by omega) e3, fun z => aw_rd (by omega) (e4 z)⟩, hT.kept (fun q q1 q2 => aw_u_ne (by omega))⟩, fun q hq => aw_u_ne (by omega)⟩
    · omega
end
