/- the words that the constructors need; written by wip/whole/tools/maker.py -/
theorem wo_i : Cond.instanceMethod Lib.objectInit ∈ aw_Ts := aw_mem (List.mem_of_getElem? (i := 46) (by decide +kernel)) rfl
theorem wo_c : Cond.code Lib.objectInit ⟨#[0xb1]⟩ 1 none ∈ aw_Ts := aw_mem (List.mem_of_getElem? (i := 47) (by decide +kernel)) rfl
theorem wo_M : Cond.methodLink "SessionTables$Medium" 3 Lib.objectInit ∈ aw_Ts := aw_mem (List.mem_of_getElem? (i := 59) (by decide +kernel)) rfl
theorem wo_N : Cond.methodLink "SessionTables$Node" 3 Lib.objectInit ∈ aw_Ts := aw_mem (List.mem_of_getElem? (i := 91) (by decide +kernel)) rfl
theorem wo_T : Cond.methodLink "SessionTables$Tree" 3 Lib.objectInit ∈ aw_Ts := aw_mem (List.mem_of_getElem? (i := 84) (by decide +kernel)) rfl
theorem wo_S : Cond.methodLink "SessionTables" 1 Lib.objectInit ∈ aw_Ts := aw_mem (List.mem_of_getElem? (i := 45) (by decide +kernel)) rfl
theorem wo_R : Cond.methodLink "SessionTablesModel" 1 Lib.objectInit ∈ aw_Ts := aw_mem (List.mem_of_getElem? (i := 396) (by decide +kernel)) rfl
theorem wi_M : Cond.initialized "SessionTables$Medium" ∈ aw_Ts := aw_mem (List.mem_of_getElem? (i := 35) (by decide +kernel)) rfl
theorem wi_N : Cond.initialized "SessionTables$Node" ∈ aw_Ts := aw_mem (List.mem_of_getElem? (i := 38) (by decide +kernel)) rfl
theorem wi_T : Cond.initialized "SessionTables$Tree" ∈ aw_Ts := aw_mem (List.mem_of_getElem? (i := 37) (by decide +kernel)) rfl
theorem wi_S : Cond.initialized "SessionTables" ∈ aw_Ts := aw_mem (List.mem_of_getElem? (i := 34) (by decide +kernel)) rfl
theorem wi_R : Cond.initialized "SessionTablesModel" ∈ aw_Ts := aw_mem (List.mem_of_getElem? (i := 39) (by decide +kernel)) rfl
theorem wn_S : Cond.instantiable "SessionTables" 3 ∈ aw_Ts := aw_mem (List.mem_of_getElem? (i := 41) (by decide +kernel)) rfl
theorem wn_M : Cond.instantiable "SessionTables$Medium" 5 ∈ aw_Ts := aw_mem (List.mem_of_getElem? (i := 49) (by decide +kernel)) rfl
theorem wn_T : Cond.instantiable "SessionTables$Tree" 1 ∈ aw_Ts := aw_mem (List.mem_of_getElem? (i := 80) (by decide +kernel)) rfl
theorem wn_N : Cond.instantiable "SessionTables$Node" 5 ∈ aw_Ts := aw_mem (List.mem_of_getElem? (i := 87) (by decide +kernel)) rfl
theorem wn_R : Cond.instantiable "SessionTablesModel" 15 ∈ aw_Ts := aw_mem (List.mem_of_getElem? (i := 392) (by decide +kernel)) rfl
theorem wl_L_7 : Cond.classLink "SessionTablesLaw" 7 "SessionTables" ∈ aw_Ts := aw_mem (List.mem_of_getElem? (i := 40) (by decide +kernel)) rfl
theorem wl_S_7 : Cond.classLink "SessionTables" 7 "SessionTables$Medium" ∈ aw_Ts := aw_mem (List.mem_of_getElem? (i := 48) (by decide +kernel)) rfl
theorem wl_S_27 : Cond.classLink "SessionTables" 27 "SessionTables$Tree" ∈ aw_Ts := aw_mem (List.mem_of_getElem? (i := 79) (by decide +kernel)) rfl
theorem wl_T_9 : Cond.classLink "SessionTables$Tree" 9 "SessionTables$Node" ∈ aw_Ts := aw_mem (List.mem_of_getElem? (i := 85) (by decide +kernel)) rfl
theorem wl_L_18 : Cond.classLink "SessionTablesLaw" 18 "SessionTablesModel" ∈ aw_Ts := aw_mem (List.mem_of_getElem? (i := 391) (by decide +kernel)) rfl
theorem wa_int : Cond.arrayClass .int ∈ aw_Ts := aw_mem (List.mem_of_getElem? (i := 78) (by decide +kernel)) rfl
theorem wa_boolean : Cond.arrayClass .boolean ∈ aw_Ts := aw_mem (List.mem_of_getElem? (i := 447) (by decide +kernel)) rfl
theorem ff_M_9 : am_fF "SessionTables$Medium" 9 0 0 .int := ⟨F_M, fy_M, rfl, by decide, uw_M, aw_mem (List.mem_of_getElem? (i := 60) (by decide +kernel)) rfl, rfl, fy_M_ok, fn_M, rfl, fy_M_ok 0 (by decide)⟩ -- sectors
theorem ff_M_15 : am_fF "SessionTables$Medium" 15 0 1 (.array .int) := ⟨F_M, fy_M, rfl, by decide, uw_M, aw_mem (List.mem_of_getElem? (i := 61) (by decide +kernel)) rfl, rfl, fy_M_ok, fn_M, rfl, fy_M_ok 1 (by decide)⟩ -- words
theorem ff_M_19 : am_fF "SessionTables$Medium" 19 0 2 (.array .int) := ⟨F_M, fy_M, rfl, by decide, uw_M, aw_mem (List.mem_of_getElem? (i := 62) (by decide +kernel)) rfl, rfl, fy_M_ok, fn_M, rfl, fy_M_ok 2 (by decide)⟩ -- checks
theorem ff_N_9 : am_fF "SessionTables$Node" 9 1 0 (.array .int) := ⟨F_N, fy_N, rfl, by decide, uw_N, aw_mem (List.mem_of_getElem? (i := 92) (by decide +kernel)) rfl, rfl, fy_N_ok, fn_N, rfl, fy_N_ok 0 (by decide)⟩ -- list
theorem ff_T_11 : am_fF "SessionTables$Tree" 11 2 0 (.array (.object "SessionTables$Node")) := ⟨F_T, fy_T, rfl, by decide, uw_T, aw_mem (List.mem_of_getElem? (i := 115) (by decide +kernel)) rfl, rfl, fy_T_ok, fn_T, rfl, fy_T_ok 0 (by decide)⟩ -- nodes
theorem ff_S_23 : am_fF "SessionTables" 23 3 0 (.object "SessionTables$Medium") := ⟨F_S, fy_S, rfl, by decide, uw_S, aw_mem (List.mem_of_getElem? (i := 136) (by decide +kernel)) rfl, rfl, fy_S_ok, fn_S, rfl, fy_S_ok 0 (by decide)⟩ -- medium
theorem ff_S_30 : am_fF "SessionTables" 30 3 1 (.object "SessionTables$Tree") := ⟨F_S, fy_S, rfl, by decide, uw_S, aw_mem (List.mem_of_getElem? (i := 137) (by decide +kernel)) rfl, rfl, fy_S_ok, fn_S, rfl, fy_S_ok 1 (by decide)⟩ -- tree
theorem ff_S_34 : am_fF "SessionTables" 34 3 2 (.object "SessionTables$Tree") := ⟨F_S, fy_S, rfl, by decide, uw_S, aw_mem (List.mem_of_getElem? (i := 138) (by decide +kernel)) rfl, rfl, fy_S_ok, fn_S, rfl, fy_S_ok 2 (by decide)⟩ -- past
theorem ff_R_7 : am_fF "SessionTablesModel" 7 4 0 (.array .int) := ⟨F_R, fy_R, rfl, by decide, uw_R, aw_mem (List.mem_of_getElem? (i := 401) (by decide +kernel)) rfl, rfl, fy_R_ok, fn_R, rfl, fy_R_ok 0 (by decide)⟩ -- word
theorem ff_R_13 : am_fF "SessionTablesModel" 13 4 5 (.array .int) := ⟨F_R, fy_R, rfl, by decide, uw_R, aw_mem (List.mem_of_getElem? (i := 406) (by decide +kernel)) rfl, rfl, fy_R_ok, fn_R, rfl, fy_R_ok 5 (by decide)⟩ -- kind
theorem ff_R_16 : am_fF "SessionTablesModel" 16 4 6 (.array .int) := ⟨F_R, fy_R, rfl, by decide, uw_R, aw_mem (List.mem_of_getElem? (i := 407) (by decide +kernel)) rfl, rfl, fy_R_ok, fn_R, rfl, fy_R_ok 6 (by decide)⟩ -- count
theorem ff_R_19 : am_fF "SessionTablesModel" 19 4 7 (.array .int) := ⟨F_R, fy_R, rfl, by decide, uw_R, aw_mem (List.mem_of_getElem? (i := 408) (by decide +kernel)) rfl, rfl, fy_R_ok, fn_R, rfl, fy_R_ok 7 (by decide)⟩ -- items
theorem ff_R_22 : am_fF "SessionTablesModel" 22 4 8 (.array .boolean) := ⟨F_R, fy_R, rfl, by decide, uw_R, aw_mem (List.mem_of_getElem? (i := 409) (by decide +kernel)) rfl, rfl, fy_R_ok, fn_R, rfl, fy_R_ok 8 (by decide)⟩ -- changed
theorem ff_R_26 : am_fF "SessionTablesModel" 26 4 9 (.array .int) := ⟨F_R, fy_R, rfl, by decide, uw_R, aw_mem (List.mem_of_getElem? (i := 410) (by decide +kernel)) rfl, rfl, fy_R_ok, fn_R, rfl, fy_R_ok 9 (by decide)⟩ -- entry
theorem ff_R_29 : am_fF "SessionTablesModel" 29 4 10 (.array .int) := ⟨F_R, fy_R, rfl, by decide, uw_R, aw_mem (List.mem_of_getElem? (i := 411) (by decide +kernel)) rfl, rfl, fy_R_ok, fn_R, rfl, fy_R_ok 10 (by decide)⟩ -- seenKind
theorem ff_R_32 : am_fF "SessionTablesModel" 32 4 11 (.array .int) := ⟨F_R, fy_R, rfl, by decide, uw_R, aw_mem (List.mem_of_getElem? (i := 412) (by decide +kernel)) rfl, rfl, fy_R_ok, fn_R, rfl, fy_R_ok 11 (by decide)⟩ -- seenCount
theorem ff_R_35 : am_fF "SessionTablesModel" 35 4 12 (.array .int) := ⟨F_R, fy_R, rfl, by decide, uw_R, aw_mem (List.mem_of_getElem? (i := 413) (by decide +kernel)) rfl, rfl, fy_R_ok, fn_R, rfl, fy_R_ok 12 (by decide)⟩ -- seenItems
theorem ff_R_38 : am_fF "SessionTablesModel" 38 4 13 (.array .int) := ⟨F_R, fy_R, rfl, by decide, uw_R, aw_mem (List.mem_of_getElem? (i := 414) (by decide +kernel)) rfl, rfl, fy_R_ok, fn_R, rfl, fy_R_ok 13 (by decide)⟩ -- sector
theorem ff_R_41 : am_fF "SessionTablesModel" 41 4 14 (.array .boolean) := ⟨F_R, fy_R, rfl, by decide, uw_R, aw_mem (List.mem_of_getElem? (i := 415) (by decide +kernel)) rfl, rfl, fy_R_ok, fn_R, rfl, fy_R_ok 14 (by decide)⟩ -- below
theorem ci_T_17i : am_ci "SessionTables$Tree" 17 Y_N_init 0 := ⟨aw_mem (List.mem_of_getElem? (i := 90) (by decide +kernel)) rfl, aw_mem (List.mem_of_getElem? (i := 88) (by decide +kernel)) rfl, aw_mem (List.mem_of_getElem? (i := 89) (by decide +kernel)) rfl, aw_mem (List.mem_of_getElem? (i := 38) (by decide +kernel)) rfl, ⟨by decide +kernel, by decide +kernel, by decide +kernel⟩, by decide, rfl, rfl⟩
theorem ci_S_20i : am_ci "SessionTables" 20 Y_M_init 1 := ⟨aw_mem (List.mem_of_getElem? (i := 58) (by decide +kernel)) rfl, aw_mem (List.mem_of_getElem? (i := 56) (by decide +kernel)) rfl, aw_mem (List.mem_of_getElem? (i := 57) (by decide +kernel)) rfl, aw_mem (List.mem_of_getElem? (i := 35) (by decide +kernel)) rfl, ⟨by decide +kernel, by decide +kernel, by decide +kernel⟩, by decide, rfl, rfl⟩
theorem ci_S_29i : am_ci "SessionTables" 29 Y_T_init 0 := ⟨aw_mem (List.mem_of_getElem? (i := 83) (by decide +kernel)) rfl, aw_mem (List.mem_of_getElem? (i := 81) (by decide +kernel)) rfl, aw_mem (List.mem_of_getElem? (i := 82) (by decide +kernel)) rfl, aw_mem (List.mem_of_getElem? (i := 37) (by decide +kernel)) rfl, ⟨by decide +kernel, by decide +kernel, by decide +kernel⟩, by decide, rfl, rfl⟩
theorem ci_L_15i : am_ci "SessionTablesLaw" 15 Y_S_init 1 := ⟨aw_mem (List.mem_of_getElem? (i := 44) (by decide +kernel)) rfl, aw_mem (List.mem_of_getElem? (i := 42) (by decide +kernel)) rfl, aw_mem (List.mem_of_getElem? (i := 43) (by decide +kernel)) rfl, aw_mem (List.mem_of_getElem? (i := 34) (by decide +kernel)) rfl, ⟨by decide +kernel, by decide +kernel, by decide +kernel⟩, by decide, rfl, rfl⟩
theorem ci_L_20i : am_ci "SessionTablesLaw" 20 Y_R_init 1 := ⟨aw_mem (List.mem_of_getElem? (i := 395) (by decide +kernel)) rfl, aw_mem (List.mem_of_getElem? (i := 393) (by decide +kernel)) rfl, aw_mem (List.mem_of_getElem? (i := 394) (by decide +kernel)) rfl, aw_mem (List.mem_of_getElem? (i := 39) (by decide +kernel)) rfl, ⟨by decide +kernel, by decide +kernel, by decide +kernel⟩, by decide, rfl, rfl⟩
