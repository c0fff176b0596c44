/- Math.max and Math.min -/
theorem ms_max : Cond.static Lib.Math.max.name ∈ aw_Ts := aw_mem (List.mem_of_getElem? (i := 54) (by decide +kernel)) rfl
theorem mc_max : Cond.code Lib.Math.max.name Lib.Math.max.code 2 (some .int) ∈ aw_Ts := aw_mem (List.mem_of_getElem? (i := 55) (by decide +kernel)) rfl
theorem ms_min : Cond.static Lib.Math.min.name ∈ aw_Ts := aw_mem (List.mem_of_getElem? (i := 51) (by decide +kernel)) rfl
theorem mc_min : Cond.code Lib.Math.min.name Lib.Math.min.code 2 (some .int) ∈ aw_Ts := aw_mem (List.mem_of_getElem? (i := 52) (by decide +kernel)) rfl
theorem mi_math : Cond.initialized "java/lang/Math" ∈ aw_Ts := aw_mem (List.mem_of_getElem? (i := 36) (by decide +kernel)) rfl
theorem ml_S_11 : Cond.methodLink "SessionTables" 11 Lib.Math.min.name ∈ aw_Ts := aw_mem (List.mem_of_getElem? (i := 50) (by decide +kernel)) rfl
theorem ml_S_17 : Cond.methodLink "SessionTables" 17 Lib.Math.max.name ∈ aw_Ts := aw_mem (List.mem_of_getElem? (i := 53) (by decide +kernel)) rfl
theorem ml_N_35 : Cond.methodLink "SessionTables$Node" 35 Lib.Math.min.name ∈ aw_Ts := aw_mem (List.mem_of_getElem? (i := 264) (by decide +kernel)) rfl
theorem ml_N_40 : Cond.methodLink "SessionTables$Node" 40 Lib.Math.max.name ∈ aw_Ts := aw_mem (List.mem_of_getElem? (i := 265) (by decide +kernel)) rfl
