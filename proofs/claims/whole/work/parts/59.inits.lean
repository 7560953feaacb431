theorem xv_208 : (.fieldLink RX4 14 "CaseWheel" "text" "LCaseWheel$Letters;" : Cond) ∈ XW := (List.mem_filter.mpr ⟨List.mem_of_getElem? (i := 208) (by decide +kernel), by decide +kernel⟩)
theorem ff_X4_14 : ffOK RX4 14 4 0 (.object "CaseWheel$Letters") := ⟨_, rfl, inX4, by decide, xv_208, rfl, rfl, by decide +kernel, nmX4, tyX4, tyX4_ok⟩
theorem xv_209 : (.fieldLink RX4 18 "CaseWheel" "docket" "LCaseWheel$Letters;" : Cond) ∈ XW := (List.mem_filter.mpr ⟨List.mem_of_getElem? (i := 209) (by decide +kernel), by decide +kernel⟩)
theorem ff_X4_18 : ffOK RX4 18 4 1 (.object "CaseWheel$Letters") := ⟨_, rfl, inX4, by decide, xv_209, rfl, rfl, by decide +kernel, nmX4, tyX4, tyX4_ok⟩
theorem xv_210 : (.fieldLink RX4 21 "CaseWheel" "slips" "[LCaseWheel$Letters;" : Cond) ∈ XW := (List.mem_filter.mpr ⟨List.mem_of_getElem? (i := 210) (by decide +kernel), by decide +kernel⟩)
theorem ff_X4_21 : ffOK RX4 21 4 2 (.array (.object "CaseWheel$Letters")) := ⟨_, rfl, inX4, by decide, xv_210, rfl, rfl, by decide +kernel, nmX4, tyX4, tyX4_ok⟩
theorem xv_211 : (.fieldLink RX4 25 "CaseWheel" "isThere" "[Z" : Cond) ∈ XW := (List.mem_filter.mpr ⟨List.mem_of_getElem? (i := 211) (by decide +kernel), by decide +kernel⟩)
theorem ff_X4_25 : ffOK RX4 25 4 3 (.array .boolean) := ⟨_, rfl, inX4, by decide, xv_211, rfl, rfl, by decide +kernel, nmX4, tyX4, tyX4_ok⟩
theorem xv_212 : (.fieldLink RX4 34 "CaseWheel" "reader" "LCaseWheel$TextReader;" : Cond) ∈ XW := (List.mem_filter.mpr ⟨List.mem_of_getElem? (i := 212) (by decide +kernel), by decide +kernel⟩)
theorem ff_X4_34 : ffOK RX4 34 4 4 (.object "CaseWheel$TextReader") := ⟨_, rfl, inX4, by decide, xv_212, rfl, rfl, by decide +kernel, nmX4, tyX4, tyX4_ok⟩
theorem xv_213 : (.fieldLink RX4 41 "CaseWheel" "asTold" "LCaseWheel$State;" : Cond) ∈ XW := (List.mem_filter.mpr ⟨List.mem_of_getElem? (i := 213) (by decide +kernel), by decide +kernel⟩)
theorem ff_X4_41 : ffOK RX4 41 4 5 (.object "CaseWheel$State") := ⟨_, rfl, inX4, by decide, xv_213, rfl, rfl, by decide +kernel, nmX4, tyX4, tyX4_ok⟩
theorem xv_214 : (.fieldLink RX4 45 "CaseWheel" "asRead" "LCaseWheel$State;" : Cond) ∈ XW := (List.mem_filter.mpr ⟨List.mem_of_getElem? (i := 214) (by decide +kernel), by decide +kernel⟩)
theorem ff_X4_45 : ffOK RX4 45 4 6 (.object "CaseWheel$State") := ⟨_, rfl, inX4, by decide, xv_214, rfl, rfl, by decide +kernel, nmX4, tyX4, tyX4_ok⟩
theorem xv_215 : (.fieldLink RX4 48 "CaseWheel" "now" "LCaseWheel$State;" : Cond) ∈ XW := (List.mem_filter.mpr ⟨List.mem_of_getElem? (i := 215) (by decide +kernel), by decide +kernel⟩)
theorem ff_X4_48 : ffOK RX4 48 4 7 (.object "CaseWheel$State") := ⟨_, rfl, inX4, by decide, xv_215, rfl, rfl, by decide +kernel, nmX4, tyX4, tyX4_ok⟩
theorem xv_216 : (.fieldLink RX4 51 "CaseWheel" "foretold" "LCaseWheel$State;" : Cond) ∈ XW := (List.mem_filter.mpr ⟨List.mem_of_getElem? (i := 216) (by decide +kernel), by decide +kernel⟩)
theorem ff_X4_51 : ffOK RX4 51 4 8 (.object "CaseWheel$State") := ⟨_, rfl, inX4, by decide, xv_216, rfl, rfl, by decide +kernel, nmX4, tyX4, tyX4_ok⟩
theorem xv_217 : (.fieldLink RX4 57 "CaseWheel" "history" "LCaseWheel$History;" : Cond) ∈ XW := (List.mem_filter.mpr ⟨List.mem_of_getElem? (i := 217) (by decide +kernel), by decide +kernel⟩)
theorem ff_X4_57 : ffOK RX4 57 4 9 (.object "CaseWheel$History") := ⟨_, rfl, inX4, by decide, xv_217, rfl, rfl, by decide +kernel, nmX4, tyX4, tyX4_ok⟩
theorem xv_218 : (.fieldLink RX4 61 "CaseWheel" "kept" "[LCaseWheel$State;" : Cond) ∈ XW := (List.mem_filter.mpr ⟨List.mem_of_getElem? (i := 218) (by decide +kernel), by decide +kernel⟩)
theorem ff_X4_61 : ffOK RX4 61 4 10 (.array (.object "CaseWheel$State")) := ⟨_, rfl, inX4, by decide, xv_218, rfl, rfl, by decide +kernel, nmX4, tyX4, tyX4_ok⟩
theorem xv_219 : (.fieldLink RX4 65 "CaseWheel" "isKept" "[Z" : Cond) ∈ XW := (List.mem_filter.mpr ⟨List.mem_of_getElem? (i := 219) (by decide +kernel), by decide +kernel⟩)
theorem ff_X4_65 : ffOK RX4 65 4 11 (.array .boolean) := ⟨_, rfl, inX4, by decide, xv_219, rfl, rfl, by decide +kernel, nmX4, tyX4, tyX4_ok⟩
theorem xv_197 : (.fieldLink RX0 11 "CaseWheel$History" "before" "[LCaseWheel$State;" : Cond) ∈ XW := (List.mem_filter.mpr ⟨List.mem_of_getElem? (i := 197) (by decide +kernel), by decide +kernel⟩)
theorem ff_X0_11 : ffOK RX0 11 0 0 (.array (.object "CaseWheel$State")) := ⟨_, rfl, inX0, by decide, xv_197, rfl, rfl, by decide +kernel, nmX0, tyX0, tyX0_ok⟩
theorem xv_82 : (.fieldLink RX1 15 "CaseWheel$Letters" "row" "[I" : Cond) ∈ XW := (List.mem_filter.mpr ⟨List.mem_of_getElem? (i := 82) (by decide +kernel), by decide +kernel⟩)
theorem ff_X1_15 : ffOK RX1 15 1 0 (.array .int) := ⟨_, rfl, inX1, by decide, xv_82, rfl, rfl, by decide +kernel, nmX1, tyX1, tyX1_ok⟩
theorem xv_125 : (.fieldLink RX2 9 "CaseWheel$State" "strength" "[I" : Cond) ∈ XW := (List.mem_filter.mpr ⟨List.mem_of_getElem? (i := 125) (by decide +kernel), by decide +kernel⟩)
theorem ff_X2_9 : ffOK RX2 9 2 0 (.array .int) := ⟨_, rfl, inX2, by decide, xv_125, rfl, rfl, by decide +kernel, nmX2, tyX2, tyX2_ok⟩
theorem xv_127 : (.fieldLink RX2 15 "CaseWheel$State" "versed" "[I" : Cond) ∈ XW := (List.mem_filter.mpr ⟨List.mem_of_getElem? (i := 127) (by decide +kernel), by decide +kernel⟩)
theorem ff_X2_15 : ffOK RX2 15 2 1 (.array .int) := ⟨_, rfl, inX2, by decide, xv_127, rfl, rfl, by decide +kernel, nmX2, tyX2, tyX2_ok⟩
theorem xv_129 : (.fieldLink RX2 18 "CaseWheel$State" "barred" "[I" : Cond) ∈ XW := (List.mem_filter.mpr ⟨List.mem_of_getElem? (i := 129) (by decide +kernel), by decide +kernel⟩)
theorem ff_X2_18 : ffOK RX2 18 2 2 (.array .int) := ⟨_, rfl, inX2, by decide, xv_129, rfl, rfl, by decide +kernel, nmX2, tyX2, tyX2_ok⟩
theorem xv_132 : (.fieldLink RX2 21 "CaseWheel$State" "debt" "[I" : Cond) ∈ XW := (List.mem_filter.mpr ⟨List.mem_of_getElem? (i := 132) (by decide +kernel), by decide +kernel⟩)
theorem ff_X2_21 : ffOK RX2 21 2 3 (.array .int) := ⟨_, rfl, inX2, by decide, xv_132, rfl, rfl, by decide +kernel, nmX2, tyX2, tyX2_ok⟩
theorem xv_134 : (.fieldLink RX2 24 "CaseWheel$State" "subjectOf" "[I" : Cond) ∈ XW := (List.mem_filter.mpr ⟨List.mem_of_getElem? (i := 134) (by decide +kernel), by decide +kernel⟩)
theorem ff_X2_24 : ffOK RX2 24 2 4 (.array .int) := ⟨_, rfl, inX2, by decide, xv_134, rfl, rfl, by decide +kernel, nmX2, tyX2, tyX2_ok⟩
theorem xv_136 : (.fieldLink RX2 27 "CaseWheel$State" "partyOf" "[I" : Cond) ∈ XW := (List.mem_filter.mpr ⟨List.mem_of_getElem? (i := 136) (by decide +kernel), by decide +kernel⟩)
theorem ff_X2_27 : ffOK RX2 27 2 5 (.array .int) := ⟨_, rfl, inX2, by decide, xv_136, rfl, rfl, by decide +kernel, nmX2, tyX2, tyX2_ok⟩
theorem xv_138 : (.fieldLink RX2 30 "CaseWheel$State" "judgeOf" "[I" : Cond) ∈ XW := (List.mem_filter.mpr ⟨List.mem_of_getElem? (i := 138) (by decide +kernel), by decide +kernel⟩)
theorem ff_X2_30 : ffOK RX2 30 2 6 (.array .int) := ⟨_, rfl, inX2, by decide, xv_138, rfl, rfl, by decide +kernel, nmX2, tyX2, tyX2_ok⟩
theorem xv_140 : (.fieldLink RX2 33 "CaseWheel$State" "weightsUpTo" "[I" : Cond) ∈ XW := (List.mem_filter.mpr ⟨List.mem_of_getElem? (i := 140) (by decide +kernel), by decide +kernel⟩)
theorem ff_X2_33 : ffOK RX2 33 2 7 (.array .int) := ⟨_, rfl, inX2, by decide, xv_140, rfl, rfl, by decide +kernel, nmX2, tyX2, tyX2_ok⟩
theorem xv_101 : (.fieldLink RX3 9 "CaseWheel$TextReader" "text" "LCaseWheel$Letters;" : Cond) ∈ XW := (List.mem_filter.mpr ⟨List.mem_of_getElem? (i := 101) (by decide +kernel), by decide +kernel⟩)
theorem ff_X3_9 : ffOK RX3 9 3 0 (.object "CaseWheel$Letters") := ⟨_, rfl, inX3, by decide, xv_101, rfl, rfl, by decide +kernel, nmX3, tyX3, tyX3_ok⟩
theorem xv_707 : (.fieldLink RX5 7 "CaseWheelModel" "row" "[I" : Cond) ∈ XW := (List.mem_filter.mpr ⟨List.mem_of_getElem? (i := 707) (by decide +kernel), by decide +kernel⟩)
theorem ff_X5_7 : ffOK RX5 7 5 0 (.array .int) := ⟨_, rfl, inX5, by decide, xv_707, rfl, rfl, by decide +kernel, nmX5, tyX5, tyX5_ok⟩
theorem xv_710 : (.fieldLink RX5 13 "CaseWheelModel" "strengths" "[I" : Cond) ∈ XW := (List.mem_filter.mpr ⟨List.mem_of_getElem? (i := 710) (by decide +kernel), by decide +kernel⟩)
theorem ff_X5_13 : ffOK RX5 13 5 3 (.array .int) := ⟨_, rfl, inX5, by decide, xv_710, rfl, rfl, by decide +kernel, nmX5, tyX5, tyX5_ok⟩
theorem xv_711 : (.fieldLink RX5 16 "CaseWheelModel" "versed" "[I" : Cond) ∈ XW := (List.mem_filter.mpr ⟨List.mem_of_getElem? (i := 711) (by decide +kernel), by decide +kernel⟩)
theorem ff_X5_16 : ffOK RX5 16 5 4 (.array .int) := ⟨_, rfl, inX5, by decide, xv_711, rfl, rfl, by decide +kernel, nmX5, tyX5, tyX5_ok⟩
theorem xv_713 : (.fieldLink RX5 19 "CaseWheelModel" "isKept" "[Z" : Cond) ∈ XW := (List.mem_filter.mpr ⟨List.mem_of_getElem? (i := 713) (by decide +kernel), by decide +kernel⟩)
theorem ff_X5_19 : ffOK RX5 19 5 6 (.array .boolean) := ⟨_, rfl, inX5, by decide, xv_713, rfl, rfl, by decide +kernel, nmX5, tyX5, tyX5_ok⟩
theorem xv_714 : (.fieldLink RX5 23 "CaseWheelModel" "text" "[I" : Cond) ∈ XW := (List.mem_filter.mpr ⟨List.mem_of_getElem? (i := 714) (by decide +kernel), by decide +kernel⟩)
theorem ff_X5_23 : ffOK RX5 23 5 7 (.array .int) := ⟨_, rfl, inX5, by decide, xv_714, rfl, rfl, by decide +kernel, nmX5, tyX5, tyX5_ok⟩
theorem xv_716 : (.fieldLink RX5 26 "CaseWheelModel" "sizes" "[I" : Cond) ∈ XW := (List.mem_filter.mpr ⟨List.mem_of_getElem? (i := 716) (by decide +kernel), by decide +kernel⟩)
theorem ff_X5_26 : ffOK RX5 26 5 9 (.array .int) := ⟨_, rfl, inX5, by decide, xv_716, rfl, rfl, by decide +kernel, nmX5, tyX5, tyX5_ok⟩
theorem xv_717 : (.fieldLink RX5 29 "CaseWheelModel" "letters" "[I" : Cond) ∈ XW := (List.mem_filter.mpr ⟨List.mem_of_getElem? (i := 717) (by decide +kernel), by decide +kernel⟩)
theorem ff_X5_29 : ffOK RX5 29 5 10 (.array .int) := ⟨_, rfl, inX5, by decide, xv_717, rfl, rfl, by decide +kernel, nmX5, tyX5, tyX5_ok⟩
theorem xv_723 : (.fieldLink RX5 32 "CaseWheelModel" "numbers" "[I" : Cond) ∈ XW := (List.mem_filter.mpr ⟨List.mem_of_getElem? (i := 723) (by decide +kernel), by decide +kernel⟩)
theorem ff_X5_32 : ffOK RX5 32 5 16 (.array .int) := ⟨_, rfl, inX5, by decide, xv_723, rfl, rfl, by decide +kernel, nmX5, tyX5, tyX5_ok⟩
theorem xv_724 : (.fieldLink RX5 35 "CaseWheelModel" "words" "[I" : Cond) ∈ XW := (List.mem_filter.mpr ⟨List.mem_of_getElem? (i := 724) (by decide +kernel), by decide +kernel⟩)
theorem ff_X5_35 : ffOK RX5 35 5 17 (.array .int) := ⟨_, rfl, inX5, by decide, xv_724, rfl, rfl, by decide +kernel, nmX5, tyX5, tyX5_ok⟩
theorem xv_725 : (.fieldLink RX5 38 "CaseWheelModel" "written" "[I" : Cond) ∈ XW := (List.mem_filter.mpr ⟨List.mem_of_getElem? (i := 725) (by decide +kernel), by decide +kernel⟩)
theorem ff_X5_38 : ffOK RX5 38 5 18 (.array .int) := ⟨_, rfl, inX5, by decide, xv_725, rfl, rfl, by decide +kernel, nmX5, tyX5, tyX5_ok⟩
theorem xv_194 : (.classLink RX0 9 RX2 : Cond) ∈ XW := (List.mem_filter.mpr ⟨List.mem_of_getElem? (i := 194) (by decide +kernel), by decide +kernel⟩)
theorem xv_120 : (.instantiable RX2 15 : Cond) ∈ XW := (List.mem_filter.mpr ⟨List.mem_of_getElem? (i := 120) (by decide +kernel), by decide +kernel⟩)
theorem xv_56 : (.initialized RX2 : Cond) ∈ XW := (List.mem_filter.mpr ⟨List.mem_of_getElem? (i := 56) (by decide +kernel), by decide +kernel⟩)
theorem nw_X0_9 : nwOK RX0 9 2 15 [.null, .null, .null, .null, .null, .null, .null, .null, .int 0, .int 0, .int 0, .int 0, .int 0, .int 0, .int 0] := ⟨_, rfl, rfl, inX2, xv_194, xv_120, xv_56, tyX2, tyX2_ok, fun j hj => by (have hj : j < 15 := hj; rcases (show j = 0 ∨ j = 1 ∨ j = 2 ∨ j = 3 ∨ j = 4 ∨ j = 5 ∨ j = 6 ∨ j = 7 ∨ j = 8 ∨ j = 9 ∨ j = 10 ∨ j = 11 ∨ j = 12 ∨ j = 13 ∨ j = 14 by omega) with rfl | rfl | rfl | rfl | rfl | rfl | rfl | rfl | rfl | rfl | rfl | rfl | rfl | rfl | rfl <;> rfl)⟩
theorem xv_73 : (.classLink RX4 7 RX1 : Cond) ∈ XW := (List.mem_filter.mpr ⟨List.mem_of_getElem? (i := 73) (by decide +kernel), by decide +kernel⟩)
theorem xv_74 : (.instantiable RX1 2 : Cond) ∈ XW := (List.mem_filter.mpr ⟨List.mem_of_getElem? (i := 74) (by decide +kernel), by decide +kernel⟩)
theorem xv_53 : (.initialized RX1 : Cond) ∈ XW := (List.mem_filter.mpr ⟨List.mem_of_getElem? (i := 53) (by decide +kernel), by decide +kernel⟩)
theorem nw_X4_7 : nwOK RX4 7 1 2 [.null, .int 0] := ⟨_, rfl, rfl, inX1, xv_73, xv_74, xv_53, tyX1, tyX1_ok, fun j hj => by (have hj : j < 2 := hj; rcases (show j = 0 ∨ j = 1 by omega) with rfl | rfl <;> rfl)⟩
theorem xv_95 : (.classLink RX4 29 RX3 : Cond) ∈ XW := (List.mem_filter.mpr ⟨List.mem_of_getElem? (i := 95) (by decide +kernel), by decide +kernel⟩)
theorem xv_96 : (.instantiable RX3 5 : Cond) ∈ XW := (List.mem_filter.mpr ⟨List.mem_of_getElem? (i := 96) (by decide +kernel), by decide +kernel⟩)
theorem xv_55 : (.initialized RX3 : Cond) ∈ XW := (List.mem_filter.mpr ⟨List.mem_of_getElem? (i := 55) (by decide +kernel), by decide +kernel⟩)
theorem nw_X4_29 : nwOK RX4 29 3 5 [.null, .int 0, .int 0, .int 0, .int 0] := ⟨_, rfl, rfl, inX3, xv_95, xv_96, xv_55, tyX3, tyX3_ok, fun j hj => by (have hj : j < 5 := hj; rcases (show j = 0 ∨ j = 1 ∨ j = 2 ∨ j = 3 ∨ j = 4 by omega) with rfl | rfl | rfl | rfl | rfl <;> rfl)⟩
theorem xv_119 : (.classLink RX4 38 RX2 : Cond) ∈ XW := (List.mem_filter.mpr ⟨List.mem_of_getElem? (i := 119) (by decide +kernel), by decide +kernel⟩)
theorem nw_X4_38 : nwOK RX4 38 2 15 [.null, .null, .null, .null, .null, .null, .null, .null, .int 0, .int 0, .int 0, .int 0, .int 0, .int 0, .int 0] := ⟨_, rfl, rfl, inX2, xv_119, xv_120, xv_56, tyX2, tyX2_ok, fun j hj => by (have hj : j < 15 := hj; rcases (show j = 0 ∨ j = 1 ∨ j = 2 ∨ j = 3 ∨ j = 4 ∨ j = 5 ∨ j = 6 ∨ j = 7 ∨ j = 8 ∨ j = 9 ∨ j = 10 ∨ j = 11 ∨ j = 12 ∨ j = 13 ∨ j = 14 by omega) with rfl | rfl | rfl | rfl | rfl | rfl | rfl | rfl | rfl | rfl | rfl | rfl | rfl | rfl | rfl <;> rfl)⟩
theorem xv_188 : (.classLink RX4 54 RX0 : Cond) ∈ XW := (List.mem_filter.mpr ⟨List.mem_of_getElem? (i := 188) (by decide +kernel), by decide +kernel⟩)
theorem xv_189 : (.instantiable RX0 3 : Cond) ∈ XW := (List.mem_filter.mpr ⟨List.mem_of_getElem? (i := 189) (by decide +kernel), by decide +kernel⟩)
theorem xv_57 : (.initialized RX0 : Cond) ∈ XW := (List.mem_filter.mpr ⟨List.mem_of_getElem? (i := 57) (by decide +kernel), by decide +kernel⟩)
theorem nw_X4_54 : nwOK RX4 54 0 3 [.null, .int 0, .int 0] := ⟨_, rfl, rfl, inX0, xv_188, xv_189, xv_57, tyX0, tyX0_ok, fun j hj => by (have hj : j < 3 := hj; rcases (show j = 0 ∨ j = 1 ∨ j = 2 by omega) with rfl | rfl | rfl <;> rfl)⟩
theorem xv_65 : (.classLink RL 7 RX4 : Cond) ∈ XW := (List.mem_filter.mpr ⟨List.mem_of_getElem? (i := 65) (by decide +kernel), by decide +kernel⟩)
theorem xv_66 : (.instantiable RX4 12 : Cond) ∈ XW := (List.mem_filter.mpr ⟨List.mem_of_getElem? (i := 66) (by decide +kernel), by decide +kernel⟩)
theorem xv_52 : (.initialized RX4 : Cond) ∈ XW := (List.mem_filter.mpr ⟨List.mem_of_getElem? (i := 52) (by decide +kernel), by decide +kernel⟩)
theorem nw_L_7 : nwOK RL 7 4 12 [.null, .null, .null, .null, .null, .null, .null, .null, .null, .null, .null, .null] := ⟨_, rfl, rfl, inX4, xv_65, xv_66, xv_52, tyX4, tyX4_ok, fun j hj => by (have hj : j < 12 := hj; rcases (show j = 0 ∨ j = 1 ∨ j = 2 ∨ j = 3 ∨ j = 4 ∨ j = 5 ∨ j = 6 ∨ j = 7 ∨ j = 8 ∨ j = 9 ∨ j = 10 ∨ j = 11 by omega) with rfl | rfl | rfl | rfl | rfl | rfl | rfl | rfl | rfl | rfl | rfl | rfl <;> rfl)⟩
theorem xv_693 : (.classLink RL 10 RX5 : Cond) ∈ XW := (List.mem_filter.mpr ⟨List.mem_of_getElem? (i := 693) (by decide +kernel), by decide +kernel⟩)
theorem xv_694 : (.instantiable RX5 20 : Cond) ∈ XW := (List.mem_filter.mpr ⟨List.mem_of_getElem? (i := 694) (by decide +kernel), by decide +kernel⟩)
theorem xv_58 : (.initialized RX5 : Cond) ∈ XW := (List.mem_filter.mpr ⟨List.mem_of_getElem? (i := 58) (by decide +kernel), by decide +kernel⟩)
theorem nw_L_10 : nwOK RL 10 5 20 [.null, .int 0, .int 0, .null, .null, .int 0, .null, .null, .int 0, .null, .null, .int 0, .int 0, .int 0, .int 0, .int 0, .null, .null, .null, .int 0] := ⟨_, rfl, rfl, inX5, xv_693, xv_694, xv_58, tyX5, tyX5_ok, fun j hj => by (have hj : j < 20 := hj; rcases (show j = 0 ∨ j = 1 ∨ j = 2 ∨ j = 3 ∨ j = 4 ∨ j = 5 ∨ j = 6 ∨ j = 7 ∨ j = 8 ∨ j = 9 ∨ j = 10 ∨ j = 11 ∨ j = 12 ∨ j = 13 ∨ j = 14 ∨ j = 15 ∨ j = 16 ∨ j = 17 ∨ j = 18 ∨ j = 19 by omega) with rfl | rfl | rfl | rfl | rfl | rfl | rfl | rfl | rfl | rfl | rfl | rfl | rfl | rfl | rfl | rfl | rfl | rfl | rfl | rfl <;> rfl)⟩
theorem aq_X0_9 : (.classLink RX0 9 "CaseWheel$State" : Cond) ∈ XW := (List.mem_filter.mpr ⟨List.mem_of_getElem? (i := 194) (by decide +kernel), by decide +kernel⟩)
theorem aq_X4_7 : (.classLink RX4 7 "CaseWheel$Letters" : Cond) ∈ XW := (List.mem_filter.mpr ⟨List.mem_of_getElem? (i := 73) (by decide +kernel), by decide +kernel⟩)
theorem aq_X4_38 : (.classLink RX4 38 "CaseWheel$State" : Cond) ∈ XW := (List.mem_filter.mpr ⟨List.mem_of_getElem? (i := 119) (by decide +kernel), by decide +kernel⟩)
theorem ac_int : (.arrayClass .int : Cond) ∈ XW := (List.mem_filter.mpr ⟨List.mem_of_getElem? (i := 93) (by decide +kernel), by decide +kernel⟩)
theorem ac_bool : (.arrayClass .boolean : Cond) ∈ XW := (List.mem_filter.mpr ⟨List.mem_of_getElem? (i := 118) (by decide +kernel), by decide +kernel⟩)
theorem oi_m : (.instanceMethod Lib.objectInit : Cond) ∈ XW := (List.mem_filter.mpr ⟨List.mem_of_getElem? (i := 71) (by decide +kernel), by decide +kernel⟩)
theorem oi_c : (.code Lib.objectInit ⟨#[0xb1]⟩ 1 none : Cond) ∈ XW := (List.mem_filter.mpr ⟨List.mem_of_getElem? (i := 72) (by decide +kernel), by decide +kernel⟩)
theorem oi_X0 : (.methodLink RX0 3 Lib.objectInit : Cond) ∈ XW := (List.mem_filter.mpr ⟨List.mem_of_getElem? (i := 193) (by decide +kernel), by decide +kernel⟩)
theorem oi_X1 : (.methodLink RX1 3 Lib.objectInit : Cond) ∈ XW := (List.mem_filter.mpr ⟨List.mem_of_getElem? (i := 78) (by decide +kernel), by decide +kernel⟩)
theorem oi_X2 : (.methodLink RX2 3 Lib.objectInit : Cond) ∈ XW := (List.mem_filter.mpr ⟨List.mem_of_getElem? (i := 124) (by decide +kernel), by decide +kernel⟩)
theorem oi_X3 : (.methodLink RX3 3 Lib.objectInit : Cond) ∈ XW := (List.mem_filter.mpr ⟨List.mem_of_getElem? (i := 100) (by decide +kernel), by decide +kernel⟩)
theorem oi_X4 : (.methodLink RX4 1 Lib.objectInit : Cond) ∈ XW := (List.mem_filter.mpr ⟨List.mem_of_getElem? (i := 70) (by decide +kernel), by decide +kernel⟩)
theorem oi_X5 : (.methodLink RX5 1 Lib.objectInit : Cond) ∈ XW := (List.mem_filter.mpr ⟨List.mem_of_getElem? (i := 698) (by decide +kernel), by decide +kernel⟩)
theorem xv_122 : (.instanceMethod yX2_init : Cond) ∈ XW := (List.mem_filter.mpr ⟨List.mem_of_getElem? (i := 122) (by decide +kernel), by decide +kernel⟩)
theorem xv_123 : (mcd mX2_init : Cond) ∈ XW := (List.mem_filter.mpr ⟨List.mem_of_getElem? (i := 123) (by decide +kernel), by decide +kernel⟩)
theorem ck_X2_init : ckOK yX2_init 0 := ⟨by decide +kernel, by decide +kernel, by decide +kernel⟩
theorem ci_X0_17 : cjOK RX0 mX2_init 17 0 := ⟨by decide +kernel, xv_122, xv_56, xv_123, rfl, ck_X2_init, rfl⟩
theorem xv_76 : (.instanceMethod yX1_init : Cond) ∈ XW := (List.mem_filter.mpr ⟨List.mem_of_getElem? (i := 76) (by decide +kernel), by decide +kernel⟩)
theorem xv_77 : (mcd mX1_init : Cond) ∈ XW := (List.mem_filter.mpr ⟨List.mem_of_getElem? (i := 77) (by decide +kernel), by decide +kernel⟩)
theorem ck_X1_init : ckOK yX1_init 1 := ⟨by decide +kernel, by decide +kernel, by decide +kernel⟩
theorem xv_75 : (.methodLink RX4 11 yX1_init : Cond) ∈ XW := (List.mem_filter.mpr ⟨List.mem_of_getElem? (i := 75) (by decide +kernel), by decide +kernel⟩)
theorem ci_X4_11 : ciOK RX4 mX1_init 11 1 := ⟨xv_75, xv_76, xv_53, xv_77, rfl, ck_X1_init, rfl⟩
theorem xv_98 : (.instanceMethod yX3_init : Cond) ∈ XW := (List.mem_filter.mpr ⟨List.mem_of_getElem? (i := 98) (by decide +kernel), by decide +kernel⟩)
theorem xv_99 : (mcd mX3_init : Cond) ∈ XW := (List.mem_filter.mpr ⟨List.mem_of_getElem? (i := 99) (by decide +kernel), by decide +kernel⟩)
theorem ck_X3_init : ckOK yX3_init 1 := ⟨by decide +kernel, by decide +kernel, by decide +kernel⟩
theorem xv_97 : (.methodLink RX4 31 yX3_init : Cond) ∈ XW := (List.mem_filter.mpr ⟨List.mem_of_getElem? (i := 97) (by decide +kernel), by decide +kernel⟩)
theorem ci_X4_31 : ciOK RX4 mX3_init 31 1 := ⟨xv_97, xv_98, xv_55, xv_99, rfl, ck_X3_init, rfl⟩
theorem ci_X4_40 : cjOK RX4 mX2_init 40 0 := ⟨by decide +kernel, xv_122, xv_56, xv_123, rfl, ck_X2_init, rfl⟩
theorem xv_191 : (.instanceMethod yX0_init : Cond) ∈ XW := (List.mem_filter.mpr ⟨List.mem_of_getElem? (i := 191) (by decide +kernel), by decide +kernel⟩)
theorem xv_192 : (mcd mX0_init : Cond) ∈ XW := (List.mem_filter.mpr ⟨List.mem_of_getElem? (i := 192) (by decide +kernel), by decide +kernel⟩)
theorem ck_X0_init : ckOK yX0_init 0 := ⟨by decide +kernel, by decide +kernel, by decide +kernel⟩
theorem xv_190 : (.methodLink RX4 56 yX0_init : Cond) ∈ XW := (List.mem_filter.mpr ⟨List.mem_of_getElem? (i := 190) (by decide +kernel), by decide +kernel⟩)
theorem ci_X4_56 : ciOK RX4 mX0_init 56 0 := ⟨xv_190, xv_191, xv_57, xv_192, rfl, ck_X0_init, rfl⟩
theorem xv_68 : (.instanceMethod yX4_init : Cond) ∈ XW := (List.mem_filter.mpr ⟨List.mem_of_getElem? (i := 68) (by decide +kernel), by decide +kernel⟩)
theorem xv_69 : (mcd mX4_init : Cond) ∈ XW := (List.mem_filter.mpr ⟨List.mem_of_getElem? (i := 69) (by decide +kernel), by decide +kernel⟩)
theorem ck_X4_init : ckOK yX4_init 0 := ⟨by decide +kernel, by decide +kernel, by decide +kernel⟩
theorem xv_67 : (.methodLink RL 9 yX4_init : Cond) ∈ XW := (List.mem_filter.mpr ⟨List.mem_of_getElem? (i := 67) (by decide +kernel), by decide +kernel⟩)
theorem ci_L_9 : ciOK RL mX4_init 9 0 := ⟨xv_67, xv_68, xv_52, xv_69, rfl, ck_X4_init, rfl⟩
theorem xv_696 : (.instanceMethod yX5_init : Cond) ∈ XW := (List.mem_filter.mpr ⟨List.mem_of_getElem? (i := 696) (by decide +kernel), by decide +kernel⟩)
theorem xv_697 : (mcd mX5_init : Cond) ∈ XW := (List.mem_filter.mpr ⟨List.mem_of_getElem? (i := 697) (by decide +kernel), by decide +kernel⟩)
theorem ck_X5_init : ckOK yX5_init 0 := ⟨by decide +kernel, by decide +kernel, by decide +kernel⟩
theorem xv_695 : (.methodLink RL 12 yX5_init : Cond) ∈ XW := (List.mem_filter.mpr ⟨List.mem_of_getElem? (i := 695) (by decide +kernel), by decide +kernel⟩)
theorem ci_L_12 : ciOK RL mX5_init 12 0 := ⟨xv_695, xv_696, xv_58, xv_697, rfl, ck_X5_init, rfl⟩
theorem M_top {G : GG} {b : Nat} {μ : MI} {rc rs pc : Nat} {lv : List (Nat × Value)} {st : List Value} {ad : Nat → Nat} {n : Nat} {hh : HH} {ck sk : Nat} {Q : QN} {x y : Int32} (h : x = y) (k : MR G b μ rc rs pc lv (.int y :: st) ad n hh ck sk Q) : MR G b μ rc rs pc lv (.int x :: st) ad n hh ck sk Q := by subst h; exact k
theorem nAt.newq {ad : Nat → Nat} {n : Nat} {hh : HH} {k a : Nat} {e0 : va_E} (_ : nAt ad n hh k a e0) (q : Nat) (e : va_E) : nAt (va_up ad n q) (n + 1) (va_up hh n e) n q e := nAt.new q e
/-- below n nothing is another -/
def Xt (n : Nat) (ad : Nat → Nat) (hh : HH) (ad1 : Nat → Nat) (hh1 : HH) : Prop := ∀ i, i < n → ad1 i = ad i ∧ hh1 i = hh i
def SN (G : GG) (ad : Nat → Nat) (hh : HH) (k : Nat) : Prop := hh k = .inr (2, [.ref (ad (k + 1)), .ref (ad (k + 2)), .ref (ad (k + 3)), .ref (ad (k + 4)), .ref (ad (k + 5)), .ref (ad (k + 6)), .ref (ad (k + 7)), .ref (ad (k + 8)), .int 0, .int 0, .int 0, .int 1, .int 1, .int 0, .int 0]) ∧ hh (k + 1) = eI G 6 (fun _ => 0) ∧ hh (k + 2) = eI G 6 (fun _ => 0) ∧ hh (k + 3) = eI G 6 (fun _ => 0) ∧ hh (k + 4) = eI G 6 (fun _ => 0) ∧ hh (k + 5) = eI G 20 (fun _ => 0) ∧ hh (k + 6) = eI G 20 (fun _ => 0) ∧ hh (k + 7) = eI G 20 (fun _ => 0) ∧ hh (k + 8) = eI G 6 (fun _ => 0)
def LN (G : GG) (ad : Nat → Nat) (hh : HH) (k N : Nat) : Prop := hh k = .inr (1, [.ref (ad (k + 1)), .int 0]) ∧ hh (k + 1) = eI G N (fun _ => 0)
theorem Xt.rf {n : Nat} {ad : Nat → Nat} {hh : HH} : Xt n ad hh ad hh := fun _ _ => ⟨rfl, rfl⟩
theorem Xt.tr {n m : Nat} {ad ad1 ad2 : Nat → Nat} {hh hh1 hh2 : HH} (h : Xt n ad hh ad1 hh1) (h' : Xt m ad1 hh1 ad2 hh2) (hm : n ≤ m) : Xt n ad hh ad2 hh2 := fun i hi => ⟨((h' i (by omega)).1).trans (h i hi).1, ((h' i (by omega)).2).trans (h i hi).2⟩
theorem SN.x {G : GG} {ad ad1 : Nat → Nat} {hh hh1 : HH} {k n : Nat} (h : SN G ad hh k) (hx : Xt n ad hh ad1 hh1) (hk : k + 9 ≤ n) : SN G ad1 hh1 k := by
  obtain ⟨h0, h1, h2, h3, h4, h5, h6, h7, h8⟩ := h
  refine ⟨?_, (hx _ (by omega)).2.trans h1, (hx _ (by omega)).2.trans h2, (hx _ (by omega)).2.trans h3, (hx _ (by omega)).2.trans h4, (hx _ (by omega)).2.trans h5, (hx _ (by omega)).2.trans h6, (hx _ (by omega)).2.trans h7, (hx _ (by omega)).2.trans h8⟩
  rw [(hx k (by omega)).2, h0, (hx (k + 1) (by omega)).1, (hx (k + 2) (by omega)).1, (hx (k + 3) (by omega)).1, (hx (k + 4) (by omega)).1, (hx (k + 5) (by omega)).1, (hx (k + 6) (by omega)).1, (hx (k + 7) (by omega)).1, (hx (k + 8) (by omega)).1]
theorem SN.u {G : GG} {ad : Nat → Nat} {hh : HH} {k j : Nat} {e : va_E} (h : SN G ad hh k) (hj : j < k ∨ k + 9 ≤ j) : SN G ad (va_up hh j e) k := by
  have o : ∀ i, k ≤ i → i < k + 9 → va_up hh j e i = hh i := fun i h1 h2 => if_neg (by omega)
  obtain ⟨h0, h1, h2, h3, h4, h5, h6, h7, h8⟩ := h
  exact ⟨(o _ (by omega) (by omega)).trans h0, (o _ (by omega) (by omega)).trans h1, (o _ (by omega) (by omega)).trans h2, (o _ (by omega) (by omega)).trans h3, (o _ (by omega) (by omega)).trans h4, (o _ (by omega) (by omega)).trans h5, (o _ (by omega) (by omega)).trans h6, (o _ (by omega) (by omega)).trans h7, (o _ (by omega) (by omega)).trans h8⟩
theorem LN.x {G : GG} {ad ad1 : Nat → Nat} {hh hh1 : HH} {k n N : Nat} (h : LN G ad hh k N) (hx : Xt n ad hh ad1 hh1) (hk : k + 2 ≤ n) : LN G ad1 hh1 k N := ⟨by rw [(hx k (by omega)).2, h.1, (hx (k + 1) (by omega)).1], (hx _ (by omega)).2.trans h.2⟩
theorem LN.u {G : GG} {ad : Nat → Nat} {hh : HH} {k j N : Nat} {e : va_E} (h : LN G ad hh k N) (hj : j < k ∨ k + 2 ≤ j) : LN G ad (va_up hh j e) k N := ⟨(if_neg (by omega)).trans h.1, (if_neg (by omega)).trans h.2⟩
theorem Xt.push (n : Nat) (ad : Nat → Nat) (hh : HH) (q : Nat) (e : va_E) : Xt n ad hh (va_up ad n q) (va_up hh n e) := fun i hi => ⟨if_neg (by omega), if_neg (by omega)⟩
theorem Xt.up {n : Nat} {ad ad1 : Nat → Nat} {hh hh1 : HH} (h : Xt n ad hh ad1 hh1) {j : Nat} (e : va_E) (hj : n ≤ j) : Xt n ad hh ad1 (va_up hh1 j e) := fun i hi => ⟨(h i hi).1, (if_neg (by omega)).trans (h i hi).2⟩
theorem nAt.x {ad ad1 : Nat → Nat} {n n1 : Nat} {hh hh1 : HH} {k a m : Nat} {e : va_E} (h : nAt ad n hh k a e) (hx : Xt m ad hh ad1 hh1) (hk : k < m) (hm : m ≤ n1) : nAt ad1 n1 hh1 k a e := ⟨by omega, (hx k hk).1.trans h.2.1, (hx k hk).2.trans h.2.2⟩
theorem Xt.dn {n m : Nat} {ad ad1 : Nat → Nat} {hh hh1 : HH} (h : Xt n ad hh ad1 hh1) (hm : m ≤ n) : Xt m ad hh ad1 hh1 := fun i hi => h i (by omega)
set_option maxRecDepth 4000 in
theorem n_Letters (G : GG) (b : Nat) {ad : Nat → Nat} {hh : HH} {k a N : Nat} (h : nAt ad (k + 1) hh k a (.inr (1, [.null, .int 0]))) (hN : N ≤ 2000) : EN G b mX1_init [.ref a, .int (nI N)] ad (k + 1) hh 1 N (fun ad1 n1 hh1 => n1 = k + 2 ∧ Xt k ad hh ad1 hh1 ∧ ad1 k = a ∧ LN G ad1 hh1 k N) := by
  refine EN.of [(0, .ref a), (1, .int (nI N))] (by decide +kernel) (Nat.le_of_ble_eq_true rfl) rfl ?_
  refine M_aload_n dX1_init_0 rfl ?_
  refine M_objInit dX1_init_1 oi_X1 oi_m oi_c (by decide) (Nat.le_of_ble_eq_true rfl) ?_
  refine M_aload_n dX1_init_4 rfl ?_
  refine M_iload_n dX1_init_5 rfl ?_
  refine M_iconst (v := 0) dX1_init_6 (by decide) ?_
  refine M_mmax dX1_init_7 mm_X1_9 mS_max mI_Math mC_max (by decide) (Nat.le_of_ble_eq_true rfl) ⟨by omega, by omega⟩ ?_
  refine M_top (y := nI N) (if_neg (fun z => absurd ((nI_ltI (b := 0) (by omega) (by decide)).mp z) (by omega))) ?_
  refine M_newi dX1_init_10 ac_int hN (by omega) (by omega) (fun q => ?_)
  have hX := (Xt.push (k + 1) ad hh q (eI G N (fun _ => 0))).dn (m := k) (by omega)
  have hq := nAt.new (ad := ad) (n := k + 1) (hh := hh) q (eI G N (fun _ => 0))
  have h := h.push q (eI G N (fun _ => 0))
  refine M_putF dX1_init_12 ff_X1_15 rfl h rfl rfl (Nat.le_of_ble_eq_true rfl) ?_
  have hX := hX.up (.inr (1, [.ref q, .int 0])) (Nat.le_refl k)
  have hq := hq.ne (.inr (1, [.ref q, .int 0])) (j := k) (by omega)
  have h := h.up (.inr (1, [.ref q, .int 0]))
  refine M_widen (ck' := 1) (sk' := N) (by omega) (by omega) ?_
  refine M_vret dX1_init_15 rfl ⟨rfl, hX, h.2.1, ?_, hq.2.2⟩
  rw [hq.2.1]
  exact h.2.2
set_option maxRecDepth 4000 in
theorem n_State (G : GG) (b : Nat) {ad : Nat → Nat} {hh : HH} {k a : Nat} (h : nAt ad (k + 1) hh k a (.inr (2, [.null, .null, .null, .null, .null, .null, .null, .null, .int 0, .int 0, .int 0, .int 0, .int 0, .int 0, .int 0]))) : EN G b mX2_init [.ref a] ad (k + 1) hh 8 90 (fun ad1 n1 hh1 => n1 = k + 9 ∧ Xt k ad hh ad1 hh1 ∧ ad1 k = a ∧ SN G ad1 hh1 k) := by
  refine EN.of [(0, .ref a)] (by decide +kernel) (Nat.le_of_ble_eq_true rfl) rfl ?_
  have hX : Xt k ad hh ad hh := Xt.rf
  refine M_aload_n dX2_init_0 rfl ?_
  refine M_objInit dX2_init_1 oi_X2 oi_m oi_c (by decide) (Nat.le_of_ble_eq_true rfl) ?_
  refine M_aload_n dX2_init_4 rfl ?_
  refine M_bipush (v := 6) dX2_init_5 (by decide) ?_
  refine M_newi (N := 6) dX2_init_7 ac_int (by decide) (by decide) (by decide) (fun q1 => ?_)
  have hX := hX.tr (Xt.push (k + 1) _ _ q1 (eI G 6 (fun _ => 0))) (by omega)
  have h1 := h.newq q1 (eI G 6 (fun _ => 0))
  have h := h.push q1 (eI G 6 (fun _ => 0))
  refine M_putF dX2_init_9 ff_X2_9 rfl h rfl rfl (Nat.le_of_ble_eq_true rfl) ?_
  have hX := hX.up (.inr (2, [.ref q1, .null, .null, .null, .null, .null, .null, .null, .int 0, .int 0, .int 0, .int 0, .int 0, .int 0, .int 0])) (Nat.le_refl k)
  have h := h.up (.inr (2, [.ref q1, .null, .null, .null, .null, .null, .null, .null, .int 0, .int 0, .int 0, .int 0, .int 0, .int 0, .int 0]))
  have h1 := h1.ne (.inr (2, [.ref q1, .null, .null, .null, .null, .null, .null, .null, .int 0, .int 0, .int 0, .int 0, .int 0, .int 0, .int 0])) (j := k) (by omega)
  refine M_aload_n dX2_init_12 rfl ?_
  refine M_bipush (v := 6) dX2_init_13 (by decide) ?_
  refine M_newi (N := 6) dX2_init_15 ac_int (by decide) (by decide) (by decide) (fun q2 => ?_)
  have hX := hX.tr (Xt.push (k + 2) _ _ q2 (eI G 6 (fun _ => 0))) (by omega)
  have h2 := h.newq q2 (eI G 6 (fun _ => 0))
  have h := h.push q2 (eI G 6 (fun _ => 0))
  have h1 := h1.push q2 (eI G 6 (fun _ => 0))
  refine M_putF dX2_init_17 ff_X2_15 rfl h rfl rfl (Nat.le_of_ble_eq_true rfl) ?_
  have hX := hX.up (.inr (2, [.ref q1, .ref q2, .null, .null, .null, .null, .null, .null, .int 0, .int 0, .int 0, .int 0, .int 0, .int 0, .int 0])) (Nat.le_refl k)
  have h := h.up (.inr (2, [.ref q1, .ref q2, .null, .null, .null, .null, .null, .null, .int 0, .int 0, .int 0, .int 0, .int 0, .int 0, .int 0]))
  have h1 := h1.ne (.inr (2, [.ref q1, .ref q2, .null, .null, .null, .null, .null, .null, .int 0, .int 0, .int 0, .int 0, .int 0, .int 0, .int 0])) (j := k) (by omega)
  have h2 := h2.ne (.inr (2, [.ref q1, .ref q2, .null, .null, .null, .null, .null, .null, .int 0, .int 0, .int 0, .int 0, .int 0, .int 0, .int 0])) (j := k) (by omega)
  refine M_aload_n dX2_init_20 rfl ?_
  refine M_bipush (v := 6) dX2_init_21 (by decide) ?_
  refine M_newi (N := 6) dX2_init_23 ac_int (by decide) (by decide) (by decide) (fun q3 => ?_)
  have hX := hX.tr (Xt.push (k + 3) _ _ q3 (eI G 6 (fun _ => 0))) (by omega)
  have h3 := h.newq q3 (eI G 6 (fun _ => 0))
  have h := h.push q3 (eI G 6 (fun _ => 0))
  have h1 := h1.push q3 (eI G 6 (fun _ => 0))
  have h2 := h2.push q3 (eI G 6 (fun _ => 0))
  refine M_putF dX2_init_25 ff_X2_18 rfl h rfl rfl (Nat.le_of_ble_eq_true rfl) ?_
  have hX := hX.up (.inr (2, [.ref q1, .ref q2, .ref q3, .null, .null, .null, .null, .null, .int 0, .int 0, .int 0, .int 0, .int 0, .int 0, .int 0])) (Nat.le_refl k)
  have h := h.up (.inr (2, [.ref q1, .ref q2, .ref q3, .null, .null, .null, .null, .null, .int 0, .int 0, .int 0, .int 0, .int 0, .int 0, .int 0]))
  have h1 := h1.ne (.inr (2, [.ref q1, .ref q2, .ref q3, .null, .null, .null, .null, .null, .int 0, .int 0, .int 0, .int 0, .int 0, .int 0, .int 0])) (j := k) (by omega)
  have h2 := h2.ne (.inr (2, [.ref q1, .ref q2, .ref q3, .null, .null, .null, .null, .null, .int 0, .int 0, .int 0, .int 0, .int 0, .int 0, .int 0])) (j := k) (by omega)
  have h3 := h3.ne (.inr (2, [.ref q1, .ref q2, .ref q3, .null, .null, .null, .null, .null, .int 0, .int 0, .int 0, .int 0, .int 0, .int 0, .int 0])) (j := k) (by omega)
  refine M_aload_n dX2_init_28 rfl ?_
  refine M_bipush (v := 6) dX2_init_29 (by decide) ?_
  refine M_newi (N := 6) dX2_init_31 ac_int (by decide) (by decide) (by decide) (fun q4 => ?_)
  have hX := hX.tr (Xt.push (k + 4) _ _ q4 (eI G 6 (fun _ => 0))) (by omega)
  have h4 := h.newq q4 (eI G 6 (fun _ => 0))
  have h := h.push q4 (eI G 6 (fun _ => 0))
  have h1 := h1.push q4 (eI G 6 (fun _ => 0))
  have h2 := h2.push q4 (eI G 6 (fun _ => 0))
  have h3 := h3.push q4 (eI G 6 (fun _ => 0))
  refine M_putF dX2_init_33 ff_X2_21 rfl h rfl rfl (Nat.le_of_ble_eq_true rfl) ?_
  have hX := hX.up (.inr (2, [.ref q1, .ref q2, .ref q3, .ref q4, .null, .null, .null, .null, .int 0, .int 0, .int 0, .int 0, .int 0, .int 0, .int 0])) (Nat.le_refl k)
  have h := h.up (.inr (2, [.ref q1, .ref q2, .ref q3, .ref q4, .null, .null, .null, .null, .int 0, .int 0, .int 0, .int 0, .int 0, .int 0, .int 0]))
  have h1 := h1.ne (.inr (2, [.ref q1, .ref q2, .ref q3, .ref q4, .null, .null, .null, .null, .int 0, .int 0, .int 0, .int 0, .int 0, .int 0, .int 0])) (j := k) (by omega)
  have h2 := h2.ne (.inr (2, [.ref q1, .ref q2, .ref q3, .ref q4, .null, .null, .null, .null, .int 0, .int 0, .int 0, .int 0, .int 0, .int 0, .int 0])) (j := k) (by omega)
  have h3 := h3.ne (.inr (2, [.ref q1, .ref q2, .ref q3, .ref q4, .null, .null, .null, .null, .int 0, .int 0, .int 0, .int 0, .int 0, .int 0, .int 0])) (j := k) (by omega)
  have h4 := h4.ne (.inr (2, [.ref q1, .ref q2, .ref q3, .ref q4, .null, .null, .null, .null, .int 0, .int 0, .int 0, .int 0, .int 0, .int 0, .int 0])) (j := k) (by omega)
  refine M_aload_n dX2_init_36 rfl ?_
  refine M_bipush (v := 20) dX2_init_37 (by decide) ?_
  refine M_newi (N := 20) dX2_init_39 ac_int (by decide) (by decide) (by decide) (fun q5 => ?_)
  have hX := hX.tr (Xt.push (k + 5) _ _ q5 (eI G 20 (fun _ => 0))) (by omega)
  have h5 := h.newq q5 (eI G 20 (fun _ => 0))
  have h := h.push q5 (eI G 20 (fun _ => 0))
  have h1 := h1.push q5 (eI G 20 (fun _ => 0))
  have h2 := h2.push q5 (eI G 20 (fun _ => 0))
  have h3 := h3.push q5 (eI G 20 (fun _ => 0))
  have h4 := h4.push q5 (eI G 20 (fun _ => 0))
  refine M_putF dX2_init_41 ff_X2_24 rfl h rfl rfl (Nat.le_of_ble_eq_true rfl) ?_
  have hX := hX.up (.inr (2, [.ref q1, .ref q2, .ref q3, .ref q4, .ref q5, .null, .null, .null, .int 0, .int 0, .int 0, .int 0, .int 0, .int 0, .int 0])) (Nat.le_refl k)
  have h := h.up (.inr (2, [.ref q1, .ref q2, .ref q3, .ref q4, .ref q5, .null, .null, .null, .int 0, .int 0, .int 0, .int 0, .int 0, .int 0, .int 0]))
  have h1 := h1.ne (.inr (2, [.ref q1, .ref q2, .ref q3, .ref q4, .ref q5, .null, .null, .null, .int 0, .int 0, .int 0, .int 0, .int 0, .int 0, .int 0])) (j := k) (by omega)
  have h2 := h2.ne (.inr (2, [.ref q1, .ref q2, .ref q3, .ref q4, .ref q5, .null, .null, .null, .int 0, .int 0, .int 0, .int 0, .int 0, .int 0, .int 0])) (j := k) (by omega)
  have h3 := h3.ne (.inr (2, [.ref q1, .ref q2, .ref q3, .ref q4, .ref q5, .null, .null, .null, .int 0, .int 0, .int 0, .int 0, .int 0, .int 0, .int 0])) (j := k) (by omega)
  have h4 := h4.ne (.inr (2, [.ref q1, .ref q2, .ref q3, .ref q4, .ref q5, .null, .null, .null, .int 0, .int 0, .int 0, .int 0, .int 0, .int 0, .int 0])) (j := k) (by omega)
  have h5 := h5.ne (.inr (2, [.ref q1, .ref q2, .ref q3, .ref q4, .ref q5, .null, .null, .null, .int 0, .int 0, .int 0, .int 0, .int 0, .int 0, .int 0])) (j := k) (by omega)
  refine M_aload_n dX2_init_44 rfl ?_
  refine M_bipush (v := 20) dX2_init_45 (by decide) ?_
  refine M_newi (N := 20) dX2_init_47 ac_int (by decide) (by decide) (by decide) (fun q6 => ?_)
  have hX := hX.tr (Xt.push (k + 6) _ _ q6 (eI G 20 (fun _ => 0))) (by omega)
  have h6 := h.newq q6 (eI G 20 (fun _ => 0))
  have h := h.push q6 (eI G 20 (fun _ => 0))
  have h1 := h1.push q6 (eI G 20 (fun _ => 0))
  have h2 := h2.push q6 (eI G 20 (fun _ => 0))
  have h3 := h3.push q6 (eI G 20 (fun _ => 0))
  have h4 := h4.push q6 (eI G 20 (fun _ => 0))
  have h5 := h5.push q6 (eI G 20 (fun _ => 0))
  refine M_putF dX2_init_49 ff_X2_27 rfl h rfl rfl (Nat.le_of_ble_eq_true rfl) ?_
  have hX := hX.up (.inr (2, [.ref q1, .ref q2, .ref q3, .ref q4, .ref q5, .ref q6, .null, .null, .int 0, .int 0, .int 0, .int 0, .int 0, .int 0, .int 0])) (Nat.le_refl k)
  have h := h.up (.inr (2, [.ref q1, .ref q2, .ref q3, .ref q4, .ref q5, .ref q6, .null, .null, .int 0, .int 0, .int 0, .int 0, .int 0, .int 0, .int 0]))
  have h1 := h1.ne (.inr (2, [.ref q1, .ref q2, .ref q3, .ref q4, .ref q5, .ref q6, .null, .null, .int 0, .int 0, .int 0, .int 0, .int 0, .int 0, .int 0])) (j := k) (by omega)
  have h2 := h2.ne (.inr (2, [.ref q1, .ref q2, .ref q3, .ref q4, .ref q5, .ref q6, .null, .null, .int 0, .int 0, .int 0, .int 0, .int 0, .int 0, .int 0])) (j := k) (by omega)
  have h3 := h3.ne (.inr (2, [.ref q1, .ref q2, .ref q3, .ref q4, .ref q5, .ref q6, .null, .null, .int 0, .int 0, .int 0, .int 0, .int 0, .int 0, .int 0])) (j := k) (by omega)
  have h4 := h4.ne (.inr (2, [.ref q1, .ref q2, .ref q3, .ref q4, .ref q5, .ref q6, .null, .null, .int 0, .int 0, .int 0, .int 0, .int 0, .int 0, .int 0])) (j := k) (by omega)
  have h5 := h5.ne (.inr (2, [.ref q1, .ref q2, .ref q3, .ref q4, .ref q5, .ref q6, .null, .null, .int 0, .int 0, .int 0, .int 0, .int 0, .int 0, .int 0])) (j := k) (by omega)
  have h6 := h6.ne (.inr (2, [.ref q1, .ref q2, .ref q3, .ref q4, .ref q5, .ref q6, .null, .null, .int 0, .int 0, .int 0, .int 0, .int 0, .int 0, .int 0])) (j := k) (by omega)
  refine M_aload_n dX2_init_52 rfl ?_
  refine M_bipush (v := 20) dX2_init_53 (by decide) ?_
  refine M_newi (N := 20) dX2_init_55 ac_int (by decide) (by decide) (by decide) (fun q7 => ?_)
  have hX := hX.tr (Xt.push (k + 7) _ _ q7 (eI G 20 (fun _ => 0))) (by omega)
  have h7 := h.newq q7 (eI G 20 (fun _ => 0))
  have h := h.push q7 (eI G 20 (fun _ => 0))
  have h1 := h1.push q7 (eI G 20 (fun _ => 0))
  have h2 := h2.push q7 (eI G 20 (fun _ => 0))
  have h3 := h3.push q7 (eI G 20 (fun _ => 0))
  have h4 := h4.push q7 (eI G 20 (fun _ => 0))
  have h5 := h5.push q7 (eI G 20 (fun _ => 0))
  have h6 := h6.push q7 (eI G 20 (fun _ => 0))
  refine M_putF dX2_init_57 ff_X2_30 rfl h rfl rfl (Nat.le_of_ble_eq_true rfl) ?_
  have hX := hX.up (.inr (2, [.ref q1, .ref q2, .ref q3, .ref q4, .ref q5, .ref q6, .ref q7, .null, .int 0, .int 0, .int 0, .int 0, .int 0, .int 0, .int 0])) (Nat.le_refl k)
  have h := h.up (.inr (2, [.ref q1, .ref q2, .ref q3, .ref q4, .ref q5, .ref q6, .ref q7, .null, .int 0, .int 0, .int 0, .int 0, .int 0, .int 0, .int 0]))
  have h1 := h1.ne (.inr (2, [.ref q1, .ref q2, .ref q3, .ref q4, .ref q5, .ref q6, .ref q7, .null, .int 0, .int 0, .int 0, .int 0, .int 0, .int 0, .int 0])) (j := k) (by omega)
  have h2 := h2.ne (.inr (2, [.ref q1, .ref q2, .ref q3, .ref q4, .ref q5, .ref q6, .ref q7, .null, .int 0, .int 0, .int 0, .int 0, .int 0, .int 0, .int 0])) (j := k) (by omega)
  have h3 := h3.ne (.inr (2, [.ref q1, .ref q2, .ref q3, .ref q4, .ref q5, .ref q6, .ref q7, .null, .int 0, .int 0, .int 0, .int 0, .int 0, .int 0, .int 0])) (j := k) (by omega)
  have h4 := h4.ne (.inr (2, [.ref q1, .ref q2, .ref q3, .ref q4, .ref q5, .ref q6, .ref q7, .null, .int 0, .int 0, .int 0, .int 0, .int 0, .int 0, .int 0])) (j := k) (by omega)
  have h5 := h5.ne (.inr (2, [.ref q1, .ref q2, .ref q3, .ref q4, .ref q5, .ref q6, .ref q7, .null, .int 0, .int 0, .int 0, .int 0, .int 0, .int 0, .int 0])) (j := k) (by omega)
  have h6 := h6.ne (.inr (2, [.ref q1, .ref q2, .ref q3, .ref q4, .ref q5, .ref q6, .ref q7, .null, .int 0, .int 0, .int 0, .int 0, .int 0, .int 0, .int 0])) (j := k) (by omega)
  have h7 := h7.ne (.inr (2, [.ref q1, .ref q2, .ref q3, .ref q4, .ref q5, .ref q6, .ref q7, .null, .int 0, .int 0, .int 0, .int 0, .int 0, .int 0, .int 0])) (j := k) (by omega)
  refine M_aload_n dX2_init_60 rfl ?_
  refine M_bipush (v := 6) dX2_init_61 (by decide) ?_
  refine M_newi (N := 6) dX2_init_63 ac_int (by decide) (by decide) (by decide) (fun q8 => ?_)
  have hX := hX.tr (Xt.push (k + 8) _ _ q8 (eI G 6 (fun _ => 0))) (by omega)
  have h8 := h.newq q8 (eI G 6 (fun _ => 0))
  have h := h.push q8 (eI G 6 (fun _ => 0))
  have h1 := h1.push q8 (eI G 6 (fun _ => 0))
  have h2 := h2.push q8 (eI G 6 (fun _ => 0))
  have h3 := h3.push q8 (eI G 6 (fun _ => 0))
  have h4 := h4.push q8 (eI G 6 (fun _ => 0))
  have h5 := h5.push q8 (eI G 6 (fun _ => 0))
  have h6 := h6.push q8 (eI G 6 (fun _ => 0))
  have h7 := h7.push q8 (eI G 6 (fun _ => 0))
  refine M_putF dX2_init_65 ff_X2_33 rfl h rfl rfl (Nat.le_of_ble_eq_true rfl) ?_
  have hX := hX.up (.inr (2, [.ref q1, .ref q2, .ref q3, .ref q4, .ref q5, .ref q6, .ref q7, .ref q8, .int 0, .int 0, .int 0, .int 0, .int 0, .int 0, .int 0])) (Nat.le_refl k)
  have h := h.up (.inr (2, [.ref q1, .ref q2, .ref q3, .ref q4, .ref q5, .ref q6, .ref q7, .ref q8, .int 0, .int 0, .int 0, .int 0, .int 0, .int 0, .int 0]))
  have h1 := h1.ne (.inr (2, [.ref q1, .ref q2, .ref q3, .ref q4, .ref q5, .ref q6, .ref q7, .ref q8, .int 0, .int 0, .int 0, .int 0, .int 0, .int 0, .int 0])) (j := k) (by omega)
  have h2 := h2.ne (.inr (2, [.ref q1, .ref q2, .ref q3, .ref q4, .ref q5, .ref q6, .ref q7, .ref q8, .int 0, .int 0, .int 0, .int 0, .int 0, .int 0, .int 0])) (j := k) (by omega)
  have h3 := h3.ne (.inr (2, [.ref q1, .ref q2, .ref q3, .ref q4, .ref q5, .ref q6, .ref q7, .ref q8, .int 0, .int 0, .int 0, .int 0, .int 0, .int 0, .int 0])) (j := k) (by omega)
  have h4 := h4.ne (.inr (2, [.ref q1, .ref q2, .ref q3, .ref q4, .ref q5, .ref q6, .ref q7, .ref q8, .int 0, .int 0, .int 0, .int 0, .int 0, .int 0, .int 0])) (j := k) (by omega)
  have h5 := h5.ne (.inr (2, [.ref q1, .ref q2, .ref q3, .ref q4, .ref q5, .ref q6, .ref q7, .ref q8, .int 0, .int 0, .int 0, .int 0, .int 0, .int 0, .int 0])) (j := k) (by omega)
  have h6 := h6.ne (.inr (2, [.ref q1, .ref q2, .ref q3, .ref q4, .ref q5, .ref q6, .ref q7, .ref q8, .int 0, .int 0, .int 0, .int 0, .int 0, .int 0, .int 0])) (j := k) (by omega)
  have h7 := h7.ne (.inr (2, [.ref q1, .ref q2, .ref q3, .ref q4, .ref q5, .ref q6, .ref q7, .ref q8, .int 0, .int 0, .int 0, .int 0, .int 0, .int 0, .int 0])) (j := k) (by omega)
  have h8 := h8.ne (.inr (2, [.ref q1, .ref q2, .ref q3, .ref q4, .ref q5, .ref q6, .ref q7, .ref q8, .int 0, .int 0, .int 0, .int 0, .int 0, .int 0, .int 0])) (j := k) (by omega)
  refine M_aload_n dX2_init_68 rfl ?_
  refine M_iconst (v := 0) dX2_init_69 (by decide) ?_
  refine M_put dX2_init_70 pf_X2_36 h rfl rfl (Nat.le_of_ble_eq_true rfl) ?_
  have hX := hX.up (.inr (2, [.ref q1, .ref q2, .ref q3, .ref q4, .ref q5, .ref q6, .ref q7, .ref q8, .int 0, .int 0, .int 0, .int 0, .int 0, .int 0, .int 0])) (Nat.le_refl k)
  have h := h.up (.inr (2, [.ref q1, .ref q2, .ref q3, .ref q4, .ref q5, .ref q6, .ref q7, .ref q8, .int 0, .int 0, .int 0, .int 0, .int 0, .int 0, .int 0]))
  have h1 := h1.ne (.inr (2, [.ref q1, .ref q2, .ref q3, .ref q4, .ref q5, .ref q6, .ref q7, .ref q8, .int 0, .int 0, .int 0, .int 0, .int 0, .int 0, .int 0])) (j := k) (by omega)
  have h2 := h2.ne (.inr (2, [.ref q1, .ref q2, .ref q3, .ref q4, .ref q5, .ref q6, .ref q7, .ref q8, .int 0, .int 0, .int 0, .int 0, .int 0, .int 0, .int 0])) (j := k) (by omega)
  have h3 := h3.ne (.inr (2, [.ref q1, .ref q2, .ref q3, .ref q4, .ref q5, .ref q6, .ref q7, .ref q8, .int 0, .int 0, .int 0, .int 0, .int 0, .int 0, .int 0])) (j := k) (by omega)
  have h4 := h4.ne (.inr (2, [.ref q1, .ref q2, .ref q3, .ref q4, .ref q5, .ref q6, .ref q7, .ref q8, .int 0, .int 0, .int 0, .int 0, .int 0, .int 0, .int 0])) (j := k) (by omega)
  have h5 := h5.ne (.inr (2, [.ref q1, .ref q2, .ref q3, .ref q4, .ref q5, .ref q6, .ref q7, .ref q8, .int 0, .int 0, .int 0, .int 0, .int 0, .int 0, .int 0])) (j := k) (by omega)
  have h6 := h6.ne (.inr (2, [.ref q1, .ref q2, .ref q3, .ref q4, .ref q5, .ref q6, .ref q7, .ref q8, .int 0, .int 0, .int 0, .int 0, .int 0, .int 0, .int 0])) (j := k) (by omega)
  have h7 := h7.ne (.inr (2, [.ref q1, .ref q2, .ref q3, .ref q4, .ref q5, .ref q6, .ref q7, .ref q8, .int 0, .int 0, .int 0, .int 0, .int 0, .int 0, .int 0])) (j := k) (by omega)
  have h8 := h8.ne (.inr (2, [.ref q1, .ref q2, .ref q3, .ref q4, .ref q5, .ref q6, .ref q7, .ref q8, .int 0, .int 0, .int 0, .int 0, .int 0, .int 0, .int 0])) (j := k) (by omega)
  refine M_aload_n dX2_init_73 rfl ?_
  refine M_iconst (v := 1) dX2_init_74 (by decide) ?_
  refine M_put dX2_init_75 pf_X2_40 h rfl rfl (Nat.le_of_ble_eq_true rfl) ?_
  have hX := hX.up (.inr (2, [.ref q1, .ref q2, .ref q3, .ref q4, .ref q5, .ref q6, .ref q7, .ref q8, .int 0, .int 0, .int 0, .int 1, .int 0, .int 0, .int 0])) (Nat.le_refl k)
  have h := h.up (.inr (2, [.ref q1, .ref q2, .ref q3, .ref q4, .ref q5, .ref q6, .ref q7, .ref q8, .int 0, .int 0, .int 0, .int 1, .int 0, .int 0, .int 0]))
  have h1 := h1.ne (.inr (2, [.ref q1, .ref q2, .ref q3, .ref q4, .ref q5, .ref q6, .ref q7, .ref q8, .int 0, .int 0, .int 0, .int 1, .int 0, .int 0, .int 0])) (j := k) (by omega)
  have h2 := h2.ne (.inr (2, [.ref q1, .ref q2, .ref q3, .ref q4, .ref q5, .ref q6, .ref q7, .ref q8, .int 0, .int 0, .int 0, .int 1, .int 0, .int 0, .int 0])) (j := k) (by omega)
  have h3 := h3.ne (.inr (2, [.ref q1, .ref q2, .ref q3, .ref q4, .ref q5, .ref q6, .ref q7, .ref q8, .int 0, .int 0, .int 0, .int 1, .int 0, .int 0, .int 0])) (j := k) (by omega)
  have h4 := h4.ne (.inr (2, [.ref q1, .ref q2, .ref q3, .ref q4, .ref q5, .ref q6, .ref q7, .ref q8, .int 0, .int 0, .int 0, .int 1, .int 0, .int 0, .int 0])) (j := k) (by omega)
  have h5 := h5.ne (.inr (2, [.ref q1, .ref q2, .ref q3, .ref q4, .ref q5, .ref q6, .ref q7, .ref q8, .int 0, .int 0, .int 0, .int 1, .int 0, .int 0, .int 0])) (j := k) (by omega)
  have h6 := h6.ne (.inr (2, [.ref q1, .ref q2, .ref q3, .ref q4, .ref q5, .ref q6, .ref q7, .ref q8, .int 0, .int 0, .int 0, .int 1, .int 0, .int 0, .int 0])) (j := k) (by omega)
  have h7 := h7.ne (.inr (2, [.ref q1, .ref q2, .ref q3, .ref q4, .ref q5, .ref q6, .ref q7, .ref q8, .int 0, .int 0, .int 0, .int 1, .int 0, .int 0, .int 0])) (j := k) (by omega)
  have h8 := h8.ne (.inr (2, [.ref q1, .ref q2, .ref q3, .ref q4, .ref q5, .ref q6, .ref q7, .ref q8, .int 0, .int 0, .int 0, .int 1, .int 0, .int 0, .int 0])) (j := k) (by omega)
  refine M_aload_n dX2_init_78 rfl ?_
  refine M_iconst (v := 1) dX2_init_79 (by decide) ?_
  refine M_put dX2_init_80 pf_X2_43 h rfl rfl (Nat.le_of_ble_eq_true rfl) ?_
  have hX := hX.up (.inr (2, [.ref q1, .ref q2, .ref q3, .ref q4, .ref q5, .ref q6, .ref q7, .ref q8, .int 0, .int 0, .int 0, .int 1, .int 1, .int 0, .int 0])) (Nat.le_refl k)
  have h := h.up (.inr (2, [.ref q1, .ref q2, .ref q3, .ref q4, .ref q5, .ref q6, .ref q7, .ref q8, .int 0, .int 0, .int 0, .int 1, .int 1, .int 0, .int 0]))
  have h1 := h1.ne (.inr (2, [.ref q1, .ref q2, .ref q3, .ref q4, .ref q5, .ref q6, .ref q7, .ref q8, .int 0, .int 0, .int 0, .int 1, .int 1, .int 0, .int 0])) (j := k) (by omega)
  have h2 := h2.ne (.inr (2, [.ref q1, .ref q2, .ref q3, .ref q4, .ref q5, .ref q6, .ref q7, .ref q8, .int 0, .int 0, .int 0, .int 1, .int 1, .int 0, .int 0])) (j := k) (by omega)
  have h3 := h3.ne (.inr (2, [.ref q1, .ref q2, .ref q3, .ref q4, .ref q5, .ref q6, .ref q7, .ref q8, .int 0, .int 0, .int 0, .int 1, .int 1, .int 0, .int 0])) (j := k) (by omega)
  have h4 := h4.ne (.inr (2, [.ref q1, .ref q2, .ref q3, .ref q4, .ref q5, .ref q6, .ref q7, .ref q8, .int 0, .int 0, .int 0, .int 1, .int 1, .int 0, .int 0])) (j := k) (by omega)
  have h5 := h5.ne (.inr (2, [.ref q1, .ref q2, .ref q3, .ref q4, .ref q5, .ref q6, .ref q7, .ref q8, .int 0, .int 0, .int 0, .int 1, .int 1, .int 0, .int 0])) (j := k) (by omega)
  have h6 := h6.ne (.inr (2, [.ref q1, .ref q2, .ref q3, .ref q4, .ref q5, .ref q6, .ref q7, .ref q8, .int 0, .int 0, .int 0, .int 1, .int 1, .int 0, .int 0])) (j := k) (by omega)
  have h7 := h7.ne (.inr (2, [.ref q1, .ref q2, .ref q3, .ref q4, .ref q5, .ref q6, .ref q7, .ref q8, .int 0, .int 0, .int 0, .int 1, .int 1, .int 0, .int 0])) (j := k) (by omega)
  have h8 := h8.ne (.inr (2, [.ref q1, .ref q2, .ref q3, .ref q4, .ref q5, .ref q6, .ref q7, .ref q8, .int 0, .int 0, .int 0, .int 1, .int 1, .int 0, .int 0])) (j := k) (by omega)
  refine M_vret dX2_init_83 rfl ⟨rfl, hX, h.2.1, ?_, h1.2.2, h2.2.2, h3.2.2, h4.2.2, h5.2.2, h6.2.2, h7.2.2, h8.2.2⟩
  rw [h1.2.1, h2.2.1, h3.2.1, h4.2.1, h5.2.1, h6.2.1, h7.2.1, h8.2.1]
  exact h.2.2
set_option maxRecDepth 4000 in
theorem n_Reader (G : GG) (b : Nat) {ad : Nat → Nat} {hh : HH} {k a r : Nat} (h : nAt ad (k + 1) hh k a (.inr (3, [.null, .int 0, .int 0, .int 0, .int 0]))) : EN G b mX3_init [.ref a, .ref r] ad (k + 1) hh 0 0 (fun ad1 n1 hh1 => n1 = k + 1 ∧ Xt k ad hh ad1 hh1 ∧ ad1 k = a ∧ hh1 k = .inr (3, [.ref r, .int 0, .int 0, .int 0, .int 0])) := by
  refine EN.of [(0, .ref a), (1, .ref r)] (by decide +kernel) (Nat.le_of_ble_eq_true rfl) rfl ?_
  refine M_aload_n dX3_init_0 rfl ?_
  refine M_objInit dX3_init_1 oi_X3 oi_m oi_c (by decide) (Nat.le_of_ble_eq_true rfl) ?_
  refine M_aload_n dX3_init_4 rfl ?_
  refine M_aload_n dX3_init_5 rfl ?_
  refine M_putF dX3_init_6 ff_X3_9 rfl h rfl rfl (Nat.le_of_ble_eq_true rfl) ?_
  have hX := (Xt.rf (n := k) (ad := ad) (hh := hh)).up (.inr (3, [.ref r, .int 0, .int 0, .int 0, .int 0])) (Nat.le_refl k)
  have h := h.up (.inr (3, [.ref r, .int 0, .int 0, .int 0, .int 0]))
  exact M_vret dX3_init_9 rfl ⟨rfl, hX, h.2.1, h.2.2⟩
