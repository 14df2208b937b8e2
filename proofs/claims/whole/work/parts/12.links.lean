abbrev cJ_bitCount : ByteArray := prog_15_method_49_code
def RJ : String := "java/lang/Integer"
def yJ_bitCount : MethodName := ⟨RJ, "bitCount", "(I)I"⟩
theorem dJ_bitCount_0 : decode cJ_bitCount 0 = .ok (.iload_n 0, 1) := by decide +kernel
theorem dJ_bitCount_1 : decode cJ_bitCount 1 = .ok (.iload_n 0, 1) := by decide +kernel
theorem dJ_bitCount_2 : decode cJ_bitCount 2 = .ok (.iconst 1, 1) := by decide +kernel
theorem dJ_bitCount_3 : decode cJ_bitCount 3 = .ok (.iushr, 1) := by decide +kernel
theorem dJ_bitCount_4 : decode cJ_bitCount 4 = .ok (.ldc_w 265, 3) := by decide +kernel
theorem dJ_bitCount_7 : decode cJ_bitCount 7 = .ok (.iand, 1) := by decide +kernel
theorem dJ_bitCount_8 : decode cJ_bitCount 8 = .ok (.isub, 1) := by decide +kernel
theorem dJ_bitCount_9 : decode cJ_bitCount 9 = .ok (.istore_n 0, 1) := by decide +kernel
theorem dJ_bitCount_10 : decode cJ_bitCount 10 = .ok (.iload_n 0, 1) := by decide +kernel
theorem dJ_bitCount_11 : decode cJ_bitCount 11 = .ok (.ldc_w 266, 3) := by decide +kernel
theorem dJ_bitCount_14 : decode cJ_bitCount 14 = .ok (.iand, 1) := by decide +kernel
theorem dJ_bitCount_15 : decode cJ_bitCount 15 = .ok (.iload_n 0, 1) := by decide +kernel
theorem dJ_bitCount_16 : decode cJ_bitCount 16 = .ok (.iconst 2, 1) := by decide +kernel
theorem dJ_bitCount_17 : decode cJ_bitCount 17 = .ok (.iushr, 1) := by decide +kernel
theorem dJ_bitCount_18 : decode cJ_bitCount 18 = .ok (.ldc_w 266, 3) := by decide +kernel
theorem dJ_bitCount_21 : decode cJ_bitCount 21 = .ok (.iand, 1) := by decide +kernel
theorem dJ_bitCount_22 : decode cJ_bitCount 22 = .ok (.iadd, 1) := by decide +kernel
theorem dJ_bitCount_23 : decode cJ_bitCount 23 = .ok (.istore_n 0, 1) := by decide +kernel
theorem dJ_bitCount_24 : decode cJ_bitCount 24 = .ok (.iload_n 0, 1) := by decide +kernel
theorem dJ_bitCount_25 : decode cJ_bitCount 25 = .ok (.iload_n 0, 1) := by decide +kernel
theorem dJ_bitCount_26 : decode cJ_bitCount 26 = .ok (.iconst 4, 1) := by decide +kernel
theorem dJ_bitCount_27 : decode cJ_bitCount 27 = .ok (.iushr, 1) := by decide +kernel
theorem dJ_bitCount_28 : decode cJ_bitCount 28 = .ok (.iadd, 1) := by decide +kernel
theorem dJ_bitCount_29 : decode cJ_bitCount 29 = .ok (.ldc_w 267, 3) := by decide +kernel
theorem dJ_bitCount_32 : decode cJ_bitCount 32 = .ok (.iand, 1) := by decide +kernel
theorem dJ_bitCount_33 : decode cJ_bitCount 33 = .ok (.istore_n 0, 1) := by decide +kernel
theorem dJ_bitCount_34 : decode cJ_bitCount 34 = .ok (.iload_n 0, 1) := by decide +kernel
theorem dJ_bitCount_35 : decode cJ_bitCount 35 = .ok (.iload_n 0, 1) := by decide +kernel
theorem dJ_bitCount_36 : decode cJ_bitCount 36 = .ok (.bipush 8, 2) := by decide +kernel
theorem dJ_bitCount_38 : decode cJ_bitCount 38 = .ok (.iushr, 1) := by decide +kernel
theorem dJ_bitCount_39 : decode cJ_bitCount 39 = .ok (.iadd, 1) := by decide +kernel
theorem dJ_bitCount_40 : decode cJ_bitCount 40 = .ok (.istore_n 0, 1) := by decide +kernel
theorem dJ_bitCount_41 : decode cJ_bitCount 41 = .ok (.iload_n 0, 1) := by decide +kernel
theorem dJ_bitCount_42 : decode cJ_bitCount 42 = .ok (.iload_n 0, 1) := by decide +kernel
theorem dJ_bitCount_43 : decode cJ_bitCount 43 = .ok (.bipush 16, 2) := by decide +kernel
theorem dJ_bitCount_45 : decode cJ_bitCount 45 = .ok (.iushr, 1) := by decide +kernel
theorem dJ_bitCount_46 : decode cJ_bitCount 46 = .ok (.iadd, 1) := by decide +kernel
theorem dJ_bitCount_47 : decode cJ_bitCount 47 = .ok (.istore_n 0, 1) := by decide +kernel
theorem dJ_bitCount_48 : decode cJ_bitCount 48 = .ok (.iload_n 0, 1) := by decide +kernel
theorem dJ_bitCount_49 : decode cJ_bitCount 49 = .ok (.bipush 63, 2) := by decide +kernel
theorem dJ_bitCount_51 : decode cJ_bitCount 51 = .ok (.iand, 1) := by decide +kernel
theorem dJ_bitCount_52 : decode cJ_bitCount 52 = .ok (.ireturn, 1) := by decide +kernel
theorem in_X0 : ∀ w ∈ u_ws RX0 TX0 9, w ∈ mm_ws := fun w hw => (fun h => mm_in h.1 h.2) ((show ∀ w ∈ u_ws RX0 TX0 9, w ∈ lw_tbl ∧ goodWord w = true by decide +kernel) w hw)
theorem in_X1 : ∀ w ∈ u_ws RX1 TX1 4, w ∈ mm_ws := fun w hw => (fun h => mm_in h.1 h.2) ((show ∀ w ∈ u_ws RX1 TX1 4, w ∈ lw_tbl ∧ goodWord w = true by decide +kernel) w hw)
theorem in_X2 : ∀ w ∈ u_ws RX2 TX2 2, w ∈ mm_ws := fun w hw => (fun h => mm_in h.1 h.2) ((show ∀ w ∈ u_ws RX2 TX2 2, w ∈ lw_tbl ∧ goodWord w = true by decide +kernel) w hw)
theorem in_X3 : ∀ w ∈ u_ws RX3 TX3 4, w ∈ mm_ws := fun w hw => (fun h => mm_in h.1 h.2) ((show ∀ w ∈ u_ws RX3 TX3 4, w ∈ lw_tbl ∧ goodWord w = true by decide +kernel) w hw)
theorem in_X4 : ∀ w ∈ u_ws RX4 TX4 2, w ∈ mm_ws := fun w hw => (fun h => mm_in h.1 h.2) ((show ∀ w ∈ u_ws RX4 TX4 2, w ∈ lw_tbl ∧ goodWord w = true by decide +kernel) w hw)
theorem in_X5 : ∀ w ∈ u_ws RX5 TX5 2, w ∈ mm_ws := fun w hw => (fun h => mm_in h.1 h.2) ((show ∀ w ∈ u_ws RX5 TX5 2, w ∈ lw_tbl ∧ goodWord w = true by decide +kernel) w hw)
theorem in_X6 : ∀ w ∈ u_ws RX6 TX6 6, w ∈ mm_ws := fun w hw => (fun h => mm_in h.1 h.2) ((show ∀ w ∈ u_ws RX6 TX6 6, w ∈ lw_tbl ∧ goodWord w = true by decide +kernel) w hw)
theorem in_X7 : ∀ w ∈ u_ws RX7 TX7 4, w ∈ mm_ws := fun w hw => (fun h => mm_in h.1 h.2) ((show ∀ w ∈ u_ws RX7 TX7 4, w ∈ lw_tbl ∧ goodWord w = true by decide +kernel) w hw)
theorem in_X8 : ∀ w ∈ u_ws RX8 TX8 3, w ∈ mm_ws := fun w hw => (fun h => mm_in h.1 h.2) ((show ∀ w ∈ u_ws RX8 TX8 3, w ∈ lw_tbl ∧ goodWord w = true by decide +kernel) w hw)
theorem in_X9 : ∀ w ∈ u_ws RX9 TX9 18, w ∈ mm_ws := fun w hw => (fun h => mm_in h.1 h.2) ((show ∀ w ∈ u_ws RX9 TX9 18, w ∈ lw_tbl ∧ goodWord w = true by decide +kernel) w hw)
theorem in_X10 : ∀ w ∈ u_ws RX10 TX10 33, w ∈ mm_ws := fun w hw => (fun h => mm_in h.1 h.2) ((show ∀ w ∈ u_ws RX10 TX10 33, w ∈ lw_tbl ∧ goodWord w = true by decide +kernel) w hw)
theorem fl_X9_10 : mm_FL RX9 10 9 0 (.object "KwicStore$Tape") true := ⟨RX9, TX9, 18, tyX9, rfl, by decide, in_X9, tyX9_ok, nmX9, mm_in (List.mem_of_getElem? (i := 370) (by decide +kernel)) rfl, rfl, rfl, by decide +kernel⟩
theorem fl_X9_19 : mm_FL RX9 19 9 2 (.object "KwicStore$State") true := ⟨RX9, TX9, 18, tyX9, rfl, by decide, in_X9, tyX9_ok, nmX9, mm_in (List.mem_of_getElem? (i := 372) (by decide +kernel)) rfl, rfl, rfl, by decide +kernel⟩
theorem fl_X9_23 : mm_FL RX9 23 9 3 (.object "KwicStore$State") true := ⟨RX9, TX9, 18, tyX9, rfl, by decide, in_X9, tyX9_ok, nmX9, mm_in (List.mem_of_getElem? (i := 373) (by decide +kernel)) rfl, rfl, rfl, by decide +kernel⟩
theorem fl_X9_26 : mm_FL RX9 26 9 5 (.array (.object "KwicStore$State")) true := ⟨RX9, TX9, 18, tyX9, rfl, by decide, in_X9, tyX9_ok, nmX9, mm_in (List.mem_of_getElem? (i := 375) (by decide +kernel)) rfl, rfl, rfl, by decide +kernel⟩
theorem fl_X9_33 : mm_FL RX9 33 9 8 (.object "KwicStore$Signs") true := ⟨RX9, TX9, 18, tyX9, rfl, by decide, in_X9, tyX9_ok, nmX9, mm_in (List.mem_of_getElem? (i := 378) (by decide +kernel)) rfl, rfl, rfl, by decide +kernel⟩
theorem fl_X9_37 : mm_FL RX9 37 9 9 (.object "KwicStore$Signs") true := ⟨RX9, TX9, 18, tyX9, rfl, by decide, in_X9, tyX9_ok, nmX9, mm_in (List.mem_of_getElem? (i := 379) (by decide +kernel)) rfl, rfl, rfl, by decide +kernel⟩
theorem fl_X9_40 : mm_FL RX9 40 9 10 (.object "KwicStore$Signs") true := ⟨RX9, TX9, 18, tyX9, rfl, by decide, in_X9, tyX9_ok, nmX9, mm_in (List.mem_of_getElem? (i := 380) (by decide +kernel)) rfl, rfl, rfl, by decide +kernel⟩
theorem fl_X9_46 : mm_FL RX9 46 9 11 (.object "KwicStore$Step") true := ⟨RX9, TX9, 18, tyX9, rfl, by decide, in_X9, tyX9_ok, nmX9, mm_in (List.mem_of_getElem? (i := 381) (by decide +kernel)) rfl, rfl, rfl, by decide +kernel⟩
theorem fl_X9_52 : mm_FL RX9 52 9 12 (.array (.object "KwicStore$Script")) true := ⟨RX9, TX9, 18, tyX9, rfl, by decide, in_X9, tyX9_ok, nmX9, mm_in (List.mem_of_getElem? (i := 382) (by decide +kernel)) rfl, rfl, rfl, by decide +kernel⟩
theorem fl_X9_56 : mm_FL RX9 56 9 14 (.array .int) true := ⟨RX9, TX9, 18, tyX9, rfl, by decide, in_X9, tyX9_ok, nmX9, mm_in (List.mem_of_getElem? (i := 384) (by decide +kernel)) rfl, rfl, rfl, by decide +kernel⟩
theorem fl_X9_60 : mm_FL RX9 60 9 1 (.object "KwicStore$State") true := ⟨RX9, TX9, 18, tyX9, rfl, by decide, in_X9, tyX9_ok, nmX9, mm_in (List.mem_of_getElem? (i := 371) (by decide +kernel)) rfl, rfl, rfl, by decide +kernel⟩
theorem fl_X9_68 : mm_FL RX9 68 9 15 (.object "KwicStore$Ranking") true := ⟨RX9, TX9, 18, tyX9, rfl, by decide, in_X9, tyX9_ok, nmX9, mm_in (List.mem_of_getElem? (i := 385) (by decide +kernel)) rfl, rfl, rfl, by decide +kernel⟩
theorem fl_X9_72 : mm_FL RX9 72 9 16 (.object "KwicStore$Ranking") true := ⟨RX9, TX9, 18, tyX9, rfl, by decide, in_X9, tyX9_ok, nmX9, mm_in (List.mem_of_getElem? (i := 386) (by decide +kernel)) rfl, rfl, rfl, by decide +kernel⟩
theorem fl_X9_76 : mm_FL RX9 76 8 1 .int false := ⟨RX8, TX8, 3, tyX8, rfl, by decide, in_X8, tyX8_ok, nmX8, mm_in (List.mem_of_getElem? (i := 141) (by decide +kernel)) rfl, rfl, rfl, by decide +kernel⟩
theorem fl_X9_88 : mm_FL RX9 88 9 13 .int false := ⟨RX9, TX9, 18, tyX9, rfl, by decide, in_X9, tyX9_ok, nmX9, mm_in (List.mem_of_getElem? (i := 383) (by decide +kernel)) rfl, rfl, rfl, by decide +kernel⟩
theorem fl_X9_109 : mm_FL RX9 109 5 1 .int false := ⟨RX5, TX5, 2, tyX5, rfl, by decide, in_X5, tyX5_ok, nmX5, mm_in (List.mem_of_getElem? (i := 199) (by decide +kernel)) rfl, rfl, rfl, by decide +kernel⟩
theorem fl_X9_110 : mm_FL RX9 110 9 7 .int false := ⟨RX9, TX9, 18, tyX9, rfl, by decide, in_X9, tyX9_ok, nmX9, mm_in (List.mem_of_getElem? (i := 377) (by decide +kernel)) rfl, rfl, rfl, by decide +kernel⟩
theorem fl_X9_113 : mm_FL RX9 113 9 4 .boolean false := ⟨RX9, TX9, 18, tyX9, rfl, by decide, in_X9, tyX9_ok, nmX9, mm_in (List.mem_of_getElem? (i := 374) (by decide +kernel)) rfl, rfl, rfl, by decide +kernel⟩
theorem fl_X9_120 : mm_FL RX9 120 6 1 .int false := ⟨RX6, TX6, 6, tyX6, rfl, by decide, in_X6, tyX6_ok, nmX6, mm_in (List.mem_of_getElem? (i := 274) (by decide +kernel)) rfl, rfl, rfl, by decide +kernel⟩
theorem fl_X9_130 : mm_FL RX9 130 3 2 .int false := ⟨RX3, TX3, 4, tyX3, rfl, by decide, in_X3, tyX3_ok, nmX3, mm_in (List.mem_of_getElem? (i := 341) (by decide +kernel)) rfl, rfl, rfl, by decide +kernel⟩
theorem fl_X9_140 : mm_FL RX9 140 6 0 (.array (.object "KwicStore$Line")) true := ⟨RX6, TX6, 6, tyX6, rfl, by decide, in_X6, tyX6_ok, nmX6, mm_in (List.mem_of_getElem? (i := 271) (by decide +kernel)) rfl, rfl, rfl, by decide +kernel⟩
theorem fl_X9_149 : mm_FL RX9 149 2 0 (.object "KwicStore$Signs") true := ⟨RX2, TX2, 2, tyX2, rfl, by decide, in_X2, tyX2_ok, nmX2, mm_in (List.mem_of_getElem? (i := 211) (by decide +kernel)) rfl, rfl, rfl, by decide +kernel⟩
theorem fl_X9_215 : mm_FL RX9 215 7 3 (.object "KwicStore$Signs") true := ⟨RX7, TX7, 4, tyX7, rfl, by decide, in_X7, tyX7_ok, nmX7, mm_in (List.mem_of_getElem? (i := 320) (by decide +kernel)) rfl, rfl, rfl, by decide +kernel⟩
theorem fl_X9_219 : mm_FL RX9 219 6 3 (.array (.object "KwicStore$Cursor")) true := ⟨RX6, TX6, 6, tyX6, rfl, by decide, in_X6, tyX6_ok, nmX6, mm_in (List.mem_of_getElem? (i := 278) (by decide +kernel)) rfl, rfl, rfl, by decide +kernel⟩
theorem fl_X9_223 : mm_FL RX9 223 0 1 .int false := ⟨RX0, TX0, 9, tyX0, rfl, by decide, in_X0, tyX0_ok, nmX0, mm_in (List.mem_of_getElem? (i := 235) (by decide +kernel)) rfl, rfl, rfl, by decide +kernel⟩
theorem fl_X9_226 : mm_FL RX9 226 0 0 (.object "KwicStore$Signs") true := ⟨RX0, TX0, 9, tyX0, rfl, by decide, in_X0, tyX0_ok, nmX0, mm_in (List.mem_of_getElem? (i := 232) (by decide +kernel)) rfl, rfl, rfl, by decide +kernel⟩
theorem fl_X9_227 : mm_FL RX9 227 0 5 .int false := ⟨RX0, TX0, 9, tyX0, rfl, by decide, in_X0, tyX0_ok, nmX0, mm_in (List.mem_of_getElem? (i := 243) (by decide +kernel)) rfl, rfl, rfl, by decide +kernel⟩
theorem fl_X9_230 : mm_FL RX9 230 0 6 .int false := ⟨RX0, TX0, 9, tyX0, rfl, by decide, in_X0, tyX0_ok, nmX0, mm_in (List.mem_of_getElem? (i := 245) (by decide +kernel)) rfl, rfl, rfl, by decide +kernel⟩
theorem fl_X9_237 : mm_FL RX9 237 0 2 .boolean false := ⟨RX0, TX0, 9, tyX0, rfl, by decide, in_X0, tyX0_ok, nmX0, mm_in (List.mem_of_getElem? (i := 238) (by decide +kernel)) rfl, rfl, rfl, by decide +kernel⟩
theorem fl_X9_240 : mm_FL RX9 240 0 7 (.array .int) true := ⟨RX0, TX0, 9, tyX0, rfl, by decide, in_X0, tyX0_ok, nmX0, mm_in (List.mem_of_getElem? (i := 247) (by decide +kernel)) rfl, rfl, rfl, by decide +kernel⟩
theorem fl_X9_243 : mm_FL RX9 243 0 8 (.array .int) true := ⟨RX0, TX0, 9, tyX0, rfl, by decide, in_X0, tyX0_ok, nmX0, mm_in (List.mem_of_getElem? (i := 249) (by decide +kernel)) rfl, rfl, rfl, by decide +kernel⟩
theorem fl_X9_246 : mm_FL RX9 246 9 17 .long false := ⟨RX9, TX9, 18, tyX9, rfl, by decide, in_X9, tyX9_ok, nmX9, mm_in (List.mem_of_getElem? (i := 387) (by decide +kernel)) rfl, rfl, rfl, by decide +kernel⟩
theorem fl_X9_270 : mm_FL RX9 270 9 6 .int false := ⟨RX9, TX9, 18, tyX9, rfl, by decide, in_X9, tyX9_ok, nmX9, mm_in (List.mem_of_getElem? (i := 376) (by decide +kernel)) rfl, rfl, rfl, by decide +kernel⟩
theorem fl_X9_273 : mm_FL RX9 273 6 4 (.object "KwicStore$Journal") true := ⟨RX6, TX6, 6, tyX6, rfl, by decide, in_X6, tyX6_ok, nmX6, mm_in (List.mem_of_getElem? (i := 280) (by decide +kernel)) rfl, rfl, rfl, by decide +kernel⟩
theorem fl_X9_293 : mm_FL RX9 293 4 1 .int false := ⟨RX4, TX4, 2, tyX4, rfl, by decide, in_X4, tyX4_ok, nmX4, mm_in (List.mem_of_getElem? (i := 364) (by decide +kernel)) rfl, rfl, rfl, by decide +kernel⟩
theorem fl_X9_294 : mm_FL RX9 294 4 0 (.array (.object "KwicStore$Step")) true := ⟨RX4, TX4, 2, tyX4, rfl, by decide, in_X4, tyX4_ok, nmX4, mm_in (List.mem_of_getElem? (i := 362) (by decide +kernel)) rfl, rfl, rfl, by decide +kernel⟩
theorem fl_X9_298 : mm_FL RX9 298 7 0 .int false := ⟨RX7, TX7, 4, tyX7, rfl, by decide, in_X7, tyX7_ok, nmX7, mm_in (List.mem_of_getElem? (i := 308) (by decide +kernel)) rfl, rfl, rfl, by decide +kernel⟩
theorem fl_X9_301 : mm_FL RX9 301 7 1 .int false := ⟨RX7, TX7, 4, tyX7, rfl, by decide, in_X7, tyX7_ok, nmX7, mm_in (List.mem_of_getElem? (i := 312) (by decide +kernel)) rfl, rfl, rfl, by decide +kernel⟩
theorem fl_X9_304 : mm_FL RX9 304 7 2 .int false := ⟨RX7, TX7, 4, tyX7, rfl, by decide, in_X7, tyX7_ok, nmX7, mm_in (List.mem_of_getElem? (i := 316) (by decide +kernel)) rfl, rfl, rfl, by decide +kernel⟩
theorem fl_X9_339 : mm_FL RX9 339 6 2 .int false := ⟨RX6, TX6, 6, tyX6, rfl, by decide, in_X6, tyX6_ok, nmX6, mm_in (List.mem_of_getElem? (i := 276) (by decide +kernel)) rfl, rfl, rfl, by decide +kernel⟩
theorem fl_X9_347 : mm_FL RX9 347 3 3 .boolean false := ⟨RX3, TX3, 4, tyX3, rfl, by decide, in_X3, tyX3_ok, nmX3, mm_in (List.mem_of_getElem? (i := 342) (by decide +kernel)) rfl, rfl, rfl, by decide +kernel⟩
theorem fl_X0_12 : mm_FL RX0 12 0 0 (.object "KwicStore$Signs") true := ⟨RX0, TX0, 9, tyX0, rfl, by decide, in_X0, tyX0_ok, nmX0, mm_in (List.mem_of_getElem? (i := 230) (by decide +kernel)) rfl, rfl, rfl, by decide +kernel⟩
theorem fl_X0_21 : mm_FL RX0 21 0 3 (.object "KwicStore$Line") true := ⟨RX0, TX0, 9, tyX0, rfl, by decide, in_X0, tyX0_ok, nmX0, mm_in (List.mem_of_getElem? (i := 239) (by decide +kernel)) rfl, rfl, rfl, by decide +kernel⟩
theorem fl_X0_25 : mm_FL RX0 25 0 7 (.array .int) true := ⟨RX0, TX0, 9, tyX0, rfl, by decide, in_X0, tyX0_ok, nmX0, mm_in (List.mem_of_getElem? (i := 246) (by decide +kernel)) rfl, rfl, rfl, by decide +kernel⟩
theorem fl_X0_29 : mm_FL RX0 29 0 8 (.array .int) true := ⟨RX0, TX0, 9, tyX0, rfl, by decide, in_X0, tyX0_ok, nmX0, mm_in (List.mem_of_getElem? (i := 248) (by decide +kernel)) rfl, rfl, rfl, by decide +kernel⟩
theorem fl_X0_36 : mm_FL RX0 36 0 1 .int false := ⟨RX0, TX0, 9, tyX0, rfl, by decide, in_X0, tyX0_ok, nmX0, mm_in (List.mem_of_getElem? (i := 233) (by decide +kernel)) rfl, rfl, rfl, by decide +kernel⟩
theorem fl_X0_40 : mm_FL RX0 40 0 2 .boolean false := ⟨RX0, TX0, 9, tyX0, rfl, by decide, in_X0, tyX0_ok, nmX0, mm_in (List.mem_of_getElem? (i := 236) (by decide +kernel)) rfl, rfl, rfl, by decide +kernel⟩
theorem fl_X0_47 : mm_FL RX0 47 0 4 .int false := ⟨RX0, TX0, 9, tyX0, rfl, by decide, in_X0, tyX0_ok, nmX0, mm_in (List.mem_of_getElem? (i := 240) (by decide +kernel)) rfl, rfl, rfl, by decide +kernel⟩
theorem fl_X0_50 : mm_FL RX0 50 0 5 .int false := ⟨RX0, TX0, 9, tyX0, rfl, by decide, in_X0, tyX0_ok, nmX0, mm_in (List.mem_of_getElem? (i := 241) (by decide +kernel)) rfl, rfl, rfl, by decide +kernel⟩
theorem fl_X0_53 : mm_FL RX0 53 0 6 .int false := ⟨RX0, TX0, 9, tyX0, rfl, by decide, in_X0, tyX0_ok, nmX0, mm_in (List.mem_of_getElem? (i := 244) (by decide +kernel)) rfl, rfl, rfl, by decide +kernel⟩
theorem fl_X0_62 : mm_FL RX0 62 2 0 (.object "KwicStore$Signs") true := ⟨RX2, TX2, 2, tyX2, rfl, by decide, in_X2, tyX2_ok, nmX2, mm_in (List.mem_of_getElem? (i := 208) (by decide +kernel)) rfl, rfl, rfl, by decide +kernel⟩
theorem fl_X0_65 : mm_FL RX0 65 2 1 .int false := ⟨RX2, TX2, 2, tyX2, rfl, by decide, in_X2, tyX2_ok, nmX2, mm_in (List.mem_of_getElem? (i := 213) (by decide +kernel)) rfl, rfl, rfl, by decide +kernel⟩
theorem fl_X0_72 : mm_FL RX0 72 5 1 .int false := ⟨RX5, TX5, 2, tyX5, rfl, by decide, in_X5, tyX5_ok, nmX5, mm_in (List.mem_of_getElem? (i := 197) (by decide +kernel)) rfl, rfl, rfl, by decide +kernel⟩
theorem fl_X1_9 : mm_FL RX1 9 1 0 (.array .int) true := ⟨RX1, TX1, 4, tyX1, rfl, by decide, in_X1, tyX1_ok, nmX1, mm_in (List.mem_of_getElem? (i := 168) (by decide +kernel)) rfl, rfl, rfl, by decide +kernel⟩
theorem fl_X1_15 : mm_FL RX1 15 1 1 (.array .int) true := ⟨RX1, TX1, 4, tyX1, rfl, by decide, in_X1, tyX1_ok, nmX1, mm_in (List.mem_of_getElem? (i := 169) (by decide +kernel)) rfl, rfl, rfl, by decide +kernel⟩
theorem fl_X1_18 : mm_FL RX1 18 1 2 (.array .int) true := ⟨RX1, TX1, 4, tyX1, rfl, by decide, in_X1, tyX1_ok, nmX1, mm_in (List.mem_of_getElem? (i := 170) (by decide +kernel)) rfl, rfl, rfl, by decide +kernel⟩
theorem fl_X1_27 : mm_FL RX1 27 1 3 .int false := ⟨RX1, TX1, 4, tyX1, rfl, by decide, in_X1, tyX1_ok, nmX1, mm_in (List.mem_of_getElem? (i := 171) (by decide +kernel)) rfl, rfl, rfl, by decide +kernel⟩
theorem fl_X2_10 : mm_FL RX2 10 2 0 (.object "KwicStore$Signs") true := ⟨RX2, TX2, 2, tyX2, rfl, by decide, in_X2, tyX2_ok, nmX2, mm_in (List.mem_of_getElem? (i := 206) (by decide +kernel)) rfl, rfl, rfl, by decide +kernel⟩
theorem fl_X2_20 : mm_FL RX2 20 2 1 .int false := ⟨RX2, TX2, 2, tyX2, rfl, by decide, in_X2, tyX2_ok, nmX2, mm_in (List.mem_of_getElem? (i := 212) (by decide +kernel)) rfl, rfl, rfl, by decide +kernel⟩
theorem fl_X3_9 : mm_FL RX3 9 3 1 (.array .int) true := ⟨RX3, TX3, 4, tyX3, rfl, by decide, in_X3, tyX3_ok, nmX3, mm_in (List.mem_of_getElem? (i := 339) (by decide +kernel)) rfl, rfl, rfl, by decide +kernel⟩
theorem fl_X3_15 : mm_FL RX3 15 3 0 (.object "KwicStore$State") true := ⟨RX3, TX3, 4, tyX3, rfl, by decide, in_X3, tyX3_ok, nmX3, mm_in (List.mem_of_getElem? (i := 338) (by decide +kernel)) rfl, rfl, rfl, by decide +kernel⟩
theorem fl_X3_19 : mm_FL RX3 19 6 1 .int false := ⟨RX6, TX6, 6, tyX6, rfl, by decide, in_X6, tyX6_ok, nmX6, mm_in (List.mem_of_getElem? (i := 273) (by decide +kernel)) rfl, rfl, rfl, by decide +kernel⟩
theorem fl_X3_25 : mm_FL RX3 25 6 0 (.array (.object "KwicStore$Line")) true := ⟨RX6, TX6, 6, tyX6, rfl, by decide, in_X6, tyX6_ok, nmX6, mm_in (List.mem_of_getElem? (i := 270) (by decide +kernel)) rfl, rfl, rfl, by decide +kernel⟩
theorem fl_X3_29 : mm_FL RX3 29 2 0 (.object "KwicStore$Signs") true := ⟨RX2, TX2, 2, tyX2, rfl, by decide, in_X2, tyX2_ok, nmX2, mm_in (List.mem_of_getElem? (i := 207) (by decide +kernel)) rfl, rfl, rfl, by decide +kernel⟩
theorem fl_X3_35 : mm_FL RX3 35 5 1 .int false := ⟨RX5, TX5, 2, tyX5, rfl, by decide, in_X5, tyX5_ok, nmX5, mm_in (List.mem_of_getElem? (i := 196) (by decide +kernel)) rfl, rfl, rfl, by decide +kernel⟩
theorem fl_X3_48 : mm_FL RX3 48 3 2 .int false := ⟨RX3, TX3, 4, tyX3, rfl, by decide, in_X3, tyX3_ok, nmX3, mm_in (List.mem_of_getElem? (i := 340) (by decide +kernel)) rfl, rfl, rfl, by decide +kernel⟩
theorem fl_X5_9 : mm_FL RX5 9 5 0 (.array .int) true := ⟨RX5, TX5, 2, tyX5, rfl, by decide, in_X5, tyX5_ok, nmX5, mm_in (List.mem_of_getElem? (i := 193) (by decide +kernel)) rfl, rfl, rfl, by decide +kernel⟩
theorem fl_X5_15 : mm_FL RX5 15 5 1 .int false := ⟨RX5, TX5, 2, tyX5, rfl, by decide, in_X5, tyX5_ok, nmX5, mm_in (List.mem_of_getElem? (i := 194) (by decide +kernel)) rfl, rfl, rfl, by decide +kernel⟩
theorem fl_X6_11 : mm_FL RX6 11 6 0 (.array (.object "KwicStore$Line")) true := ⟨RX6, TX6, 6, tyX6, rfl, by decide, in_X6, tyX6_ok, nmX6, mm_in (List.mem_of_getElem? (i := 269) (by decide +kernel)) rfl, rfl, rfl, by decide +kernel⟩
theorem fl_X6_19 : mm_FL RX6 19 6 3 (.array (.object "KwicStore$Cursor")) true := ⟨RX6, TX6, 6, tyX6, rfl, by decide, in_X6, tyX6_ok, nmX6, mm_in (List.mem_of_getElem? (i := 277) (by decide +kernel)) rfl, rfl, rfl, by decide +kernel⟩
theorem fl_X6_26 : mm_FL RX6 26 6 4 (.object "KwicStore$Journal") true := ⟨RX6, TX6, 6, tyX6, rfl, by decide, in_X6, tyX6_ok, nmX6, mm_in (List.mem_of_getElem? (i := 279) (by decide +kernel)) rfl, rfl, rfl, by decide +kernel⟩
theorem fl_X6_30 : mm_FL RX6 30 6 5 (.array .int) true := ⟨RX6, TX6, 6, tyX6, rfl, by decide, in_X6, tyX6_ok, nmX6, mm_in (List.mem_of_getElem? (i := 281) (by decide +kernel)) rfl, rfl, rfl, by decide +kernel⟩
theorem fl_X6_36 : mm_FL RX6 36 6 1 .int false := ⟨RX6, TX6, 6, tyX6, rfl, by decide, in_X6, tyX6_ok, nmX6, mm_in (List.mem_of_getElem? (i := 272) (by decide +kernel)) rfl, rfl, rfl, by decide +kernel⟩
theorem fl_X6_44 : mm_FL RX6 44 6 2 .int false := ⟨RX6, TX6, 6, tyX6, rfl, by decide, in_X6, tyX6_ok, nmX6, mm_in (List.mem_of_getElem? (i := 275) (by decide +kernel)) rfl, rfl, rfl, by decide +kernel⟩
theorem fl_X6_53 : mm_FL RX6 53 0 1 .int false := ⟨RX0, TX0, 9, tyX0, rfl, by decide, in_X0, tyX0_ok, nmX0, mm_in (List.mem_of_getElem? (i := 234) (by decide +kernel)) rfl, rfl, rfl, by decide +kernel⟩
theorem fl_X6_59 : mm_FL RX6 59 1 3 .int false := ⟨RX1, TX1, 4, tyX1, rfl, by decide, in_X1, tyX1_ok, nmX1, mm_in (List.mem_of_getElem? (i := 172) (by decide +kernel)) rfl, rfl, rfl, by decide +kernel⟩
theorem fl_X6_62 : mm_FL RX6 62 2 0 (.object "KwicStore$Signs") true := ⟨RX2, TX2, 2, tyX2, rfl, by decide, in_X2, tyX2_ok, nmX2, mm_in (List.mem_of_getElem? (i := 210) (by decide +kernel)) rfl, rfl, rfl, by decide +kernel⟩
theorem fl_X6_66 : mm_FL RX6 66 5 1 .int false := ⟨RX5, TX5, 2, tyX5, rfl, by decide, in_X5, tyX5_ok, nmX5, mm_in (List.mem_of_getElem? (i := 198) (by decide +kernel)) rfl, rfl, rfl, by decide +kernel⟩
theorem fl_X6_77 : mm_FL RX6 77 7 1 .int false := ⟨RX7, TX7, 4, tyX7, rfl, by decide, in_X7, tyX7_ok, nmX7, mm_in (List.mem_of_getElem? (i := 311) (by decide +kernel)) rfl, rfl, rfl, by decide +kernel⟩
theorem fl_X6_82 : mm_FL RX6 82 7 0 .int false := ⟨RX7, TX7, 4, tyX7, rfl, by decide, in_X7, tyX7_ok, nmX7, mm_in (List.mem_of_getElem? (i := 307) (by decide +kernel)) rfl, rfl, rfl, by decide +kernel⟩
theorem fl_X6_89 : mm_FL RX6 89 7 3 (.object "KwicStore$Signs") true := ⟨RX7, TX7, 4, tyX7, rfl, by decide, in_X7, tyX7_ok, nmX7, mm_in (List.mem_of_getElem? (i := 319) (by decide +kernel)) rfl, rfl, rfl, by decide +kernel⟩
theorem fl_X6_94 : mm_FL RX6 94 7 2 .int false := ⟨RX7, TX7, 4, tyX7, rfl, by decide, in_X7, tyX7_ok, nmX7, mm_in (List.mem_of_getElem? (i := 315) (by decide +kernel)) rfl, rfl, rfl, by decide +kernel⟩
theorem fl_X6_112 : mm_FL RX6 112 0 2 .boolean false := ⟨RX0, TX0, 9, tyX0, rfl, by decide, in_X0, tyX0_ok, nmX0, mm_in (List.mem_of_getElem? (i := 237) (by decide +kernel)) rfl, rfl, rfl, by decide +kernel⟩
theorem fl_X6_116 : mm_FL RX6 116 2 1 .int false := ⟨RX2, TX2, 2, tyX2, rfl, by decide, in_X2, tyX2_ok, nmX2, mm_in (List.mem_of_getElem? (i := 215) (by decide +kernel)) rfl, rfl, rfl, by decide +kernel⟩
theorem fl_X6_150 : mm_FL RX6 150 0 0 (.object "KwicStore$Signs") true := ⟨RX0, TX0, 9, tyX0, rfl, by decide, in_X0, tyX0_ok, nmX0, mm_in (List.mem_of_getElem? (i := 231) (by decide +kernel)) rfl, rfl, rfl, by decide +kernel⟩
theorem fl_X6_158 : mm_FL RX6 158 0 5 .int false := ⟨RX0, TX0, 9, tyX0, rfl, by decide, in_X0, tyX0_ok, nmX0, mm_in (List.mem_of_getElem? (i := 242) (by decide +kernel)) rfl, rfl, rfl, by decide +kernel⟩
theorem fl_X7_10 : mm_FL RX7 10 7 3 (.object "KwicStore$Signs") true := ⟨RX7, TX7, 4, tyX7, rfl, by decide, in_X7, tyX7_ok, nmX7, mm_in (List.mem_of_getElem? (i := 317) (by decide +kernel)) rfl, rfl, rfl, by decide +kernel⟩
theorem fl_X7_16 : mm_FL RX7 16 7 0 .int false := ⟨RX7, TX7, 4, tyX7, rfl, by decide, in_X7, tyX7_ok, nmX7, mm_in (List.mem_of_getElem? (i := 306) (by decide +kernel)) rfl, rfl, rfl, by decide +kernel⟩
theorem fl_X7_20 : mm_FL RX7 20 7 1 .int false := ⟨RX7, TX7, 4, tyX7, rfl, by decide, in_X7, tyX7_ok, nmX7, mm_in (List.mem_of_getElem? (i := 309) (by decide +kernel)) rfl, rfl, rfl, by decide +kernel⟩
theorem fl_X7_23 : mm_FL RX7 23 7 2 .int false := ⟨RX7, TX7, 4, tyX7, rfl, by decide, in_X7, tyX7_ok, nmX7, mm_in (List.mem_of_getElem? (i := 313) (by decide +kernel)) rfl, rfl, rfl, by decide +kernel⟩
theorem fl_X7_26 : mm_FL RX7 26 5 1 .int false := ⟨RX5, TX5, 2, tyX5, rfl, by decide, in_X5, tyX5_ok, nmX5, mm_in (List.mem_of_getElem? (i := 195) (by decide +kernel)) rfl, rfl, rfl, by decide +kernel⟩
theorem fl_X8_9 : mm_FL RX8 9 8 0 (.array .int) true := ⟨RX8, TX8, 3, tyX8, rfl, by decide, in_X8, tyX8_ok, nmX8, mm_in (List.mem_of_getElem? (i := 140) (by decide +kernel)) rfl, rfl, rfl, by decide +kernel⟩
theorem fl_X8_15 : mm_FL RX8 15 8 1 .int false := ⟨RX8, TX8, 3, tyX8, rfl, by decide, in_X8, tyX8_ok, nmX8, mm_in (List.mem_of_getElem? (i := 142) (by decide +kernel)) rfl, rfl, rfl, by decide +kernel⟩
theorem fl_X8_19 : mm_FL RX8 19 8 2 .int false := ⟨RX8, TX8, 3, tyX8, rfl, by decide, in_X8, tyX8_ok, nmX8, mm_in (List.mem_of_getElem? (i := 143) (by decide +kernel)) rfl, rfl, rfl, by decide +kernel⟩
theorem fl_X8_39 : mm_FL RX8 39 2 0 (.object "KwicStore$Signs") true := ⟨RX2, TX2, 2, tyX2, rfl, by decide, in_X2, tyX2_ok, nmX2, mm_in (List.mem_of_getElem? (i := 209) (by decide +kernel)) rfl, rfl, rfl, by decide +kernel⟩
theorem fl_X8_49 : mm_FL RX8 49 4 0 (.array (.object "KwicStore$Step")) true := ⟨RX4, TX4, 2, tyX4, rfl, by decide, in_X4, tyX4_ok, nmX4, mm_in (List.mem_of_getElem? (i := 361) (by decide +kernel)) rfl, rfl, rfl, by decide +kernel⟩
theorem fl_X8_59 : mm_FL RX8 59 4 1 .int false := ⟨RX4, TX4, 2, tyX4, rfl, by decide, in_X4, tyX4_ok, nmX4, mm_in (List.mem_of_getElem? (i := 363) (by decide +kernel)) rfl, rfl, rfl, by decide +kernel⟩
theorem fl_X8_78 : mm_FL RX8 78 7 1 .int false := ⟨RX7, TX7, 4, tyX7, rfl, by decide, in_X7, tyX7_ok, nmX7, mm_in (List.mem_of_getElem? (i := 310) (by decide +kernel)) rfl, rfl, rfl, by decide +kernel⟩
theorem fl_X8_81 : mm_FL RX8 81 7 2 .int false := ⟨RX7, TX7, 4, tyX7, rfl, by decide, in_X7, tyX7_ok, nmX7, mm_in (List.mem_of_getElem? (i := 314) (by decide +kernel)) rfl, rfl, rfl, by decide +kernel⟩
theorem fl_X8_84 : mm_FL RX8 84 7 3 (.object "KwicStore$Signs") true := ⟨RX7, TX7, 4, tyX7, rfl, by decide, in_X7, tyX7_ok, nmX7, mm_in (List.mem_of_getElem? (i := 318) (by decide +kernel)) rfl, rfl, rfl, by decide +kernel⟩
theorem fl_X8_85 : mm_FL RX8 85 5 1 .int false := ⟨RX5, TX5, 2, tyX5, rfl, by decide, in_X5, tyX5_ok, nmX5, mm_in (List.mem_of_getElem? (i := 200) (by decide +kernel)) rfl, rfl, rfl, by decide +kernel⟩
theorem fl_X10_9 : mm_FL RX10 9 10 1 (.array .int) true := ⟨RX10, TX10, 33, tyX10, rfl, by decide, in_X10, tyX10_ok, nmX10, mm_in (List.mem_of_getElem? (i := 1040) (by decide +kernel)) rfl, rfl, rfl, by decide +kernel⟩
theorem fl_X10_13 : mm_FL RX10 13 10 5 (.array .int) true := ⟨RX10, TX10, 33, tyX10, rfl, by decide, in_X10, tyX10_ok, nmX10, mm_in (List.mem_of_getElem? (i := 1044) (by decide +kernel)) rfl, rfl, rfl, by decide +kernel⟩
theorem fl_X10_16 : mm_FL RX10 16 10 6 (.array .int) true := ⟨RX10, TX10, 33, tyX10, rfl, by decide, in_X10, tyX10_ok, nmX10, mm_in (List.mem_of_getElem? (i := 1045) (by decide +kernel)) rfl, rfl, rfl, by decide +kernel⟩
theorem fl_X10_19 : mm_FL RX10 19 10 8 (.array .int) true := ⟨RX10, TX10, 33, tyX10, rfl, by decide, in_X10, tyX10_ok, nmX10, mm_in (List.mem_of_getElem? (i := 1047) (by decide +kernel)) rfl, rfl, rfl, by decide +kernel⟩
theorem fl_X10_22 : mm_FL RX10 22 10 9 (.array .int) true := ⟨RX10, TX10, 33, tyX10, rfl, by decide, in_X10, tyX10_ok, nmX10, mm_in (List.mem_of_getElem? (i := 1048) (by decide +kernel)) rfl, rfl, rfl, by decide +kernel⟩
theorem fl_X10_25 : mm_FL RX10 25 10 11 (.array .int) true := ⟨RX10, TX10, 33, tyX10, rfl, by decide, in_X10, tyX10_ok, nmX10, mm_in (List.mem_of_getElem? (i := 1050) (by decide +kernel)) rfl, rfl, rfl, by decide +kernel⟩
theorem fl_X10_28 : mm_FL RX10 28 10 13 (.array .int) true := ⟨RX10, TX10, 33, tyX10, rfl, by decide, in_X10, tyX10_ok, nmX10, mm_in (List.mem_of_getElem? (i := 1052) (by decide +kernel)) rfl, rfl, rfl, by decide +kernel⟩
theorem fl_X10_31 : mm_FL RX10 31 10 14 (.array .int) true := ⟨RX10, TX10, 33, tyX10, rfl, by decide, in_X10, tyX10_ok, nmX10, mm_in (List.mem_of_getElem? (i := 1053) (by decide +kernel)) rfl, rfl, rfl, by decide +kernel⟩
theorem fl_X10_34 : mm_FL RX10 34 10 15 (.array .int) true := ⟨RX10, TX10, 33, tyX10, rfl, by decide, in_X10, tyX10_ok, nmX10, mm_in (List.mem_of_getElem? (i := 1054) (by decide +kernel)) rfl, rfl, rfl, by decide +kernel⟩
theorem fl_X10_37 : mm_FL RX10 37 10 17 (.array .int) true := ⟨RX10, TX10, 33, tyX10, rfl, by decide, in_X10, tyX10_ok, nmX10, mm_in (List.mem_of_getElem? (i := 1056) (by decide +kernel)) rfl, rfl, rfl, by decide +kernel⟩
theorem fl_X10_40 : mm_FL RX10 40 10 18 (.array .int) true := ⟨RX10, TX10, 33, tyX10, rfl, by decide, in_X10, tyX10_ok, nmX10, mm_in (List.mem_of_getElem? (i := 1057) (by decide +kernel)) rfl, rfl, rfl, by decide +kernel⟩
theorem fl_X10_43 : mm_FL RX10 43 10 21 (.array .int) true := ⟨RX10, TX10, 33, tyX10, rfl, by decide, in_X10, tyX10_ok, nmX10, mm_in (List.mem_of_getElem? (i := 1060) (by decide +kernel)) rfl, rfl, rfl, by decide +kernel⟩
theorem fl_X10_46 : mm_FL RX10 46 10 24 (.array .int) true := ⟨RX10, TX10, 33, tyX10, rfl, by decide, in_X10, tyX10_ok, nmX10, mm_in (List.mem_of_getElem? (i := 1063) (by decide +kernel)) rfl, rfl, rfl, by decide +kernel⟩
theorem fl_X10_49 : mm_FL RX10 49 10 28 (.array .int) true := ⟨RX10, TX10, 33, tyX10, rfl, by decide, in_X10, tyX10_ok, nmX10, mm_in (List.mem_of_getElem? (i := 1067) (by decide +kernel)) rfl, rfl, rfl, by decide +kernel⟩
theorem fl_X10_52 : mm_FL RX10 52 10 30 (.array .int) true := ⟨RX10, TX10, 33, tyX10, rfl, by decide, in_X10, tyX10_ok, nmX10, mm_in (List.mem_of_getElem? (i := 1069) (by decide +kernel)) rfl, rfl, rfl, by decide +kernel⟩
theorem fl_X10_55 : mm_FL RX10 55 10 31 (.array .int) true := ⟨RX10, TX10, 33, tyX10, rfl, by decide, in_X10, tyX10_ok, nmX10, mm_in (List.mem_of_getElem? (i := 1070) (by decide +kernel)) rfl, rfl, rfl, by decide +kernel⟩
theorem fl_X10_58 : mm_FL RX10 58 10 0 .int false := ⟨RX10, TX10, 33, tyX10, rfl, by decide, in_X10, tyX10_ok, nmX10, mm_in (List.mem_of_getElem? (i := 1039) (by decide +kernel)) rfl, rfl, rfl, by decide +kernel⟩
theorem fl_X10_66 : mm_FL RX10 66 10 2 .int false := ⟨RX10, TX10, 33, tyX10, rfl, by decide, in_X10, tyX10_ok, nmX10, mm_in (List.mem_of_getElem? (i := 1041) (by decide +kernel)) rfl, rfl, rfl, by decide +kernel⟩
theorem fl_X10_73 : mm_FL RX10 73 10 3 .int false := ⟨RX10, TX10, 33, tyX10, rfl, by decide, in_X10, tyX10_ok, nmX10, mm_in (List.mem_of_getElem? (i := 1042) (by decide +kernel)) rfl, rfl, rfl, by decide +kernel⟩
theorem fl_X10_76 : mm_FL RX10 76 10 4 .int false := ⟨RX10, TX10, 33, tyX10, rfl, by decide, in_X10, tyX10_ok, nmX10, mm_in (List.mem_of_getElem? (i := 1043) (by decide +kernel)) rfl, rfl, rfl, by decide +kernel⟩
theorem fl_X10_93 : mm_FL RX10 93 10 7 .int false := ⟨RX10, TX10, 33, tyX10, rfl, by decide, in_X10, tyX10_ok, nmX10, mm_in (List.mem_of_getElem? (i := 1046) (by decide +kernel)) rfl, rfl, rfl, by decide +kernel⟩
theorem fl_X10_117 : mm_FL RX10 117 10 12 .int false := ⟨RX10, TX10, 33, tyX10, rfl, by decide, in_X10, tyX10_ok, nmX10, mm_in (List.mem_of_getElem? (i := 1051) (by decide +kernel)) rfl, rfl, rfl, by decide +kernel⟩
theorem fl_X10_150 : mm_FL RX10 150 10 16 .int false := ⟨RX10, TX10, 33, tyX10, rfl, by decide, in_X10, tyX10_ok, nmX10, mm_in (List.mem_of_getElem? (i := 1055) (by decide +kernel)) rfl, rfl, rfl, by decide +kernel⟩
theorem fl_X10_153 : mm_FL RX10 153 10 22 .int false := ⟨RX10, TX10, 33, tyX10, rfl, by decide, in_X10, tyX10_ok, nmX10, mm_in (List.mem_of_getElem? (i := 1061) (by decide +kernel)) rfl, rfl, rfl, by decide +kernel⟩
theorem fl_X10_156 : mm_FL RX10 156 10 32 .boolean false := ⟨RX10, TX10, 33, tyX10, rfl, by decide, in_X10, tyX10_ok, nmX10, mm_in (List.mem_of_getElem? (i := 1071) (by decide +kernel)) rfl, rfl, rfl, by decide +kernel⟩
theorem fl_X10_163 : mm_FL RX10 163 10 10 .int false := ⟨RX10, TX10, 33, tyX10, rfl, by decide, in_X10, tyX10_ok, nmX10, mm_in (List.mem_of_getElem? (i := 1049) (by decide +kernel)) rfl, rfl, rfl, by decide +kernel⟩
theorem fl_X10_170 : mm_FL RX10 170 10 19 .int false := ⟨RX10, TX10, 33, tyX10, rfl, by decide, in_X10, tyX10_ok, nmX10, mm_in (List.mem_of_getElem? (i := 1058) (by decide +kernel)) rfl, rfl, rfl, by decide +kernel⟩
theorem fl_X10_173 : mm_FL RX10 173 10 20 .int false := ⟨RX10, TX10, 33, tyX10, rfl, by decide, in_X10, tyX10_ok, nmX10, mm_in (List.mem_of_getElem? (i := 1059) (by decide +kernel)) rfl, rfl, rfl, by decide +kernel⟩
theorem fl_X10_306 : mm_FL RX10 306 10 23 .long false := ⟨RX10, TX10, 33, tyX10, rfl, by decide, in_X10, tyX10_ok, nmX10, mm_in (List.mem_of_getElem? (i := 1062) (by decide +kernel)) rfl, rfl, rfl, by decide +kernel⟩
theorem fl_X10_349 : mm_FL RX10 349 10 25 .int false := ⟨RX10, TX10, 33, tyX10, rfl, by decide, in_X10, tyX10_ok, nmX10, mm_in (List.mem_of_getElem? (i := 1064) (by decide +kernel)) rfl, rfl, rfl, by decide +kernel⟩
theorem fl_X10_352 : mm_FL RX10 352 10 26 .int false := ⟨RX10, TX10, 33, tyX10, rfl, by decide, in_X10, tyX10_ok, nmX10, mm_in (List.mem_of_getElem? (i := 1065) (by decide +kernel)) rfl, rfl, rfl, by decide +kernel⟩
theorem fl_X10_355 : mm_FL RX10 355 10 27 .int false := ⟨RX10, TX10, 33, tyX10, rfl, by decide, in_X10, tyX10_ok, nmX10, mm_in (List.mem_of_getElem? (i := 1066) (by decide +kernel)) rfl, rfl, rfl, by decide +kernel⟩
theorem fl_X10_364 : mm_FL RX10 364 10 29 .int false := ⟨RX10, TX10, 33, tyX10, rfl, by decide, in_X10, tyX10_ok, nmX10, mm_in (List.mem_of_getElem? (i := 1068) (by decide +kernel)) rfl, rfl, rfl, by decide +kernel⟩
theorem cn_X9_210 : Cond.constant RX9 210 (-1000000) ∈ mm_ws := mm_in (List.mem_of_getElem? (i := 699) (by decide +kernel)) rfl
theorem cn_X9_266 : Cond.constantLong RX9 266 6364136223846793005 ∈ mm_ws := mm_in (List.mem_of_getElem? (i := 860) (by decide +kernel)) rfl
theorem cn_X9_268 : Cond.constantLong RX9 268 1442695040888963407 ∈ mm_ws := mm_in (List.mem_of_getElem? (i := 861) (by decide +kernel)) rfl
theorem cn_X1_41 : Cond.constant RX1 41 (-1000000) ∈ mm_ws := mm_in (List.mem_of_getElem? (i := 890) (by decide +kernel)) rfl
theorem cn_X8_64 : Cond.constant RX8 64 (-1000000) ∈ mm_ws := mm_in (List.mem_of_getElem? (i := 487) (by decide +kernel)) rfl
theorem cn_X10_109 : Cond.constant RX10 109 (-1000000) ∈ mm_ws := mm_in (List.mem_of_getElem? (i := 1203) (by decide +kernel)) rfl
theorem cn_X10_310 : Cond.constantLong RX10 310 6364136223846793005 ∈ mm_ws := mm_in (List.mem_of_getElem? (i := 1447) (by decide +kernel)) rfl
theorem cn_X10_312 : Cond.constantLong RX10 312 1442695040888963407 ∈ mm_ws := mm_in (List.mem_of_getElem? (i := 1448) (by decide +kernel)) rfl
theorem cn_J_265 : Cond.constant "java/lang/Integer" 265 1431655765 ∈ mm_ws := mm_in (List.mem_of_getElem? (i := 936) (by decide +kernel)) rfl
theorem cn_J_266 : Cond.constant "java/lang/Integer" 266 858993459 ∈ mm_ws := mm_in (List.mem_of_getElem? (i := 937) (by decide +kernel)) rfl
theorem cn_J_267 : Cond.constant "java/lang/Integer" 267 252645135 ∈ mm_ws := mm_in (List.mem_of_getElem? (i := 938) (by decide +kernel)) rfl
theorem ml_X9_80 : Cond.methodLink RX9 80 yX8_append ∈ mm_ws := mm_in (List.mem_of_getElem? (i := 429) (by decide +kernel)) rfl
theorem ml_X9_84 : Cond.methodLink RX9 84 yX8_storeFault ∈ mm_ws := mm_in (List.mem_of_getElem? (i := 441) (by decide +kernel)) rfl
theorem ml_X9_91 : Cond.methodLink RX9 91 yX8_scriptFault ∈ mm_ws := mm_in (List.mem_of_getElem? (i := 476) (by decide +kernel)) rfl
theorem ml_X9_95 : Cond.methodLink RX9 95 yX8_rowFault ∈ mm_ws := mm_in (List.mem_of_getElem? (i := 500) (by decide +kernel)) rfl
theorem ml_X9_99 : Cond.methodLink RX9 99 yX9_takeStore ∈ mm_ws := mm_in (List.mem_of_getElem? (i := 508) (by decide +kernel)) rfl
theorem ml_X9_103 : Cond.methodLink RX9 103 yX9_takeScript ∈ mm_ws := mm_in (List.mem_of_getElem? (i := 543) (by decide +kernel)) rfl
theorem ml_X9_106 : Cond.methodLink RX9 106 yX6_copyFrom ∈ mm_ws := mm_in (List.mem_of_getElem? (i := 512) (by decide +kernel)) rfl
theorem ml_X9_117 : Cond.methodLink RX9 117 yX9_forgetRankings ∈ mm_ws := mm_in (List.mem_of_getElem? (i := 539) (by decide +kernel)) rfl
theorem ml_X9_123 : Cond.methodLink RX9 123 yX5_copyFrom ∈ mm_ws := mm_in (List.mem_of_getElem? (i := 551) (by decide +kernel)) rfl
theorem ml_X9_126 : Cond.methodLink RX9 126 yX9_rankedHits ∈ mm_ws := mm_in (List.mem_of_getElem? (i := 552) (by decide +kernel)) rfl
theorem ml_X9_131 : Cond.methodLink RX9 131 yX6_allSigns ∈ mm_ws := mm_in (List.mem_of_getElem? (i := 589) (by decide +kernel)) rfl
theorem ml_X9_134 : Cond.methodLink RX9 134 yX6_hasLine ∈ mm_ws := mm_in (List.mem_of_getElem? (i := 597) (by decide +kernel)) rfl
theorem ml_X9_152 : Cond.methodLink RX9 152 yX5_at ∈ mm_ws := mm_in (List.mem_of_getElem? (i := 601) (by decide +kernel)) rfl
theorem ml_X9_156 : Cond.methodLink RX9 156 yX3_has ∈ mm_ws := mm_in (List.mem_of_getElem? (i := 609) (by decide +kernel)) rfl
theorem ml_X9_159 : Cond.methodLink RX9 159 yX3_lineOf ∈ mm_ws := mm_in (List.mem_of_getElem? (i := 613) (by decide +kernel)) rfl
theorem ml_X9_162 : Cond.methodLink RX9 162 yX3_placeOf ∈ mm_ws := mm_in (List.mem_of_getElem? (i := 614) (by decide +kernel)) rfl
theorem ml_X9_165 : Cond.methodLink RX9 165 yX3_signsFrom ∈ mm_ws := mm_in (List.mem_of_getElem? (i := 615) (by decide +kernel)) rfl
theorem ml_X9_168 : Cond.methodLink RX9 168 yX3_find ∈ mm_ws := mm_in (List.mem_of_getElem? (i := 623) (by decide +kernel)) rfl
theorem ml_X9_172 : Cond.methodLink RX9 172 yX9_rankedPlaces ∈ mm_ws := mm_in (List.mem_of_getElem? (i := 631) (by decide +kernel)) rfl
theorem ml_X9_175 : Cond.methodLink RX9 175 yX3_shared ∈ mm_ws := mm_in (List.mem_of_getElem? (i := 635) (by decide +kernel)) rfl
theorem ml_X9_178 : Cond.methodLink RX9 178 yX3_mostShared ∈ mm_ws := mm_in (List.mem_of_getElem? (i := 649) (by decide +kernel)) rfl
theorem ml_X9_181 : Cond.methodLink RX9 181 yX3_opensWord ∈ mm_ws := mm_in (List.mem_of_getElem? (i := 658) (by decide +kernel)) rfl
theorem ml_X9_185 : Cond.methodLink RX9 185 yX3_mostFrequent ∈ mm_ws := mm_in (List.mem_of_getElem? (i := 667) (by decide +kernel)) rfl
theorem ml_X9_188 : Cond.methodLink RX9 188 yX3_wordHits ∈ mm_ws := mm_in (List.mem_of_getElem? (i := 676) (by decide +kernel)) rfl
theorem ml_X9_191 : Cond.methodLink RX9 191 Lib.Math.max.name ∈ mm_ws := mm_in (List.mem_of_getElem? (i := 681) (by decide +kernel)) rfl
theorem ml_X9_196 : Cond.methodLink RX9 196 yX9_signIndex ∈ mm_ws := mm_in (List.mem_of_getElem? (i := 688) (by decide +kernel)) rfl
theorem ml_X9_199 : Cond.methodLink RX9 199 yX9_askWithTape ∈ mm_ws := mm_in (List.mem_of_getElem? (i := 695) (by decide +kernel)) rfl
theorem ml_X9_203 : Cond.methodLink RX9 203 yX9_attempt ∈ mm_ws := mm_in (List.mem_of_getElem? (i := 701) (by decide +kernel)) rfl
theorem ml_X9_207 : Cond.methodLink RX9 207 yX9_spendTape ∈ mm_ws := mm_in (List.mem_of_getElem? (i := 802) (by decide +kernel)) rfl
theorem ml_X9_211 : Cond.methodLink RX9 211 yX7_tell ∈ mm_ws := mm_in (List.mem_of_getElem? (i := 700) (by decide +kernel)) rfl
theorem ml_X9_216 : Cond.methodLink RX9 216 yX6_hasCursor ∈ mm_ws := mm_in (List.mem_of_getElem? (i := 834) (by decide +kernel)) rfl
theorem ml_X9_233 : Cond.methodLink RX9 233 yX6_left ∈ mm_ws := mm_in (List.mem_of_getElem? (i := 835) (by decide +kernel)) rfl
theorem ml_X9_250 : Cond.methodLink RX9 250 yX9_drawAct ∈ mm_ws := mm_in (List.mem_of_getElem? (i := 852) (by decide +kernel)) rfl
theorem ml_X9_253 : Cond.methodLink RX9 253 yX9_draw ∈ mm_ws := mm_in (List.mem_of_getElem? (i := 856) (by decide +kernel)) rfl
theorem ml_X9_256 : Cond.methodLink RX9 256 yX9_drawSigns ∈ mm_ws := mm_in (List.mem_of_getElem? (i := 862) (by decide +kernel)) rfl
theorem ml_X9_262 : Cond.methodLink RX9 262 yX5_add ∈ mm_ws := mm_in (List.mem_of_getElem? (i := 868) (by decide +kernel)) rfl
theorem ml_X9_277 : Cond.methodLink RX9 277 yX1_entry ∈ mm_ws := mm_in (List.mem_of_getElem? (i := 881) (by decide +kernel)) rfl
theorem ml_X9_282 : Cond.methodLink RX9 282 Lib.Math.min.name ∈ mm_ws := mm_in (List.mem_of_getElem? (i := 731) (by decide +kernel)) rfl
theorem ml_X9_285 : Cond.methodLink RX9 285 yX6_hits ∈ mm_ws := mm_in (List.mem_of_getElem? (i := 899) (by decide +kernel)) rfl
theorem ml_X9_289 : Cond.methodLink RX9 289 yX5_hits ∈ mm_ws := mm_in (List.mem_of_getElem? (i := 900) (by decide +kernel)) rfl
theorem ml_X9_290 : Cond.methodLink RX9 290 yX9_hasScript ∈ mm_ws := mm_in (List.mem_of_getElem? (i := 905) (by decide +kernel)) rfl
theorem ml_X9_307 : Cond.methodLink RX9 307 yX6_refusal ∈ mm_ws := mm_in (List.mem_of_getElem? (i := 705) (by decide +kernel)) rfl
theorem ml_X9_311 : Cond.methodLink RX9 311 yX6_carryOut ∈ mm_ws := mm_in (List.mem_of_getElem? (i := 738) (by decide +kernel)) rfl
theorem ml_X9_314 : Cond.methodLink RX9 314 yX6_longestLine ∈ mm_ws := mm_in (List.mem_of_getElem? (i := 921) (by decide +kernel)) rfl
theorem ml_X9_317 : Cond.methodLink RX9 317 yX6_shortestLine ∈ mm_ws := mm_in (List.mem_of_getElem? (i := 925) (by decide +kernel)) rfl
theorem ml_X9_320 : Cond.methodLink RX9 320 yX9_unlikeSigns ∈ mm_ws := mm_in (List.mem_of_getElem? (i := 929) (by decide +kernel)) rfl
theorem ml_X9_323 : Cond.methodLink RX9 323 yX6_risingLines ∈ mm_ws := mm_in (List.mem_of_getElem? (i := 939) (by decide +kernel)) rfl
theorem ml_X9_326 : Cond.methodLink RX9 326 yX6_laidBits ∈ mm_ws := mm_in (List.mem_of_getElem? (i := 943) (by decide +kernel)) rfl
theorem ml_X9_329 : Cond.methodLink RX9 329 yX6_withinBits ∈ mm_ws := mm_in (List.mem_of_getElem? (i := 947) (by decide +kernel)) rfl
theorem ml_X9_332 : Cond.methodLink RX9 332 yJ_bitCount ∈ mm_ws := mm_in (List.mem_of_getElem? (i := 933) (by decide +kernel)) rfl
theorem ml_X9_337 : Cond.methodLink RX9 337 yX1_size ∈ mm_ws := mm_in (List.mem_of_getElem? (i := 963) (by decide +kernel)) rfl
theorem ml_X9_342 : Cond.methodLink RX9 342 yX6_subject ∈ mm_ws := mm_in (List.mem_of_getElem? (i := 734) (by decide +kernel)) rfl
theorem ml_X9_345 : Cond.methodLink RX9 345 yX1_add ∈ mm_ws := mm_in (List.mem_of_getElem? (i := 798) (by decide +kernel)) rfl
theorem ml_X9_350 : Cond.methodLink RX9 350 yX3_fill ∈ mm_ws := mm_in (List.mem_of_getElem? (i := 556) (by decide +kernel)) rfl
theorem ml_X0_32 : Cond.methodLink RX0 32 yX5_copyFrom ∈ mm_ws := mm_in (List.mem_of_getElem? (i := 531) (by decide +kernel)) rfl
theorem ml_X0_44 : Cond.methodLink RX0 44 yX2_copyFrom ∈ mm_ws := mm_in (List.mem_of_getElem? (i := 532) (by decide +kernel)) rfl
theorem ml_X0_56 : Cond.methodLink RX0 56 arraycopyName ∈ mm_ws := mm_in (List.mem_of_getElem? (i := 533) (by decide +kernel)) rfl
theorem ml_X0_68 : Cond.methodLink RX0 68 yX5_has ∈ mm_ws := mm_in (List.mem_of_getElem? (i := 772) (by decide +kernel)) rfl
theorem ml_X0_73 : Cond.methodLink RX0 73 yX2_compare ∈ mm_ws := mm_in (List.mem_of_getElem? (i := 773) (by decide +kernel)) rfl
theorem ml_X1_21 : Cond.methodLink RX1 21 arraycopyName ∈ mm_ws := mm_in (List.mem_of_getElem? (i := 538) (by decide +kernel)) rfl
theorem ml_X1_31 : Cond.methodLink RX1 31 Lib.Math.min.name ∈ mm_ws := mm_in (List.mem_of_getElem? (i := 889) (by decide +kernel)) rfl
theorem ml_X1_37 : Cond.methodLink RX1 37 yX1_size ∈ mm_ws := mm_in (List.mem_of_getElem? (i := 885) (by decide +kernel)) rfl
theorem ml_X2_16 : Cond.methodLink RX2 16 yX5_copyFrom ∈ mm_ws := mm_in (List.mem_of_getElem? (i := 520) (by decide +kernel)) rfl
theorem ml_X2_24 : Cond.methodLink RX2 24 yX5_compare ∈ mm_ws := mm_in (List.mem_of_getElem? (i := 580) (by decide +kernel)) rfl
theorem ml_X3_40 : Cond.methodLink RX3 40 yX5_has ∈ mm_ws := mm_in (List.mem_of_getElem? (i := 560) (by decide +kernel)) rfl
theorem ml_X3_44 : Cond.methodLink RX3 44 yX3_insert ∈ mm_ws := mm_in (List.mem_of_getElem? (i := 564) (by decide +kernel)) rfl
theorem ml_X3_49 : Cond.methodLink RX3 49 yX3_lineOf ∈ mm_ws := mm_in (List.mem_of_getElem? (i := 568) (by decide +kernel)) rfl
theorem ml_X3_53 : Cond.methodLink RX3 53 yX3_placeOf ∈ mm_ws := mm_in (List.mem_of_getElem? (i := 572) (by decide +kernel)) rfl
theorem ml_X3_56 : Cond.methodLink RX3 56 yX2_compare ∈ mm_ws := mm_in (List.mem_of_getElem? (i := 576) (by decide +kernel)) rfl
theorem ml_X3_60 : Cond.methodLink RX3 60 arraycopyName ∈ mm_ws := mm_in (List.mem_of_getElem? (i := 584) (by decide +kernel)) rfl
theorem ml_X3_66 : Cond.methodLink RX3 66 yX3_has ∈ mm_ws := mm_in (List.mem_of_getElem? (i := 639) (by decide +kernel)) rfl
theorem ml_X3_69 : Cond.methodLink RX3 69 yX5_shared ∈ mm_ws := mm_in (List.mem_of_getElem? (i := 640) (by decide +kernel)) rfl
theorem ml_X3_73 : Cond.methodLink RX3 73 yX3_shared ∈ mm_ws := mm_in (List.mem_of_getElem? (i := 653) (by decide +kernel)) rfl
theorem ml_X3_75 : Cond.methodLink RX3 75 yX3_signsFrom ∈ mm_ws := mm_in (List.mem_of_getElem? (i := 662) (by decide +kernel)) rfl
theorem ml_X3_78 : Cond.methodLink RX3 78 yX3_opensWord ∈ mm_ws := mm_in (List.mem_of_getElem? (i := 671) (by decide +kernel)) rfl
theorem ml_X3_82 : Cond.methodLink RX3 82 yX3_wordHits ∈ mm_ws := mm_in (List.mem_of_getElem? (i := 672) (by decide +kernel)) rfl
theorem ml_X5_19 : Cond.methodLink RX5 19 arraycopyName ∈ mm_ws := mm_in (List.mem_of_getElem? (i := 524) (by decide +kernel)) rfl
theorem ml_X5_25 : Cond.methodLink RX5 25 yX5_has ∈ mm_ws := mm_in (List.mem_of_getElem? (i := 714) (by decide +kernel)) rfl
theorem ml_X5_29 : Cond.methodLink RX5 29 yX5_at ∈ mm_ws := mm_in (List.mem_of_getElem? (i := 644) (by decide +kernel)) rfl
theorem ml_X6_40 : Cond.methodLink RX6 40 yX2_copyFrom ∈ mm_ws := mm_in (List.mem_of_getElem? (i := 516) (by decide +kernel)) rfl
theorem ml_X6_47 : Cond.methodLink RX6 47 yX0_copyFrom ∈ mm_ws := mm_in (List.mem_of_getElem? (i := 527) (by decide +kernel)) rfl
theorem ml_X6_50 : Cond.methodLink RX6 50 yX1_copyFrom ∈ mm_ws := mm_in (List.mem_of_getElem? (i := 534) (by decide +kernel)) rfl
theorem ml_X6_56 : Cond.methodLink RX6 56 yX0_unmark ∈ mm_ws := mm_in (List.mem_of_getElem? (i := 449) (by decide +kernel)) rfl
theorem ml_X6_69 : Cond.methodLink RX6 69 yX5_hits ∈ mm_ws := mm_in (List.mem_of_getElem? (i := 760) (by decide +kernel)) rfl
theorem ml_X6_73 : Cond.methodLink RX6 73 yX0_isAhead ∈ mm_ws := mm_in (List.mem_of_getElem? (i := 768) (by decide +kernel)) rfl
theorem ml_X6_85 : Cond.methodLink RX6 85 yX6_hasLine ∈ mm_ws := mm_in (List.mem_of_getElem? (i := 709) (by decide +kernel)) rfl
theorem ml_X6_90 : Cond.methodLink RX6 90 yX5_isLike ∈ mm_ws := mm_in (List.mem_of_getElem? (i := 710) (by decide +kernel)) rfl
theorem ml_X6_97 : Cond.methodLink RX6 97 yX6_splitRefusal ∈ mm_ws := mm_in (List.mem_of_getElem? (i := 715) (by decide +kernel)) rfl
theorem ml_X6_101 : Cond.methodLink RX6 101 yX6_joinRefusal ∈ mm_ws := mm_in (List.mem_of_getElem? (i := 719) (by decide +kernel)) rfl
theorem ml_X6_105 : Cond.methodLink RX6 105 yX6_cursorRefusal ∈ mm_ws := mm_in (List.mem_of_getElem? (i := 723) (by decide +kernel)) rfl
theorem ml_X6_109 : Cond.methodLink RX6 109 yX6_hasCursor ∈ mm_ws := mm_in (List.mem_of_getElem? (i := 727) (by decide +kernel)) rfl
theorem ml_X6_119 : Cond.methodLink RX6 119 yX5_copyFrom ∈ mm_ws := mm_in (List.mem_of_getElem? (i := 742) (by decide +kernel)) rfl
theorem ml_X6_122 : Cond.methodLink RX6 122 yX6_open ∈ mm_ws := mm_in (List.mem_of_getElem? (i := 743) (by decide +kernel)) rfl
theorem ml_X6_126 : Cond.methodLink RX6 126 yX6_close ∈ mm_ws := mm_in (List.mem_of_getElem? (i := 744) (by decide +kernel)) rfl
theorem ml_X6_130 : Cond.methodLink RX6 130 yX6_change ∈ mm_ws := mm_in (List.mem_of_getElem? (i := 748) (by decide +kernel)) rfl
theorem ml_X6_133 : Cond.methodLink RX6 133 yX6_start ∈ mm_ws := mm_in (List.mem_of_getElem? (i := 752) (by decide +kernel)) rfl
theorem ml_X6_137 : Cond.methodLink RX6 137 yX6_turn ∈ mm_ws := mm_in (List.mem_of_getElem? (i := 764) (by decide +kernel)) rfl
theorem ml_X6_141 : Cond.methodLink RX6 141 yX6_left ∈ mm_ws := mm_in (List.mem_of_getElem? (i := 784) (by decide +kernel)) rfl
theorem ml_X6_144 : Cond.methodLink RX6 144 yX6_cut ∈ mm_ws := mm_in (List.mem_of_getElem? (i := 788) (by decide +kernel)) rfl
theorem ml_X6_147 : Cond.methodLink RX6 147 yX6_unite ∈ mm_ws := mm_in (List.mem_of_getElem? (i := 794) (by decide +kernel)) rfl
theorem ml_X6_153 : Cond.methodLink RX6 153 yX6_hits ∈ mm_ws := mm_in (List.mem_of_getElem? (i := 756) (by decide +kernel)) rfl
theorem ml_X6_154 : Cond.methodLink RX6 154 yX6_offer ∈ mm_ws := mm_in (List.mem_of_getElem? (i := 774) (by decide +kernel)) rfl
theorem ml_X6_161 : Cond.methodLink RX6 161 yX0_tell ∈ mm_ws := mm_in (List.mem_of_getElem? (i := 780) (by decide +kernel)) rfl
theorem ml_X6_165 : Cond.methodLink RX6 165 yX2_compare ∈ mm_ws := mm_in (List.mem_of_getElem? (i := 778) (by decide +kernel)) rfl
theorem ml_X6_169 : Cond.methodLink RX6 169 Lib.Math.min.name ∈ mm_ws := mm_in (List.mem_of_getElem? (i := 779) (by decide +kernel)) rfl
theorem ml_X6_174 : Cond.methodLink RX6 174 yX5_at ∈ mm_ws := mm_in (List.mem_of_getElem? (i := 792) (by decide +kernel)) rfl
theorem ml_X6_177 : Cond.methodLink RX6 177 yX5_add ∈ mm_ws := mm_in (List.mem_of_getElem? (i := 793) (by decide +kernel)) rfl
theorem ml_X8_22 : Cond.methodLink RX8 22 yX8_readSigns ∈ mm_ws := mm_in (List.mem_of_getElem? (i := 457) (by decide +kernel)) rfl
theorem ml_X8_26 : Cond.methodLink RX8 26 yX8_peek ∈ mm_ws := mm_in (List.mem_of_getElem? (i := 461) (by decide +kernel)) rfl
theorem ml_X8_30 : Cond.methodLink RX8 30 yX6_empty ∈ mm_ws := mm_in (List.mem_of_getElem? (i := 445) (by decide +kernel)) rfl
theorem ml_X8_35 : Cond.methodLink RX8 35 yX6_open ∈ mm_ws := mm_in (List.mem_of_getElem? (i := 453) (by decide +kernel)) rfl
theorem ml_X8_45 : Cond.methodLink RX8 45 yX8_skip ∈ mm_ws := mm_in (List.mem_of_getElem? (i := 472) (by decide +kernel)) rfl
theorem ml_X8_55 : Cond.methodLink RX8 55 yX8_readStep ∈ mm_ws := mm_in (List.mem_of_getElem? (i := 480) (by decide +kernel)) rfl
theorem ml_X8_60 : Cond.methodLink RX8 60 yX8_sortOf ∈ mm_ws := mm_in (List.mem_of_getElem? (i := 484) (by decide +kernel)) rfl
theorem ml_X8_65 : Cond.methodLink RX8 65 yX7_tell ∈ mm_ws := mm_in (List.mem_of_getElem? (i := 488) (by decide +kernel)) rfl
theorem ml_X8_71 : Cond.methodLink RX8 71 yX8_peekDigit ∈ mm_ws := mm_in (List.mem_of_getElem? (i := 492) (by decide +kernel)) rfl
theorem ml_X8_75 : Cond.methodLink RX8 75 yX8_readDigit ∈ mm_ws := mm_in (List.mem_of_getElem? (i := 496) (by decide +kernel)) rfl
theorem ml_X8_88 : Cond.methodLink RX8 88 yX8_isSign ∈ mm_ws := mm_in (List.mem_of_getElem? (i := 465) (by decide +kernel)) rfl
theorem ml_X8_91 : Cond.methodLink RX8 91 yX5_add ∈ mm_ws := mm_in (List.mem_of_getElem? (i := 468) (by decide +kernel)) rfl
theorem ml_X10_62 : Cond.methodLink RX10 62 yX10_byteOf ∈ mm_ws := mm_in (List.mem_of_getElem? (i := 1147) (by decide +kernel)) rfl
theorem ml_X10_69 : Cond.methodLink RX10 69 yX10_in ∈ mm_ws := mm_in (List.mem_of_getElem? (i := 1154) (by decide +kernel)) rfl
theorem ml_X10_79 : Cond.methodLink RX10 79 yX10_ahead ∈ mm_ws := mm_in (List.mem_of_getElem? (i := 1173) (by decide +kernel)) rfl
theorem ml_X10_83 : Cond.methodLink RX10 83 yX10_signOf ∈ mm_ws := mm_in (List.mem_of_getElem? (i := 1177) (by decide +kernel)) rfl
theorem ml_X10_87 : Cond.methodLink RX10 87 yX10_bad ∈ mm_ws := mm_in (List.mem_of_getElem? (i := 1180) (by decide +kernel)) rfl
theorem ml_X10_90 : Cond.methodLink RX10 90 yX10_begins ∈ mm_ws := mm_in (List.mem_of_getElem? (i := 1165) (by decide +kernel)) rfl
theorem ml_X10_96 : Cond.methodLink RX10 96 yX10_readSigns ∈ mm_ws := mm_in (List.mem_of_getElem? (i := 1169) (by decide +kernel)) rfl
theorem ml_X10_100 : Cond.methodLink RX10 100 yX10_ends ∈ mm_ws := mm_in (List.mem_of_getElem? (i := 1184) (by decide +kernel)) rfl
theorem ml_X10_103 : Cond.methodLink RX10 103 yX10_sortOf ∈ mm_ws := mm_in (List.mem_of_getElem? (i := 1196) (by decide +kernel)) rfl
theorem ml_X10_106 : Cond.methodLink RX10 106 yX10_digit ∈ mm_ws := mm_in (List.mem_of_getElem? (i := 1199) (by decide +kernel)) rfl
theorem ml_X10_110 : Cond.methodLink RX10 110 yX10_must ∈ mm_ws := mm_in (List.mem_of_getElem? (i := 1204) (by decide +kernel)) rfl
theorem ml_X10_114 : Cond.methodLink RX10 114 yX10_readStep ∈ mm_ws := mm_in (List.mem_of_getElem? (i := 1192) (by decide +kernel)) rfl
theorem ml_X10_120 : Cond.methodLink RX10 120 yX10_readStore ∈ mm_ws := mm_in (List.mem_of_getElem? (i := 1161) (by decide +kernel)) rfl
theorem ml_X10_123 : Cond.methodLink RX10 123 yX10_readScript ∈ mm_ws := mm_in (List.mem_of_getElem? (i := 1188) (by decide +kernel)) rfl
theorem ml_X10_126 : Cond.methodLink RX10 126 yX10_readAlone ∈ mm_ws := mm_in (List.mem_of_getElem? (i := 1208) (by decide +kernel)) rfl
theorem ml_X10_129 : Cond.methodLink RX10 129 yX10_lineAt ∈ mm_ws := mm_in (List.mem_of_getElem? (i := 1220) (by decide +kernel)) rfl
theorem ml_X10_132 : Cond.methodLink RX10 132 yX10_isLine ∈ mm_ws := mm_in (List.mem_of_getElem? (i := 1298) (by decide +kernel)) rfl
theorem ml_X10_136 : Cond.methodLink RX10 136 yX10_longOf ∈ mm_ws := mm_in (List.mem_of_getElem? (i := 1239) (by decide +kernel)) rfl
theorem ml_X10_139 : Cond.methodLink RX10 139 yX10_isStore ∈ mm_ws := mm_in (List.mem_of_getElem? (i := 1231) (by decide +kernel)) rfl
theorem ml_X10_143 : Cond.methodLink RX10 143 yX10_cursorAt ∈ mm_ws := mm_in (List.mem_of_getElem? (i := 1318) (by decide +kernel)) rfl
theorem ml_X10_146 : Cond.methodLink RX10 146 yX10_laysSigns ∈ mm_ws := mm_in (List.mem_of_getElem? (i := 1223) (by decide +kernel)) rfl
theorem ml_X10_160 : Cond.methodLink RX10 160 yX10_takeStore ∈ mm_ws := mm_in (List.mem_of_getElem? (i := 1216) (by decide +kernel)) rfl
theorem ml_X10_166 : Cond.methodLink RX10 166 yX10_laysHits ∈ mm_ws := mm_in (List.mem_of_getElem? (i := 1235) (by decide +kernel)) rfl
theorem ml_X10_176 : Cond.methodLink RX10 176 yX10_signAt ∈ mm_ws := mm_in (List.mem_of_getElem? (i := 1247) (by decide +kernel)) rfl
theorem ml_X10_180 : Cond.methodLink RX10 180 yX10_following ∈ mm_ws := mm_in (List.mem_of_getElem? (i := 1259) (by decide +kernel)) rfl
theorem ml_X10_184 : Cond.methodLink RX10 184 yX10_order ∈ mm_ws := mm_in (List.mem_of_getElem? (i := 1263) (by decide +kernel)) rfl
theorem ml_X10_187 : Cond.methodLink RX10 187 yX10_before ∈ mm_ws := mm_in (List.mem_of_getElem? (i := 1266) (by decide +kernel)) rfl
theorem ml_X10_190 : Cond.methodLink RX10 190 yX10_numberOf ∈ mm_ws := mm_in (List.mem_of_getElem? (i := 1270) (by decide +kernel)) rfl
theorem ml_X10_193 : Cond.methodLink RX10 193 yX10_compares ∈ mm_ws := mm_in (List.mem_of_getElem? (i := 1255) (by decide +kernel)) rfl
theorem ml_X10_197 : Cond.methodLink RX10 197 yX10_stands ∈ mm_ws := mm_in (List.mem_of_getElem? (i := 1243) (by decide +kernel)) rfl
theorem ml_X10_201 : Cond.methodLink RX10 201 yX10_takesHit ∈ mm_ws := mm_in (List.mem_of_getElem? (i := 1251) (by decide +kernel)) rfl
theorem ml_X10_205 : Cond.methodLink RX10 205 yX10_comparesMark ∈ mm_ws := mm_in (List.mem_of_getElem? (i := 1369) (by decide +kernel)) rfl
theorem ml_X10_208 : Cond.methodLink RX10 208 yX10_firstLeft ∈ mm_ws := mm_in (List.mem_of_getElem? (i := 1365) (by decide +kernel)) rfl
theorem ml_X10_211 : Cond.methodLink RX10 211 Lib.Math.max.name ∈ mm_ws := mm_in (List.mem_of_getElem? (i := 1382) (by decide +kernel)) rfl
theorem ml_X10_216 : Cond.methodLink RX10 216 Lib.Math.min.name ∈ mm_ws := mm_in (List.mem_of_getElem? (i := 1377) (by decide +kernel)) rfl
theorem ml_X10_219 : Cond.methodLink RX10 219 yX10_marks ∈ mm_ws := mm_in (List.mem_of_getElem? (i := 1378) (by decide +kernel)) rfl
theorem ml_X10_223 : Cond.methodLink RX10 223 yX10_leftOf ∈ mm_ws := mm_in (List.mem_of_getElem? (i := 1361) (by decide +kernel)) rfl
theorem ml_X10_226 : Cond.methodLink RX10 226 yX10_isLike ∈ mm_ws := mm_in (List.mem_of_getElem? (i := 1302) (by decide +kernel)) rfl
theorem ml_X10_230 : Cond.methodLink RX10 230 yX10_whySet ∈ mm_ws := mm_in (List.mem_of_getElem? (i := 1294) (by decide +kernel)) rfl
theorem ml_X10_234 : Cond.methodLink RX10 234 yX10_whyPut ∈ mm_ws := mm_in (List.mem_of_getElem? (i := 1306) (by decide +kernel)) rfl
theorem ml_X10_237 : Cond.methodLink RX10 237 yX10_whyLay ∈ mm_ws := mm_in (List.mem_of_getElem? (i := 1310) (by decide +kernel)) rfl
theorem ml_X10_240 : Cond.methodLink RX10 240 yX10_isCursor ∈ mm_ws := mm_in (List.mem_of_getElem? (i := 1314) (by decide +kernel)) rfl
theorem ml_X10_243 : Cond.methodLink RX10 243 yX10_whySplit ∈ mm_ws := mm_in (List.mem_of_getElem? (i := 1321) (by decide +kernel)) rfl
theorem ml_X10_246 : Cond.methodLink RX10 246 yX10_whyJoin ∈ mm_ws := mm_in (List.mem_of_getElem? (i := 1325) (by decide +kernel)) rfl
theorem ml_X10_249 : Cond.methodLink RX10 249 yX10_copiesLine ∈ mm_ws := mm_in (List.mem_of_getElem? (i := 1345) (by decide +kernel)) rfl
theorem ml_X10_252 : Cond.methodLink RX10 252 yX10_takesNow ∈ mm_ws := mm_in (List.mem_of_getElem? (i := 1349) (by decide +kernel)) rfl
theorem ml_X10_255 : Cond.methodLink RX10 255 yX10_putsNow ∈ mm_ws := mm_in (List.mem_of_getElem? (i := 1341) (by decide +kernel)) rfl
theorem ml_X10_258 : Cond.methodLink RX10 258 yX10_swapsNow ∈ mm_ws := mm_in (List.mem_of_getElem? (i := 1353) (by decide +kernel)) rfl
theorem ml_X10_261 : Cond.methodLink RX10 261 yX10_laysNow ∈ mm_ws := mm_in (List.mem_of_getElem? (i := 1357) (by decide +kernel)) rfl
theorem ml_X10_265 : Cond.methodLink RX10 265 yX10_pagesNow ∈ mm_ws := mm_in (List.mem_of_getElem? (i := 1373) (by decide +kernel)) rfl
theorem ml_X10_268 : Cond.methodLink RX10 268 yX10_splitsNow ∈ mm_ws := mm_in (List.mem_of_getElem? (i := 1383) (by decide +kernel)) rfl
theorem ml_X10_271 : Cond.methodLink RX10 271 yX10_joinsNow ∈ mm_ws := mm_in (List.mem_of_getElem? (i := 1387) (by decide +kernel)) rfl
theorem ml_X10_274 : Cond.methodLink RX10 274 yX10_rewindsNow ∈ mm_ws := mm_in (List.mem_of_getElem? (i := 1391) (by decide +kernel)) rfl
theorem ml_X10_277 : Cond.methodLink RX10 277 yX10_allSigns ∈ mm_ws := mm_in (List.mem_of_getElem? (i := 1399) (by decide +kernel)) rfl
theorem ml_X10_280 : Cond.methodLink RX10 280 yX10_keep ∈ mm_ws := mm_in (List.mem_of_getElem? (i := 1333) (by decide +kernel)) rfl
theorem ml_X10_283 : Cond.methodLink RX10 283 yX10_doNow ∈ mm_ws := mm_in (List.mem_of_getElem? (i := 1337) (by decide +kernel)) rfl
theorem ml_X10_287 : Cond.methodLink RX10 287 yX10_note ∈ mm_ws := mm_in (List.mem_of_getElem? (i := 1395) (by decide +kernel)) rfl
theorem ml_X10_290 : Cond.methodLink RX10 290 yX10_whyNot ∈ mm_ws := mm_in (List.mem_of_getElem? (i := 1290) (by decide +kernel)) rfl
theorem ml_X10_293 : Cond.methodLink RX10 293 yX10_act ∈ mm_ws := mm_in (List.mem_of_getElem? (i := 1329) (by decide +kernel)) rfl
theorem ml_X10_296 : Cond.methodLink RX10 296 yX10_lineInHand ∈ mm_ws := mm_in (List.mem_of_getElem? (i := 1282) (by decide +kernel)) rfl
theorem ml_X10_299 : Cond.methodLink RX10 299 yX10_hand ∈ mm_ws := mm_in (List.mem_of_getElem? (i := 1286) (by decide +kernel)) rfl
theorem ml_X10_303 : Cond.methodLink RX10 303 yX10_handTape ∈ mm_ws := mm_in (List.mem_of_getElem? (i := 1278) (by decide +kernel)) rfl
theorem ml_X10_314 : Cond.methodLink RX10 314 yX10_draw ∈ mm_ws := mm_in (List.mem_of_getElem? (i := 1443) (by decide +kernel)) rfl
theorem ml_X10_317 : Cond.methodLink RX10 317 yX10_drawsSigns ∈ mm_ws := mm_in (List.mem_of_getElem? (i := 1449) (by decide +kernel)) rfl
theorem ml_X10_320 : Cond.methodLink RX10 320 yX10_tryOne ∈ mm_ws := mm_in (List.mem_of_getElem? (i := 1453) (by decide +kernel)) rfl
theorem ml_X10_324 : Cond.methodLink RX10 324 yX10_drawWay ∈ mm_ws := mm_in (List.mem_of_getElem? (i := 1439) (by decide +kernel)) rfl
theorem ml_X10_327 : Cond.methodLink RX10 327 yX10_laysWord ∈ mm_ws := mm_in (List.mem_of_getElem? (i := 1473) (by decide +kernel)) rfl
theorem ml_X10_330 : Cond.methodLink RX10 330 yX10_isPlace ∈ mm_ws := mm_in (List.mem_of_getElem? (i := 1485) (by decide +kernel)) rfl
theorem ml_X10_334 : Cond.methodLink RX10 334 yX10_byteBy ∈ mm_ws := mm_in (List.mem_of_getElem? (i := 1489) (by decide +kernel)) rfl
theorem ml_X10_337 : Cond.methodLink RX10 337 yX10_laysAll ∈ mm_ws := mm_in (List.mem_of_getElem? (i := 1504) (by decide +kernel)) rfl
theorem ml_X10_340 : Cond.methodLink RX10 340 yX10_sharedAt ∈ mm_ws := mm_in (List.mem_of_getElem? (i := 1508) (by decide +kernel)) rfl
theorem ml_X10_343 : Cond.methodLink RX10 343 yX10_mostShared ∈ mm_ws := mm_in (List.mem_of_getElem? (i := 1516) (by decide +kernel)) rfl
theorem ml_X10_346 : Cond.methodLink RX10 346 yX10_restOf ∈ mm_ws := mm_in (List.mem_of_getElem? (i := 1524) (by decide +kernel)) rfl
theorem ml_X10_358 : Cond.methodLink RX10 358 yX10_laysOften ∈ mm_ws := mm_in (List.mem_of_getElem? (i := 1532) (by decide +kernel)) rfl
theorem ml_X10_361 : Cond.methodLink RX10 361 yX10_countOf ∈ mm_ws := mm_in (List.mem_of_getElem? (i := 1540) (by decide +kernel)) rfl
theorem ml_X10_367 : Cond.methodLink RX10 367 yX10_spells ∈ mm_ws := mm_in (List.mem_of_getElem? (i := 1560) (by decide +kernel)) rfl
theorem ml_X10_370 : Cond.methodLink RX10 370 yX10_putAside ∈ mm_ws := mm_in (List.mem_of_getElem? (i := 1568) (by decide +kernel)) rfl
theorem ml_X10_373 : Cond.methodLink RX10 373 yX10_bringBack ∈ mm_ws := mm_in (List.mem_of_getElem? (i := 1572) (by decide +kernel)) rfl
theorem ml_X10_376 : Cond.methodLink RX10 376 yX10_isScript ∈ mm_ws := mm_in (List.mem_of_getElem? (i := 1580) (by decide +kernel)) rfl
theorem ml_X10_379 : Cond.methodLink RX10 379 yX10_goSteps ∈ mm_ws := mm_in (List.mem_of_getElem? (i := 1588) (by decide +kernel)) rfl
theorem ml_X10_383 : Cond.methodLink RX10 383 yX10_isWithin ∈ mm_ws := mm_in (List.mem_of_getElem? (i := 1621) (by decide +kernel)) rfl
theorem ml_X10_386 : Cond.methodLink RX10 386 yX10_farthest ∈ mm_ws := mm_in (List.mem_of_getElem? (i := 1600) (by decide +kernel)) rfl
theorem ml_X10_389 : Cond.methodLink RX10 389 yX10_unlikeSigns ∈ mm_ws := mm_in (List.mem_of_getElem? (i := 1604) (by decide +kernel)) rfl
theorem ml_X10_392 : Cond.methodLink RX10 392 yX10_twice ∈ mm_ws := mm_in (List.mem_of_getElem? (i := 1608) (by decide +kernel)) rfl
theorem ml_X10_395 : Cond.methodLink RX10 395 yX10_rising ∈ mm_ws := mm_in (List.mem_of_getElem? (i := 1609) (by decide +kernel)) rfl
theorem ml_X10_398 : Cond.methodLink RX10 398 yX10_cursors ∈ mm_ws := mm_in (List.mem_of_getElem? (i := 1613) (by decide +kernel)) rfl
theorem ml_X10_401 : Cond.methodLink RX10 401 yX10_withinOnes ∈ mm_ws := mm_in (List.mem_of_getElem? (i := 1617) (by decide +kernel)) rfl
theorem md_J_bitCount : mm_MD yJ_bitCount cJ_bitCount 1 (some .int) 1 := ⟨mm_in (List.mem_of_getElem? (i := 935) (by decide +kernel)) rfl, mm_in (List.mem_of_getElem? (i := 125) (by decide +kernel)) rfl, by decide +kernel, by decide +kernel, by decide +kernel⟩
theorem mv_J_bitCount : Cond.static yJ_bitCount ∈ mm_ws := mm_in (List.mem_of_getElem? (i := 934) (by decide +kernel)) rfl
theorem md_X0_copyFrom : mm_MD yX0_copyFrom cX0_copyFrom 2 none 1 := ⟨mm_in (List.mem_of_getElem? (i := 530) (by decide +kernel)) rfl, mm_in (List.mem_of_getElem? (i := 114) (by decide +kernel)) rfl, by decide +kernel, by decide +kernel, by decide +kernel⟩
theorem mv_X0_copyFrom : mm_MV yX0_copyFrom := ⟨mm_in (List.mem_of_getElem? (i := 528) (by decide +kernel)) rfl, mm_in (List.mem_of_getElem? (i := 529) (by decide +kernel)) rfl⟩
theorem md_X0_isAhead : mm_MD yX0_isAhead cX0_isAhead 3 (some .boolean) 2 := ⟨mm_in (List.mem_of_getElem? (i := 771) (by decide +kernel)) rfl, mm_in (List.mem_of_getElem? (i := 114) (by decide +kernel)) rfl, by decide +kernel, by decide +kernel, by decide +kernel⟩
theorem mv_X0_isAhead : mm_MV yX0_isAhead := ⟨mm_in (List.mem_of_getElem? (i := 769) (by decide +kernel)) rfl, mm_in (List.mem_of_getElem? (i := 770) (by decide +kernel)) rfl⟩
theorem md_X0_tell : mm_MD yX0_tell cX0_tell 3 none 2 := ⟨mm_in (List.mem_of_getElem? (i := 783) (by decide +kernel)) rfl, mm_in (List.mem_of_getElem? (i := 114) (by decide +kernel)) rfl, by decide +kernel, by decide +kernel, by decide +kernel⟩
theorem mv_X0_tell : mm_MV yX0_tell := ⟨mm_in (List.mem_of_getElem? (i := 781) (by decide +kernel)) rfl, mm_in (List.mem_of_getElem? (i := 782) (by decide +kernel)) rfl⟩
theorem md_X0_unmark : mm_MD yX0_unmark cX0_unmark 1 none 0 := ⟨mm_in (List.mem_of_getElem? (i := 452) (by decide +kernel)) rfl, mm_in (List.mem_of_getElem? (i := 114) (by decide +kernel)) rfl, by decide +kernel, by decide +kernel, by decide +kernel⟩
theorem mv_X0_unmark : mm_MV yX0_unmark := ⟨mm_in (List.mem_of_getElem? (i := 450) (by decide +kernel)) rfl, mm_in (List.mem_of_getElem? (i := 451) (by decide +kernel)) rfl⟩
theorem md_X1_add : mm_MD yX1_add cX1_add 5 none 3 := ⟨mm_in (List.mem_of_getElem? (i := 801) (by decide +kernel)) rfl, mm_in (List.mem_of_getElem? (i := 111) (by decide +kernel)) rfl, by decide +kernel, by decide +kernel, by decide +kernel⟩
theorem mv_X1_add : mm_MV yX1_add := ⟨mm_in (List.mem_of_getElem? (i := 799) (by decide +kernel)) rfl, mm_in (List.mem_of_getElem? (i := 800) (by decide +kernel)) rfl⟩
theorem md_X1_copyFrom : mm_MD yX1_copyFrom cX1_copyFrom 2 none 1 := ⟨mm_in (List.mem_of_getElem? (i := 537) (by decide +kernel)) rfl, mm_in (List.mem_of_getElem? (i := 111) (by decide +kernel)) rfl, by decide +kernel, by decide +kernel, by decide +kernel⟩
theorem mv_X1_copyFrom : mm_MV yX1_copyFrom := ⟨mm_in (List.mem_of_getElem? (i := 535) (by decide +kernel)) rfl, mm_in (List.mem_of_getElem? (i := 536) (by decide +kernel)) rfl⟩
theorem md_X1_entry : mm_MD yX1_entry cX1_entry 4 (some .int) 2 := ⟨mm_in (List.mem_of_getElem? (i := 884) (by decide +kernel)) rfl, mm_in (List.mem_of_getElem? (i := 111) (by decide +kernel)) rfl, by decide +kernel, by decide +kernel, by decide +kernel⟩
theorem mv_X1_entry : mm_MV yX1_entry := ⟨mm_in (List.mem_of_getElem? (i := 882) (by decide +kernel)) rfl, mm_in (List.mem_of_getElem? (i := 883) (by decide +kernel)) rfl⟩
theorem md_X1_size : mm_MD yX1_size cX1_size 1 (some .int) 0 := ⟨mm_in (List.mem_of_getElem? (i := 888) (by decide +kernel)) rfl, mm_in (List.mem_of_getElem? (i := 111) (by decide +kernel)) rfl, by decide +kernel, by decide +kernel, by decide +kernel⟩
theorem mv_X1_size : mm_MV yX1_size := ⟨mm_in (List.mem_of_getElem? (i := 886) (by decide +kernel)) rfl, mm_in (List.mem_of_getElem? (i := 887) (by decide +kernel)) rfl⟩
theorem md_X10_act : mm_MD yX10_act cX10_act 9 (some .int) 6 := ⟨mm_in (List.mem_of_getElem? (i := 1332) (by decide +kernel)) rfl, mm_in (List.mem_of_getElem? (i := 118) (by decide +kernel)) rfl, by decide +kernel, by decide +kernel, by decide +kernel⟩
theorem mv_X10_act : mm_MV yX10_act := ⟨mm_in (List.mem_of_getElem? (i := 1331) (by decide +kernel)) rfl, mm_in (List.mem_of_getElem? (i := 66) (by decide +kernel)) rfl⟩
theorem md_X10_ahead : mm_MD yX10_ahead cX10_ahead 1 (some .int) 0 := ⟨mm_in (List.mem_of_getElem? (i := 1176) (by decide +kernel)) rfl, mm_in (List.mem_of_getElem? (i := 118) (by decide +kernel)) rfl, by decide +kernel, by decide +kernel, by decide +kernel⟩
theorem mv_X10_ahead : mm_MV yX10_ahead := ⟨mm_in (List.mem_of_getElem? (i := 1175) (by decide +kernel)) rfl, mm_in (List.mem_of_getElem? (i := 34) (by decide +kernel)) rfl⟩
theorem md_X10_allSigns : mm_MD yX10_allSigns cX10_allSigns 3 (some .int) 0 := ⟨mm_in (List.mem_of_getElem? (i := 1402) (by decide +kernel)) rfl, mm_in (List.mem_of_getElem? (i := 118) (by decide +kernel)) rfl, by decide +kernel, by decide +kernel, by decide +kernel⟩
theorem mv_X10_allSigns : mm_MV yX10_allSigns := ⟨mm_in (List.mem_of_getElem? (i := 1401) (by decide +kernel)) rfl, mm_in (List.mem_of_getElem? (i := 83) (by decide +kernel)) rfl⟩
theorem md_X10_bad : mm_MD yX10_bad cX10_bad 1 none 0 := ⟨mm_in (List.mem_of_getElem? (i := 1183) (by decide +kernel)) rfl, mm_in (List.mem_of_getElem? (i := 118) (by decide +kernel)) rfl, by decide +kernel, by decide +kernel, by decide +kernel⟩
theorem mv_X10_bad : mm_MV yX10_bad := ⟨mm_in (List.mem_of_getElem? (i := 1182) (by decide +kernel)) rfl, mm_in (List.mem_of_getElem? (i := 35) (by decide +kernel)) rfl⟩
theorem md_X10_before : mm_MD yX10_before cX10_before 4 (some .int) 3 := ⟨mm_in (List.mem_of_getElem? (i := 1269) (by decide +kernel)) rfl, mm_in (List.mem_of_getElem? (i := 118) (by decide +kernel)) rfl, by decide +kernel, by decide +kernel, by decide +kernel⟩
theorem mv_X10_before : mm_MV yX10_before := ⟨mm_in (List.mem_of_getElem? (i := 1268) (by decide +kernel)) rfl, mm_in (List.mem_of_getElem? (i := 52) (by decide +kernel)) rfl⟩
theorem md_X10_begins : mm_MD yX10_begins cX10_begins 1 none 0 := ⟨mm_in (List.mem_of_getElem? (i := 1168) (by decide +kernel)) rfl, mm_in (List.mem_of_getElem? (i := 118) (by decide +kernel)) rfl, by decide +kernel, by decide +kernel, by decide +kernel⟩
theorem mv_X10_begins : mm_MV yX10_begins := ⟨mm_in (List.mem_of_getElem? (i := 1167) (by decide +kernel)) rfl, mm_in (List.mem_of_getElem? (i := 32) (by decide +kernel)) rfl⟩
theorem md_X10_bringBack : mm_MD yX10_bringBack cX10_bringBack 2 none 0 := ⟨mm_in (List.mem_of_getElem? (i := 1575) (by decide +kernel)) rfl, mm_in (List.mem_of_getElem? (i := 118) (by decide +kernel)) rfl, by decide +kernel, by decide +kernel, by decide +kernel⟩
theorem mv_X10_bringBack : mm_MV yX10_bringBack := ⟨mm_in (List.mem_of_getElem? (i := 1574) (by decide +kernel)) rfl, mm_in (List.mem_of_getElem? (i := 98) (by decide +kernel)) rfl⟩
theorem md_X10_byteBy : mm_MD yX10_byteBy cX10_byteBy 1 (some .int) 1 := ⟨mm_in (List.mem_of_getElem? (i := 1491) (by decide +kernel)) rfl, mm_in (List.mem_of_getElem? (i := 118) (by decide +kernel)) rfl, by decide +kernel, by decide +kernel, by decide +kernel⟩
theorem mv_X10_byteBy : Cond.static yX10_byteBy ∈ mm_ws := mm_in (List.mem_of_getElem? (i := 1490) (by decide +kernel)) rfl
theorem md_X10_byteOf : mm_MD yX10_byteOf cX10_byteOf 7 (some .int) 6 := ⟨mm_in (List.mem_of_getElem? (i := 1149) (by decide +kernel)) rfl, mm_in (List.mem_of_getElem? (i := 118) (by decide +kernel)) rfl, by decide +kernel, by decide +kernel, by decide +kernel⟩
theorem mv_X10_byteOf : Cond.static yX10_byteOf ∈ mm_ws := mm_in (List.mem_of_getElem? (i := 1148) (by decide +kernel)) rfl
theorem md_X10_compares : mm_MD yX10_compares cX10_compares 7 (some .int) 4 := ⟨mm_in (List.mem_of_getElem? (i := 1258) (by decide +kernel)) rfl, mm_in (List.mem_of_getElem? (i := 118) (by decide +kernel)) rfl, by decide +kernel, by decide +kernel, by decide +kernel⟩
theorem mv_X10_compares : mm_MV yX10_compares := ⟨mm_in (List.mem_of_getElem? (i := 1257) (by decide +kernel)) rfl, mm_in (List.mem_of_getElem? (i := 50) (by decide +kernel)) rfl⟩
theorem md_X10_comparesMark : mm_MD yX10_comparesMark cX10_comparesMark 7 (some .int) 3 := ⟨mm_in (List.mem_of_getElem? (i := 1372) (by decide +kernel)) rfl, mm_in (List.mem_of_getElem? (i := 118) (by decide +kernel)) rfl, by decide +kernel, by decide +kernel, by decide +kernel⟩
theorem mv_X10_comparesMark : mm_MV yX10_comparesMark := ⟨mm_in (List.mem_of_getElem? (i := 1371) (by decide +kernel)) rfl, mm_in (List.mem_of_getElem? (i := 76) (by decide +kernel)) rfl⟩
theorem md_X10_copiesLine : mm_MD yX10_copiesLine cX10_copiesLine 4 none 2 := ⟨mm_in (List.mem_of_getElem? (i := 1348) (by decide +kernel)) rfl, mm_in (List.mem_of_getElem? (i := 118) (by decide +kernel)) rfl, by decide +kernel, by decide +kernel, by decide +kernel⟩
theorem mv_X10_copiesLine : mm_MV yX10_copiesLine := ⟨mm_in (List.mem_of_getElem? (i := 1347) (by decide +kernel)) rfl, mm_in (List.mem_of_getElem? (i := 70) (by decide +kernel)) rfl⟩
theorem md_X10_countOf : mm_MD yX10_countOf cX10_countOf 7 (some .int) 3 := ⟨mm_in (List.mem_of_getElem? (i := 1543) (by decide +kernel)) rfl, mm_in (List.mem_of_getElem? (i := 118) (by decide +kernel)) rfl, by decide +kernel, by decide +kernel, by decide +kernel⟩
theorem mv_X10_countOf : mm_MV yX10_countOf := ⟨mm_in (List.mem_of_getElem? (i := 1542) (by decide +kernel)) rfl, mm_in (List.mem_of_getElem? (i := 95) (by decide +kernel)) rfl⟩
theorem md_X10_cursorAt : mm_MD yX10_cursorAt cX10_cursorAt 1 (some .int) 1 := ⟨mm_in (List.mem_of_getElem? (i := 1320) (by decide +kernel)) rfl, mm_in (List.mem_of_getElem? (i := 118) (by decide +kernel)) rfl, by decide +kernel, by decide +kernel, by decide +kernel⟩
theorem mv_X10_cursorAt : Cond.static yX10_cursorAt ∈ mm_ws := mm_in (List.mem_of_getElem? (i := 1319) (by decide +kernel)) rfl
theorem md_X10_cursors : mm_MD yX10_cursors cX10_cursors 3 (some .int) 0 := ⟨mm_in (List.mem_of_getElem? (i := 1616) (by decide +kernel)) rfl, mm_in (List.mem_of_getElem? (i := 118) (by decide +kernel)) rfl, by decide +kernel, by decide +kernel, by decide +kernel⟩
theorem mv_X10_cursors : mm_MV yX10_cursors := ⟨mm_in (List.mem_of_getElem? (i := 1615) (by decide +kernel)) rfl, mm_in (List.mem_of_getElem? (i := 104) (by decide +kernel)) rfl⟩
theorem md_X10_digit : mm_MD yX10_digit cX10_digit 2 (some .int) 0 := ⟨mm_in (List.mem_of_getElem? (i := 1202) (by decide +kernel)) rfl, mm_in (List.mem_of_getElem? (i := 118) (by decide +kernel)) rfl, by decide +kernel, by decide +kernel, by decide +kernel⟩
theorem mv_X10_digit : mm_MV yX10_digit := ⟨mm_in (List.mem_of_getElem? (i := 1201) (by decide +kernel)) rfl, mm_in (List.mem_of_getElem? (i := 39) (by decide +kernel)) rfl⟩
theorem md_X10_doNow : mm_MD yX10_doNow cX10_doNow 7 (some .int) 6 := ⟨mm_in (List.mem_of_getElem? (i := 1340) (by decide +kernel)) rfl, mm_in (List.mem_of_getElem? (i := 118) (by decide +kernel)) rfl, by decide +kernel, by decide +kernel, by decide +kernel⟩
theorem mv_X10_doNow : mm_MV yX10_doNow := ⟨mm_in (List.mem_of_getElem? (i := 1339) (by decide +kernel)) rfl, mm_in (List.mem_of_getElem? (i := 68) (by decide +kernel)) rfl⟩
theorem md_X10_draw : mm_MD yX10_draw cX10_draw 2 (some .int) 1 := ⟨mm_in (List.mem_of_getElem? (i := 1446) (by decide +kernel)) rfl, mm_in (List.mem_of_getElem? (i := 118) (by decide +kernel)) rfl, by decide +kernel, by decide +kernel, by decide +kernel⟩
theorem mv_X10_draw : mm_MV yX10_draw := ⟨mm_in (List.mem_of_getElem? (i := 1445) (by decide +kernel)) rfl, mm_in (List.mem_of_getElem? (i := 85) (by decide +kernel)) rfl⟩
theorem md_X10_drawWay : mm_MD yX10_drawWay cX10_drawWay 3 none 0 := ⟨mm_in (List.mem_of_getElem? (i := 1442) (by decide +kernel)) rfl, mm_in (List.mem_of_getElem? (i := 118) (by decide +kernel)) rfl, by decide +kernel, by decide +kernel, by decide +kernel⟩
theorem mv_X10_drawWay : mm_MV yX10_drawWay := ⟨mm_in (List.mem_of_getElem? (i := 1441) (by decide +kernel)) rfl, mm_in (List.mem_of_getElem? (i := 84) (by decide +kernel)) rfl⟩
theorem md_X10_drawsSigns : mm_MD yX10_drawsSigns cX10_drawsSigns 4 (some .int) 0 := ⟨mm_in (List.mem_of_getElem? (i := 1452) (by decide +kernel)) rfl, mm_in (List.mem_of_getElem? (i := 118) (by decide +kernel)) rfl, by decide +kernel, by decide +kernel, by decide +kernel⟩
theorem mv_X10_drawsSigns : mm_MV yX10_drawsSigns := ⟨mm_in (List.mem_of_getElem? (i := 1451) (by decide +kernel)) rfl, mm_in (List.mem_of_getElem? (i := 86) (by decide +kernel)) rfl⟩
theorem md_X10_ends : mm_MD yX10_ends cX10_ends 1 (some .int) 0 := ⟨mm_in (List.mem_of_getElem? (i := 1187) (by decide +kernel)) rfl, mm_in (List.mem_of_getElem? (i := 118) (by decide +kernel)) rfl, by decide +kernel, by decide +kernel, by decide +kernel⟩
theorem mv_X10_ends : mm_MV yX10_ends := ⟨mm_in (List.mem_of_getElem? (i := 1186) (by decide +kernel)) rfl, mm_in (List.mem_of_getElem? (i := 36) (by decide +kernel)) rfl⟩
theorem md_X10_farthest : mm_MD yX10_farthest cX10_farthest 4 (some .int) 1 := ⟨mm_in (List.mem_of_getElem? (i := 1603) (by decide +kernel)) rfl, mm_in (List.mem_of_getElem? (i := 118) (by decide +kernel)) rfl, by decide +kernel, by decide +kernel, by decide +kernel⟩
theorem mv_X10_farthest : mm_MV yX10_farthest := ⟨mm_in (List.mem_of_getElem? (i := 1602) (by decide +kernel)) rfl, mm_in (List.mem_of_getElem? (i := 101) (by decide +kernel)) rfl⟩
theorem md_X10_firstLeft : mm_MD yX10_firstLeft cX10_firstLeft 4 (some .int) 1 := ⟨mm_in (List.mem_of_getElem? (i := 1368) (by decide +kernel)) rfl, mm_in (List.mem_of_getElem? (i := 118) (by decide +kernel)) rfl, by decide +kernel, by decide +kernel, by decide +kernel⟩
theorem mv_X10_firstLeft : mm_MV yX10_firstLeft := ⟨mm_in (List.mem_of_getElem? (i := 1367) (by decide +kernel)) rfl, mm_in (List.mem_of_getElem? (i := 75) (by decide +kernel)) rfl⟩
theorem md_X10_following : mm_MD yX10_following cX10_following 4 (some .int) 3 := ⟨mm_in (List.mem_of_getElem? (i := 1262) (by decide +kernel)) rfl, mm_in (List.mem_of_getElem? (i := 118) (by decide +kernel)) rfl, by decide +kernel, by decide +kernel, by decide +kernel⟩
theorem mv_X10_following : mm_MV yX10_following := ⟨mm_in (List.mem_of_getElem? (i := 1261) (by decide +kernel)) rfl, mm_in (List.mem_of_getElem? (i := 51) (by decide +kernel)) rfl⟩
theorem md_X10_goSteps : mm_MD yX10_goSteps cX10_goSteps 7 (some .int) 2 := ⟨mm_in (List.mem_of_getElem? (i := 1591) (by decide +kernel)) rfl, mm_in (List.mem_of_getElem? (i := 118) (by decide +kernel)) rfl, by decide +kernel, by decide +kernel, by decide +kernel⟩
theorem mv_X10_goSteps : mm_MV yX10_goSteps := ⟨mm_in (List.mem_of_getElem? (i := 1590) (by decide +kernel)) rfl, mm_in (List.mem_of_getElem? (i := 100) (by decide +kernel)) rfl⟩
theorem md_X10_hand : mm_MD yX10_hand cX10_hand 7 (some .int) 5 := ⟨mm_in (List.mem_of_getElem? (i := 1289) (by decide +kernel)) rfl, mm_in (List.mem_of_getElem? (i := 118) (by decide +kernel)) rfl, by decide +kernel, by decide +kernel, by decide +kernel⟩
theorem mv_X10_hand : mm_MV yX10_hand := ⟨mm_in (List.mem_of_getElem? (i := 1288) (by decide +kernel)) rfl, mm_in (List.mem_of_getElem? (i := 56) (by decide +kernel)) rfl⟩
theorem md_X10_handTape : mm_MD yX10_handTape cX10_handTape 4 (some .int) 2 := ⟨mm_in (List.mem_of_getElem? (i := 1281) (by decide +kernel)) rfl, mm_in (List.mem_of_getElem? (i := 118) (by decide +kernel)) rfl, by decide +kernel, by decide +kernel, by decide +kernel⟩
theorem mv_X10_handTape : mm_MV yX10_handTape := ⟨mm_in (List.mem_of_getElem? (i := 1280) (by decide +kernel)) rfl, mm_in (List.mem_of_getElem? (i := 54) (by decide +kernel)) rfl⟩
theorem md_X10_in : mm_MD yX10_in cX10_in 3 (some .boolean) 3 := ⟨mm_in (List.mem_of_getElem? (i := 1156) (by decide +kernel)) rfl, mm_in (List.mem_of_getElem? (i := 118) (by decide +kernel)) rfl, by decide +kernel, by decide +kernel, by decide +kernel⟩
theorem mv_X10_in : Cond.static yX10_in ∈ mm_ws := mm_in (List.mem_of_getElem? (i := 1155) (by decide +kernel)) rfl
theorem md_X10_isCursor : mm_MD yX10_isCursor cX10_isCursor 2 (some .boolean) 1 := ⟨mm_in (List.mem_of_getElem? (i := 1317) (by decide +kernel)) rfl, mm_in (List.mem_of_getElem? (i := 118) (by decide +kernel)) rfl, by decide +kernel, by decide +kernel, by decide +kernel⟩
theorem mv_X10_isCursor : mm_MV yX10_isCursor := ⟨mm_in (List.mem_of_getElem? (i := 1316) (by decide +kernel)) rfl, mm_in (List.mem_of_getElem? (i := 63) (by decide +kernel)) rfl⟩
theorem md_X10_isLike : mm_MD yX10_isLike cX10_isLike 5 (some .boolean) 4 := ⟨mm_in (List.mem_of_getElem? (i := 1305) (by decide +kernel)) rfl, mm_in (List.mem_of_getElem? (i := 118) (by decide +kernel)) rfl, by decide +kernel, by decide +kernel, by decide +kernel⟩
theorem mv_X10_isLike : mm_MV yX10_isLike := ⟨mm_in (List.mem_of_getElem? (i := 1304) (by decide +kernel)) rfl, mm_in (List.mem_of_getElem? (i := 60) (by decide +kernel)) rfl⟩
theorem md_X10_isLine : mm_MD yX10_isLine cX10_isLine 2 (some .boolean) 1 := ⟨mm_in (List.mem_of_getElem? (i := 1301) (by decide +kernel)) rfl, mm_in (List.mem_of_getElem? (i := 118) (by decide +kernel)) rfl, by decide +kernel, by decide +kernel, by decide +kernel⟩
theorem mv_X10_isLine : mm_MV yX10_isLine := ⟨mm_in (List.mem_of_getElem? (i := 1300) (by decide +kernel)) rfl, mm_in (List.mem_of_getElem? (i := 59) (by decide +kernel)) rfl⟩
theorem md_X10_isPlace : mm_MD yX10_isPlace cX10_isPlace 3 (some .boolean) 2 := ⟨mm_in (List.mem_of_getElem? (i := 1488) (by decide +kernel)) rfl, mm_in (List.mem_of_getElem? (i := 118) (by decide +kernel)) rfl, by decide +kernel, by decide +kernel, by decide +kernel⟩
theorem mv_X10_isPlace : mm_MV yX10_isPlace := ⟨mm_in (List.mem_of_getElem? (i := 1487) (by decide +kernel)) rfl, mm_in (List.mem_of_getElem? (i := 89) (by decide +kernel)) rfl⟩
theorem md_X10_isScript : mm_MD yX10_isScript cX10_isScript 2 (some .boolean) 1 := ⟨mm_in (List.mem_of_getElem? (i := 1583) (by decide +kernel)) rfl, mm_in (List.mem_of_getElem? (i := 118) (by decide +kernel)) rfl, by decide +kernel, by decide +kernel, by decide +kernel⟩
theorem mv_X10_isScript : mm_MV yX10_isScript := ⟨mm_in (List.mem_of_getElem? (i := 1582) (by decide +kernel)) rfl, mm_in (List.mem_of_getElem? (i := 99) (by decide +kernel)) rfl⟩
theorem md_X10_isStore : mm_MD yX10_isStore cX10_isStore 1 (some .boolean) 0 := ⟨mm_in (List.mem_of_getElem? (i := 1234) (by decide +kernel)) rfl, mm_in (List.mem_of_getElem? (i := 118) (by decide +kernel)) rfl, by decide +kernel, by decide +kernel, by decide +kernel⟩
theorem mv_X10_isStore : mm_MV yX10_isStore := ⟨mm_in (List.mem_of_getElem? (i := 1233) (by decide +kernel)) rfl, mm_in (List.mem_of_getElem? (i := 44) (by decide +kernel)) rfl⟩
theorem md_X10_isWithin : mm_MD yX10_isWithin cX10_isWithin 4 (some .boolean) 1 := ⟨mm_in (List.mem_of_getElem? (i := 1624) (by decide +kernel)) rfl, mm_in (List.mem_of_getElem? (i := 118) (by decide +kernel)) rfl, by decide +kernel, by decide +kernel, by decide +kernel⟩
theorem mv_X10_isWithin : mm_MV yX10_isWithin := ⟨mm_in (List.mem_of_getElem? (i := 1623) (by decide +kernel)) rfl, mm_in (List.mem_of_getElem? (i := 106) (by decide +kernel)) rfl⟩
theorem md_X10_joinsNow : mm_MD yX10_joinsNow cX10_joinsNow 4 (some .int) 1 := ⟨mm_in (List.mem_of_getElem? (i := 1390) (by decide +kernel)) rfl, mm_in (List.mem_of_getElem? (i := 118) (by decide +kernel)) rfl, by decide +kernel, by decide +kernel, by decide +kernel⟩
theorem mv_X10_joinsNow : mm_MV yX10_joinsNow := ⟨mm_in (List.mem_of_getElem? (i := 1389) (by decide +kernel)) rfl, mm_in (List.mem_of_getElem? (i := 80) (by decide +kernel)) rfl⟩
theorem md_X10_keep : mm_MD yX10_keep cX10_keep 2 none 0 := ⟨mm_in (List.mem_of_getElem? (i := 1336) (by decide +kernel)) rfl, mm_in (List.mem_of_getElem? (i := 118) (by decide +kernel)) rfl, by decide +kernel, by decide +kernel, by decide +kernel⟩
theorem mv_X10_keep : mm_MV yX10_keep := ⟨mm_in (List.mem_of_getElem? (i := 1335) (by decide +kernel)) rfl, mm_in (List.mem_of_getElem? (i := 67) (by decide +kernel)) rfl⟩
theorem md_X10_laysAll : mm_MD yX10_laysAll cX10_laysAll 1 none 0 := ⟨mm_in (List.mem_of_getElem? (i := 1507) (by decide +kernel)) rfl, mm_in (List.mem_of_getElem? (i := 118) (by decide +kernel)) rfl, by decide +kernel, by decide +kernel, by decide +kernel⟩
theorem mv_X10_laysAll : mm_MV yX10_laysAll := ⟨mm_in (List.mem_of_getElem? (i := 1506) (by decide +kernel)) rfl, mm_in (List.mem_of_getElem? (i := 90) (by decide +kernel)) rfl⟩
theorem md_X10_laysHits : mm_MD yX10_laysHits cX10_laysHits 6 none 3 := ⟨mm_in (List.mem_of_getElem? (i := 1238) (by decide +kernel)) rfl, mm_in (List.mem_of_getElem? (i := 118) (by decide +kernel)) rfl, by decide +kernel, by decide +kernel, by decide +kernel⟩
theorem mv_X10_laysHits : mm_MV yX10_laysHits := ⟨mm_in (List.mem_of_getElem? (i := 1237) (by decide +kernel)) rfl, mm_in (List.mem_of_getElem? (i := 45) (by decide +kernel)) rfl⟩
theorem md_X10_laysNow : mm_MD yX10_laysNow cX10_laysNow 8 (some .int) 5 := ⟨mm_in (List.mem_of_getElem? (i := 1360) (by decide +kernel)) rfl, mm_in (List.mem_of_getElem? (i := 118) (by decide +kernel)) rfl, by decide +kernel, by decide +kernel, by decide +kernel⟩
theorem mv_X10_laysNow : mm_MV yX10_laysNow := ⟨mm_in (List.mem_of_getElem? (i := 1359) (by decide +kernel)) rfl, mm_in (List.mem_of_getElem? (i := 73) (by decide +kernel)) rfl⟩
theorem md_X10_laysOften : mm_MD yX10_laysOften cX10_laysOften 4 none 1 := ⟨mm_in (List.mem_of_getElem? (i := 1535) (by decide +kernel)) rfl, mm_in (List.mem_of_getElem? (i := 118) (by decide +kernel)) rfl, by decide +kernel, by decide +kernel, by decide +kernel⟩
theorem mv_X10_laysOften : mm_MV yX10_laysOften := ⟨mm_in (List.mem_of_getElem? (i := 1534) (by decide +kernel)) rfl, mm_in (List.mem_of_getElem? (i := 94) (by decide +kernel)) rfl⟩
theorem md_X10_laysSigns : mm_MD yX10_laysSigns cX10_laysSigns 6 none 4 := ⟨mm_in (List.mem_of_getElem? (i := 1226) (by decide +kernel)) rfl, mm_in (List.mem_of_getElem? (i := 118) (by decide +kernel)) rfl, by decide +kernel, by decide +kernel, by decide +kernel⟩
theorem mv_X10_laysSigns : mm_MV yX10_laysSigns := ⟨mm_in (List.mem_of_getElem? (i := 1225) (by decide +kernel)) rfl, mm_in (List.mem_of_getElem? (i := 43) (by decide +kernel)) rfl⟩
theorem md_X10_laysWord : mm_MD yX10_laysWord cX10_laysWord 1 (some .boolean) 0 := ⟨mm_in (List.mem_of_getElem? (i := 1476) (by decide +kernel)) rfl, mm_in (List.mem_of_getElem? (i := 118) (by decide +kernel)) rfl, by decide +kernel, by decide +kernel, by decide +kernel⟩
theorem mv_X10_laysWord : mm_MV yX10_laysWord := ⟨mm_in (List.mem_of_getElem? (i := 1475) (by decide +kernel)) rfl, mm_in (List.mem_of_getElem? (i := 88) (by decide +kernel)) rfl⟩
theorem md_X10_leftOf : mm_MD yX10_leftOf cX10_leftOf 3 (some .int) 1 := ⟨mm_in (List.mem_of_getElem? (i := 1364) (by decide +kernel)) rfl, mm_in (List.mem_of_getElem? (i := 118) (by decide +kernel)) rfl, by decide +kernel, by decide +kernel, by decide +kernel⟩
theorem mv_X10_leftOf : mm_MV yX10_leftOf := ⟨mm_in (List.mem_of_getElem? (i := 1363) (by decide +kernel)) rfl, mm_in (List.mem_of_getElem? (i := 74) (by decide +kernel)) rfl⟩
theorem md_X10_lineAt : mm_MD yX10_lineAt cX10_lineAt 1 (some .int) 1 := ⟨mm_in (List.mem_of_getElem? (i := 1222) (by decide +kernel)) rfl, mm_in (List.mem_of_getElem? (i := 118) (by decide +kernel)) rfl, by decide +kernel, by decide +kernel, by decide +kernel⟩
theorem mv_X10_lineAt : Cond.static yX10_lineAt ∈ mm_ws := mm_in (List.mem_of_getElem? (i := 1221) (by decide +kernel)) rfl
theorem md_X10_lineInHand : mm_MD yX10_lineInHand cX10_lineInHand 1 (some .int) 0 := ⟨mm_in (List.mem_of_getElem? (i := 1285) (by decide +kernel)) rfl, mm_in (List.mem_of_getElem? (i := 118) (by decide +kernel)) rfl, by decide +kernel, by decide +kernel, by decide +kernel⟩
theorem mv_X10_lineInHand : mm_MV yX10_lineInHand := ⟨mm_in (List.mem_of_getElem? (i := 1284) (by decide +kernel)) rfl, mm_in (List.mem_of_getElem? (i := 55) (by decide +kernel)) rfl⟩
theorem md_X10_longOf : mm_MD yX10_longOf cX10_longOf 2 (some .int) 1 := ⟨mm_in (List.mem_of_getElem? (i := 1242) (by decide +kernel)) rfl, mm_in (List.mem_of_getElem? (i := 118) (by decide +kernel)) rfl, by decide +kernel, by decide +kernel, by decide +kernel⟩
theorem mv_X10_longOf : mm_MV yX10_longOf := ⟨mm_in (List.mem_of_getElem? (i := 1241) (by decide +kernel)) rfl, mm_in (List.mem_of_getElem? (i := 46) (by decide +kernel)) rfl⟩
theorem md_X10_marks : mm_MD yX10_marks cX10_marks 6 none 3 := ⟨mm_in (List.mem_of_getElem? (i := 1381) (by decide +kernel)) rfl, mm_in (List.mem_of_getElem? (i := 118) (by decide +kernel)) rfl, by decide +kernel, by decide +kernel, by decide +kernel⟩
theorem mv_X10_marks : mm_MV yX10_marks := ⟨mm_in (List.mem_of_getElem? (i := 1380) (by decide +kernel)) rfl, mm_in (List.mem_of_getElem? (i := 78) (by decide +kernel)) rfl⟩
theorem md_X10_mostShared : mm_MD yX10_mostShared cX10_mostShared 3 (some .int) 0 := ⟨mm_in (List.mem_of_getElem? (i := 1519) (by decide +kernel)) rfl, mm_in (List.mem_of_getElem? (i := 118) (by decide +kernel)) rfl, by decide +kernel, by decide +kernel, by decide +kernel⟩
theorem mv_X10_mostShared : mm_MV yX10_mostShared := ⟨mm_in (List.mem_of_getElem? (i := 1518) (by decide +kernel)) rfl, mm_in (List.mem_of_getElem? (i := 92) (by decide +kernel)) rfl⟩
theorem md_X10_must : mm_MD yX10_must cX10_must 2 none 1 := ⟨mm_in (List.mem_of_getElem? (i := 1207) (by decide +kernel)) rfl, mm_in (List.mem_of_getElem? (i := 118) (by decide +kernel)) rfl, by decide +kernel, by decide +kernel, by decide +kernel⟩
theorem mv_X10_must : mm_MV yX10_must := ⟨mm_in (List.mem_of_getElem? (i := 1206) (by decide +kernel)) rfl, mm_in (List.mem_of_getElem? (i := 40) (by decide +kernel)) rfl⟩
theorem md_X10_note : mm_MD yX10_note cX10_note 4 none 2 := ⟨mm_in (List.mem_of_getElem? (i := 1398) (by decide +kernel)) rfl, mm_in (List.mem_of_getElem? (i := 118) (by decide +kernel)) rfl, by decide +kernel, by decide +kernel, by decide +kernel⟩
theorem mv_X10_note : mm_MV yX10_note := ⟨mm_in (List.mem_of_getElem? (i := 1397) (by decide +kernel)) rfl, mm_in (List.mem_of_getElem? (i := 82) (by decide +kernel)) rfl⟩
theorem md_X10_numberOf : mm_MD yX10_numberOf cX10_numberOf 2 (some .int) 1 := ⟨mm_in (List.mem_of_getElem? (i := 1273) (by decide +kernel)) rfl, mm_in (List.mem_of_getElem? (i := 118) (by decide +kernel)) rfl, by decide +kernel, by decide +kernel, by decide +kernel⟩
theorem mv_X10_numberOf : mm_MV yX10_numberOf := ⟨mm_in (List.mem_of_getElem? (i := 1272) (by decide +kernel)) rfl, mm_in (List.mem_of_getElem? (i := 53) (by decide +kernel)) rfl⟩
theorem md_X10_order : mm_MD yX10_order cX10_order 2 (some .int) 2 := ⟨mm_in (List.mem_of_getElem? (i := 1265) (by decide +kernel)) rfl, mm_in (List.mem_of_getElem? (i := 118) (by decide +kernel)) rfl, by decide +kernel, by decide +kernel, by decide +kernel⟩
theorem mv_X10_order : Cond.static yX10_order ∈ mm_ws := mm_in (List.mem_of_getElem? (i := 1264) (by decide +kernel)) rfl
theorem md_X10_pagesNow : mm_MD yX10_pagesNow cX10_pagesNow 6 (some .int) 1 := ⟨mm_in (List.mem_of_getElem? (i := 1376) (by decide +kernel)) rfl, mm_in (List.mem_of_getElem? (i := 118) (by decide +kernel)) rfl, by decide +kernel, by decide +kernel, by decide +kernel⟩
theorem mv_X10_pagesNow : mm_MV yX10_pagesNow := ⟨mm_in (List.mem_of_getElem? (i := 1375) (by decide +kernel)) rfl, mm_in (List.mem_of_getElem? (i := 77) (by decide +kernel)) rfl⟩
theorem md_X10_putAside : mm_MD yX10_putAside cX10_putAside 2 none 0 := ⟨mm_in (List.mem_of_getElem? (i := 1571) (by decide +kernel)) rfl, mm_in (List.mem_of_getElem? (i := 118) (by decide +kernel)) rfl, by decide +kernel, by decide +kernel, by decide +kernel⟩
theorem mv_X10_putAside : mm_MV yX10_putAside := ⟨mm_in (List.mem_of_getElem? (i := 1570) (by decide +kernel)) rfl, mm_in (List.mem_of_getElem? (i := 97) (by decide +kernel)) rfl⟩
theorem md_X10_putsNow : mm_MD yX10_putsNow cX10_putsNow 6 (some .int) 4 := ⟨mm_in (List.mem_of_getElem? (i := 1344) (by decide +kernel)) rfl, mm_in (List.mem_of_getElem? (i := 118) (by decide +kernel)) rfl, by decide +kernel, by decide +kernel, by decide +kernel⟩
theorem mv_X10_putsNow : mm_MV yX10_putsNow := ⟨mm_in (List.mem_of_getElem? (i := 1343) (by decide +kernel)) rfl, mm_in (List.mem_of_getElem? (i := 69) (by decide +kernel)) rfl⟩
theorem md_X10_readAlone : mm_MD yX10_readAlone cX10_readAlone 2 (some .int) 1 := ⟨mm_in (List.mem_of_getElem? (i := 1211) (by decide +kernel)) rfl, mm_in (List.mem_of_getElem? (i := 118) (by decide +kernel)) rfl, by decide +kernel, by decide +kernel, by decide +kernel⟩
theorem mv_X10_readAlone : mm_MV yX10_readAlone := ⟨mm_in (List.mem_of_getElem? (i := 1210) (by decide +kernel)) rfl, mm_in (List.mem_of_getElem? (i := 41) (by decide +kernel)) rfl⟩
theorem md_X10_readScript : mm_MD yX10_readScript cX10_readScript 3 (some .int) 1 := ⟨mm_in (List.mem_of_getElem? (i := 1191) (by decide +kernel)) rfl, mm_in (List.mem_of_getElem? (i := 118) (by decide +kernel)) rfl, by decide +kernel, by decide +kernel, by decide +kernel⟩
theorem mv_X10_readScript : mm_MV yX10_readScript := ⟨mm_in (List.mem_of_getElem? (i := 1190) (by decide +kernel)) rfl, mm_in (List.mem_of_getElem? (i := 37) (by decide +kernel)) rfl⟩
theorem md_X10_readSigns : mm_MD yX10_readSigns cX10_readSigns 6 (some .int) 3 := ⟨mm_in (List.mem_of_getElem? (i := 1172) (by decide +kernel)) rfl, mm_in (List.mem_of_getElem? (i := 118) (by decide +kernel)) rfl, by decide +kernel, by decide +kernel, by decide +kernel⟩
theorem mv_X10_readSigns : mm_MV yX10_readSigns := ⟨mm_in (List.mem_of_getElem? (i := 1171) (by decide +kernel)) rfl, mm_in (List.mem_of_getElem? (i := 33) (by decide +kernel)) rfl⟩
theorem md_X10_readStep : mm_MD yX10_readStep cX10_readStep 3 none 1 := ⟨mm_in (List.mem_of_getElem? (i := 1195) (by decide +kernel)) rfl, mm_in (List.mem_of_getElem? (i := 118) (by decide +kernel)) rfl, by decide +kernel, by decide +kernel, by decide +kernel⟩
theorem mv_X10_readStep : mm_MV yX10_readStep := ⟨mm_in (List.mem_of_getElem? (i := 1194) (by decide +kernel)) rfl, mm_in (List.mem_of_getElem? (i := 38) (by decide +kernel)) rfl⟩
theorem md_X10_readStore : mm_MD yX10_readStore cX10_readStore 2 (some .int) 0 := ⟨mm_in (List.mem_of_getElem? (i := 1164) (by decide +kernel)) rfl, mm_in (List.mem_of_getElem? (i := 118) (by decide +kernel)) rfl, by decide +kernel, by decide +kernel, by decide +kernel⟩
theorem mv_X10_readStore : mm_MV yX10_readStore := ⟨mm_in (List.mem_of_getElem? (i := 1163) (by decide +kernel)) rfl, mm_in (List.mem_of_getElem? (i := 31) (by decide +kernel)) rfl⟩
theorem md_X10_restOf : mm_MD yX10_restOf cX10_restOf 2 (some .int) 1 := ⟨mm_in (List.mem_of_getElem? (i := 1527) (by decide +kernel)) rfl, mm_in (List.mem_of_getElem? (i := 118) (by decide +kernel)) rfl, by decide +kernel, by decide +kernel, by decide +kernel⟩
theorem mv_X10_restOf : mm_MV yX10_restOf := ⟨mm_in (List.mem_of_getElem? (i := 1526) (by decide +kernel)) rfl, mm_in (List.mem_of_getElem? (i := 93) (by decide +kernel)) rfl⟩
theorem md_X10_rewindsNow : mm_MD yX10_rewindsNow cX10_rewindsNow 4 (some .int) 1 := ⟨mm_in (List.mem_of_getElem? (i := 1394) (by decide +kernel)) rfl, mm_in (List.mem_of_getElem? (i := 118) (by decide +kernel)) rfl, by decide +kernel, by decide +kernel, by decide +kernel⟩
theorem mv_X10_rewindsNow : mm_MV yX10_rewindsNow := ⟨mm_in (List.mem_of_getElem? (i := 1393) (by decide +kernel)) rfl, mm_in (List.mem_of_getElem? (i := 81) (by decide +kernel)) rfl⟩
theorem md_X10_rising : mm_MD yX10_rising cX10_rising 2 (some .int) 0 := ⟨mm_in (List.mem_of_getElem? (i := 1612) (by decide +kernel)) rfl, mm_in (List.mem_of_getElem? (i := 118) (by decide +kernel)) rfl, by decide +kernel, by decide +kernel, by decide +kernel⟩
theorem mv_X10_rising : mm_MV yX10_rising := ⟨mm_in (List.mem_of_getElem? (i := 1611) (by decide +kernel)) rfl, mm_in (List.mem_of_getElem? (i := 103) (by decide +kernel)) rfl⟩
theorem md_X10_sharedAt : mm_MD yX10_sharedAt cX10_sharedAt 3 (some .int) 1 := ⟨mm_in (List.mem_of_getElem? (i := 1511) (by decide +kernel)) rfl, mm_in (List.mem_of_getElem? (i := 118) (by decide +kernel)) rfl, by decide +kernel, by decide +kernel, by decide +kernel⟩
theorem mv_X10_sharedAt : mm_MV yX10_sharedAt := ⟨mm_in (List.mem_of_getElem? (i := 1510) (by decide +kernel)) rfl, mm_in (List.mem_of_getElem? (i := 91) (by decide +kernel)) rfl⟩
theorem md_X10_signAt : mm_MD yX10_signAt cX10_signAt 3 (some .int) 2 := ⟨mm_in (List.mem_of_getElem? (i := 1250) (by decide +kernel)) rfl, mm_in (List.mem_of_getElem? (i := 118) (by decide +kernel)) rfl, by decide +kernel, by decide +kernel, by decide +kernel⟩
theorem mv_X10_signAt : mm_MV yX10_signAt := ⟨mm_in (List.mem_of_getElem? (i := 1249) (by decide +kernel)) rfl, mm_in (List.mem_of_getElem? (i := 48) (by decide +kernel)) rfl⟩
theorem md_X10_signOf : mm_MD yX10_signOf cX10_signOf 1 (some .int) 1 := ⟨mm_in (List.mem_of_getElem? (i := 1179) (by decide +kernel)) rfl, mm_in (List.mem_of_getElem? (i := 118) (by decide +kernel)) rfl, by decide +kernel, by decide +kernel, by decide +kernel⟩
theorem mv_X10_signOf : Cond.static yX10_signOf ∈ mm_ws := mm_in (List.mem_of_getElem? (i := 1178) (by decide +kernel)) rfl
theorem md_X10_sortOf : mm_MD yX10_sortOf cX10_sortOf 1 (some .int) 1 := ⟨mm_in (List.mem_of_getElem? (i := 1198) (by decide +kernel)) rfl, mm_in (List.mem_of_getElem? (i := 118) (by decide +kernel)) rfl, by decide +kernel, by decide +kernel, by decide +kernel⟩
theorem mv_X10_sortOf : Cond.static yX10_sortOf ∈ mm_ws := mm_in (List.mem_of_getElem? (i := 1197) (by decide +kernel)) rfl
theorem md_X10_spells : mm_MD yX10_spells cX10_spells 2 none 1 := ⟨mm_in (List.mem_of_getElem? (i := 1563) (by decide +kernel)) rfl, mm_in (List.mem_of_getElem? (i := 118) (by decide +kernel)) rfl, by decide +kernel, by decide +kernel, by decide +kernel⟩
theorem mv_X10_spells : mm_MV yX10_spells := ⟨mm_in (List.mem_of_getElem? (i := 1562) (by decide +kernel)) rfl, mm_in (List.mem_of_getElem? (i := 96) (by decide +kernel)) rfl⟩
theorem md_X10_splitsNow : mm_MD yX10_splitsNow cX10_splitsNow 5 (some .int) 2 := ⟨mm_in (List.mem_of_getElem? (i := 1386) (by decide +kernel)) rfl, mm_in (List.mem_of_getElem? (i := 118) (by decide +kernel)) rfl, by decide +kernel, by decide +kernel, by decide +kernel⟩
theorem mv_X10_splitsNow : mm_MV yX10_splitsNow := ⟨mm_in (List.mem_of_getElem? (i := 1385) (by decide +kernel)) rfl, mm_in (List.mem_of_getElem? (i := 79) (by decide +kernel)) rfl⟩
theorem md_X10_stands : mm_MD yX10_stands cX10_stands 8 (some .boolean) 5 := ⟨mm_in (List.mem_of_getElem? (i := 1246) (by decide +kernel)) rfl, mm_in (List.mem_of_getElem? (i := 118) (by decide +kernel)) rfl, by decide +kernel, by decide +kernel, by decide +kernel⟩
theorem mv_X10_stands : mm_MV yX10_stands := ⟨mm_in (List.mem_of_getElem? (i := 1245) (by decide +kernel)) rfl, mm_in (List.mem_of_getElem? (i := 47) (by decide +kernel)) rfl⟩
theorem md_X10_swapsNow : mm_MD yX10_swapsNow cX10_swapsNow 5 (some .int) 2 := ⟨mm_in (List.mem_of_getElem? (i := 1356) (by decide +kernel)) rfl, mm_in (List.mem_of_getElem? (i := 118) (by decide +kernel)) rfl, by decide +kernel, by decide +kernel, by decide +kernel⟩
theorem mv_X10_swapsNow : mm_MV yX10_swapsNow := ⟨mm_in (List.mem_of_getElem? (i := 1355) (by decide +kernel)) rfl, mm_in (List.mem_of_getElem? (i := 72) (by decide +kernel)) rfl⟩
theorem md_X10_takeStore : mm_MD yX10_takeStore cX10_takeStore 2 (some .int) 0 := ⟨mm_in (List.mem_of_getElem? (i := 1219) (by decide +kernel)) rfl, mm_in (List.mem_of_getElem? (i := 118) (by decide +kernel)) rfl, by decide +kernel, by decide +kernel, by decide +kernel⟩
theorem mv_X10_takeStore : mm_MV yX10_takeStore := ⟨mm_in (List.mem_of_getElem? (i := 1218) (by decide +kernel)) rfl, mm_in (List.mem_of_getElem? (i := 42) (by decide +kernel)) rfl⟩
theorem md_X10_takesHit : mm_MD yX10_takesHit cX10_takesHit 4 none 2 := ⟨mm_in (List.mem_of_getElem? (i := 1254) (by decide +kernel)) rfl, mm_in (List.mem_of_getElem? (i := 118) (by decide +kernel)) rfl, by decide +kernel, by decide +kernel, by decide +kernel⟩
theorem mv_X10_takesHit : mm_MV yX10_takesHit := ⟨mm_in (List.mem_of_getElem? (i := 1253) (by decide +kernel)) rfl, mm_in (List.mem_of_getElem? (i := 49) (by decide +kernel)) rfl⟩
theorem md_X10_takesNow : mm_MD yX10_takesNow cX10_takesNow 4 (some .int) 1 := ⟨mm_in (List.mem_of_getElem? (i := 1352) (by decide +kernel)) rfl, mm_in (List.mem_of_getElem? (i := 118) (by decide +kernel)) rfl, by decide +kernel, by decide +kernel, by decide +kernel⟩
theorem mv_X10_takesNow : mm_MV yX10_takesNow := ⟨mm_in (List.mem_of_getElem? (i := 1351) (by decide +kernel)) rfl, mm_in (List.mem_of_getElem? (i := 71) (by decide +kernel)) rfl⟩
theorem md_X10_tryOne : mm_MD yX10_tryOne cX10_tryOne 5 none 4 := ⟨mm_in (List.mem_of_getElem? (i := 1456) (by decide +kernel)) rfl, mm_in (List.mem_of_getElem? (i := 118) (by decide +kernel)) rfl, by decide +kernel, by decide +kernel, by decide +kernel⟩
theorem mv_X10_tryOne : mm_MV yX10_tryOne := ⟨mm_in (List.mem_of_getElem? (i := 1455) (by decide +kernel)) rfl, mm_in (List.mem_of_getElem? (i := 87) (by decide +kernel)) rfl⟩
theorem md_X10_twice : mm_MD yX10_twice cX10_twice 3 (some .int) 1 := ⟨mm_in (List.mem_of_getElem? (i := 1515) (by decide +kernel)) rfl, mm_in (List.mem_of_getElem? (i := 118) (by decide +kernel)) rfl, by decide +kernel, by decide +kernel, by decide +kernel⟩
theorem mv_X10_twice : mm_MV yX10_twice := ⟨mm_in (List.mem_of_getElem? (i := 1513) (by decide +kernel)) rfl, mm_in (List.mem_of_getElem? (i := 1514) (by decide +kernel)) rfl⟩
theorem md_X10_unlikeSigns : mm_MD yX10_unlikeSigns cX10_unlikeSigns 4 (some .int) 0 := ⟨mm_in (List.mem_of_getElem? (i := 1607) (by decide +kernel)) rfl, mm_in (List.mem_of_getElem? (i := 118) (by decide +kernel)) rfl, by decide +kernel, by decide +kernel, by decide +kernel⟩
theorem mv_X10_unlikeSigns : mm_MV yX10_unlikeSigns := ⟨mm_in (List.mem_of_getElem? (i := 1606) (by decide +kernel)) rfl, mm_in (List.mem_of_getElem? (i := 102) (by decide +kernel)) rfl⟩
theorem md_X10_whyJoin : mm_MD yX10_whyJoin cX10_whyJoin 2 (some .int) 1 := ⟨mm_in (List.mem_of_getElem? (i := 1328) (by decide +kernel)) rfl, mm_in (List.mem_of_getElem? (i := 118) (by decide +kernel)) rfl, by decide +kernel, by decide +kernel, by decide +kernel⟩
theorem mv_X10_whyJoin : mm_MV yX10_whyJoin := ⟨mm_in (List.mem_of_getElem? (i := 1327) (by decide +kernel)) rfl, mm_in (List.mem_of_getElem? (i := 65) (by decide +kernel)) rfl⟩
theorem md_X10_whyLay : mm_MD yX10_whyLay cX10_whyLay 4 (some .int) 3 := ⟨mm_in (List.mem_of_getElem? (i := 1313) (by decide +kernel)) rfl, mm_in (List.mem_of_getElem? (i := 118) (by decide +kernel)) rfl, by decide +kernel, by decide +kernel, by decide +kernel⟩
theorem mv_X10_whyLay : mm_MV yX10_whyLay := ⟨mm_in (List.mem_of_getElem? (i := 1312) (by decide +kernel)) rfl, mm_in (List.mem_of_getElem? (i := 62) (by decide +kernel)) rfl⟩
theorem md_X10_whyNot : mm_MD yX10_whyNot cX10_whyNot 7 (some .int) 6 := ⟨mm_in (List.mem_of_getElem? (i := 1293) (by decide +kernel)) rfl, mm_in (List.mem_of_getElem? (i := 118) (by decide +kernel)) rfl, by decide +kernel, by decide +kernel, by decide +kernel⟩
theorem mv_X10_whyNot : mm_MV yX10_whyNot := ⟨mm_in (List.mem_of_getElem? (i := 1292) (by decide +kernel)) rfl, mm_in (List.mem_of_getElem? (i := 57) (by decide +kernel)) rfl⟩
theorem md_X10_whyPut : mm_MD yX10_whyPut cX10_whyPut 3 (some .int) 2 := ⟨mm_in (List.mem_of_getElem? (i := 1309) (by decide +kernel)) rfl, mm_in (List.mem_of_getElem? (i := 118) (by decide +kernel)) rfl, by decide +kernel, by decide +kernel, by decide +kernel⟩
theorem mv_X10_whyPut : mm_MV yX10_whyPut := ⟨mm_in (List.mem_of_getElem? (i := 1308) (by decide +kernel)) rfl, mm_in (List.mem_of_getElem? (i := 61) (by decide +kernel)) rfl⟩
theorem md_X10_whySet : mm_MD yX10_whySet cX10_whySet 5 (some .int) 4 := ⟨mm_in (List.mem_of_getElem? (i := 1297) (by decide +kernel)) rfl, mm_in (List.mem_of_getElem? (i := 118) (by decide +kernel)) rfl, by decide +kernel, by decide +kernel, by decide +kernel⟩
theorem mv_X10_whySet : mm_MV yX10_whySet := ⟨mm_in (List.mem_of_getElem? (i := 1296) (by decide +kernel)) rfl, mm_in (List.mem_of_getElem? (i := 58) (by decide +kernel)) rfl⟩
theorem md_X10_whySplit : mm_MD yX10_whySplit cX10_whySplit 3 (some .int) 2 := ⟨mm_in (List.mem_of_getElem? (i := 1324) (by decide +kernel)) rfl, mm_in (List.mem_of_getElem? (i := 118) (by decide +kernel)) rfl, by decide +kernel, by decide +kernel, by decide +kernel⟩
theorem mv_X10_whySplit : mm_MV yX10_whySplit := ⟨mm_in (List.mem_of_getElem? (i := 1323) (by decide +kernel)) rfl, mm_in (List.mem_of_getElem? (i := 64) (by decide +kernel)) rfl⟩
theorem md_X10_withinOnes : mm_MD yX10_withinOnes cX10_withinOnes 3 (some .int) 0 := ⟨mm_in (List.mem_of_getElem? (i := 1620) (by decide +kernel)) rfl, mm_in (List.mem_of_getElem? (i := 118) (by decide +kernel)) rfl, by decide +kernel, by decide +kernel, by decide +kernel⟩
theorem mv_X10_withinOnes : mm_MV yX10_withinOnes := ⟨mm_in (List.mem_of_getElem? (i := 1619) (by decide +kernel)) rfl, mm_in (List.mem_of_getElem? (i := 105) (by decide +kernel)) rfl⟩
theorem md_X2_compare : mm_MD yX2_compare cX2_compare 6 (some .int) 4 := ⟨mm_in (List.mem_of_getElem? (i := 579) (by decide +kernel)) rfl, mm_in (List.mem_of_getElem? (i := 112) (by decide +kernel)) rfl, by decide +kernel, by decide +kernel, by decide +kernel⟩
theorem mv_X2_compare : mm_MV yX2_compare := ⟨mm_in (List.mem_of_getElem? (i := 577) (by decide +kernel)) rfl, mm_in (List.mem_of_getElem? (i := 578) (by decide +kernel)) rfl⟩
theorem md_X2_copyFrom : mm_MD yX2_copyFrom cX2_copyFrom 2 none 1 := ⟨mm_in (List.mem_of_getElem? (i := 519) (by decide +kernel)) rfl, mm_in (List.mem_of_getElem? (i := 112) (by decide +kernel)) rfl, by decide +kernel, by decide +kernel, by decide +kernel⟩
theorem mv_X2_copyFrom : mm_MV yX2_copyFrom := ⟨mm_in (List.mem_of_getElem? (i := 517) (by decide +kernel)) rfl, mm_in (List.mem_of_getElem? (i := 518) (by decide +kernel)) rfl⟩
theorem md_X3_fill : mm_MD yX3_fill cX3_fill 5 none 1 := ⟨mm_in (List.mem_of_getElem? (i := 559) (by decide +kernel)) rfl, mm_in (List.mem_of_getElem? (i := 116) (by decide +kernel)) rfl, by decide +kernel, by decide +kernel, by decide +kernel⟩
theorem mv_X3_fill : mm_MV yX3_fill := ⟨mm_in (List.mem_of_getElem? (i := 557) (by decide +kernel)) rfl, mm_in (List.mem_of_getElem? (i := 558) (by decide +kernel)) rfl⟩
theorem md_X3_find : mm_MD yX3_find cX3_find 4 (some .int) 2 := ⟨mm_in (List.mem_of_getElem? (i := 626) (by decide +kernel)) rfl, mm_in (List.mem_of_getElem? (i := 116) (by decide +kernel)) rfl, by decide +kernel, by decide +kernel, by decide +kernel⟩
theorem mv_X3_find : mm_MV yX3_find := ⟨mm_in (List.mem_of_getElem? (i := 624) (by decide +kernel)) rfl, mm_in (List.mem_of_getElem? (i := 625) (by decide +kernel)) rfl⟩
theorem md_X3_has : mm_MD yX3_has cX3_has 2 (some .boolean) 1 := ⟨mm_in (List.mem_of_getElem? (i := 612) (by decide +kernel)) rfl, mm_in (List.mem_of_getElem? (i := 116) (by decide +kernel)) rfl, by decide +kernel, by decide +kernel, by decide +kernel⟩
theorem mv_X3_has : mm_MV yX3_has := ⟨mm_in (List.mem_of_getElem? (i := 610) (by decide +kernel)) rfl, mm_in (List.mem_of_getElem? (i := 611) (by decide +kernel)) rfl⟩
theorem md_X3_insert : mm_MD yX3_insert cX3_insert 9 none 3 := ⟨mm_in (List.mem_of_getElem? (i := 567) (by decide +kernel)) rfl, mm_in (List.mem_of_getElem? (i := 116) (by decide +kernel)) rfl, by decide +kernel, by decide +kernel, by decide +kernel⟩
theorem mv_X3_insert : mm_MV yX3_insert := ⟨mm_in (List.mem_of_getElem? (i := 566) (by decide +kernel)) rfl, mm_in (List.mem_of_getElem? (i := 10) (by decide +kernel)) rfl⟩
theorem md_X3_lineOf : mm_MD yX3_lineOf cX3_lineOf 2 (some .int) 1 := ⟨mm_in (List.mem_of_getElem? (i := 571) (by decide +kernel)) rfl, mm_in (List.mem_of_getElem? (i := 116) (by decide +kernel)) rfl, by decide +kernel, by decide +kernel, by decide +kernel⟩
theorem mv_X3_lineOf : mm_MV yX3_lineOf := ⟨mm_in (List.mem_of_getElem? (i := 569) (by decide +kernel)) rfl, mm_in (List.mem_of_getElem? (i := 570) (by decide +kernel)) rfl⟩
theorem md_X3_mostFrequent : mm_MD yX3_mostFrequent cX3_mostFrequent 6 (some .int) 1 := ⟨mm_in (List.mem_of_getElem? (i := 670) (by decide +kernel)) rfl, mm_in (List.mem_of_getElem? (i := 116) (by decide +kernel)) rfl, by decide +kernel, by decide +kernel, by decide +kernel⟩
theorem mv_X3_mostFrequent : mm_MV yX3_mostFrequent := ⟨mm_in (List.mem_of_getElem? (i := 668) (by decide +kernel)) rfl, mm_in (List.mem_of_getElem? (i := 669) (by decide +kernel)) rfl⟩
theorem md_X3_mostShared : mm_MD yX3_mostShared cX3_mostShared 5 (some .int) 0 := ⟨mm_in (List.mem_of_getElem? (i := 652) (by decide +kernel)) rfl, mm_in (List.mem_of_getElem? (i := 116) (by decide +kernel)) rfl, by decide +kernel, by decide +kernel, by decide +kernel⟩
theorem mv_X3_mostShared : mm_MV yX3_mostShared := ⟨mm_in (List.mem_of_getElem? (i := 650) (by decide +kernel)) rfl, mm_in (List.mem_of_getElem? (i := 651) (by decide +kernel)) rfl⟩
theorem md_X3_opensWord : mm_MD yX3_opensWord cX3_opensWord 3 (some .boolean) 2 := ⟨mm_in (List.mem_of_getElem? (i := 661) (by decide +kernel)) rfl, mm_in (List.mem_of_getElem? (i := 116) (by decide +kernel)) rfl, by decide +kernel, by decide +kernel, by decide +kernel⟩
theorem mv_X3_opensWord : mm_MV yX3_opensWord := ⟨mm_in (List.mem_of_getElem? (i := 659) (by decide +kernel)) rfl, mm_in (List.mem_of_getElem? (i := 660) (by decide +kernel)) rfl⟩
theorem md_X3_placeOf : mm_MD yX3_placeOf cX3_placeOf 2 (some .int) 1 := ⟨mm_in (List.mem_of_getElem? (i := 575) (by decide +kernel)) rfl, mm_in (List.mem_of_getElem? (i := 116) (by decide +kernel)) rfl, by decide +kernel, by decide +kernel, by decide +kernel⟩
theorem mv_X3_placeOf : mm_MV yX3_placeOf := ⟨mm_in (List.mem_of_getElem? (i := 573) (by decide +kernel)) rfl, mm_in (List.mem_of_getElem? (i := 574) (by decide +kernel)) rfl⟩
theorem md_X3_shared : mm_MD yX3_shared cX3_shared 3 (some .int) 1 := ⟨mm_in (List.mem_of_getElem? (i := 638) (by decide +kernel)) rfl, mm_in (List.mem_of_getElem? (i := 116) (by decide +kernel)) rfl, by decide +kernel, by decide +kernel, by decide +kernel⟩
theorem mv_X3_shared : mm_MV yX3_shared := ⟨mm_in (List.mem_of_getElem? (i := 636) (by decide +kernel)) rfl, mm_in (List.mem_of_getElem? (i := 637) (by decide +kernel)) rfl⟩
theorem md_X3_signsFrom : mm_MD yX3_signsFrom cX3_signsFrom 2 (some .int) 1 := ⟨mm_in (List.mem_of_getElem? (i := 618) (by decide +kernel)) rfl, mm_in (List.mem_of_getElem? (i := 116) (by decide +kernel)) rfl, by decide +kernel, by decide +kernel, by decide +kernel⟩
theorem mv_X3_signsFrom : mm_MV yX3_signsFrom := ⟨mm_in (List.mem_of_getElem? (i := 616) (by decide +kernel)) rfl, mm_in (List.mem_of_getElem? (i := 617) (by decide +kernel)) rfl⟩
theorem md_X3_wordHits : mm_MD yX3_wordHits cX3_wordHits 4 (some .int) 2 := ⟨mm_in (List.mem_of_getElem? (i := 675) (by decide +kernel)) rfl, mm_in (List.mem_of_getElem? (i := 116) (by decide +kernel)) rfl, by decide +kernel, by decide +kernel, by decide +kernel⟩
theorem mv_X3_wordHits : mm_MV yX3_wordHits := ⟨mm_in (List.mem_of_getElem? (i := 673) (by decide +kernel)) rfl, mm_in (List.mem_of_getElem? (i := 674) (by decide +kernel)) rfl⟩
theorem md_X5_add : mm_MD yX5_add cX5_add 2 none 1 := ⟨mm_in (List.mem_of_getElem? (i := 471) (by decide +kernel)) rfl, mm_in (List.mem_of_getElem? (i := 113) (by decide +kernel)) rfl, by decide +kernel, by decide +kernel, by decide +kernel⟩
theorem mv_X5_add : mm_MV yX5_add := ⟨mm_in (List.mem_of_getElem? (i := 469) (by decide +kernel)) rfl, mm_in (List.mem_of_getElem? (i := 470) (by decide +kernel)) rfl⟩
theorem md_X5_at : mm_MD yX5_at cX5_at 2 (some .int) 1 := ⟨mm_in (List.mem_of_getElem? (i := 604) (by decide +kernel)) rfl, mm_in (List.mem_of_getElem? (i := 113) (by decide +kernel)) rfl, by decide +kernel, by decide +kernel, by decide +kernel⟩
theorem mv_X5_at : mm_MV yX5_at := ⟨mm_in (List.mem_of_getElem? (i := 602) (by decide +kernel)) rfl, mm_in (List.mem_of_getElem? (i := 603) (by decide +kernel)) rfl⟩
theorem md_X5_compare : mm_MD yX5_compare cX5_compare 10 (some .int) 4 := ⟨mm_in (List.mem_of_getElem? (i := 583) (by decide +kernel)) rfl, mm_in (List.mem_of_getElem? (i := 113) (by decide +kernel)) rfl, by decide +kernel, by decide +kernel, by decide +kernel⟩
theorem mv_X5_compare : mm_MV yX5_compare := ⟨mm_in (List.mem_of_getElem? (i := 581) (by decide +kernel)) rfl, mm_in (List.mem_of_getElem? (i := 582) (by decide +kernel)) rfl⟩
theorem md_X5_copyFrom : mm_MD yX5_copyFrom cX5_copyFrom 2 none 1 := ⟨mm_in (List.mem_of_getElem? (i := 523) (by decide +kernel)) rfl, mm_in (List.mem_of_getElem? (i := 113) (by decide +kernel)) rfl, by decide +kernel, by decide +kernel, by decide +kernel⟩
theorem mv_X5_copyFrom : mm_MV yX5_copyFrom := ⟨mm_in (List.mem_of_getElem? (i := 521) (by decide +kernel)) rfl, mm_in (List.mem_of_getElem? (i := 522) (by decide +kernel)) rfl⟩
theorem md_X5_has : mm_MD yX5_has cX5_has 4 (some .boolean) 2 := ⟨mm_in (List.mem_of_getElem? (i := 563) (by decide +kernel)) rfl, mm_in (List.mem_of_getElem? (i := 113) (by decide +kernel)) rfl, by decide +kernel, by decide +kernel, by decide +kernel⟩
theorem mv_X5_has : mm_MV yX5_has := ⟨mm_in (List.mem_of_getElem? (i := 561) (by decide +kernel)) rfl, mm_in (List.mem_of_getElem? (i := 562) (by decide +kernel)) rfl⟩
theorem md_X5_hits : mm_MD yX5_hits cX5_hits 4 (some .int) 1 := ⟨mm_in (List.mem_of_getElem? (i := 763) (by decide +kernel)) rfl, mm_in (List.mem_of_getElem? (i := 113) (by decide +kernel)) rfl, by decide +kernel, by decide +kernel, by decide +kernel⟩
theorem mv_X5_hits : mm_MV yX5_hits := ⟨mm_in (List.mem_of_getElem? (i := 761) (by decide +kernel)) rfl, mm_in (List.mem_of_getElem? (i := 762) (by decide +kernel)) rfl⟩
theorem md_X5_isLike : mm_MD yX5_isLike cX5_isLike 2 (some .boolean) 1 := ⟨mm_in (List.mem_of_getElem? (i := 713) (by decide +kernel)) rfl, mm_in (List.mem_of_getElem? (i := 113) (by decide +kernel)) rfl, by decide +kernel, by decide +kernel, by decide +kernel⟩
theorem mv_X5_isLike : mm_MV yX5_isLike := ⟨mm_in (List.mem_of_getElem? (i := 711) (by decide +kernel)) rfl, mm_in (List.mem_of_getElem? (i := 712) (by decide +kernel)) rfl⟩
theorem md_X5_shared : mm_MD yX5_shared cX5_shared 5 (some .int) 3 := ⟨mm_in (List.mem_of_getElem? (i := 643) (by decide +kernel)) rfl, mm_in (List.mem_of_getElem? (i := 113) (by decide +kernel)) rfl, by decide +kernel, by decide +kernel, by decide +kernel⟩
theorem mv_X5_shared : mm_MV yX5_shared := ⟨mm_in (List.mem_of_getElem? (i := 641) (by decide +kernel)) rfl, mm_in (List.mem_of_getElem? (i := 642) (by decide +kernel)) rfl⟩
theorem md_X6_allSigns : mm_MD yX6_allSigns cX6_allSigns 3 (some .int) 0 := ⟨mm_in (List.mem_of_getElem? (i := 592) (by decide +kernel)) rfl, mm_in (List.mem_of_getElem? (i := 110) (by decide +kernel)) rfl, by decide +kernel, by decide +kernel, by decide +kernel⟩
theorem mv_X6_allSigns : mm_MV yX6_allSigns := ⟨mm_in (List.mem_of_getElem? (i := 590) (by decide +kernel)) rfl, mm_in (List.mem_of_getElem? (i := 591) (by decide +kernel)) rfl⟩
theorem md_X6_carryOut : mm_MD yX6_carryOut cX6_carryOut 3 (some .int) 1 := ⟨mm_in (List.mem_of_getElem? (i := 741) (by decide +kernel)) rfl, mm_in (List.mem_of_getElem? (i := 110) (by decide +kernel)) rfl, by decide +kernel, by decide +kernel, by decide +kernel⟩
theorem mv_X6_carryOut : mm_MV yX6_carryOut := ⟨mm_in (List.mem_of_getElem? (i := 739) (by decide +kernel)) rfl, mm_in (List.mem_of_getElem? (i := 740) (by decide +kernel)) rfl⟩
theorem md_X6_change : mm_MD yX6_change cX6_change 4 (some .int) 2 := ⟨mm_in (List.mem_of_getElem? (i := 751) (by decide +kernel)) rfl, mm_in (List.mem_of_getElem? (i := 110) (by decide +kernel)) rfl, by decide +kernel, by decide +kernel, by decide +kernel⟩
theorem mv_X6_change : mm_MV yX6_change := ⟨mm_in (List.mem_of_getElem? (i := 750) (by decide +kernel)) rfl, mm_in (List.mem_of_getElem? (i := 18) (by decide +kernel)) rfl⟩
theorem md_X6_close : mm_MD yX6_close cX6_close 4 none 1 := ⟨mm_in (List.mem_of_getElem? (i := 747) (by decide +kernel)) rfl, mm_in (List.mem_of_getElem? (i := 110) (by decide +kernel)) rfl, by decide +kernel, by decide +kernel, by decide +kernel⟩
theorem mv_X6_close : mm_MV yX6_close := ⟨mm_in (List.mem_of_getElem? (i := 746) (by decide +kernel)) rfl, mm_in (List.mem_of_getElem? (i := 17) (by decide +kernel)) rfl⟩
theorem md_X6_copyFrom : mm_MD yX6_copyFrom cX6_copyFrom 3 none 1 := ⟨mm_in (List.mem_of_getElem? (i := 515) (by decide +kernel)) rfl, mm_in (List.mem_of_getElem? (i := 110) (by decide +kernel)) rfl, by decide +kernel, by decide +kernel, by decide +kernel⟩
theorem mv_X6_copyFrom : mm_MV yX6_copyFrom := ⟨mm_in (List.mem_of_getElem? (i := 513) (by decide +kernel)) rfl, mm_in (List.mem_of_getElem? (i := 514) (by decide +kernel)) rfl⟩
theorem md_X6_cursorRefusal : mm_MD yX6_cursorRefusal cX6_cursorRefusal 3 (some .int) 1 := ⟨mm_in (List.mem_of_getElem? (i := 726) (by decide +kernel)) rfl, mm_in (List.mem_of_getElem? (i := 110) (by decide +kernel)) rfl, by decide +kernel, by decide +kernel, by decide +kernel⟩
theorem mv_X6_cursorRefusal : mm_MV yX6_cursorRefusal := ⟨mm_in (List.mem_of_getElem? (i := 725) (by decide +kernel)) rfl, mm_in (List.mem_of_getElem? (i := 16) (by decide +kernel)) rfl⟩
theorem md_X6_cut : mm_MD yX6_cut cX6_cut 6 (some .int) 2 := ⟨mm_in (List.mem_of_getElem? (i := 791) (by decide +kernel)) rfl, mm_in (List.mem_of_getElem? (i := 110) (by decide +kernel)) rfl, by decide +kernel, by decide +kernel, by decide +kernel⟩
theorem mv_X6_cut : mm_MV yX6_cut := ⟨mm_in (List.mem_of_getElem? (i := 790) (by decide +kernel)) rfl, mm_in (List.mem_of_getElem? (i := 22) (by decide +kernel)) rfl⟩
theorem md_X6_empty : mm_MD yX6_empty cX6_empty 2 none 0 := ⟨mm_in (List.mem_of_getElem? (i := 448) (by decide +kernel)) rfl, mm_in (List.mem_of_getElem? (i := 110) (by decide +kernel)) rfl, by decide +kernel, by decide +kernel, by decide +kernel⟩
theorem mv_X6_empty : mm_MV yX6_empty := ⟨mm_in (List.mem_of_getElem? (i := 446) (by decide +kernel)) rfl, mm_in (List.mem_of_getElem? (i := 447) (by decide +kernel)) rfl⟩
theorem md_X6_hasCursor : mm_MD yX6_hasCursor cX6_hasCursor 2 (some .boolean) 1 := ⟨mm_in (List.mem_of_getElem? (i := 730) (by decide +kernel)) rfl, mm_in (List.mem_of_getElem? (i := 110) (by decide +kernel)) rfl, by decide +kernel, by decide +kernel, by decide +kernel⟩
theorem mv_X6_hasCursor : mm_MV yX6_hasCursor := ⟨mm_in (List.mem_of_getElem? (i := 728) (by decide +kernel)) rfl, mm_in (List.mem_of_getElem? (i := 729) (by decide +kernel)) rfl⟩
theorem md_X6_hasLine : mm_MD yX6_hasLine cX6_hasLine 2 (some .boolean) 1 := ⟨mm_in (List.mem_of_getElem? (i := 600) (by decide +kernel)) rfl, mm_in (List.mem_of_getElem? (i := 110) (by decide +kernel)) rfl, by decide +kernel, by decide +kernel, by decide +kernel⟩
theorem mv_X6_hasLine : mm_MV yX6_hasLine := ⟨mm_in (List.mem_of_getElem? (i := 598) (by decide +kernel)) rfl, mm_in (List.mem_of_getElem? (i := 599) (by decide +kernel)) rfl⟩
theorem md_X6_hits : mm_MD yX6_hits cX6_hits 4 (some .int) 1 := ⟨mm_in (List.mem_of_getElem? (i := 759) (by decide +kernel)) rfl, mm_in (List.mem_of_getElem? (i := 110) (by decide +kernel)) rfl, by decide +kernel, by decide +kernel, by decide +kernel⟩
theorem mv_X6_hits : mm_MV yX6_hits := ⟨mm_in (List.mem_of_getElem? (i := 757) (by decide +kernel)) rfl, mm_in (List.mem_of_getElem? (i := 758) (by decide +kernel)) rfl⟩
theorem md_X6_joinRefusal : mm_MD yX6_joinRefusal cX6_joinRefusal 2 (some .int) 1 := ⟨mm_in (List.mem_of_getElem? (i := 722) (by decide +kernel)) rfl, mm_in (List.mem_of_getElem? (i := 110) (by decide +kernel)) rfl, by decide +kernel, by decide +kernel, by decide +kernel⟩
theorem mv_X6_joinRefusal : mm_MV yX6_joinRefusal := ⟨mm_in (List.mem_of_getElem? (i := 721) (by decide +kernel)) rfl, mm_in (List.mem_of_getElem? (i := 15) (by decide +kernel)) rfl⟩
theorem md_X6_laidBits : mm_MD yX6_laidBits cX6_laidBits 3 (some .int) 0 := ⟨mm_in (List.mem_of_getElem? (i := 946) (by decide +kernel)) rfl, mm_in (List.mem_of_getElem? (i := 110) (by decide +kernel)) rfl, by decide +kernel, by decide +kernel, by decide +kernel⟩
theorem mv_X6_laidBits : mm_MV yX6_laidBits := ⟨mm_in (List.mem_of_getElem? (i := 944) (by decide +kernel)) rfl, mm_in (List.mem_of_getElem? (i := 945) (by decide +kernel)) rfl⟩
theorem md_X6_left : mm_MD yX6_left cX6_left 5 (some .int) 1 := ⟨mm_in (List.mem_of_getElem? (i := 787) (by decide +kernel)) rfl, mm_in (List.mem_of_getElem? (i := 110) (by decide +kernel)) rfl, by decide +kernel, by decide +kernel, by decide +kernel⟩
theorem mv_X6_left : mm_MV yX6_left := ⟨mm_in (List.mem_of_getElem? (i := 785) (by decide +kernel)) rfl, mm_in (List.mem_of_getElem? (i := 786) (by decide +kernel)) rfl⟩
theorem md_X6_longestLine : mm_MD yX6_longestLine cX6_longestLine 3 (some .int) 0 := ⟨mm_in (List.mem_of_getElem? (i := 924) (by decide +kernel)) rfl, mm_in (List.mem_of_getElem? (i := 110) (by decide +kernel)) rfl, by decide +kernel, by decide +kernel, by decide +kernel⟩
theorem mv_X6_longestLine : mm_MV yX6_longestLine := ⟨mm_in (List.mem_of_getElem? (i := 922) (by decide +kernel)) rfl, mm_in (List.mem_of_getElem? (i := 923) (by decide +kernel)) rfl⟩
theorem md_X6_offer : mm_MD yX6_offer cX6_offer 8 (some .int) 4 := ⟨mm_in (List.mem_of_getElem? (i := 777) (by decide +kernel)) rfl, mm_in (List.mem_of_getElem? (i := 110) (by decide +kernel)) rfl, by decide +kernel, by decide +kernel, by decide +kernel⟩
theorem mv_X6_offer : mm_MV yX6_offer := ⟨mm_in (List.mem_of_getElem? (i := 776) (by decide +kernel)) rfl, mm_in (List.mem_of_getElem? (i := 21) (by decide +kernel)) rfl⟩
theorem md_X6_open : mm_MD yX6_open cX6_open 4 (some (.object "KwicStore$Line")) 1 := ⟨mm_in (List.mem_of_getElem? (i := 456) (by decide +kernel)) rfl, mm_in (List.mem_of_getElem? (i := 110) (by decide +kernel)) rfl, by decide +kernel, by decide +kernel, by decide +kernel⟩
theorem mv_X6_open : mm_MV yX6_open := ⟨mm_in (List.mem_of_getElem? (i := 454) (by decide +kernel)) rfl, mm_in (List.mem_of_getElem? (i := 455) (by decide +kernel)) rfl⟩
theorem md_X6_refusal : mm_MD yX6_refusal cX6_refusal 3 (some .int) 1 := ⟨mm_in (List.mem_of_getElem? (i := 708) (by decide +kernel)) rfl, mm_in (List.mem_of_getElem? (i := 110) (by decide +kernel)) rfl, by decide +kernel, by decide +kernel, by decide +kernel⟩
theorem mv_X6_refusal : mm_MV yX6_refusal := ⟨mm_in (List.mem_of_getElem? (i := 706) (by decide +kernel)) rfl, mm_in (List.mem_of_getElem? (i := 707) (by decide +kernel)) rfl⟩
theorem md_X6_risingLines : mm_MD yX6_risingLines cX6_risingLines 2 (some .int) 0 := ⟨mm_in (List.mem_of_getElem? (i := 942) (by decide +kernel)) rfl, mm_in (List.mem_of_getElem? (i := 110) (by decide +kernel)) rfl, by decide +kernel, by decide +kernel, by decide +kernel⟩
theorem mv_X6_risingLines : mm_MV yX6_risingLines := ⟨mm_in (List.mem_of_getElem? (i := 940) (by decide +kernel)) rfl, mm_in (List.mem_of_getElem? (i := 941) (by decide +kernel)) rfl⟩
theorem md_X6_shortestLine : mm_MD yX6_shortestLine cX6_shortestLine 3 (some .int) 0 := ⟨mm_in (List.mem_of_getElem? (i := 928) (by decide +kernel)) rfl, mm_in (List.mem_of_getElem? (i := 110) (by decide +kernel)) rfl, by decide +kernel, by decide +kernel, by decide +kernel⟩
theorem mv_X6_shortestLine : mm_MV yX6_shortestLine := ⟨mm_in (List.mem_of_getElem? (i := 926) (by decide +kernel)) rfl, mm_in (List.mem_of_getElem? (i := 927) (by decide +kernel)) rfl⟩
theorem md_X6_splitRefusal : mm_MD yX6_splitRefusal cX6_splitRefusal 3 (some .int) 2 := ⟨mm_in (List.mem_of_getElem? (i := 718) (by decide +kernel)) rfl, mm_in (List.mem_of_getElem? (i := 110) (by decide +kernel)) rfl, by decide +kernel, by decide +kernel, by decide +kernel⟩
theorem mv_X6_splitRefusal : mm_MV yX6_splitRefusal := ⟨mm_in (List.mem_of_getElem? (i := 717) (by decide +kernel)) rfl, mm_in (List.mem_of_getElem? (i := 14) (by decide +kernel)) rfl⟩
theorem md_X6_start : mm_MD yX6_start cX6_start 3 (some .int) 2 := ⟨mm_in (List.mem_of_getElem? (i := 755) (by decide +kernel)) rfl, mm_in (List.mem_of_getElem? (i := 110) (by decide +kernel)) rfl, by decide +kernel, by decide +kernel, by decide +kernel⟩
theorem mv_X6_start : mm_MV yX6_start := ⟨mm_in (List.mem_of_getElem? (i := 754) (by decide +kernel)) rfl, mm_in (List.mem_of_getElem? (i := 19) (by decide +kernel)) rfl⟩
theorem md_X6_subject : mm_MD yX6_subject cX6_subject 2 (some .int) 1 := ⟨mm_in (List.mem_of_getElem? (i := 737) (by decide +kernel)) rfl, mm_in (List.mem_of_getElem? (i := 110) (by decide +kernel)) rfl, by decide +kernel, by decide +kernel, by decide +kernel⟩
theorem mv_X6_subject : mm_MV yX6_subject := ⟨mm_in (List.mem_of_getElem? (i := 735) (by decide +kernel)) rfl, mm_in (List.mem_of_getElem? (i := 736) (by decide +kernel)) rfl⟩
theorem md_X6_turn : mm_MD yX6_turn cX6_turn 5 (some .int) 1 := ⟨mm_in (List.mem_of_getElem? (i := 767) (by decide +kernel)) rfl, mm_in (List.mem_of_getElem? (i := 110) (by decide +kernel)) rfl, by decide +kernel, by decide +kernel, by decide +kernel⟩
theorem mv_X6_turn : mm_MV yX6_turn := ⟨mm_in (List.mem_of_getElem? (i := 766) (by decide +kernel)) rfl, mm_in (List.mem_of_getElem? (i := 20) (by decide +kernel)) rfl⟩
theorem md_X6_unite : mm_MD yX6_unite cX6_unite 5 (some .int) 1 := ⟨mm_in (List.mem_of_getElem? (i := 797) (by decide +kernel)) rfl, mm_in (List.mem_of_getElem? (i := 110) (by decide +kernel)) rfl, by decide +kernel, by decide +kernel, by decide +kernel⟩
theorem mv_X6_unite : mm_MV yX6_unite := ⟨mm_in (List.mem_of_getElem? (i := 796) (by decide +kernel)) rfl, mm_in (List.mem_of_getElem? (i := 23) (by decide +kernel)) rfl⟩
theorem md_X6_withinBits : mm_MD yX6_withinBits cX6_withinBits 4 (some .int) 0 := ⟨mm_in (List.mem_of_getElem? (i := 950) (by decide +kernel)) rfl, mm_in (List.mem_of_getElem? (i := 110) (by decide +kernel)) rfl, by decide +kernel, by decide +kernel, by decide +kernel⟩
theorem mv_X6_withinBits : mm_MV yX6_withinBits := ⟨mm_in (List.mem_of_getElem? (i := 948) (by decide +kernel)) rfl, mm_in (List.mem_of_getElem? (i := 949) (by decide +kernel)) rfl⟩
theorem md_X7_tell : mm_MD yX7_tell cX7_tell 4 none 3 := ⟨mm_in (List.mem_of_getElem? (i := 491) (by decide +kernel)) rfl, mm_in (List.mem_of_getElem? (i := 115) (by decide +kernel)) rfl, by decide +kernel, by decide +kernel, by decide +kernel⟩
theorem mv_X7_tell : mm_MV yX7_tell := ⟨mm_in (List.mem_of_getElem? (i := 489) (by decide +kernel)) rfl, mm_in (List.mem_of_getElem? (i := 490) (by decide +kernel)) rfl⟩
theorem md_X8_append : mm_MD yX8_append cX8_append 4 (some .boolean) 1 := ⟨mm_in (List.mem_of_getElem? (i := 432) (by decide +kernel)) rfl, mm_in (List.mem_of_getElem? (i := 109) (by decide +kernel)) rfl, by decide +kernel, by decide +kernel, by decide +kernel⟩
theorem mv_X8_append : mm_MV yX8_append := ⟨mm_in (List.mem_of_getElem? (i := 430) (by decide +kernel)) rfl, mm_in (List.mem_of_getElem? (i := 431) (by decide +kernel)) rfl⟩
theorem md_X8_isSign : mm_MD yX8_isSign cX8_isSign 1 (some .boolean) 1 := ⟨mm_in (List.mem_of_getElem? (i := 467) (by decide +kernel)) rfl, mm_in (List.mem_of_getElem? (i := 109) (by decide +kernel)) rfl, by decide +kernel, by decide +kernel, by decide +kernel⟩
theorem mv_X8_isSign : Cond.static yX8_isSign ∈ mm_ws := mm_in (List.mem_of_getElem? (i := 466) (by decide +kernel)) rfl
theorem md_X8_peek : mm_MD yX8_peek cX8_peek 1 (some .int) 0 := ⟨mm_in (List.mem_of_getElem? (i := 464) (by decide +kernel)) rfl, mm_in (List.mem_of_getElem? (i := 109) (by decide +kernel)) rfl, by decide +kernel, by decide +kernel, by decide +kernel⟩
theorem mv_X8_peek : mm_MV yX8_peek := ⟨mm_in (List.mem_of_getElem? (i := 463) (by decide +kernel)) rfl, mm_in (List.mem_of_getElem? (i := 1) (by decide +kernel)) rfl⟩
theorem md_X8_peekDigit : mm_MD yX8_peekDigit cX8_peekDigit 1 (some .boolean) 0 := ⟨mm_in (List.mem_of_getElem? (i := 495) (by decide +kernel)) rfl, mm_in (List.mem_of_getElem? (i := 109) (by decide +kernel)) rfl, by decide +kernel, by decide +kernel, by decide +kernel⟩
theorem mv_X8_peekDigit : mm_MV yX8_peekDigit := ⟨mm_in (List.mem_of_getElem? (i := 494) (by decide +kernel)) rfl, mm_in (List.mem_of_getElem? (i := 4) (by decide +kernel)) rfl⟩
theorem md_X8_readDigit : mm_MD yX8_readDigit cX8_readDigit 2 (some .int) 0 := ⟨mm_in (List.mem_of_getElem? (i := 499) (by decide +kernel)) rfl, mm_in (List.mem_of_getElem? (i := 109) (by decide +kernel)) rfl, by decide +kernel, by decide +kernel, by decide +kernel⟩
theorem mv_X8_readDigit : mm_MV yX8_readDigit := ⟨mm_in (List.mem_of_getElem? (i := 498) (by decide +kernel)) rfl, mm_in (List.mem_of_getElem? (i := 5) (by decide +kernel)) rfl⟩
theorem md_X8_readSigns : mm_MD yX8_readSigns cX8_readSigns 4 (some .boolean) 2 := ⟨mm_in (List.mem_of_getElem? (i := 460) (by decide +kernel)) rfl, mm_in (List.mem_of_getElem? (i := 109) (by decide +kernel)) rfl, by decide +kernel, by decide +kernel, by decide +kernel⟩
theorem mv_X8_readSigns : mm_MV yX8_readSigns := ⟨mm_in (List.mem_of_getElem? (i := 459) (by decide +kernel)) rfl, mm_in (List.mem_of_getElem? (i := 0) (by decide +kernel)) rfl⟩
theorem md_X8_readStep : mm_MD yX8_readStep cX8_readStep 3 (some .boolean) 1 := ⟨mm_in (List.mem_of_getElem? (i := 483) (by decide +kernel)) rfl, mm_in (List.mem_of_getElem? (i := 109) (by decide +kernel)) rfl, by decide +kernel, by decide +kernel, by decide +kernel⟩
theorem mv_X8_readStep : mm_MV yX8_readStep := ⟨mm_in (List.mem_of_getElem? (i := 482) (by decide +kernel)) rfl, mm_in (List.mem_of_getElem? (i := 3) (by decide +kernel)) rfl⟩
theorem md_X8_rowFault : mm_MD yX8_rowFault cX8_rowFault 3 (some .int) 2 := ⟨mm_in (List.mem_of_getElem? (i := 503) (by decide +kernel)) rfl, mm_in (List.mem_of_getElem? (i := 109) (by decide +kernel)) rfl, by decide +kernel, by decide +kernel, by decide +kernel⟩
theorem mv_X8_rowFault : mm_MV yX8_rowFault := ⟨mm_in (List.mem_of_getElem? (i := 501) (by decide +kernel)) rfl, mm_in (List.mem_of_getElem? (i := 502) (by decide +kernel)) rfl⟩
theorem md_X8_scriptFault : mm_MD yX8_scriptFault cX8_scriptFault 3 (some .int) 1 := ⟨mm_in (List.mem_of_getElem? (i := 479) (by decide +kernel)) rfl, mm_in (List.mem_of_getElem? (i := 109) (by decide +kernel)) rfl, by decide +kernel, by decide +kernel, by decide +kernel⟩
theorem mv_X8_scriptFault : mm_MV yX8_scriptFault := ⟨mm_in (List.mem_of_getElem? (i := 477) (by decide +kernel)) rfl, mm_in (List.mem_of_getElem? (i := 478) (by decide +kernel)) rfl⟩
theorem md_X8_skip : mm_MD yX8_skip cX8_skip 2 (some .boolean) 1 := ⟨mm_in (List.mem_of_getElem? (i := 475) (by decide +kernel)) rfl, mm_in (List.mem_of_getElem? (i := 109) (by decide +kernel)) rfl, by decide +kernel, by decide +kernel, by decide +kernel⟩
theorem mv_X8_skip : mm_MV yX8_skip := ⟨mm_in (List.mem_of_getElem? (i := 474) (by decide +kernel)) rfl, mm_in (List.mem_of_getElem? (i := 2) (by decide +kernel)) rfl⟩
theorem md_X8_sortOf : mm_MD yX8_sortOf cX8_sortOf 1 (some .int) 1 := ⟨mm_in (List.mem_of_getElem? (i := 486) (by decide +kernel)) rfl, mm_in (List.mem_of_getElem? (i := 109) (by decide +kernel)) rfl, by decide +kernel, by decide +kernel, by decide +kernel⟩
theorem mv_X8_sortOf : Cond.static yX8_sortOf ∈ mm_ws := mm_in (List.mem_of_getElem? (i := 485) (by decide +kernel)) rfl
theorem md_X8_storeFault : mm_MD yX8_storeFault cX8_storeFault 3 (some .int) 1 := ⟨mm_in (List.mem_of_getElem? (i := 444) (by decide +kernel)) rfl, mm_in (List.mem_of_getElem? (i := 109) (by decide +kernel)) rfl, by decide +kernel, by decide +kernel, by decide +kernel⟩
theorem mv_X8_storeFault : mm_MV yX8_storeFault := ⟨mm_in (List.mem_of_getElem? (i := 442) (by decide +kernel)) rfl, mm_in (List.mem_of_getElem? (i := 443) (by decide +kernel)) rfl⟩
theorem md_X9_askWithTape : mm_MD yX9_askWithTape cX9_askWithTape 3 none 2 := ⟨mm_in (List.mem_of_getElem? (i := 698) (by decide +kernel)) rfl, mm_in (List.mem_of_getElem? (i := 108) (by decide +kernel)) rfl, by decide +kernel, by decide +kernel, by decide +kernel⟩
theorem mv_X9_askWithTape : mm_MV yX9_askWithTape := ⟨mm_in (List.mem_of_getElem? (i := 697) (by decide +kernel)) rfl, mm_in (List.mem_of_getElem? (i := 12) (by decide +kernel)) rfl⟩
theorem md_X9_attempt : mm_MD yX9_attempt cX9_attempt 6 (some .int) 2 := ⟨mm_in (List.mem_of_getElem? (i := 704) (by decide +kernel)) rfl, mm_in (List.mem_of_getElem? (i := 108) (by decide +kernel)) rfl, by decide +kernel, by decide +kernel, by decide +kernel⟩
theorem mv_X9_attempt : mm_MV yX9_attempt := ⟨mm_in (List.mem_of_getElem? (i := 703) (by decide +kernel)) rfl, mm_in (List.mem_of_getElem? (i := 13) (by decide +kernel)) rfl⟩
theorem md_X9_draw : mm_MD yX9_draw cX9_draw 2 (some .int) 1 := ⟨mm_in (List.mem_of_getElem? (i := 859) (by decide +kernel)) rfl, mm_in (List.mem_of_getElem? (i := 108) (by decide +kernel)) rfl, by decide +kernel, by decide +kernel, by decide +kernel⟩
theorem mv_X9_draw : mm_MV yX9_draw := ⟨mm_in (List.mem_of_getElem? (i := 858) (by decide +kernel)) rfl, mm_in (List.mem_of_getElem? (i := 26) (by decide +kernel)) rfl⟩
theorem md_X9_drawAct : mm_MD yX9_drawAct cX9_drawAct 3 none 0 := ⟨mm_in (List.mem_of_getElem? (i := 855) (by decide +kernel)) rfl, mm_in (List.mem_of_getElem? (i := 108) (by decide +kernel)) rfl, by decide +kernel, by decide +kernel, by decide +kernel⟩
theorem mv_X9_drawAct : mm_MV yX9_drawAct := ⟨mm_in (List.mem_of_getElem? (i := 854) (by decide +kernel)) rfl, mm_in (List.mem_of_getElem? (i := 25) (by decide +kernel)) rfl⟩
theorem md_X9_drawSigns : mm_MD yX9_drawSigns cX9_drawSigns 3 none 0 := ⟨mm_in (List.mem_of_getElem? (i := 865) (by decide +kernel)) rfl, mm_in (List.mem_of_getElem? (i := 108) (by decide +kernel)) rfl, by decide +kernel, by decide +kernel, by decide +kernel⟩
theorem mv_X9_drawSigns : mm_MV yX9_drawSigns := ⟨mm_in (List.mem_of_getElem? (i := 864) (by decide +kernel)) rfl, mm_in (List.mem_of_getElem? (i := 27) (by decide +kernel)) rfl⟩
theorem md_X9_forgetRankings : mm_MD yX9_forgetRankings cX9_forgetRankings 1 none 0 := ⟨mm_in (List.mem_of_getElem? (i := 542) (by decide +kernel)) rfl, mm_in (List.mem_of_getElem? (i := 108) (by decide +kernel)) rfl, by decide +kernel, by decide +kernel, by decide +kernel⟩
theorem mv_X9_forgetRankings : mm_MV yX9_forgetRankings := ⟨mm_in (List.mem_of_getElem? (i := 541) (by decide +kernel)) rfl, mm_in (List.mem_of_getElem? (i := 7) (by decide +kernel)) rfl⟩
theorem md_X9_hasScript : mm_MD yX9_hasScript cX9_hasScript 2 (some .boolean) 1 := ⟨mm_in (List.mem_of_getElem? (i := 908) (by decide +kernel)) rfl, mm_in (List.mem_of_getElem? (i := 108) (by decide +kernel)) rfl, by decide +kernel, by decide +kernel, by decide +kernel⟩
theorem mv_X9_hasScript : mm_MV yX9_hasScript := ⟨mm_in (List.mem_of_getElem? (i := 907) (by decide +kernel)) rfl, mm_in (List.mem_of_getElem? (i := 28) (by decide +kernel)) rfl⟩
theorem md_X9_rankedHits : mm_MD yX9_rankedHits cX9_rankedHits 1 (some (.object "KwicStore$Ranking")) 0 := ⟨mm_in (List.mem_of_getElem? (i := 555) (by decide +kernel)) rfl, mm_in (List.mem_of_getElem? (i := 108) (by decide +kernel)) rfl, by decide +kernel, by decide +kernel, by decide +kernel⟩
theorem mv_X9_rankedHits : mm_MV yX9_rankedHits := ⟨mm_in (List.mem_of_getElem? (i := 554) (by decide +kernel)) rfl, mm_in (List.mem_of_getElem? (i := 9) (by decide +kernel)) rfl⟩
theorem md_X9_rankedPlaces : mm_MD yX9_rankedPlaces cX9_rankedPlaces 1 (some (.object "KwicStore$Ranking")) 0 := ⟨mm_in (List.mem_of_getElem? (i := 634) (by decide +kernel)) rfl, mm_in (List.mem_of_getElem? (i := 108) (by decide +kernel)) rfl, by decide +kernel, by decide +kernel, by decide +kernel⟩
theorem mv_X9_rankedPlaces : mm_MV yX9_rankedPlaces := ⟨mm_in (List.mem_of_getElem? (i := 633) (by decide +kernel)) rfl, mm_in (List.mem_of_getElem? (i := 11) (by decide +kernel)) rfl⟩
theorem md_X9_signIndex : mm_MD yX9_signIndex cX9_signIndex 1 (some .int) 1 := ⟨mm_in (List.mem_of_getElem? (i := 690) (by decide +kernel)) rfl, mm_in (List.mem_of_getElem? (i := 108) (by decide +kernel)) rfl, by decide +kernel, by decide +kernel, by decide +kernel⟩
theorem mv_X9_signIndex : Cond.static yX9_signIndex ∈ mm_ws := mm_in (List.mem_of_getElem? (i := 689) (by decide +kernel)) rfl
theorem md_X9_spendTape : mm_MD yX9_spendTape cX9_spendTape 2 (some .int) 1 := ⟨mm_in (List.mem_of_getElem? (i := 805) (by decide +kernel)) rfl, mm_in (List.mem_of_getElem? (i := 108) (by decide +kernel)) rfl, by decide +kernel, by decide +kernel, by decide +kernel⟩
theorem mv_X9_spendTape : mm_MV yX9_spendTape := ⟨mm_in (List.mem_of_getElem? (i := 804) (by decide +kernel)) rfl, mm_in (List.mem_of_getElem? (i := 24) (by decide +kernel)) rfl⟩
theorem md_X9_takeScript : mm_MD yX9_takeScript cX9_takeScript 1 (some .int) 0 := ⟨mm_in (List.mem_of_getElem? (i := 546) (by decide +kernel)) rfl, mm_in (List.mem_of_getElem? (i := 108) (by decide +kernel)) rfl, by decide +kernel, by decide +kernel, by decide +kernel⟩
theorem mv_X9_takeScript : mm_MV yX9_takeScript := ⟨mm_in (List.mem_of_getElem? (i := 545) (by decide +kernel)) rfl, mm_in (List.mem_of_getElem? (i := 8) (by decide +kernel)) rfl⟩
theorem md_X9_takeStore : mm_MD yX9_takeStore cX9_takeStore 1 (some .int) 0 := ⟨mm_in (List.mem_of_getElem? (i := 511) (by decide +kernel)) rfl, mm_in (List.mem_of_getElem? (i := 108) (by decide +kernel)) rfl, by decide +kernel, by decide +kernel, by decide +kernel⟩
theorem mv_X9_takeStore : mm_MV yX9_takeStore := ⟨mm_in (List.mem_of_getElem? (i := 510) (by decide +kernel)) rfl, mm_in (List.mem_of_getElem? (i := 6) (by decide +kernel)) rfl⟩
theorem md_X9_unlikeSigns : mm_MD yX9_unlikeSigns cX9_unlikeSigns 5 (some .int) 0 := ⟨mm_in (List.mem_of_getElem? (i := 932) (by decide +kernel)) rfl, mm_in (List.mem_of_getElem? (i := 108) (by decide +kernel)) rfl, by decide +kernel, by decide +kernel, by decide +kernel⟩
theorem mv_X9_unlikeSigns : mm_MV yX9_unlikeSigns := ⟨mm_in (List.mem_of_getElem? (i := 931) (by decide +kernel)) rfl, mm_in (List.mem_of_getElem? (i := 29) (by decide +kernel)) rfl⟩
theorem fs_X9_259 : Cond.fieldLink RX9 259 RX9 "DRAWN_SIGNS" "[I" ∈ mm_ws := mm_in (List.mem_of_getElem? (i := 866) (by decide +kernel)) rfl
