/-! field types, by number -/
theorem il_0_0 : zz_ir 0 0 = true := by decide +kernel
theorem nl_0_0 (b : Nat) : narrow (zz_ty 0 0) (.ref b) = .ref b := by rw [show zz_ty 0 0 = (parseFieldDescriptor "LTurnipPages$Text;").getD .int by decide +kernel]; rfl
theorem pl_0_0 (b : Nat) : fits (zz_ty 0 0) (.ref b) = true := by rw [show zz_ty 0 0 = .object "TurnipPages$Text" by decide +kernel]; rfl
theorem dl_0_0 : zz_dc 0 0 = "TurnipPages" := by decide +kernel
theorem il_0_1 : zz_ir 0 1 = true := by decide +kernel
theorem nl_0_1 (b : Nat) : narrow (zz_ty 0 1) (.ref b) = .ref b := by rw [show zz_ty 0 1 = (parseFieldDescriptor "LTurnipPages$Text;").getD .int by decide +kernel]; rfl
theorem pl_0_1 (b : Nat) : fits (zz_ty 0 1) (.ref b) = true := by rw [show zz_ty 0 1 = .object "TurnipPages$Text" by decide +kernel]; rfl
theorem dl_0_1 : zz_dc 0 1 = "TurnipPages" := by decide +kernel
theorem il_0_2 : zz_ir 0 2 = true := by decide +kernel
theorem nl_0_2 (b : Nat) : narrow (zz_ty 0 2) (.ref b) = .ref b := by rw [show zz_ty 0 2 = (parseFieldDescriptor "LTurnipPages$Text;").getD .int by decide +kernel]; rfl
theorem pl_0_2 (b : Nat) : fits (zz_ty 0 2) (.ref b) = true := by rw [show zz_ty 0 2 = .object "TurnipPages$Text" by decide +kernel]; rfl
theorem dl_0_2 : zz_dc 0 2 = "TurnipPages" := by decide +kernel
theorem il_0_3 : zz_ir 0 3 = true := by decide +kernel
theorem nl_0_3 (b : Nat) : narrow (zz_ty 0 3) (.ref b) = .ref b := by rw [show zz_ty 0 3 = (parseFieldDescriptor "LTurnipPages$Carver;").getD .int by decide +kernel]; rfl
theorem pl_0_3 (b : Nat) : fits (zz_ty 0 3) (.ref b) = true := by rw [show zz_ty 0 3 = .object "TurnipPages$Carver" by decide +kernel]; rfl
theorem dl_0_3 : zz_dc 0 3 = "TurnipPages" := by decide +kernel
theorem il_0_4 : zz_ir 0 4 = true := by decide +kernel
theorem nl_0_4 (b : Nat) : narrow (zz_ty 0 4) (.ref b) = .ref b := by rw [show zz_ty 0 4 = (parseFieldDescriptor "LTurnipPages$Store;").getD .int by decide +kernel]; rfl
theorem pl_0_4 (b : Nat) : fits (zz_ty 0 4) (.ref b) = true := by rw [show zz_ty 0 4 = .object "TurnipPages$Store" by decide +kernel]; rfl
theorem dl_0_4 : zz_dc 0 4 = "TurnipPages" := by decide +kernel
theorem il_0_5 : zz_ir 0 5 = true := by decide +kernel
theorem nl_0_5 (b : Nat) : narrow (zz_ty 0 5) (.ref b) = .ref b := by rw [show zz_ty 0 5 = (parseFieldDescriptor "LTurnipPages$Store;").getD .int by decide +kernel]; rfl
theorem pl_0_5 (b : Nat) : fits (zz_ty 0 5) (.ref b) = true := by rw [show zz_ty 0 5 = .object "TurnipPages$Store" by decide +kernel]; rfl
theorem dl_0_5 : zz_dc 0 5 = "TurnipPages" := by decide +kernel
theorem il_0_6 : zz_ir 0 6 = true := by decide +kernel
theorem nl_0_6 (b : Nat) : narrow (zz_ty 0 6) (.ref b) = .ref b := by rw [show zz_ty 0 6 = (parseFieldDescriptor "LTurnipPages$History;").getD .int by decide +kernel]; rfl
theorem pl_0_6 (b : Nat) : fits (zz_ty 0 6) (.ref b) = true := by rw [show zz_ty 0 6 = .object "TurnipPages$History" by decide +kernel]; rfl
theorem dl_0_6 : zz_dc 0 6 = "TurnipPages" := by decide +kernel
theorem il_0_7 : zz_ir 0 7 = true := by decide +kernel
theorem nl_0_7 (b : Nat) : narrow (zz_ty 0 7) (.ref b) = .ref b := by rw [show zz_ty 0 7 = (parseFieldDescriptor "LTurnipPages$Commands;").getD .int by decide +kernel]; rfl
theorem pl_0_7 (b : Nat) : fits (zz_ty 0 7) (.ref b) = true := by rw [show zz_ty 0 7 = .object "TurnipPages$Commands" by decide +kernel]; rfl
theorem dl_0_7 : zz_dc 0 7 = "TurnipPages" := by decide +kernel
theorem il_0_8 : zz_ir 0 8 = true := by decide +kernel
theorem nl_0_8 (b : Nat) : narrow (zz_ty 0 8) (.ref b) = .ref b := by rw [show zz_ty 0 8 = (parseFieldDescriptor "LTurnipPages$Denial;").getD .int by decide +kernel]; rfl
theorem pl_0_8 (b : Nat) : fits (zz_ty 0 8) (.ref b) = true := by rw [show zz_ty 0 8 = .object "TurnipPages$Denial" by decide +kernel]; rfl
theorem dl_0_8 : zz_dc 0 8 = "TurnipPages" := by decide +kernel
theorem il_0_9 : zz_ir 0 9 = false := by decide +kernel
theorem tl_0_9 : zz_ty 0 9 = .boolean := by decide +kernel
theorem fl_0_9 : zz_fin 0 9 = false := by decide +kernel
theorem il_0_10 : zz_ir 0 10 = false := by decide +kernel
theorem tl_0_10 : zz_ty 0 10 = .int := by decide +kernel
theorem fl_0_10 : zz_fin 0 10 = false := by decide +kernel
theorem il_1_0 : zz_ir 1 0 = true := by decide +kernel
theorem nl_1_0 (b : Nat) : narrow (zz_ty 1 0) (.ref b) = .ref b := by rw [show zz_ty 1 0 = (parseFieldDescriptor "LTurnipPages$Store;").getD .int by decide +kernel]; rfl
theorem pl_1_0 (b : Nat) : fits (zz_ty 1 0) (.ref b) = true := by rw [show zz_ty 1 0 = .object "TurnipPages$Store" by decide +kernel]; rfl
theorem dl_1_0 : zz_dc 1 0 = "TurnipPages$Carver" := by decide +kernel
theorem il_1_1 : zz_ir 1 1 = true := by decide +kernel
theorem nl_1_1 (b : Nat) : narrow (zz_ty 1 1) (.ref b) = .ref b := by rw [show zz_ty 1 1 = (parseFieldDescriptor "LTurnipPages$Text;").getD .int by decide +kernel]; rfl
theorem pl_1_1 (b : Nat) : fits (zz_ty 1 1) (.ref b) = true := by rw [show zz_ty 1 1 = .object "TurnipPages$Text" by decide +kernel]; rfl
theorem dl_1_1 : zz_dc 1 1 = "TurnipPages$Carver" := by decide +kernel
theorem il_1_2 : zz_ir 1 2 = true := by decide +kernel
theorem nl_1_2 (b : Nat) : narrow (zz_ty 1 2) (.ref b) = .ref b := by rw [show zz_ty 1 2 = (parseFieldDescriptor "LTurnipPages$Text;").getD .int by decide +kernel]; rfl
theorem pl_1_2 (b : Nat) : fits (zz_ty 1 2) (.ref b) = true := by rw [show zz_ty 1 2 = .object "TurnipPages$Text" by decide +kernel]; rfl
theorem dl_1_2 : zz_dc 1 2 = "TurnipPages$Carver" := by decide +kernel
theorem il_1_3 : zz_ir 1 3 = false := by decide +kernel
theorem tl_1_3 : zz_ty 1 3 = .int := by decide +kernel
theorem fl_1_3 : zz_fin 1 3 = false := by decide +kernel
theorem il_2_0 : zz_ir 2 0 = true := by decide +kernel
theorem nl_2_0 (b : Nat) : narrow (zz_ty 2 0) (.ref b) = .ref b := by rw [show zz_ty 2 0 = (parseFieldDescriptor "[I").getD .int by decide +kernel]; rfl
theorem pl_2_0 (b : Nat) : fits (zz_ty 2 0) (.ref b) = true := by rw [show zz_ty 2 0 = (parseFieldDescriptor "[I").getD .int by decide +kernel]; rfl
theorem dl_2_0 : zz_dc 2 0 = "TurnipPages$Commands" := by decide +kernel
theorem il_2_1 : zz_ir 2 1 = true := by decide +kernel
theorem nl_2_1 (b : Nat) : narrow (zz_ty 2 1) (.ref b) = .ref b := by rw [show zz_ty 2 1 = (parseFieldDescriptor "[I").getD .int by decide +kernel]; rfl
theorem pl_2_1 (b : Nat) : fits (zz_ty 2 1) (.ref b) = true := by rw [show zz_ty 2 1 = (parseFieldDescriptor "[I").getD .int by decide +kernel]; rfl
theorem dl_2_1 : zz_dc 2 1 = "TurnipPages$Commands" := by decide +kernel
theorem il_2_2 : zz_ir 2 2 = true := by decide +kernel
theorem nl_2_2 (b : Nat) : narrow (zz_ty 2 2) (.ref b) = .ref b := by rw [show zz_ty 2 2 = (parseFieldDescriptor "[I").getD .int by decide +kernel]; rfl
theorem pl_2_2 (b : Nat) : fits (zz_ty 2 2) (.ref b) = true := by rw [show zz_ty 2 2 = (parseFieldDescriptor "[I").getD .int by decide +kernel]; rfl
theorem dl_2_2 : zz_dc 2 2 = "TurnipPages$Commands" := by decide +kernel
theorem il_2_3 : zz_ir 2 3 = false := by decide +kernel
theorem tl_2_3 : zz_ty 2 3 = .int := by decide +kernel
theorem fl_2_3 : zz_fin 2 3 = false := by decide +kernel
theorem il_2_4 : zz_ir 2 4 = false := by decide +kernel
theorem tl_2_4 : zz_ty 2 4 = .int := by decide +kernel
theorem fl_2_4 : zz_fin 2 4 = false := by decide +kernel
theorem il_3_0 : zz_ir 3 0 = false := by decide +kernel
theorem tl_3_0 : zz_ty 3 0 = .int := by decide +kernel
theorem fl_3_0 : zz_fin 3 0 = false := by decide +kernel
theorem il_3_1 : zz_ir 3 1 = false := by decide +kernel
theorem tl_3_1 : zz_ty 3 1 = .int := by decide +kernel
theorem fl_3_1 : zz_fin 3 1 = false := by decide +kernel
theorem il_3_2 : zz_ir 3 2 = false := by decide +kernel
theorem tl_3_2 : zz_ty 3 2 = .int := by decide +kernel
theorem fl_3_2 : zz_fin 3 2 = false := by decide +kernel
theorem il_4_0 : zz_ir 4 0 = true := by decide +kernel
theorem nl_4_0 (b : Nat) : narrow (zz_ty 4 0) (.ref b) = .ref b := by rw [show zz_ty 4 0 = (parseFieldDescriptor "[LTurnipPages$Store;").getD .int by decide +kernel]; rfl
theorem pl_4_0 (b : Nat) : fits (zz_ty 4 0) (.ref b) = true := by rw [show zz_ty 4 0 = (parseFieldDescriptor "[LTurnipPages$Store;").getD .int by decide +kernel]; rfl
theorem dl_4_0 : zz_dc 4 0 = "TurnipPages$History" := by decide +kernel
theorem il_4_1 : zz_ir 4 1 = false := by decide +kernel
theorem tl_4_1 : zz_ty 4 1 = .int := by decide +kernel
theorem fl_4_1 : zz_fin 4 1 = false := by decide +kernel
theorem il_4_2 : zz_ir 4 2 = false := by decide +kernel
theorem tl_4_2 : zz_ty 4 2 = .int := by decide +kernel
theorem fl_4_2 : zz_fin 4 2 = false := by decide +kernel
theorem il_5_0 : zz_ir 5 0 = true := by decide +kernel
theorem nl_5_0 (b : Nat) : narrow (zz_ty 5 0) (.ref b) = .ref b := by rw [show zz_ty 5 0 = (parseFieldDescriptor "[I").getD .int by decide +kernel]; rfl
theorem pl_5_0 (b : Nat) : fits (zz_ty 5 0) (.ref b) = true := by rw [show zz_ty 5 0 = (parseFieldDescriptor "[I").getD .int by decide +kernel]; rfl
theorem dl_5_0 : zz_dc 5 0 = "TurnipPages$Store" := by decide +kernel
theorem il_5_1 : zz_ir 5 1 = true := by decide +kernel
theorem nl_5_1 (b : Nat) : narrow (zz_ty 5 1) (.ref b) = .ref b := by rw [show zz_ty 5 1 = (parseFieldDescriptor "[LTurnipPages$Telegram;").getD .int by decide +kernel]; rfl
theorem pl_5_1 (b : Nat) : fits (zz_ty 5 1) (.ref b) = true := by rw [show zz_ty 5 1 = (parseFieldDescriptor "[LTurnipPages$Telegram;").getD .int by decide +kernel]; rfl
theorem dl_5_1 : zz_dc 5 1 = "TurnipPages$Store" := by decide +kernel
theorem il_5_2 : zz_ir 5 2 = false := by decide +kernel
theorem tl_5_2 : zz_ty 5 2 = .int := by decide +kernel
theorem fl_5_2 : zz_fin 5 2 = false := by decide +kernel
theorem il_5_3 : zz_ir 5 3 = false := by decide +kernel
theorem tl_5_3 : zz_ty 5 3 = .int := by decide +kernel
theorem fl_5_3 : zz_fin 5 3 = false := by decide +kernel
theorem il_5_4 : zz_ir 5 4 = false := by decide +kernel
theorem tl_5_4 : zz_ty 5 4 = .int := by decide +kernel
theorem fl_5_4 : zz_fin 5 4 = false := by decide +kernel
theorem il_5_5 : zz_ir 5 5 = false := by decide +kernel
theorem tl_5_5 : zz_ty 5 5 = .int := by decide +kernel
theorem fl_5_5 : zz_fin 5 5 = false := by decide +kernel
theorem il_5_6 : zz_ir 5 6 = false := by decide +kernel
theorem tl_5_6 : zz_ty 5 6 = .int := by decide +kernel
theorem fl_5_6 : zz_fin 5 6 = false := by decide +kernel
theorem il_6_0 : zz_ir 6 0 = true := by decide +kernel
theorem nl_6_0 (b : Nat) : narrow (zz_ty 6 0) (.ref b) = .ref b := by rw [show zz_ty 6 0 = (parseFieldDescriptor "LTurnipPages$Text;").getD .int by decide +kernel]; rfl
theorem pl_6_0 (b : Nat) : fits (zz_ty 6 0) (.ref b) = true := by rw [show zz_ty 6 0 = .object "TurnipPages$Text" by decide +kernel]; rfl
theorem dl_6_0 : zz_dc 6 0 = "TurnipPages$Telegram" := by decide +kernel
theorem il_6_1 : zz_ir 6 1 = true := by decide +kernel
theorem nl_6_1 (b : Nat) : narrow (zz_ty 6 1) (.ref b) = .ref b := by rw [show zz_ty 6 1 = (parseFieldDescriptor "[I").getD .int by decide +kernel]; rfl
theorem pl_6_1 (b : Nat) : fits (zz_ty 6 1) (.ref b) = true := by rw [show zz_ty 6 1 = (parseFieldDescriptor "[I").getD .int by decide +kernel]; rfl
theorem dl_6_1 : zz_dc 6 1 = "TurnipPages$Telegram" := by decide +kernel
theorem il_6_2 : zz_ir 6 2 = false := by decide +kernel
theorem tl_6_2 : zz_ty 6 2 = .int := by decide +kernel
theorem fl_6_2 : zz_fin 6 2 = false := by decide +kernel
theorem il_6_3 : zz_ir 6 3 = false := by decide +kernel
theorem tl_6_3 : zz_ty 6 3 = .int := by decide +kernel
theorem fl_6_3 : zz_fin 6 3 = false := by decide +kernel
theorem il_6_4 : zz_ir 6 4 = false := by decide +kernel
theorem tl_6_4 : zz_ty 6 4 = .int := by decide +kernel
theorem fl_6_4 : zz_fin 6 4 = false := by decide +kernel
theorem il_6_5 : zz_ir 6 5 = false := by decide +kernel
theorem tl_6_5 : zz_ty 6 5 = .int := by decide +kernel
theorem fl_6_5 : zz_fin 6 5 = false := by decide +kernel
theorem il_6_6 : zz_ir 6 6 = false := by decide +kernel
theorem tl_6_6 : zz_ty 6 6 = .int := by decide +kernel
theorem fl_6_6 : zz_fin 6 6 = false := by decide +kernel
theorem il_7_0 : zz_ir 7 0 = true := by decide +kernel
theorem nl_7_0 (b : Nat) : narrow (zz_ty 7 0) (.ref b) = .ref b := by rw [show zz_ty 7 0 = (parseFieldDescriptor "[C").getD .int by decide +kernel]; rfl
theorem pl_7_0 (b : Nat) : fits (zz_ty 7 0) (.ref b) = true := by rw [show zz_ty 7 0 = (parseFieldDescriptor "[C").getD .int by decide +kernel]; rfl
theorem dl_7_0 : zz_dc 7 0 = "TurnipPages$Text" := by decide +kernel
theorem il_7_1 : zz_ir 7 1 = false := by decide +kernel
theorem tl_7_1 : zz_ty 7 1 = .int := by decide +kernel
theorem fl_7_1 : zz_fin 7 1 = false := by decide +kernel
theorem il_8_0 : zz_ir 8 0 = true := by decide +kernel
theorem nl_8_0 (b : Nat) : narrow (zz_ty 8 0) (.ref b) = .ref b := by rw [show zz_ty 8 0 = (parseFieldDescriptor "[B").getD .int by decide +kernel]; rfl
theorem pl_8_0 (b : Nat) : fits (zz_ty 8 0) (.ref b) = true := by rw [show zz_ty 8 0 = (parseFieldDescriptor "[B").getD .int by decide +kernel]; rfl
theorem dl_8_0 : zz_dc 8 0 = "java/lang/String" := by decide +kernel
theorem il_8_1 : zz_ir 8 1 = false := by decide +kernel
theorem tl_8_1 : zz_ty 8 1 = .byte := by decide +kernel
theorem dl_8_1 : zz_dc 8 1 = "java/lang/String" := by decide +kernel
theorem il_9_0 : zz_ir 9 0 = true := by decide +kernel
theorem nl_9_0 (b : Nat) : narrow (zz_ty 9 0) (.ref b) = .ref b := by rw [show zz_ty 9 0 = (parseFieldDescriptor "[B").getD .int by decide +kernel]; rfl
theorem pl_9_0 (b : Nat) : fits (zz_ty 9 0) (.ref b) = true := by rw [show zz_ty 9 0 = (parseFieldDescriptor "[B").getD .int by decide +kernel]; rfl
theorem fl_9_0 : zz_fin 9 0 = false := by decide +kernel
theorem il_9_1 : zz_ir 9 1 = false := by decide +kernel
theorem tl_9_1 : zz_ty 9 1 = .byte := by decide +kernel
theorem fl_9_1 : zz_fin 9 1 = false := by decide +kernel
theorem il_9_2 : zz_ir 9 2 = false := by decide +kernel
theorem tl_9_2 : zz_ty 9 2 = .boolean := by decide +kernel
theorem fl_9_2 : zz_fin 9 2 = false := by decide +kernel
theorem il_9_3 : zz_ir 9 3 = false := by decide +kernel
theorem tl_9_3 : zz_ty 9 3 = .int := by decide +kernel
theorem fl_9_3 : zz_fin 9 3 = false := by decide +kernel
theorem wc_T_addNumber_33 : Cond.constant (zz_y mm_T_addNumber).cls 33 (1000000000 : Int32) ∈ zz_gw := zz_in 1391 (by decide +kernel) rfl
theorem ws_C_wordOf_83 : ((zz_y mm_C_wordOf).cls, 83, "root ", 0) ∈ zz_str := List.mem_of_getElem? (i := 0) (by decide +kernel)
theorem ws_C_wordOf_85 : ((zz_y mm_C_wordOf).cls, 85, "dry ", 1) ∈ zz_str := List.mem_of_getElem? (i := 1) (by decide +kernel)
theorem ws_C_wordOf_87 : ((zz_y mm_C_wordOf).cls, 87, "age ", 2) ∈ zz_str := List.mem_of_getElem? (i := 2) (by decide +kernel)
theorem ws_C_wordOf_89 : ((zz_y mm_C_wordOf).cls, 89, "recarve ", 3) ∈ zz_str := List.mem_of_getElem? (i := 3) (by decide +kernel)
theorem ws_C_wordOf_91 : ((zz_y mm_C_wordOf).cls, 91, "move ", 4) ∈ zz_str := List.mem_of_getElem? (i := 4) (by decide +kernel)
theorem ws_C_wordOf_93 : ((zz_y mm_C_wordOf).cls, 93, "drop ", 5) ∈ zz_str := List.mem_of_getElem? (i := 5) (by decide +kernel)
theorem ws_L_text_182 : ((zz_y mm_L_text).cls, 182, "", 6) ∈ zz_str := List.mem_of_getElem? (i := 6) (by decide +kernel)
theorem ws_L_text_188 : ((zz_y mm_L_text).cls, 188, "ab7\\0 z39", 7) ∈ zz_str := List.mem_of_getElem? (i := 7) (by decide +kernel)
theorem wc_L_asks_225 : Cond.constantLong (zz_y mm_L_asks).cls 225 (31 : Int64) ∈ zz_gw := zz_in 1197 (by decide +kernel) rfl
theorem wc_L_meanLength_113 : Cond.constantDouble (zz_y mm_L_meanLength).cls 113 (13875388141788987392 : UInt64) ∈ zz_gw := zz_in 1228 (by decide +kernel) rfl
theorem wc_L_rottenShare_119 : Cond.constantFloat (zz_y mm_L_rottenShare).cls 119 (3296346112 : UInt32) ∈ zz_gw := zz_in 1250 (by decide +kernel) rfl
theorem ws_L_changes_289 : ((zz_y mm_L_changes).cls, 289, "a12", 9) ∈ zz_str := List.mem_of_getElem? (i := 9) (by decide +kernel)
theorem ws_L_changes_295 : ((zz_y mm_L_changes).cls, 295, "ab3\\7", 12) ∈ zz_str := List.mem_of_getElem? (i := 12) (by decide +kernel)
theorem ws_L_changes_306 : ((zz_y mm_L_changes).cls, 306, "age 2;drop ", 13) ∈ zz_str := List.mem_of_getElem? (i := 13) (by decide +kernel)
theorem ws_L_changes_311 : ((zz_y mm_L_changes).cls, 311, "recarve ", 14) ∈ zz_str := List.mem_of_getElem? (i := 14) (by decide +kernel)
theorem ws_L_changes_313 : ((zz_y mm_L_changes).cls, 313, ";move ", 15) ∈ zz_str := List.mem_of_getElem? (i := 15) (by decide +kernel)
theorem ws_L_changes_315 : ((zz_y mm_L_changes).cls, 315, " 1", 16) ∈ zz_str := List.mem_of_getElem? (i := 16) (by decide +kernel)
theorem ws_L_thrown_182 : ((zz_y mm_L_thrown).cls, 182, "", 6) ∈ zz_str := List.mem_of_getElem? (i := 6) (by decide +kernel)
theorem ws_L_thrown_343 : ((zz_y mm_L_thrown).cls, 343, "q", 17) ∈ zz_str := List.mem_of_getElem? (i := 17) (by decide +kernel)
theorem ws_L_thrown_347 : ((zz_y mm_L_thrown).cls, 347, "age 3;drop 99;drop 99", 18) ∈ zz_str := List.mem_of_getElem? (i := 18) (by decide +kernel)
theorem ws_L_thrown_349 : ((zz_y mm_L_thrown).cls, 349, "age 1;move ", 19) ∈ zz_str := List.mem_of_getElem? (i := 19) (by decide +kernel)
theorem ws_L_thrown_351 : ((zz_y mm_L_thrown).cls, 351, " ", 20) ∈ zz_str := List.mem_of_getElem? (i := 20) (by decide +kernel)
theorem wc_JA_newCapacity_39 : Cond.constant (zz_y mm_JA_newCapacity).cls 39 (2147483647 : Int32) ∈ zz_gw := zz_in 1026 (by decide +kernel) rfl
theorem wc_JU_newLength_200 : Cond.constant (zz_y mm_JU_newLength).cls 200 (2147483639 : Int32) ∈ zz_gw := zz_in 1022 (by decide +kernel) rfl
theorem ws_JR_checkLength_337 : ((zz_y mm_JR_checkLength).cls, 337, " > ", 8) ∈ zz_str := List.mem_of_getElem? (i := 8) (by decide +kernel)
theorem wc_JD_doubleToLongBits_137 : Cond.constantLong (zz_y mm_JD_doubleToLongBits).cls 137 (9221120237041090560 : Int64) ∈ zz_gw := zz_in 1238 (by decide +kernel) rfl
theorem wc_JF_floatToIntBits_77 : Cond.constant (zz_y mm_JF_floatToIntBits).cls 77 (2143289344 : Int32) ∈ zz_gw := zz_in 1260 (by decide +kernel) rfl
theorem ws_JL_newString_151 : ((zz_y mm_JL_newString).cls, 151, "", 10) ∈ zz_str := List.mem_of_getElem? (i := 10) (by decide +kernel)
theorem cw_nat : Cond.native arraycopyName ∈ zz_gw := zz_in 398 (by decide +kernel) rfl
theorem cw_stat : Cond.static arraycopyName ∈ zz_gw := zz_in 397 (by decide +kernel) rfl
theorem cw_ini : Cond.initialized "java/lang/System" ∈ zz_gw := zz_in 32 (by decide +kernel) rfl
theorem cw_oi : Cond.instanceMethod Lib.objectInit ∈ zz_gw := zz_in 58 (by decide +kernel) rfl
theorem cw_oc : Cond.code Lib.objectInit ⟨#[0xb1]⟩ 1 none ∈ zz_gw := zz_in 59 (by decide +kernel) rfl
theorem cw_char : Cond.arrayClass .char ∈ zz_gw := zz_in 82 (by decide +kernel) rfl
theorem cw_int : Cond.arrayClass .int ∈ zz_gw := zz_in 141 (by decide +kernel) rfl
theorem cw_byte : Cond.arrayClass .byte ∈ zz_gw := zz_in 623 (by decide +kernel) rfl
theorem cw_long : Cond.arrayClass .long ∈ zz_gw := zz_in 1529 (by decide +kernel) rfl
