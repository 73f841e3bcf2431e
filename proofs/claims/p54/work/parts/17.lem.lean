/-! field types, by number -/
theorem il_0_0 : zz_ir 0 0 = true := by decide +kernel
theorem nl_0_0 (b : Nat) : narrow (zz_ty 0 0) (.ref b) = .ref b := by rw [show zz_ty 0 0 = (parseFieldDescriptor "LTurnipPages$Text;").getD .int by decide +kernel]; rfl
theorem pl_0_0 (b : Nat) : fits (zz_ty 0 0) (.ref b) = true := by rw [show zz_ty 0 0 = .object "TurnipPages$Text" by decide +kernel]; rfl
theorem dl_0_0 : zz_dc 0 0 = "TurnipPages" := by decide +kernel
theorem il_0_1 : zz_ir 0 1 = true := by decide +kernel
theorem nl_0_1 (b : Nat) : narrow (zz_ty 0 1) (.ref b) = .ref b := by rw [show zz_ty 0 1 = (parseFieldDescriptor "LTurnipPages$Text;").getD .int by decide +kernel]; rfl
theorem pl_0_1 (b : Nat) : fits (zz_ty 0 1) (.ref b) = true := by rw [show zz_ty 0 1 = .object "TurnipPages$Text" by decide +kernel]; rfl
theorem dl_0_1 : zz_dc 0 1 = "TurnipPages" := by decide +kernel
theorem il_0_2 : zz_ir 0 2 = true := by decide +kernel
theorem nl_0_2 (b : Nat) : narrow (zz_ty 0 2) (.ref b) = .ref b := by rw [show zz_ty 0 2 = (parseFieldDescriptor "LTurnipPages$Text;").getD .int by decide +kernel]; rfl
theorem pl_0_2 (b : Nat) : fits (zz_ty 0 2) (.ref b) = true := by rw [show zz_ty 0 2 = .object "TurnipPages$Text" by decide +kernel]; rfl
theorem dl_0_2 : zz_dc 0 2 = "TurnipPages" := by decide +kernel
theorem il_0_3 : zz_ir 0 3 = true := by decide +kernel
theorem nl_0_3 (b : Nat) : narrow (zz_ty 0 3) (.ref b) = .ref b := by rw [show zz_ty 0 3 = (parseFieldDescriptor "LTurnipPages$Carver;").getD .int by decide +kernel]; rfl
theorem pl_0_3 (b : Nat) : fits (zz_ty 0 3) (.ref b) = true := by rw [show zz_ty 0 3 = .object "TurnipPages$Carver" by decide +kernel]; rfl
theorem dl_0_3 : zz_dc 0 3 = "TurnipPages" := by decide +kernel
theorem il_0_4 : zz_ir 0 4 = true := by decide +kernel
theorem nl_0_4 (b : Nat) : narrow (zz_ty 0 4) (.ref b) = .ref b := by rw [show zz_ty 0 4 = (parseFieldDescriptor "LTurnipPages$Store;").getD .int by decide +kernel]; rfl
theorem pl_0_4 (b : Nat) : fits (zz_ty 0 4) (.ref b) = true := by rw [show zz_ty 0 4 = .object "TurnipPages$Store" by decide +kernel]; rfl
theorem dl_0_4 : zz_dc 0 4 = "TurnipPages" := by decide +kernel
theorem il_0_5 : zz_ir 0 5 = true := by decide +kernel
theorem nl_0_5 (b : Nat) : narrow (zz_ty 0 5) (.ref b) = .ref b := by rw [show zz_ty 0 5 = (parseFieldDescriptor "LTurnipPages$Store;").getD .int by decide +kernel]; rfl
theorem pl_0_5 (b : Nat) : fits (zz_ty 0 5) (.ref b) = true := by rw [show zz_ty 0 5 = .object "TurnipPages$Store" by decide +kernel]; rfl
theorem dl_0_5 : zz_dc 0 5 = "TurnipPages" := by decide +kernel
theorem il_0_6 : zz_ir 0 6 = true := by decide +kernel
theorem nl_0_6 (b : Nat) : narrow (zz_ty 0 6) (.ref b) = .ref b := by rw [show zz_ty 0 6 = (parseFieldDescriptor "LTurnipPages$History;").getD .int by decide +kernel]; rfl
theorem pl_0_6 (b : Nat) : fits (zz_ty 0 6) (.ref b) = true := by rw [show zz_ty 0 6 = .object "TurnipPages$History" by decide +kernel]; rfl
theorem dl_0_6 : zz_dc 0 6 = "TurnipPages" := by decide +kernel
theorem il_0_7 : zz_ir 0 7 = true := by decide +kernel
theorem nl_0_7 (b : Nat) : narrow (zz_ty 0 7) (.ref b) = .ref b := by rw [show zz_ty 0 7 = (parseFieldDescriptor "LTurnipPages$Commands;").getD .int by decide +kernel]; rfl
theorem pl_0_7 (b : Nat) : fits (zz_ty 0 7) (.ref b) = true := by rw [show zz_ty 0 7 = .object "TurnipPages$Commands" by decide +kernel]; rfl
theorem dl_0_7 : zz_dc 0 7 = "TurnipPages" := by decide +kernel
theorem il_0_8 : zz_ir 0 8 = true := by decide +kernel
theorem nl_0_8 (b : Nat) : narrow (zz_ty 0 8) (.ref b) = .ref b := by rw [show zz_ty 0 8 = (parseFieldDescriptor "LTurnipPages$Denial;").getD .int by decide +kernel]; rfl
theorem pl_0_8 (b : Nat) : fits (zz_ty 0 8) (.ref b) = true := by rw [show zz_ty 0 8 = .object "TurnipPages$Denial" by decide +kernel]; rfl
theorem dl_0_8 : zz_dc 0 8 = "TurnipPages" := by decide +kernel
theorem il_0_9 : zz_ir 0 9 = false := by decide +kernel
theorem tl_0_9 : zz_ty 0 9 = .boolean := by decide +kernel
theorem fl_0_9 : zz_fin 0 9 = false := by decide +kernel
theorem il_0_10 : zz_ir 0 10 = false := by decide +kernel
theorem tl_0_10 : zz_ty 0 10 = .int := by decide +kernel
theorem fl_0_10 : zz_fin 0 10 = false := by decide +kernel
theorem il_1_0 : zz_ir 1 0 = true := by decide +kernel
theorem nl_1_0 (b : Nat) : narrow (zz_ty 1 0) (.ref b) = .ref b := by rw [show zz_ty 1 0 = (parseFieldDescriptor "LTurnipPages$Store;").getD .int by decide +kernel]; rfl
theorem pl_1_0 (b : Nat) : fits (zz_ty 1 0) (.ref b) = true := by rw [show zz_ty 1 0 = .object "TurnipPages$Store" by decide +kernel]; rfl
theorem dl_1_0 : zz_dc 1 0 = "TurnipPages$Carver" := by decide +kernel
theorem il_1_1 : zz_ir 1 1 = true := by decide +kernel
theorem nl_1_1 (b : Nat) : narrow (zz_ty 1 1) (.ref b) = .ref b := by rw [show zz_ty 1 1 = (parseFieldDescriptor "LTurnipPages$Text;").getD .int by decide +kernel]; rfl
theorem pl_1_1 (b : Nat) : fits (zz_ty 1 1) (.ref b) = true := by rw [show zz_ty 1 1 = .object "TurnipPages$Text" by decide +kernel]; rfl
theorem dl_1_1 : zz_dc 1 1 = "TurnipPages$Carver" := by decide +kernel
theorem il_1_2 : zz_ir 1 2 = true := by decide +kernel
theorem nl_1_2 (b : Nat) : narrow (zz_ty 1 2) (.ref b) = .ref b := by rw [show zz_ty 1 2 = (parseFieldDescriptor "LTurnipPages$Text;").getD .int by decide +kernel]; rfl
theorem pl_1_2 (b : Nat) : fits (zz_ty 1 2) (.ref b) = true := by rw [show zz_ty 1 2 = .object "TurnipPages$Text" by decide +kernel]; rfl
theorem dl_1_2 : zz_dc 1 2 = "TurnipPages$Carver" := by decide +kernel
theorem il_1_3 : zz_ir 1 3 = false := by decide +kernel
theorem tl_1_3 : zz_ty 1 3 = .int := by decide +kernel
theorem fl_1_3 : zz_fin 1 3 = false := by decide +kernel
theorem il_2_0 : zz_ir 2 0 = true := by decide +kernel
theorem nl_2_0 (b : Nat) : narrow (zz_ty 2 0) (.ref b) = .ref b := by rw [show zz_ty 2 0 = (parseFieldDescriptor "[I").getD .int by decide +kernel]; rfl
theorem pl_2_0 (b : Nat) : fits (zz_ty 2 0) (.ref b) = true := by rw [show zz_ty 2 0 = (parseFieldDescriptor "[I").getD .int by decide +kernel]; rfl
theorem dl_2_0 : zz_dc 2 0 = "TurnipPages$Commands" := by decide +kernel
theorem il_2_1 : zz_ir 2 1 = true := by decide +kernel
theorem nl_2_1 (b : Nat) : narrow (zz_ty 2 1) (.ref b) = .ref b := by rw [show zz_ty 2 1 = (parseFieldDescriptor "[I").getD .int by decide +kernel]; rfl
theorem pl_2_1 (b : Nat) : fits (zz_ty 2 1) (.ref b) = true := by rw [show zz_ty 2 1 = (parseFieldDescriptor "[I").getD .int by decide +kernel]; rfl
theorem dl_2_1 : zz_dc 2 1 = "TurnipPages$Commands" := by decide +kernel
theorem il_2_2 : zz_ir 2 2 = true := by decide +kernel
theorem nl_2_2 (b : Nat) : narrow (zz_ty 2 2) (.ref b) = .ref b := by rw [show zz_ty 2 2 = (parseFieldDescriptor "[I").getD .int by decide +kernel]; rfl
theorem pl_2_2 (b : Nat) : fits (zz_ty 2 2) (.ref b) = true := by rw [show zz_ty 2 2 = (parseFieldDescriptor "[I").getD .int by decide +kernel]; rfl
theorem dl_2_2 : zz_dc 2 2 = "TurnipPages$Commands" := by decide +kernel
theorem il_2_3 : zz_ir 2 3 = false := by decide +kernel
theorem tl_2_3 : zz_ty 2 3 = .int := by decide +kernel
theorem fl_2_3 : zz_fin 2 3 = false := by decide +kernel
theorem il_2_4 : zz_ir 2 4 = false := by decide +kernel
theorem tl_2_4 : zz_ty 2 4 = .int := by decide +kernel
theorem fl_2_4 : zz_fin 2 4 = false := by decide +kernel
theorem il_3_0 : zz_ir 3 0 = false := by decide +kernel
theorem tl_3_0 : zz_ty 3 0 = .int := by decide +kernel
theorem fl_3_0 : zz_fin 3 0 = false := by decide +kernel
theorem il_3_1 : zz_ir 3 1 = false := by decide +kernel
theorem tl_3_1 : zz_ty 3 1 = .int := by decide +kernel
theorem fl_3_1 : zz_fin 3 1 = false := by decide +kernel
theorem il_3_2 : zz_ir 3 2 = false := by decide +kernel
theorem tl_3_2 : zz_ty 3 2 = .int := by decide +kernel
theorem fl_3_2 : zz_fin 3 2 = false := by decide +kernel
theorem il_4_0 : zz_ir 4 0 = true := by decide +kernel
theorem nl_4_0 (b : Nat) : narrow (zz_ty 4 0) (.ref b) = .ref b := by rw [show zz_ty 4 0 = (parseFieldDescriptor "[LTurnipPages$Store;").getD .int by decide +kernel]; rfl
theorem pl_4_0 (b : Nat) : fits (zz_ty 4 0) (.ref b) = true := by rw [show zz_ty 4 0 = (parseFieldDescriptor "[LTurnipPages$Store;").getD .int by decide +kernel]; rfl
theorem dl_4_0 : zz_dc 4 0 = "TurnipPages$History" := by decide +kernel
theorem il_4_1 : zz_ir 4 1 = false := by decide +kernel
theorem tl_4_1 : zz_ty 4 1 = .int := by decide +kernel
theorem fl_4_1 : zz_fin 4 1 = false := by decide +kernel
theorem il_4_2 : zz_ir 4 2 = false := by decide +kernel
theorem tl_4_2 : zz_ty 4 2 = .int := by decide +kernel
theorem fl_4_2 : zz_fin 4 2 = false := by decide +kernel
theorem il_5_0 : zz_ir 5 0 = true := by decide +kernel
theorem nl_5_0 (b : Nat) : narrow (zz_ty 5 0) (.ref b) = .ref b := by rw [show zz_ty 5 0 = (parseFieldDescriptor "[I").getD .int by decide +kernel]; rfl
theorem pl_5_0 (b : Nat) : fits (zz_ty 5 0) (.ref b) = true := by rw [show zz_ty 5 0 = (parseFieldDescriptor "[I").getD .int by decide +kernel]; rfl
theorem dl_5_0 : zz_dc 5 0 = "TurnipPages$Store" := by decide +kernel
theorem il_5_1 : zz_ir 5 1 = true := by decide +kernel
theorem nl_5_1 (b : Nat) : narrow (zz_ty 5 1) (.ref b) = .ref b := by rw [show zz_ty 5 1 = (parseFieldDescriptor "[LTurnipPages$Telegram;").getD .int by decide +kernel]; rfl
theorem pl_5_1 (b : Nat) : fits (zz_ty 5 1) (.ref b) = true := by rw [show zz_ty 5 1 = (parseFieldDescriptor "[LTurnipPages$Telegram;").getD .int by decide +kernel]; rfl
theorem dl_5_1 : zz_dc 5 1 = "TurnipPages$Store" := by decide +kernel
theorem il_5_2 : zz_ir 5 2 = false := by decide +kernel
theorem tl_5_2 : zz_ty 5 2 = .int := by decide +kernel
theorem fl_5_2 : zz_fin 5 2 = false := by decide +kernel
theorem il_5_3 : zz_ir 5 3 = false := by decide +kernel
theorem tl_5_3 : zz_ty 5 3 = .int := by decide +kernel
theorem fl_5_3 : zz_fin 5 3 = false := by decide +kernel
theorem il_5_4 : zz_ir 5 4 = false := by decide +kernel
theorem tl_5_4 : zz_ty 5 4 = .int := by decide +kernel
theorem fl_5_4 : zz_fin 5 4 = false := by decide +kernel
theorem il_5_5 : zz_ir 5 5 = false := by decide +kernel
theorem tl_5_5 : zz_ty 5 5 = .int := by decide +kernel
theorem fl_5_5 : zz_fin 5 5 = false := by decide +kernel
theorem il_5_6 : zz_ir 5 6 = false := by decide +kernel
theorem tl_5_6 : zz_ty 5 6 = .int := by decide +kernel
theorem fl_5_6 : zz_fin 5 6 = false := by decide +kernel
theorem il_6_0 : zz_ir 6 0 = true := by decide +kernel
theorem nl_6_0 (b : Nat) : narrow (zz_ty 6 0) (.ref b) = .ref b := by rw [show zz_ty 6 0 = (parseFieldDescriptor "LTurnipPages$Text;").getD .int by decide +kernel]; rfl
theorem pl_6_0 (b : Nat) : fits (zz_ty 6 0) (.ref b) = true := by rw [show zz_ty 6 0 = .object "TurnipPages$Text" by decide +kernel]; rfl
theorem dl_6_0 : zz_dc 6 0 = "TurnipPages$Telegram" := by decide +kernel
theorem il_6_1 : zz_ir 6 1 = true := by decide +kernel
theorem nl_6_1 (b : Nat) : narrow (zz_ty 6 1) (.ref b) = .ref b := by rw [show zz_ty 6 1 = (parseFieldDescriptor "[I").getD .int by decide +kernel]; rfl
theorem pl_6_1 (b : Nat) : fits (zz_ty 6 1) (.ref b) = true := by rw [show zz_ty 6 1 = (parseFieldDescriptor "[I").getD .int by decide +kernel]; rfl
theorem dl_6_1 : zz_dc 6 1 = "TurnipPages$Telegram" := by decide +kernel
theorem il_6_2 : zz_ir 6 2 = false := by decide +kernel
theorem tl_6_2 : zz_ty 6 2 = .int := by decide +kernel
theorem fl_6_2 : zz_fin 6 2 = false := by decide +kernel
theorem il_6_3 : zz_ir 6 3 = false := by decide +kernel
theorem tl_6_3 : zz_ty 6 3 = .int := by decide +kernel
theorem fl_6_3 : zz_fin 6 3 = false := by decide +kernel
theorem il_6_4 : zz_ir 6 4 = false := by decide +kernel
theorem tl_6_4 : zz_ty 6 4 = .int := by decide +kernel
theorem fl_6_4 : zz_fin 6 4 = false := by decide +kernel
theorem il_6_5 : zz_ir 6 5 = false := by decide +kernel
theorem tl_6_5 : zz_ty 6 5 = .int := by decide +kernel
theorem fl_6_5 : zz_fin 6 5 = false := by decide +kernel
theorem il_6_6 : zz_ir 6 6 = false := by decide +kernel
theorem tl_6_6 : zz_ty 6 6 = .int := by decide +kernel
theorem fl_6_6 : zz_fin 6 6 = false := by decide +kernel
theorem il_7_0 : zz_ir 7 0 = true := by decide +kernel
theorem nl_7_0 (b : Nat) : narrow (zz_ty 7 0) (.ref b) = .ref b := by rw [show zz_ty 7 0 = (parseFieldDescriptor "[C").getD .int by decide +kernel]; rfl
theorem pl_7_0 (b : Nat) : fits (zz_ty 7 0) (.ref b) = true := by rw [show zz_ty 7 0 = (parseFieldDescriptor "[C").getD .int by decide +kernel]; rfl
theorem dl_7_0 : zz_dc 7 0 = "TurnipPages$Text" := by decide +kernel
theorem il_7_1 : zz_ir 7 1 = false := by decide +kernel
theorem tl_7_1 : zz_ty 7 1 = .int := by decide +kernel
theorem fl_7_1 : zz_fin 7 1 = false := by decide +kernel
theorem il_8_0 : zz_ir 8 0 = true := by decide +kernel
theorem nl_8_0 (b : Nat) : narrow (zz_ty 8 0) (.ref b) = .ref b := by rw [show zz_ty 8 0 = (parseFieldDescriptor "[B").getD .int by decide +kernel]; rfl
theorem pl_8_0 (b : Nat) : fits (zz_ty 8 0) (.ref b) = true := by rw [show zz_ty 8 0 = (parseFieldDescriptor "[B").getD .int by decide +kernel]; rfl
theorem dl_8_0 : zz_dc 8 0 = "java/lang/String" := by decide +kernel
theorem il_8_1 : zz_ir 8 1 = false := by decide +kernel
theorem tl_8_1 : zz_ty 8 1 = .byte := by decide +kernel
theorem dl_8_1 : zz_dc 8 1 = "java/lang/String" := by decide +kernel
theorem il_9_0 : zz_ir 9 0 = true := by decide +kernel
theorem nl_9_0 (b : Nat) : narrow (zz_ty 9 0) (.ref b) = .ref b := by rw [show zz_ty 9 0 = (parseFieldDescriptor "[B").getD .int by decide +kernel]; rfl
theorem pl_9_0 (b : Nat) : fits (zz_ty 9 0) (.ref b) = true := by rw [show zz_ty 9 0 = (parseFieldDescriptor "[B").getD .int by decide +kernel]; rfl
theorem fl_9_0 : zz_fin 9 0 = false := by decide +kernel
theorem il_9_1 : zz_ir 9 1 = false := by decide +kernel
theorem tl_9_1 : zz_ty 9 1 = .byte := by decide +kernel
theorem fl_9_1 : zz_fin 9 1 = false := by decide +kernel
theorem il_9_2 : zz_ir 9 2 = false := by decide +kernel
theorem tl_9_2 : zz_ty 9 2 = .boolean := by decide +kernel
theorem fl_9_2 : zz_fin 9 2 = false := by decide +kernel
theorem il_9_3 : zz_ir 9 3 = false := by decide +kernel
theorem tl_9_3 : zz_ty 9 3 = .int := by decide +kernel
theorem fl_9_3 : zz_fin 9 3 = false := by decide +kernel
