/-! HANDLERS of the law's own methods -/
theorem hl_13 : Cond.classLink "TurnipPagesLaw" 13 "java/lang/IllegalArgumentException" ∈ zz_gw := zz_in 405 (by decide +kernel) rfl
theorem hc_13 : Cond.castable "java/lang/IllegalArgumentException" "java/lang/IllegalArgumentException" ∈ zz_nw := zz_inN 416 (by decide +kernel) (by decide +kernel)
theorem hl_15 : Cond.classLink "TurnipPagesLaw" 15 "java/lang/IllegalStateException" ∈ zz_gw := zz_in 406 (by decide +kernel) rfl
theorem hc_15 : Cond.castable "java/lang/IllegalStateException" "java/lang/IllegalStateException" ∈ zz_nw := zz_inN 485 (by decide +kernel) (by decide +kernel)
theorem hl_25 : Cond.classLink "TurnipPagesLaw" 25 "java/lang/UnsupportedOperationException" ∈ zz_gw := zz_in 502 (by decide +kernel) rfl
theorem hc_25 : Cond.castable "java/lang/UnsupportedOperationException" "java/lang/UnsupportedOperationException" ∈ zz_nw := zz_inN 575 (by decide +kernel) (by decide +kernel)
theorem hl_30 : Cond.classLink "TurnipPagesLaw" 30 "java/lang/IndexOutOfBoundsException" ∈ zz_gw := zz_in 595 (by decide +kernel) rfl
theorem hc_30 : Cond.castable "java/lang/IndexOutOfBoundsException" "java/lang/IndexOutOfBoundsException" ∈ zz_nw := zz_inN 556 (by decide +kernel) (by decide +kernel)
theorem hl_41 : Cond.classLink "TurnipPagesLaw" 41 "java/util/NoSuchElementException" ∈ zz_gw := zz_in 677 (by decide +kernel) rfl
theorem hc_41 : Cond.castable "java/util/NoSuchElementException" "java/util/NoSuchElementException" ∈ zz_nw := zz_inN 541 (by decide +kernel) (by decide +kernel)
theorem hl_111 : Cond.classLink "TurnipPagesLaw" 111 "java/lang/ArithmeticException" ∈ zz_gw := zz_in 1201 (by decide +kernel) rfl
theorem hc_111 : Cond.castable "java/lang/ArithmeticException" "java/lang/ArithmeticException" ∈ zz_nw := zz_inN 1213 (by decide +kernel) (by decide +kernel)
theorem hd_L_type_0 : zz_Hd mm_L_type 2 "java/lang/IllegalArgumentException" 6 := ⟨[], ⟨0, 5, 6, 13⟩, [⟨0, 5, 11, 15⟩], rfl, fun y hy => absurd hy List.not_mem_nil, by decide, by decide, hl_13, hc_13, rfl⟩
theorem hd_L_type_1 : zz_Hd mm_L_type 2 "java/lang/IllegalStateException" 11 := ⟨[⟨0, 5, 6, 13⟩], ⟨0, 5, 11, 15⟩, [], rfl, (fun y hy => by
  rcases List.mem_cons.mp hy with rfl | hy
  · exact Or.inr ⟨by decide, "java/lang/IllegalArgumentException", hl_13, by decide +kernel⟩
  exact absurd hy List.not_mem_nil), by decide, by decide, hl_15, hc_15, rfl⟩
theorem hd_L_addRoot_0 : zz_Hd mm_L_addRoot 2 "java/lang/IllegalArgumentException" 6 := ⟨[], ⟨0, 5, 6, 13⟩, [⟨0, 5, 11, 25⟩], rfl, fun y hy => absurd hy List.not_mem_nil, by decide, by decide, hl_13, hc_13, rfl⟩
theorem hd_L_addRoot_1 : zz_Hd mm_L_addRoot 2 "java/lang/UnsupportedOperationException" 11 := ⟨[⟨0, 5, 6, 13⟩], ⟨0, 5, 11, 25⟩, [], rfl, (fun y hy => by
  rcases List.mem_cons.mp hy with rfl | hy
  · exact Or.inr ⟨by decide, "java/lang/IllegalArgumentException", hl_13, by decide +kernel⟩
  exact absurd hy List.not_mem_nil), by decide, by decide, hl_25, hc_25, rfl⟩
theorem hd_L_pagesIn_0 : zz_Hd mm_L_pagesIn 2 "java/lang/IndexOutOfBoundsException" 6 := ⟨[], ⟨0, 5, 6, 30⟩, [], rfl, fun y hy => absurd hy List.not_mem_nil, by decide, by decide, hl_30, hc_30, rfl⟩
theorem hd_L_carve_0 : zz_Hd mm_L_carve 3 "java/lang/IndexOutOfBoundsException" 7 := ⟨[], ⟨0, 6, 7, 30⟩, [⟨0, 6, 12, 13⟩, ⟨0, 6, 17, 25⟩], rfl, fun y hy => absurd hy List.not_mem_nil, by decide, by decide, hl_30, hc_30, rfl⟩
theorem hd_L_carve_1 : zz_Hd mm_L_carve 3 "java/lang/IllegalArgumentException" 12 := ⟨[⟨0, 6, 7, 30⟩], ⟨0, 6, 12, 13⟩, [⟨0, 6, 17, 25⟩], rfl, (fun y hy => by
  rcases List.mem_cons.mp hy with rfl | hy
  · exact Or.inr ⟨by decide, "java/lang/IndexOutOfBoundsException", hl_30, by decide +kernel⟩
  exact absurd hy List.not_mem_nil), by decide, by decide, hl_13, hc_13, rfl⟩
theorem hd_L_carve_2 : zz_Hd mm_L_carve 3 "java/lang/UnsupportedOperationException" 17 := ⟨[⟨0, 6, 7, 30⟩, ⟨0, 6, 12, 13⟩], ⟨0, 6, 17, 25⟩, [], rfl, (fun y hy => by
  rcases List.mem_cons.mp hy with rfl | hy
  · exact Or.inr ⟨by decide, "java/lang/IndexOutOfBoundsException", hl_30, by decide +kernel⟩
  rcases List.mem_cons.mp hy with rfl | hy
  · exact Or.inr ⟨by decide, "java/lang/IllegalArgumentException", hl_13, by decide +kernel⟩
  exact absurd hy List.not_mem_nil), by decide, by decide, hl_25, hc_25, rfl⟩
theorem hd_L_drop_0 : zz_Hd mm_L_drop 2 "java/util/NoSuchElementException" 6 := ⟨[], ⟨0, 5, 6, 41⟩, [], rfl, fun y hy => absurd hy List.not_mem_nil, by decide, by decide, hl_41, hc_41, rfl⟩
theorem hd_L_age_0 : zz_Hd mm_L_age 2 "java/lang/IllegalArgumentException" 6 := ⟨[], ⟨0, 5, 6, 13⟩, [], rfl, fun y hy => absurd hy List.not_mem_nil, by decide, by decide, hl_13, hc_13, rfl⟩
theorem hd_L_rotOf_0 : zz_Hd mm_L_rotOf 3 "java/util/NoSuchElementException" 7 := ⟨[], ⟨0, 6, 7, 41⟩, [⟨0, 6, 12, 30⟩], rfl, fun y hy => absurd hy List.not_mem_nil, by decide, by decide, hl_41, hc_41, rfl⟩
theorem hd_L_rotOf_1 : zz_Hd mm_L_rotOf 3 "java/lang/IndexOutOfBoundsException" 12 := ⟨[⟨0, 6, 7, 41⟩], ⟨0, 6, 12, 30⟩, [], rfl, (fun y hy => by
  rcases List.mem_cons.mp hy with rfl | hy
  · exact Or.inr ⟨by decide, "java/util/NoSuchElementException", hl_41, by decide +kernel⟩
  exact absurd hy List.not_mem_nil), by decide, by decide, hl_30, hc_30, rfl⟩
theorem hd_L_feed_0 : zz_Hd mm_L_feed 2 "java/lang/IllegalStateException" 6 := ⟨[], ⟨0, 5, 6, 15⟩, [], rfl, fun y hy => absurd hy List.not_mem_nil, by decide, by decide, hl_15, hc_15, rfl⟩
theorem hd_L_execute_0 : zz_Hd mm_L_execute 1 "java/lang/IllegalArgumentException" 5 := ⟨[], ⟨0, 4, 5, 13⟩, [⟨0, 4, 10, 25⟩], rfl, fun y hy => absurd hy List.not_mem_nil, by decide, by decide, hl_13, hc_13, rfl⟩
theorem hd_L_execute_1 : zz_Hd mm_L_execute 1 "java/lang/UnsupportedOperationException" 10 := ⟨[⟨0, 4, 5, 13⟩], ⟨0, 4, 10, 25⟩, [], rfl, (fun y hy => by
  rcases List.mem_cons.mp hy with rfl | hy
  · exact Or.inr ⟨by decide, "java/lang/IllegalArgumentException", hl_13, by decide +kernel⟩
  exact absurd hy List.not_mem_nil), by decide, by decide, hl_25, hc_25, rfl⟩
theorem hd_L_faultPosition_0 : zz_Hd mm_L_faultPosition 1 "java/util/NoSuchElementException" 5 := ⟨[], ⟨0, 4, 5, 41⟩, [], rfl, fun y hy => absurd hy List.not_mem_nil, by decide, by decide, hl_41, hc_41, rfl⟩
theorem hd_L_undo_0 : zz_Hd mm_L_undo 1 "java/lang/IllegalStateException" 5 := ⟨[], ⟨0, 4, 5, 15⟩, [], rfl, fun y hy => absurd hy List.not_mem_nil, by decide, by decide, hl_15, hc_15, rfl⟩
theorem hd_L_restore_0 : zz_Hd mm_L_restore 1 "java/lang/IllegalStateException" 5 := ⟨[], ⟨0, 4, 5, 15⟩, [], rfl, fun y hy => absurd hy List.not_mem_nil, by decide, by decide, hl_15, hc_15, rfl⟩
theorem hd_L_denial_0 : zz_Hd mm_L_denial 1 "java/util/NoSuchElementException" 5 := ⟨[], ⟨0, 4, 5, 41⟩, [], rfl, fun y hy => absurd hy List.not_mem_nil, by decide, by decide, hl_41, hc_41, rfl⟩
theorem hd_L_denialDetail_0 : zz_Hd mm_L_denialDetail 1 "java/util/NoSuchElementException" 5 := ⟨[], ⟨0, 4, 5, 41⟩, [], rfl, fun y hy => absurd hy List.not_mem_nil, by decide, by decide, hl_41, hc_41, rfl⟩
theorem hd_L_denialCause_0 : zz_Hd mm_L_denialCause 1 "java/util/NoSuchElementException" 5 := ⟨[], ⟨0, 4, 5, 41⟩, [], rfl, fun y hy => absurd hy List.not_mem_nil, by decide, by decide, hl_41, hc_41, rfl⟩
theorem hd_L_meanLength_0 : zz_Hd mm_L_meanLength 1 "java/lang/ArithmeticException" 5 := ⟨[], ⟨0, 4, 5, 111⟩, [], rfl, fun y hy => absurd hy List.not_mem_nil, by decide, by decide, hl_111, hc_111, rfl⟩
theorem hd_L_rottenShare_0 : zz_Hd mm_L_rottenShare 1 "java/lang/ArithmeticException" 5 := ⟨[], ⟨0, 4, 5, 111⟩, [], rfl, fun y hy => absurd hy List.not_mem_nil, by decide, by decide, hl_111, hc_111, rfl⟩
theorem hd_L_dampness_0 : zz_Hd mm_L_dampness 2 "java/lang/IndexOutOfBoundsException" 6 := ⟨[], ⟨0, 5, 6, 30⟩, [], rfl, fun y hy => absurd hy List.not_mem_nil, by decide, by decide, hl_30, hc_30, rfl⟩
theorem hd_L_telegramAt_0 : zz_Hd mm_L_telegramAt 2 "java/lang/IndexOutOfBoundsException" 6 := ⟨[], ⟨0, 5, 6, 30⟩, [], rfl, fun y hy => absurd hy List.not_mem_nil, by decide, by decide, hl_30, hc_30, rfl⟩
theorem hd_L_byPriority_0 : zz_Hd mm_L_byPriority 2 "java/util/NoSuchElementException" 6 := ⟨[], ⟨0, 5, 6, 41⟩, [], rfl, fun y hy => absurd hy List.not_mem_nil, by decide, by decide, hl_41, hc_41, rfl⟩
theorem hd_L_byRot_0 : zz_Hd mm_L_byRot 2 "java/util/NoSuchElementException" 6 := ⟨[], ⟨0, 5, 6, 41⟩, [], rfl, fun y hy => absurd hy List.not_mem_nil, by decide, by decide, hl_41, hc_41, rfl⟩
theorem hd_L_checksumOf_0 : zz_Hd mm_L_checksumOf 2 "java/util/NoSuchElementException" 6 := ⟨[], ⟨0, 5, 6, 41⟩, [], rfl, fun y hy => absurd hy List.not_mem_nil, by decide, by decide, hl_41, hc_41, rfl⟩
theorem hd_L_untilRotten_0 : zz_Hd mm_L_untilRotten 2 "java/util/NoSuchElementException" 6 := ⟨[], ⟨0, 5, 6, 41⟩, [], rfl, fun y hy => absurd hy List.not_mem_nil, by decide, by decide, hl_41, hc_41, rfl⟩
theorem hd_L_isReadable_0 : zz_Hd mm_L_isReadable 2 "java/util/NoSuchElementException" 14 := ⟨[], ⟨0, 13, 14, 41⟩, [], rfl, fun y hy => absurd hy List.not_mem_nil, by decide, by decide, hl_41, hc_41, rfl⟩
theorem hd_L_decodedLength_0 : zz_Hd mm_L_decodedLength 2 "java/util/NoSuchElementException" 6 := ⟨[], ⟨0, 5, 6, 41⟩, [], rfl, fun y hy => absurd hy List.not_mem_nil, by decide, by decide, hl_41, hc_41, rfl⟩
theorem hd_L_codeLength_0 : zz_Hd mm_L_codeLength 2 "java/util/NoSuchElementException" 6 := ⟨[], ⟨0, 5, 6, 41⟩, [], rfl, fun y hy => absurd hy List.not_mem_nil, by decide, by decide, hl_41, hc_41, rfl⟩
theorem hd_L_codeChar_0 : zz_Hd mm_L_codeChar 3 "java/util/NoSuchElementException" 7 := ⟨[], ⟨0, 6, 7, 41⟩, [⟨0, 6, 12, 30⟩], rfl, fun y hy => absurd hy List.not_mem_nil, by decide, by decide, hl_41, hc_41, rfl⟩
theorem hd_L_codeChar_1 : zz_Hd mm_L_codeChar 3 "java/lang/IndexOutOfBoundsException" 12 := ⟨[⟨0, 6, 7, 41⟩], ⟨0, 6, 12, 30⟩, [], rfl, (fun y hy => by
  rcases List.mem_cons.mp hy with rfl | hy
  · exact Or.inr ⟨by decide, "java/util/NoSuchElementException", hl_41, by decide +kernel⟩
  exact absurd hy List.not_mem_nil), by decide, by decide, hl_30, hc_30, rfl⟩
theorem hd_L_write_0 : zz_Hd mm_L_write 2 "java/util/NoSuchElementException" 6 := ⟨[], ⟨0, 5, 6, 41⟩, [], rfl, fun y hy => absurd hy List.not_mem_nil, by decide, by decide, hl_41, hc_41, rfl⟩
theorem hd_L_lineChar_0 : zz_Hd mm_L_lineChar 2 "java/lang/IndexOutOfBoundsException" 6 := ⟨[], ⟨0, 5, 6, 30⟩, [], rfl, fun y hy => absurd hy List.not_mem_nil, by decide, by decide, hl_30, hc_30, rfl⟩
theorem hd_L_dry_0 : zz_Hd mm_L_dry 2 "java/lang/IndexOutOfBoundsException" 6 := ⟨[], ⟨0, 5, 6, 30⟩, [⟨0, 5, 11, 25⟩], rfl, fun y hy => absurd hy List.not_mem_nil, by decide, by decide, hl_30, hc_30, rfl⟩
theorem hd_L_dry_1 : zz_Hd mm_L_dry 2 "java/lang/UnsupportedOperationException" 11 := ⟨[⟨0, 5, 6, 30⟩], ⟨0, 5, 11, 25⟩, [], rfl, (fun y hy => by
  rcases List.mem_cons.mp hy with rfl | hy
  · exact Or.inr ⟨by decide, "java/lang/IndexOutOfBoundsException", hl_30, by decide +kernel⟩
  exact absurd hy List.not_mem_nil), by decide, by decide, hl_25, hc_25, rfl⟩
theorem hd_L_damage_0 : zz_Hd mm_L_damage 4 "java/util/NoSuchElementException" 8 := ⟨[], ⟨0, 7, 8, 41⟩, [⟨0, 7, 14, 30⟩, ⟨0, 7, 20, 13⟩, ⟨0, 7, 26, 25⟩], rfl, fun y hy => absurd hy List.not_mem_nil, by decide, by decide, hl_41, hc_41, rfl⟩
theorem hd_L_damage_1 : zz_Hd mm_L_damage 4 "java/lang/IndexOutOfBoundsException" 14 := ⟨[⟨0, 7, 8, 41⟩], ⟨0, 7, 14, 30⟩, [⟨0, 7, 20, 13⟩, ⟨0, 7, 26, 25⟩], rfl, (fun y hy => by
  rcases List.mem_cons.mp hy with rfl | hy
  · exact Or.inr ⟨by decide, "java/util/NoSuchElementException", hl_41, by decide +kernel⟩
  exact absurd hy List.not_mem_nil), by decide, by decide, hl_30, hc_30, rfl⟩
theorem hd_L_damage_2 : zz_Hd mm_L_damage 4 "java/lang/IllegalArgumentException" 20 := ⟨[⟨0, 7, 8, 41⟩, ⟨0, 7, 14, 30⟩], ⟨0, 7, 20, 13⟩, [⟨0, 7, 26, 25⟩], rfl, (fun y hy => by
  rcases List.mem_cons.mp hy with rfl | hy
  · exact Or.inr ⟨by decide, "java/util/NoSuchElementException", hl_41, by decide +kernel⟩
  rcases List.mem_cons.mp hy with rfl | hy
  · exact Or.inr ⟨by decide, "java/lang/IndexOutOfBoundsException", hl_30, by decide +kernel⟩
  exact absurd hy List.not_mem_nil), by decide, by decide, hl_13, hc_13, rfl⟩
theorem hd_L_damage_3 : zz_Hd mm_L_damage 4 "java/lang/UnsupportedOperationException" 26 := ⟨[⟨0, 7, 8, 41⟩, ⟨0, 7, 14, 30⟩, ⟨0, 7, 20, 13⟩], ⟨0, 7, 26, 25⟩, [], rfl, (fun y hy => by
  rcases List.mem_cons.mp hy with rfl | hy
  · exact Or.inr ⟨by decide, "java/util/NoSuchElementException", hl_41, by decide +kernel⟩
  rcases List.mem_cons.mp hy with rfl | hy
  · exact Or.inr ⟨by decide, "java/lang/IndexOutOfBoundsException", hl_30, by decide +kernel⟩
  rcases List.mem_cons.mp hy with rfl | hy
  · exact Or.inr ⟨by decide, "java/lang/IllegalArgumentException", hl_13, by decide +kernel⟩
  exact absurd hy List.not_mem_nil), by decide, by decide, hl_25, hc_25, rfl⟩
theorem hd_L_recarve_0 : zz_Hd mm_L_recarve 2 "java/util/NoSuchElementException" 6 := ⟨[], ⟨0, 5, 6, 41⟩, [⟨0, 5, 11, 25⟩], rfl, fun y hy => absurd hy List.not_mem_nil, by decide, by decide, hl_41, hc_41, rfl⟩
theorem hd_L_recarve_1 : zz_Hd mm_L_recarve 2 "java/lang/UnsupportedOperationException" 11 := ⟨[⟨0, 5, 6, 41⟩], ⟨0, 5, 11, 25⟩, [], rfl, (fun y hy => by
  rcases List.mem_cons.mp hy with rfl | hy
  · exact Or.inr ⟨by decide, "java/util/NoSuchElementException", hl_41, by decide +kernel⟩
  exact absurd hy List.not_mem_nil), by decide, by decide, hl_25, hc_25, rfl⟩
theorem hd_L_move_0 : zz_Hd mm_L_move 3 "java/util/NoSuchElementException" 7 := ⟨[], ⟨0, 6, 7, 41⟩, [⟨0, 6, 12, 30⟩, ⟨0, 6, 17, 25⟩], rfl, fun y hy => absurd hy List.not_mem_nil, by decide, by decide, hl_41, hc_41, rfl⟩
theorem hd_L_move_1 : zz_Hd mm_L_move 3 "java/lang/IndexOutOfBoundsException" 12 := ⟨[⟨0, 6, 7, 41⟩], ⟨0, 6, 12, 30⟩, [⟨0, 6, 17, 25⟩], rfl, (fun y hy => by
  rcases List.mem_cons.mp hy with rfl | hy
  · exact Or.inr ⟨by decide, "java/util/NoSuchElementException", hl_41, by decide +kernel⟩
  exact absurd hy List.not_mem_nil), by decide, by decide, hl_30, hc_30, rfl⟩
theorem hd_L_move_2 : zz_Hd mm_L_move 3 "java/lang/UnsupportedOperationException" 17 := ⟨[⟨0, 6, 7, 41⟩, ⟨0, 6, 12, 30⟩], ⟨0, 6, 17, 25⟩, [], rfl, (fun y hy => by
  rcases List.mem_cons.mp hy with rfl | hy
  · exact Or.inr ⟨by decide, "java/util/NoSuchElementException", hl_41, by decide +kernel⟩
  rcases List.mem_cons.mp hy with rfl | hy
  · exact Or.inr ⟨by decide, "java/lang/IndexOutOfBoundsException", hl_30, by decide +kernel⟩
  exact absurd hy List.not_mem_nil), by decide, by decide, hl_25, hc_25, rfl⟩
theorem hd_L_read_0 : zz_Hd mm_L_read 2 "java/util/NoSuchElementException" 6 := ⟨[], ⟨0, 5, 6, 41⟩, [⟨0, 5, 11, 25⟩], rfl, fun y hy => absurd hy List.not_mem_nil, by decide, by decide, hl_41, hc_41, rfl⟩
theorem hd_L_read_1 : zz_Hd mm_L_read 2 "java/lang/UnsupportedOperationException" 11 := ⟨[⟨0, 5, 6, 41⟩], ⟨0, 5, 11, 25⟩, [], rfl, (fun y hy => by
  rcases List.mem_cons.mp hy with rfl | hy
  · exact Or.inr ⟨by decide, "java/util/NoSuchElementException", hl_41, by decide +kernel⟩
  exact absurd hy List.not_mem_nil), by decide, by decide, hl_25, hc_25, rfl⟩
theorem hd_L_rootOf_0 : zz_Hd mm_L_rootOf 2 "java/util/NoSuchElementException" 6 := ⟨[], ⟨0, 5, 6, 41⟩, [], rfl, fun y hy => absurd hy List.not_mem_nil, by decide, by decide, hl_41, hc_41, rfl⟩
theorem hd_L_pageCount_0 : zz_Hd mm_L_pageCount 2 "java/util/NoSuchElementException" 6 := ⟨[], ⟨0, 5, 6, 41⟩, [], rfl, fun y hy => absurd hy List.not_mem_nil, by decide, by decide, hl_41, hc_41, rfl⟩
theorem hd_L_decodedByUnits_0 : zz_Hd mm_L_decodedByUnits 2 "java/util/NoSuchElementException" 6 := ⟨[], ⟨0, 5, 6, 41⟩, [], rfl, fun y hy => absurd hy List.not_mem_nil, by decide, by decide, hl_41, hc_41, rfl⟩
