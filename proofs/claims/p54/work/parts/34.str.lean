/-! STRINGS: length, characters -/
theorem gs_JS_coder_38 : Cond.fieldLink (zz_y mm_JS_coder).cls 38 "java/lang/String" "COMPACT_STRINGS" "Z" ∈ zz_gw := zz_in 786 (by decide +kernel) rfl
theorem gs_JS_isLatin1_38 : Cond.fieldLink (zz_y mm_JS_isLatin1).cls 38 "java/lang/String" "COMPACT_STRINGS" "Z" ∈ zz_gw := zz_in 786 (by decide +kernel) rfl
theorem gs_JS_checkIndex_1053 : Cond.fieldLink (zz_y mm_JS_checkIndex).cls 1053 "jdk/internal/util/Preconditions" "SIOOBE_FORMATTER" "Ljava/util/function/BiFunction;" ∈ zz_gw := zz_in 803 (by decide +kernel) rfl
theorem gs_JA_init_18 : Cond.fieldLink (zz_y mm_JA_init).cls 18 "java/lang/String" "COMPACT_STRINGS" "Z" ∈ zz_gw := zz_in 978 (by decide +kernel) rfl
theorem gs_JA_isLatin1_18 : Cond.fieldLink (zz_y mm_JA_isLatin1).cls 18 "java/lang/String" "COMPACT_STRINGS" "Z" ∈ zz_gw := zz_in 978 (by decide +kernel) rfl
theorem gs_JS_checkBoundsBeginEnd_1053 : Cond.fieldLink (zz_y mm_JS_checkBoundsBeginEnd).cls 1053 "jdk/internal/util/Preconditions" "SIOOBE_FORMATTER" "Ljava/util/function/BiFunction;" ∈ zz_gw := zz_in 803 (by decide +kernel) rfl
theorem gs_JA_inflateIfNeededFor_18 : Cond.fieldLink (zz_y mm_JA_inflateIfNeededFor).cls 18 "java/lang/String" "COMPACT_STRINGS" "Z" ∈ zz_gw := zz_in 978 (by decide +kernel) rfl
theorem gs_JS_init_AbsVoi_38 : Cond.fieldLink (zz_y mm_JS_init_AbsVoi).cls 38 "java/lang/String" "COMPACT_STRINGS" "Z" ∈ zz_gw := zz_in 786 (by decide +kernel) rfl
theorem gs_JI_getChars_83 : Cond.fieldLink (zz_y mm_JI_getChars).cls 83 "java/lang/Integer" "DigitOnes" "[B" ∈ zz_gw := zz_in 1158 (by decide +kernel) rfl
theorem gs_JI_getChars_87 : Cond.fieldLink (zz_y mm_JI_getChars).cls 87 "java/lang/Integer" "DigitTens" "[B" ∈ zz_gw := zz_in 1160 (by decide +kernel) rfl
/-- the object s is a String of the characters xs, all below 128, in the bytes a -/
def zz_Sg (K : Nat → Nat × Nat) (R : Nat → Nat → Option Nat) (I : Nat → Nat → Int32) (s a : Nat) (xs : List Int32) : Prop :=
  K s = zz_o 8 ∧ R s 0 = some a ∧ K a = zz_a 2 xs.length ∧ I s 1 = nI 0 ∧ xs.length < 2 ^ 20 ∧ (∀ j, j < xs.length → I a j = xs.getD j 0) ∧ ∀ j, j < xs.length → ∃ k, k < 128 ∧ xs.getD j 0 = nI k
theorem zz_Sg.kept {K : Nat → Nat × Nat} {R R' : Nat → Nat → Option Nat} {I I' : Nat → Nat → Int32} {s a : Nat} {xs : List Int32} (h : zz_Sg K R I s a xs) (h1 : R' s = R s) (h2 : I' s = I s) (h3 : I' a = I a) : zz_Sg K R' I' s a xs := by
  obtain ⟨k1, k2, k3, k4, k5, k6, k7⟩ := h
  exact ⟨k1, by rw [h1]; exact k2, k3, by rw [h2]; exact k4, k5, fun j hj => by rw [h3]; exact k6 j hj, k7⟩
theorem zz_and255 : ∀ k, k < 128 → nI k &&& nI 255 = nI k ∧ ((nI k).toUInt32 % 65536).toInt32 = nI k := by decide +kernel
theorem zz_shr0 (x : Int32) : x >>> (nI 0 &&& 31) = x := by
  rw [show (nI 0 &&& 31 : Int32) = 0 by decide]
  exact Int32.shiftRight_zero
section Str
variable {g : zz_G} {l : Launch} {K : Nat → Nat × Nat} {R : Nat → Nat → Option Nat} {I : Nat → Nat → Int32} {L : Nat → Nat → Int64} {z : Nat} {s a : Nat} {xs : List Int32} {h : zz_H}
theorem sp_JS_coder (hf : l.stackTraces = false) (hS : zz_Sg K R I s a xs) : zz_S g l mm_JS_coder 0 0 [.ref s] (K, R, I, L, z) (zz_is (K, R, I, L, z) (.int (nI 0))) zz_no := by
  obtain ⟨k1, k2, k3, k4, k5, k6, k7⟩ := hS
  refine z_start hf rfl (by decide +kernel) (Nat.le_of_ble_eq_true rfl) ?_
  dsimp only [zz_lv0]
  refine z_gets ee_JS_coder_0 (fun s h => h.2.2.1) gs_JS_coder_38 ?_
  refine z_if_eq ee_JS_coder_3 (tgt := 13) (by decide) (fun c_3 => ?_) (fun c_3 => ?_)
  -- at 3
  · exact absurd c_3 (by decide)
  · refine z_aload_n ee_JS_coder_6 rfl ?_
    refine z_getI ee_JS_coder_7 ff_JS_coder_15 (by assumption) il_8_1 ?_
    refine z_goto ee_JS_coder_10 (tgt := 14) (by decide) ?_
    -- at 14
    rw [k4]
    refine z_zret ee_JS_coder_14 (ty := .byte) rfl (by decide) (by omega) (by omega) ?_
    -- at 14
    exact ⟨rfl, rfl⟩
theorem sp_JS_isLatin1 (hf : l.stackTraces = false) (hS : zz_Sg K R I s a xs) : zz_S g l mm_JS_isLatin1 0 0 [.ref s] (K, R, I, L, z) (zz_is (K, R, I, L, z) (.int (nI 1))) zz_no := by
  obtain ⟨k1, k2, k3, k4, k5, k6, k7⟩ := hS
  refine z_start hf rfl (by decide +kernel) (Nat.le_of_ble_eq_true rfl) ?_
  dsimp only [zz_lv0]
  refine z_gets ee_JS_isLatin1_0 (fun s h => h.2.2.1) gs_JS_isLatin1_38 ?_
  refine z_if_eq ee_JS_isLatin1_3 (tgt := 17) (by decide) (fun c_3 => ?_) (fun c_3 => ?_)
  -- at 3
  · exact absurd c_3 (by decide)
  · refine z_aload_n ee_JS_isLatin1_6 rfl ?_
    refine z_getI ee_JS_isLatin1_7 ff_JS_isLatin1_15 (by assumption) il_8_1 ?_
    refine z_if_ne ee_JS_isLatin1_10 (tgt := 17) (by decide) (fun c_10 => ?_) (fun c_10 => ?_)
    -- at 10
    · rw [k4] at c_10
      exact absurd rfl c_10
    · refine z_iconst ee_JS_isLatin1_13 (v := nI 1) (by decide) ?_
      refine z_goto ee_JS_isLatin1_14 (tgt := 18) (by decide) ?_
      refine z_zret ee_JS_isLatin1_18 (ty := .boolean) rfl (by decide) (by omega) (by omega) ?_
      -- at 18
      exact ⟨rfl, rfl⟩
theorem sp_JS_length (hf : l.stackTraces = false) (hS : zz_Sg K R I s a xs) : zz_S g l mm_JS_length 0 0 [.ref s] (K, R, I, L, z) (zz_is (K, R, I, L, z) (.int (nI xs.length))) zz_no := by
  have hS' := hS
  obtain ⟨k1, k2, k3, k4, k5, k6, k7⟩ := hS
  refine z_start hf rfl (by decide +kernel) (Nat.le_of_ble_eq_true rfl) ?_
  dsimp only [zz_lv0]
  refine z_aload_n ee_JS_length_0 rfl ?_
  refine z_getR ee_JS_length_1 ff_JS_length_9 (by assumption) il_8_0 (by assumption) ?_
  refine z_alen ee_JS_length_4 (by assumption) ?_
  refine z_aload_n ee_JS_length_5 rfl ?_
  -- at 6
  refine z_callV (As := []) ee_JS_length_6 kk_JS_length_335 rfl (by assumption) rfl rfl (Nat.le_of_ble_eq_true rfl) (by omega) (sp_JS_coder hf hS') (fun E h1 hx => hx.elim) (fun v h1 hq => ?_)
  obtain ⟨rfl, rfl⟩ := hq
  refine z_ishr ee_JS_length_9 ?_
  rw [zz_shr0]
  refine z_iret ee_JS_length_10 rfl (by omega) (by omega) ?_
  -- at 10
  exact ⟨rfl, rfl⟩
theorem sp_JP_checkIndex (hf : l.stackTraces = false) (i n : Nat) (hi : i < n) (hn : n < 2 ^ 31) (w : Value) (hw : w = .null ∨ ∃ q, w = .ref q) : zz_S g l mm_JP_checkIndex 0 0 [.int (nI i), .int (nI n), w] h (zz_is h (.int (nI i))) zz_no := by
  rcases hw with rfl | ⟨q, rfl⟩
  · refine z_start hf rfl (by decide +kernel) (Nat.le_of_ble_eq_true rfl) ?_
    dsimp only [zz_lv0]
    refine z_iload_n ee_JP_checkIndex_0 rfl ?_
    refine z_if_lt ee_JP_checkIndex_1 (tgt := 9) (by decide) (fun c_1 => ?_) (fun c_1 => ?_)
    -- at 1
    · simp (disch := omega) only [zi_lt, zi_le, zi_eq, zi_n, zi_0, zi_m1] at c_1
      omega
    · refine z_iload_n ee_JP_checkIndex_4 rfl ?_
      refine z_iload_n ee_JP_checkIndex_5 rfl ?_
      refine z_icmp_lt ee_JP_checkIndex_6 (tgt := 16) (by decide) (fun c_6 => ?_) (fun c_6 => ?_)
      -- at 6
      · refine z_iload_n ee_JP_checkIndex_16 rfl ?_
        refine z_iret ee_JP_checkIndex_17 rfl (by omega) (by omega) ?_
        -- at 17
        exact ⟨rfl, rfl⟩
      · simp (disch := omega) only [zi_lt, zi_le, zi_eq, zi_n, zi_0, zi_m1] at c_6
        omega
  · refine z_start hf rfl (by decide +kernel) (Nat.le_of_ble_eq_true rfl) ?_
    dsimp only [zz_lv0]
    refine z_iload_n ee_JP_checkIndex_0 rfl ?_
    refine z_if_lt ee_JP_checkIndex_1 (tgt := 9) (by decide) (fun c_1 => ?_) (fun c_1 => ?_)
    -- at 1
    · simp (disch := omega) only [zi_lt, zi_le, zi_eq, zi_n, zi_0, zi_m1] at c_1
      omega
    · refine z_iload_n ee_JP_checkIndex_4 rfl ?_
      refine z_iload_n ee_JP_checkIndex_5 rfl ?_
      refine z_icmp_lt ee_JP_checkIndex_6 (tgt := 16) (by decide) (fun c_6 => ?_) (fun c_6 => ?_)
      -- at 6
      · refine z_iload_n ee_JP_checkIndex_16 rfl ?_
        refine z_iret ee_JP_checkIndex_17 rfl (by omega) (by omega) ?_
        -- at 17
        exact ⟨rfl, rfl⟩
      · simp (disch := omega) only [zi_lt, zi_le, zi_eq, zi_n, zi_0, zi_m1] at c_6
        omega
theorem sp_JS_checkIndex (hf : l.stackTraces = false) (i n : Nat) (hi : i < n) (hn : n < 2 ^ 31) : zz_S g l mm_JS_checkIndex 0 0 [.int (nI i), .int (nI n)] h (fun v h' => h' = h ∧ v = none) zz_no := by
  refine z_start hf rfl (by decide +kernel) (Nat.le_of_ble_eq_true rfl) ?_
  dsimp only [zz_lv0]
  refine z_iload_n ee_JS_checkIndex_0 rfl ?_
  refine z_iload_n ee_JS_checkIndex_1 rfl ?_
  -- at 2
  refine z_getsq ee_JS_checkIndex_2 (fun s h => h.2.2.2.2) gs_JS_checkIndex_1053 (fun w hw => ?_)
  refine z_callS (As := [_, _, _]) ee_JS_checkIndex_5 kk_JS_checkIndex_1059 rfl rfl (Nat.le_of_ble_eq_true rfl) (by omega) (sp_JP_checkIndex hf i n hi hn w hw) (fun E h1 hx => hx.elim) (fun v h1 hq => ?_)
  obtain ⟨rfl, rfl⟩ := hq
  refine z_pop ee_JS_checkIndex_8 rfl ?_
  refine z_vret ee_JS_checkIndex_9 rfl (by omega) (by omega) ?_
  -- at 9
  exact ⟨rfl, rfl⟩
theorem sp_JL_charAt (hf : l.stackTraces = false) (hS : zz_Sg K R I s a xs) (i : Nat) (hi : i < xs.length) : zz_S g l mm_JL_charAt 0 0 [.ref a, .int (nI i)] (K, R, I, L, z) (zz_is (K, R, I, L, z) (.int (xs.getD i 0))) zz_no := by
  obtain ⟨k1, k2, k3, k4, k5, k6, k7⟩ := hS
  refine z_start hf rfl (by decide +kernel) (Nat.le_of_ble_eq_true rfl) ?_
  dsimp only [zz_lv0]
  refine z_iload_n ee_JL_charAt_0 rfl ?_
  refine z_aload_n ee_JL_charAt_1 rfl ?_
  refine z_alen ee_JL_charAt_2 (by assumption) ?_
  -- at 3
  refine z_callS (As := [_, _]) ee_JL_charAt_3 kk_JL_charAt_9 rfl rfl (Nat.le_of_ble_eq_true rfl) (by omega) (sp_JS_checkIndex hf i xs.length hi (by omega)) (fun E h1 hx => hx.elim) (fun v h1 hq => ?_)
  obtain ⟨rfl, rfl⟩ := hq
  refine z_aload_n ee_JL_charAt_6 rfl ?_
  refine z_iload_n ee_JL_charAt_7 rfl ?_
  -- at 8
  refine z_bald ee_JL_charAt_8 (by assumption) rfl (by omega) (by omega) (fun hb => ?_)
  rw [k6 i hi]
  obtain ⟨k, hk, e⟩ := k7 i hi
  rw [e]
  refine z_sipush ee_JL_charAt_9 (v := nI 255) (by decide) ?_
  refine z_iand ee_JL_charAt_12 ?_
  -- at 13
  rw [(zz_and255 k hk).1]
  refine z_i2c ee_JL_charAt_13 (zz_and255 k hk).2 ?_
  refine z_zret ee_JL_charAt_14 (ty := .char) rfl (zz_ch_n (by omega)).nar (by omega) (by omega) ?_
  -- at 14
  exact ⟨rfl, rfl⟩
theorem sp_JS_charAt (hf : l.stackTraces = false) (hS : zz_Sg K R I s a xs) (i : Nat) (hi : i < xs.length) : zz_S g l mm_JS_charAt 0 0 [.ref s, .int (nI i)] (K, R, I, L, z) (zz_is (K, R, I, L, z) (.int (xs.getD i 0))) zz_no := by
  have hS' := hS
  obtain ⟨k1, k2, k3, k4, k5, k6, k7⟩ := hS
  refine z_start hf rfl (by decide +kernel) (Nat.le_of_ble_eq_true rfl) ?_
  dsimp only [zz_lv0]
  refine z_aload_n ee_JS_charAt_0 rfl ?_
  -- at 1
  refine z_callV (As := []) ee_JS_charAt_1 kk_JS_charAt_492 rfl (by assumption) rfl rfl (Nat.le_of_ble_eq_true rfl) (by omega) (sp_JS_isLatin1 hf hS') (fun E h1 hx => hx.elim) (fun v h1 hq => ?_)
  obtain ⟨rfl, rfl⟩ := hq
  refine z_if_eq ee_JS_charAt_4 (tgt := 16) (by decide) (fun c_4 => ?_) (fun c_4 => ?_)
  -- at 4
  · exact absurd c_4 (by decide)
  · refine z_aload_n ee_JS_charAt_7 rfl ?_
    refine z_getR ee_JS_charAt_8 ff_JS_charAt_9 (by assumption) il_8_0 (by assumption) ?_
    refine z_iload_n ee_JS_charAt_11 rfl ?_
    -- at 12
    refine z_callS (As := [_, _]) ee_JS_charAt_12 kk_JS_charAt_495 rfl rfl (Nat.le_of_ble_eq_true rfl) (by omega) (sp_JL_charAt hf hS' i hi) (fun E h1 hx => hx.elim) (fun v h1 hq => ?_)
    obtain ⟨rfl, rfl⟩ := hq
    obtain ⟨k, hk, e⟩ := k7 i hi
    rw [e]
    refine z_zret ee_JS_charAt_15 (ty := .char) rfl (zz_ch_n (by omega)).nar (by omega) (by omega) ?_
    -- at 15
    exact ⟨rfl, rfl⟩
end Str
