/-! STRINGBUILDER: append -/
/-- the row of digits -/
def zz_Dg (g : zz_G) (K : Nat → Nat × Nat) (I : Nat → Nat → Int32) : Prop := K (g.2.2.2.2 30) = zz_a 2 100 ∧ ∀ j, j < 10 → I (g.2.2.2.2 30) j = nI (48 + j)
theorem zz_ng : ∀ k, k < 10 → ¬ -nI k ≤ -10 ∧ (-100 : Int32) < -nI k ∧ (-9 : Int32) ≤ -nI k := by decide +kernel
section Sb2
variable {g : zz_G} {l : Launch} {K : Nat → Nat × Nat} {R : Nat → Nat → Option Nat} {I : Nat → Nat → Int32} {L : Nat → Nat → Int64} {z : Nat} {b a cap lo s sa : Nat} {xs ys : List Int32} {h : zz_H}
theorem sp_JS_getBytes (hf : l.stackTraces = false) (hG : zz_Sg K R I s sa ys) (p : Nat) (hK : K a = zz_a 2 cap) (hA : zz_A g a) (hc : cap < 2 ^ 20) (hp : p + ys.length ≤ cap) : zz_S g l mm_JS_getBytes 0 0 [.ref s, .ref a, .int (nI p), .int (nI 0)] (K, R, I, L, z) (fun v h' => h' = (K, R, zz_cp I sa a 0 p ys.length, L, z) ∧ v = none) zz_no := by
  have hG' := hG
  obtain ⟨k1, k2, k3, k4, k5, k6, k7⟩ := hG
  refine z_start hf rfl (by decide +kernel) (Nat.le_of_ble_eq_true rfl) ?_
  dsimp only [zz_lv0]
  refine z_aload_n ee_JS_getBytes_0 rfl ?_
  -- at 1
  refine z_callV (As := []) ee_JS_getBytes_1 kk_JS_getBytes_335 rfl (by assumption) rfl rfl (Nat.le_of_ble_eq_true rfl) (by omega) (sp_JS_coder hf hG') (fun E h1 hx => hx.elim) (fun v h1 hq => ?_)
  obtain ⟨rfl, rfl⟩ := hq
  refine z_iload_n ee_JS_getBytes_4 rfl ?_
  refine z_icmp_ne ee_JS_getBytes_5 (tgt := 28) (by decide) (fun c_5 => ?_) (fun c_5 => ?_)
  -- at 5
  · exact absurd rfl c_5
  · refine z_aload_n ee_JS_getBytes_8 rfl ?_
    refine z_getR ee_JS_getBytes_9 ff_JS_getBytes_9 (by assumption) il_8_0 (by assumption) ?_
    refine z_iconst ee_JS_getBytes_12 (v := nI 0) (by decide) ?_
    refine z_aload_n ee_JS_getBytes_13 rfl ?_
    refine z_iload_n ee_JS_getBytes_14 rfl ?_
    refine z_iload_n ee_JS_getBytes_15 rfl ?_
    -- at 16
    refine z_ishl ee_JS_getBytes_16 ?_
    rw [zz_shl0]
    refine z_aload_n ee_JS_getBytes_17 rfl ?_
    refine z_getR ee_JS_getBytes_18 ff_JS_getBytes_9 (by assumption) il_8_0 (by assumption) ?_
    refine z_alen ee_JS_getBytes_21 (by assumption) ?_
    -- at 22
    refine z_copy (t := 2) (sp := 0) (dp := p) (n := ys.length) ee_JS_getBytes_22 (by omega) cc_JS_getBytes_212 cw_nat cw_stat cw_ini k3 hK hA rfl rfl rfl (by omega) (by omega) (by omega) (by omega) (Nat.le_of_ble_eq_true rfl) (Nat.le_of_ble_eq_true rfl) ?_
    refine z_goto ee_JS_getBytes_25 (tgt := 43) (by decide) ?_
    refine z_vret ee_JS_getBytes_43 rfl (by omega) (by omega) ?_
    -- at 43
    exact ⟨rfl, rfl⟩
theorem sp_JA_inflateIfNeededFor (hf : l.stackTraces = false) (hS : zz_SB g K R I b a cap xs) (hG : zz_Sg K R I s sa ys) : zz_S g l mm_JA_inflateIfNeededFor 0 0 [.ref b, .ref s] (K, R, I, L, z) (fun v h' => h' = (K, R, I, L, z) ∧ v = none) zz_no := by
  have hG' := hG
  obtain ⟨⟨k1, k2, k3, k4, k5, k6⟩, i1, i3, -⟩ := hS
  obtain ⟨g1, g2, g3, g4, g5, g6, g7⟩ := hG
  refine z_start hf rfl (by decide +kernel) (Nat.le_of_ble_eq_true rfl) ?_
  dsimp only [zz_lv0]
  refine z_gets ee_JA_inflateIfNeededFor_0 (fun s h => h.2.2.1) gs_JA_inflateIfNeededFor_18 ?_
  refine z_if_eq ee_JA_inflateIfNeededFor_3 (tgt := 21) (by decide) (fun c_3 => ?_) (fun c_3 => ?_)
  -- at 3
  · exact absurd c_3 (by decide)
  · refine z_aload_n ee_JA_inflateIfNeededFor_6 rfl ?_
    refine z_getI ee_JA_inflateIfNeededFor_7 ff_JA_inflateIfNeededFor_22 (by assumption) il_9_1 ?_
    refine z_aload_n ee_JA_inflateIfNeededFor_10 rfl ?_
    -- at 11
    refine z_callV (As := []) ee_JA_inflateIfNeededFor_11 kk_JA_inflateIfNeededFor_40 rfl (by assumption) rfl rfl (Nat.le_of_ble_eq_true rfl) (by omega) (sp_JS_coder hf hG') (fun E h1 hx => hx.elim) (fun v h1 hq => ?_)
    obtain ⟨rfl, rfl⟩ := hq
    rw [i1]
    refine z_icmp_eq ee_JA_inflateIfNeededFor_14 (tgt := 21) (by decide) (fun c_14 => ?_) (fun c_14 => ?_)
    -- at 14
    · refine z_vret ee_JA_inflateIfNeededFor_21 rfl (by omega) (by omega) ?_
      -- at 21
      exact ⟨rfl, rfl⟩
    · exact absurd rfl c_14
theorem sp_JA_putStringAt (hf : l.stackTraces = false) (hS : zz_SB g K R I b a cap xs) (hG : zz_Sg K R I s sa ys) (hn : xs.length + ys.length ≤ cap) : zz_S g l mm_JA_putStringAt 0 0 [.ref b, .int (nI xs.length), .ref s] (K, R, I, L, z) (fun v h' => h' = (K, R, zz_cp I sa a 0 xs.length ys.length, L, z) ∧ v = none) zz_no := by
  have hS' := hS
  have hG' := hG
  obtain ⟨⟨k1, k2, k3, k4, k5, k6⟩, i1, i3, i4, i5, i6, i7⟩ := hS
  obtain ⟨g1, g2, g3, g4, g5, g6, g7⟩ := hG
  refine z_start hf rfl (by decide +kernel) (Nat.le_of_ble_eq_true rfl) ?_
  dsimp only [zz_lv0]
  refine z_aload_n ee_JA_putStringAt_0 rfl ?_
  refine z_aload_n ee_JA_putStringAt_1 rfl ?_
  -- at 2
  refine z_callU (As := [_]) ee_JA_putStringAt_2 ku_JA_putStringAt_397 rfl k1 rfl (Nat.le_of_ble_eq_true rfl) (by omega) (sp_JA_inflateIfNeededFor hf hS' hG') (fun E h1 hx => hx.elim) (fun v h1 hq => ?_)
  obtain ⟨rfl, rfl⟩ := hq
  refine z_aload_n ee_JA_putStringAt_5 rfl ?_
  refine z_aload_n ee_JA_putStringAt_6 rfl ?_
  refine z_getR ee_JA_putStringAt_7 ff_JA_putStringAt_15 (by assumption) il_9_0 (by assumption) ?_
  refine z_iload_n ee_JA_putStringAt_10 rfl ?_
  refine z_aload_n ee_JA_putStringAt_11 rfl ?_
  refine z_getI ee_JA_putStringAt_12 ff_JA_putStringAt_22 (by assumption) il_9_1 ?_
  -- at 15
  rw [i1]
  refine z_callV (As := [_, _, _]) ee_JA_putStringAt_15 kk_JA_putStringAt_399 rfl (by assumption) rfl rfl (Nat.le_of_ble_eq_true rfl) (by omega) (sp_JS_getBytes hf hG' xs.length k4 k5 (by omega) (by omega)) (fun E h1 hx => hx.elim) (fun v h1 hq => ?_)
  obtain ⟨rfl, rfl⟩ := hq
  refine z_vret ee_JA_putStringAt_18 rfl (by omega) (by omega) ?_
  -- at 18
  exact ⟨rfl, rfl⟩
theorem sp_JA_append_Str (hf : l.stackTraces = false) (hS : zz_SB g K R I b a cap xs) (hG : zz_Sg K R I s sa ys) (hn : xs.length + ys.length ≤ 34) (hb : lo ≤ b) (ha : lo ≤ a) (hs : s < lo) (hsa : sa < lo) : zz_S g l mm_JA_append_Str 1 34 [.ref b, .ref s] (K, R, I, L, z) (zz_Zc g K R I L z lo b (some (.ref b)) 0 (xs ++ ys)) zz_no := by
  have hS' := hS
  have hG' := hG
  obtain ⟨⟨k1, k2, k3, k4, k5, k6⟩, i1, i3, i4, i5, i6, i7⟩ := hS
  obtain ⟨g1, g2, g3, g4, g5, g6, g7⟩ := hG
  refine z_start hf rfl (by decide +kernel) (Nat.le_of_ble_eq_true rfl) ?_
  dsimp only [zz_lv0]
  refine z_aload_n ee_JA_append_Str_0 rfl ?_
  -- at 1
  refine z_ifnonnull ee_JA_append_Str_1 (tgt := 9) (by decide) ?_
  refine z_aload_n ee_JA_append_Str_9 rfl ?_
  -- at 10
  refine z_callV (As := []) ee_JA_append_Str_10 kk_JA_append_Str_32 rfl (by assumption) rfl rfl (Nat.le_of_ble_eq_true rfl) (by omega) (sp_JS_length hf hG') (fun E h1 hx => hx.elim) (fun v h1 hq => ?_)
  obtain ⟨rfl, rfl⟩ := hq
  refine z_istore_m ee_JA_append_Str_13 (j := 2) rfl (by decide) ?_
  refine z_aload_n ee_JA_append_Str_14 rfl ?_
  refine z_aload_n ee_JA_append_Str_15 rfl ?_
  refine z_getI ee_JA_append_Str_16 ff_JA_append_Str_79 (by assumption) il_9_3 ?_
  refine z_iload_n ee_JA_append_Str_19 rfl ?_
  -- at 20
  rw [i3]
  refine z_iadd ee_JA_append_Str_20 ?_
  rw [nI_add]
  refine z_callU (As := [_]) ee_JA_append_Str_21 ku_JA_append_Str_100 rfl k1 rfl (Nat.le_of_ble_eq_true rfl) (by omega) (sp_JA_ensureCapacityInternal hf hS' (xs.length + ys.length) hn hb) (fun E h1 hx => hx.elim) (fun v h1 hq => ?_)
  obtain ⟨K1, R1, I1, L1, z1, a1, cap1, rfl, rfl, hS1, hm, ha1, hz1, hk⟩ := hq
  have hG1 := hk.Sg hs hsa hG'
  have hS1' := hS1
  obtain ⟨⟨k1, k2, k3, k4, k5, k6⟩, i1, i3, i4, i5, i6, i7⟩ := hS1
  refine z_aload_n ee_JA_append_Str_24 rfl ?_
  refine z_aload_n ee_JA_append_Str_25 rfl ?_
  refine z_getI ee_JA_append_Str_26 ff_JA_append_Str_79 (by assumption) il_9_3 ?_
  refine z_aload_n ee_JA_append_Str_29 rfl ?_
  -- at 30
  rw [i3]
  refine z_callU (As := [_, _]) ee_JA_append_Str_30 ku_JA_append_Str_208 rfl k1 rfl (Nat.le_of_ble_eq_true rfl) (by omega) (sp_JA_putStringAt hf hS1' hG1 hm) (fun E h1 hx => hx.elim) (fun v h1 hq => ?_)
  obtain ⟨rfl, rfl⟩ := hq
  refine z_aload_n ee_JA_append_Str_33 rfl ?_
  refine z_dup ee_JA_append_Str_34 rfl ?_
  refine z_getI ee_JA_append_Str_35 ff_JA_append_Str_79 (by assumption) il_9_3 ?_
  refine z_iload_n ee_JA_append_Str_38 rfl ?_
  -- at 39
  rw [zz_cp_n (by omega), i3]
  refine z_iadd ee_JA_append_Str_39 ?_
  rw [nI_add]
  refine z_putI ee_JA_append_Str_40 ff_JA_append_Str_79 (by assumption) (by assumption) tl_9_3 fl_9_3 ?_
  refine z_aload_n ee_JA_append_Str_43 rfl ?_
  -- at 44
  refine z_aret ee_JA_append_Str_44 rfl (Or.inl ⟨_, rfl⟩) (by omega) (by omega) ?_
  refine ⟨_, _, _, _, _, a1, cap1, rfl, rfl, ⟨⟨k1, k2, k3, k4, k5, k6⟩, ?_, ?_, by rw [List.length_append]; omega, i5, fun j hj => ?_, i7.app (zz_as.of hG1.2.2.2.2.2.2)⟩, by omega, ha1, hz1, ⟨hk.1, hk.2.1, fun q q1 q2 => ?_, hk.2.2.2⟩⟩
  · rw [zz_up_k (by decide), zz_cp_n (by omega)]; exact i1
  · rw [zz_up_s, List.length_append]
  · rw [List.length_append] at hj
    rw [zz_up_a (by omega), zz_cp_s, zz_gD_app]
    by_cases q : j < xs.length
    · rw [if_pos q, pk_cpy_out (by omega)]; exact i6 j q
    · rw [if_neg q, pk_cpy_in (by omega) (by omega), Nat.zero_add]
      exact hG1.2.2.2.2.2.1 _ (by omega)
  · rw [zz_up_r (by omega), zz_cp_n (by omega)]; exact hk.2.2.1 q q1 q2
theorem sp_JA_append_C (hf : l.stackTraces = false) (hS : zz_SB g K R I b a cap xs) (k : Nat) (hc : k < 128) (hn : xs.length + 1 ≤ 34) (hb : lo ≤ b) : zz_S g l mm_JA_append_C 1 34 [.ref b, .int (nI k)] (K, R, I, L, z) (zz_Zc g K R I L z lo b (some (.ref b)) 0 (xs ++ [nI k])) zz_no := by
  have hS' := hS
  obtain ⟨⟨k1, k2, k3, k4, k5, k6⟩, i1, i3, i4, i5, i6, i7⟩ := hS
  refine z_start hf rfl (by decide +kernel) (Nat.le_of_ble_eq_true rfl) ?_
  dsimp only [zz_lv0]
  refine z_aload_n ee_JA_append_C_0 rfl ?_
  refine z_aload_n ee_JA_append_C_1 rfl ?_
  refine z_getI ee_JA_append_C_2 ff_JA_append_C_79 (by assumption) il_9_3 ?_
  refine z_iconst ee_JA_append_C_5 (v := nI 1) (by decide) ?_
  -- at 6
  rw [i3]
  refine z_iadd ee_JA_append_C_6 ?_
  rw [nI_add]
  refine z_callU (As := [_]) ee_JA_append_C_7 ku_JA_append_C_100 rfl k1 rfl (Nat.le_of_ble_eq_true rfl) (by omega) (sp_JA_ensureCapacityInternal hf hS' (xs.length + 1) hn hb) (fun E h1 hx => hx.elim) (fun v h1 hq => ?_)
  obtain ⟨K1, R1, I1, L1, z1, a1, cap1, rfl, rfl, hS1, hm, ha1, hz1, hk⟩ := hq
  have hS1' := hS1
  obtain ⟨⟨k1, k2, k3, k4, k5, k6⟩, i1, i3, i4, i5, i6, i7⟩ := hS1
  refine z_aload_n ee_JA_append_C_10 rfl ?_
  -- at 11
  refine z_callU (As := []) ee_JA_append_C_11 ku_JA_append_C_83 rfl k1 rfl (Nat.le_of_ble_eq_true rfl) (by omega) (sp_JA_isLatin1 hf hS1') (fun E h1 hx => hx.elim) (fun v h1 hq => ?_)
  obtain ⟨rfl, rfl⟩ := hq
  refine z_if_eq ee_JA_append_C_14 (tgt := 45) (by decide) (fun c_14 => ?_) (fun c_14 => ?_)
  -- at 14
  · exact absurd c_14 (by decide)
  · refine z_iload_n ee_JA_append_C_17 rfl ?_
    -- at 18
    refine z_callS (As := [_]) ee_JA_append_C_18 kk_JA_append_C_191 rfl rfl (Nat.le_of_ble_eq_true rfl) (by omega) (sp_JL_canEncode hf k (by omega)) (fun E h1 hx => hx.elim) (fun v h1 hq => ?_)
    obtain ⟨rfl, rfl⟩ := hq
    refine z_if_eq ee_JA_append_C_21 (tgt := 45) (by decide) (fun c_21 => ?_) (fun c_21 => ?_)
    -- at 21
    · exact absurd c_21 (by decide)
    · refine z_aload_n ee_JA_append_C_24 rfl ?_
      refine z_getR ee_JA_append_C_25 ff_JA_append_C_15 (by assumption) il_9_0 (by assumption) ?_
      refine z_aload_n ee_JA_append_C_28 rfl ?_
      refine z_dup ee_JA_append_C_29 rfl ?_
      refine z_getI ee_JA_append_C_30 ff_JA_append_C_79 (by assumption) il_9_3 ?_
      refine z_dup_x1 ee_JA_append_C_33 rfl rfl ?_
      refine z_iconst ee_JA_append_C_34 (v := nI 1) (by decide) ?_
      -- at 35
      rw [i3]
      refine z_iadd ee_JA_append_C_35 ?_
      rw [nI_add]
      refine z_putI ee_JA_append_C_36 ff_JA_append_C_79 (by assumption) (by assumption) tl_9_3 fl_9_3 ?_
      refine z_iload_n ee_JA_append_C_39 rfl ?_
      -- at 40
      refine z_i2b ee_JA_append_C_40 (zz_i2b k hc).1 ?_
      refine z_bast ee_JA_append_C_41 k4 k5 rfl (by omega) (by omega) (zz_i2b k hc).2.1 (zz_i2b k hc).2.2 ?_
      refine z_goto ee_JA_append_C_42 (tgt := 75) (by decide) ?_
      refine z_aload_n ee_JA_append_C_75 rfl ?_
      -- at 76
      refine z_aret ee_JA_append_C_76 rfl (Or.inl ⟨_, rfl⟩) (by omega) (by omega) ?_
      refine ⟨_, _, _, _, _, a1, cap1, rfl, rfl, ⟨⟨k1, k2, k3, k4, k5, k6⟩, ?_, ?_, by rw [List.length_append]; simpa using hm, i5, fun j hj => ?_, i7.app (zz_as.one hc)⟩, by omega, ha1, hz1, ⟨hk.1, hk.2.1, fun q q1 q2 => ?_, hk.2.2.2⟩⟩
      · rw [zz_up_a (by omega), zz_up_k (by decide)]; exact i1
      · rw [zz_up_a (by omega), zz_up_s, List.length_append]; rfl
      · rw [zz_getD_app]
        rw [List.length_append] at hj
        have hj : j < xs.length + 1 := hj
        by_cases q : j = xs.length
        · rw [if_pos q, q, zz_up_s]
        · rw [if_neg q, zz_up_k q, zz_up_a (by omega)]; exact i6 j (by omega)
      · rw [zz_up_r (by omega), zz_up_r (by omega)]; exact hk.2.2.1 q q1 q2
theorem sp_JI_stringSize (hf : l.stackTraces = false) (k : Nat) (hk : k < 10) : zz_S g l mm_JI_stringSize 0 0 [.int (nI k)] h (zz_is h (.int (nI 1))) zz_no := by
  refine z_start hf rfl (by decide +kernel) (Nat.le_of_ble_eq_true rfl) ?_
  dsimp only [zz_lv0]
  refine z_iconst ee_JI_stringSize_0 (v := nI 1) (by decide) ?_
  refine z_istore_m ee_JI_stringSize_1 (j := 1) rfl (by decide) ?_
  refine z_iload_n ee_JI_stringSize_2 rfl ?_
  refine z_if_lt ee_JI_stringSize_3 (tgt := 11) (by decide) (fun c_3 => ?_) (fun c_3 => ?_)
  -- at 3
  · simp (disch := omega) only [zi_lt, zi_le, zi_eq, zi_n, zi_0, zi_m1] at c_3
    omega
  · refine z_iconst ee_JI_stringSize_6 (v := nI 0) (by decide) ?_
    refine z_istore_m ee_JI_stringSize_7 (j := 1) rfl (by decide) ?_
    refine z_iload_n ee_JI_stringSize_8 rfl ?_
    refine z_ineg ee_JI_stringSize_9 ?_
    refine z_istore_m ee_JI_stringSize_10 (j := 0) rfl (by decide) ?_
    refine z_bipush ee_JI_stringSize_11 (v := -10) (by decide) ?_
    refine z_istore_m ee_JI_stringSize_13 (j := 2) rfl (by decide) ?_
    refine z_iconst ee_JI_stringSize_14 (v := nI 1) (by decide) ?_
    refine z_istore_m ee_JI_stringSize_15 (j := 3) rfl (by decide) ?_
    refine z_iload_n ee_JI_stringSize_16 rfl ?_
    refine z_bipush ee_JI_stringSize_17 (v := nI 10) (by decide) ?_
    refine z_icmp_ge ee_JI_stringSize_19 (tgt := 42) (by decide) (fun c_19 => ?_) (fun c_19 => ?_)
    -- at 19
    · exact absurd c_19 (by decide)
    · refine z_iload_n ee_JI_stringSize_22 rfl ?_
      refine z_iload_n ee_JI_stringSize_23 rfl ?_
      refine z_icmp_le ee_JI_stringSize_24 (tgt := 31) (by decide) (fun c_24 => ?_) (fun c_24 => ?_)
      -- at 24
      · exact absurd c_24 (zz_ng k hk).1
      · refine z_iload_n ee_JI_stringSize_27 rfl ?_
        refine z_iload_n ee_JI_stringSize_28 rfl ?_
        refine z_iadd ee_JI_stringSize_29 ?_
        refine z_iret ee_JI_stringSize_30 rfl (by omega) (by omega) ?_
        -- at 30
        exact ⟨rfl, rfl⟩
theorem sp_JI_getChars (hf : l.stackTraces = false) (k m : Nat) (hk : k < 10) (hm : m < cap) (hK : K a = zz_a 2 cap) (hA : zz_A g a) (hc : cap < 2 ^ 20) (hD : zz_Dg g K I) : zz_S g l mm_JI_getChars 0 0 [.int (nI k), .int (nI (m + 1)), .ref a] (K, R, I, L, z) (fun v h' => h' = (K, R, zz_up I a m (nI (48 + k)), L, z) ∧ v = some (.int (nI m))) zz_no := by
  refine z_start hf rfl (by decide +kernel) (Nat.le_of_ble_eq_true rfl) ?_
  dsimp only [zz_lv0]
  refine z_iload_n ee_JI_getChars_0 rfl ?_
  refine z_istore ee_JI_getChars_1 (by decide) ?_
  refine z_iload_n ee_JI_getChars_3 rfl ?_
  refine z_if_ge ee_JI_getChars_4 (tgt := 11) (by decide) (fun c_4 => ?_) (fun c_4 => ?_)
  -- at 4
  · refine z_iconst ee_JI_getChars_11 (v := nI 0) (by decide) ?_
    refine z_istore ee_JI_getChars_12 (by decide) ?_
    refine z_iload ee_JI_getChars_14 rfl ?_
    refine z_if_ne ee_JI_getChars_16 (tgt := 22) (by decide) (fun c_16 => ?_) (fun c_16 => ?_)
    -- at 16
    · exact absurd rfl c_16
    · refine z_iload_n ee_JI_getChars_19 rfl ?_
      refine z_ineg ee_JI_getChars_20 ?_
      refine z_istore_m ee_JI_getChars_21 (j := 0) rfl (by decide) ?_
      refine z_iload_n ee_JI_getChars_22 rfl ?_
      refine z_bipush ee_JI_getChars_23 (v := -100) (by decide) ?_
      refine z_icmp_gt ee_JI_getChars_25 (tgt := 72) (by decide) (fun c_25 => ?_) (fun c_25 => ?_)
      -- at 25
      · refine z_aload_n ee_JI_getChars_72 rfl ?_
        -- at 73
        refine z_iinc ee_JI_getChars_73 (v := nI m) rfl (by rw [show Int32.ofInt (-1) = -1 by decide]; exact pk_m1 m) (by decide) ?_
        refine z_iload ee_JI_getChars_76 rfl ?_
        -- at 78
        refine z_gets ee_JI_getChars_78 (fun s h => h.2.2.2.1) gs_JI_getChars_83 ?_
        refine z_iload_n ee_JI_getChars_81 rfl ?_
        refine z_ineg ee_JI_getChars_82 ?_
        -- at 83
        rw [Int32.neg_neg]
        refine z_bald ee_JI_getChars_83 hD.1 rfl (by omega) (by omega) (fun hb => ?_)
        rw [hD.2 k hk]
        refine z_bast ee_JI_getChars_84 hK hA rfl hm (by omega) (zz_i2b (48 + k) (by omega)).2.1 (zz_i2b (48 + k) (by omega)).2.2 ?_
        refine z_iload_n ee_JI_getChars_85 rfl ?_
        refine z_bipush ee_JI_getChars_86 (v := -9) (by decide) ?_
        refine z_icmp_ge ee_JI_getChars_88 (tgt := 104) (by decide) (fun c_88 => ?_) (fun c_88 => ?_)
        -- at 88
        · refine z_iload ee_JI_getChars_104 rfl ?_
          refine z_if_eq ee_JI_getChars_106 (tgt := 118) (by decide) (fun c_106 => ?_) (fun c_106 => ?_)
          -- at 106
          · refine z_iload ee_JI_getChars_118 rfl ?_
            refine z_iret ee_JI_getChars_120 rfl (by omega) (by omega) ?_
            -- at 120
            exact ⟨rfl, rfl⟩
          · exact absurd rfl c_106
        · exact absurd (zz_ng k hk).2.2 c_88
      · exact absurd (zz_ng k hk).2.1 c_25
  · simp (disch := omega) only [zi_lt, zi_le, zi_eq, zi_n, zi_0, zi_m1] at c_4
    omega
theorem sp_JA_append_I (hf : l.stackTraces = false) (hS : zz_SB g K R I b a cap xs) (k : Nat) (hc : k < 10) (hn : xs.length + 1 ≤ 34) (hb : lo ≤ b) (hD : zz_Dg g K I) (hd : g.2.2.2.2 30 < lo) : zz_S g l mm_JA_append_I 1 34 [.ref b, .int (nI k)] (K, R, I, L, z) (zz_Zc g K R I L z lo b (some (.ref b)) 0 (xs ++ [nI (48 + k)])) zz_no := by
  have hS' := hS
  obtain ⟨⟨k1, k2, k3, k4, k5, k6⟩, i1, i3, i4, i5, i6, i7⟩ := hS
  refine z_start hf rfl (by decide +kernel) (Nat.le_of_ble_eq_true rfl) ?_
  dsimp only [zz_lv0]
  refine z_aload_n ee_JA_append_I_0 rfl ?_
  refine z_getI ee_JA_append_I_1 ff_JA_append_I_79 (by assumption) il_9_3 ?_
  refine z_istore_m ee_JA_append_I_4 (j := 2) rfl (by decide) ?_
  refine z_iload_n ee_JA_append_I_5 rfl ?_
  refine z_iload_n ee_JA_append_I_6 rfl ?_
  -- at 7
  refine z_callS (As := [_]) ee_JA_append_I_7 kk_JA_append_I_245 rfl rfl (Nat.le_of_ble_eq_true rfl) (by omega) (sp_JI_stringSize hf k hc) (fun E h1 hx => hx.elim) (fun v h1 hq => ?_)
  obtain ⟨rfl, rfl⟩ := hq
  rw [i3]
  refine z_iadd ee_JA_append_I_10 ?_
  rw [nI_add]
  refine z_istore_m ee_JA_append_I_11 (j := 3) rfl (by decide) ?_
  refine z_aload_n ee_JA_append_I_12 rfl ?_
  refine z_iload_n ee_JA_append_I_13 rfl ?_
  -- at 14
  refine z_callU (As := [_]) ee_JA_append_I_14 ku_JA_append_I_100 rfl k1 rfl (Nat.le_of_ble_eq_true rfl) (by omega) (sp_JA_ensureCapacityInternal hf hS' (xs.length + 1) hn hb) (fun E h1 hx => hx.elim) (fun v h1 hq => ?_)
  obtain ⟨K1, R1, I1, L1, z1, a1, cap1, rfl, rfl, hS1, hm, ha1, hz1, hk⟩ := hq
  have hS1' := hS1
  obtain ⟨⟨k1, k2, k3, k4, k5, k6⟩, i1, i3, i4, i5, i6, i7⟩ := hS1
  have hD1 : zz_Dg g K1 I1 := ⟨by rw [hk.1 _ (by omega) hd]; exact hD.1, fun j hj => by rw [hk.2.2.1 _ (by omega) hd]; exact hD.2 j hj⟩
  refine z_aload_n ee_JA_append_I_17 rfl ?_
  -- at 18
  refine z_callU (As := []) ee_JA_append_I_18 ku_JA_append_I_83 rfl k1 rfl (Nat.le_of_ble_eq_true rfl) (by omega) (sp_JA_isLatin1 hf hS1') (fun E h1 hx => hx.elim) (fun v h1 hq => ?_)
  obtain ⟨rfl, rfl⟩ := hq
  refine z_if_eq ee_JA_append_I_21 (tgt := 37) (by decide) (fun c_21 => ?_) (fun c_21 => ?_)
  -- at 21
  · exact absurd c_21 (by decide)
  · refine z_iload_n ee_JA_append_I_24 rfl ?_
    refine z_iload_n ee_JA_append_I_25 rfl ?_
    refine z_aload_n ee_JA_append_I_26 rfl ?_
    refine z_getR ee_JA_append_I_27 ff_JA_append_I_15 (by assumption) il_9_0 (by assumption) ?_
    -- at 30
    refine z_callS (As := [_, _, _]) ee_JA_append_I_30 kk_JA_append_I_248 rfl rfl (Nat.le_of_ble_eq_true rfl) (by omega) (sp_JI_getChars hf k xs.length hc (by omega) k4 k5 (by omega) hD1) (fun E h1 hx => hx.elim) (fun v h1 hq => ?_)
    obtain ⟨rfl, rfl⟩ := hq
    refine z_pop ee_JA_append_I_33 rfl ?_
    refine z_goto ee_JA_append_I_34 (tgt := 48) (by decide) ?_
    refine z_aload_n ee_JA_append_I_48 rfl ?_
    refine z_iload_n ee_JA_append_I_49 rfl ?_
    refine z_putI ee_JA_append_I_50 ff_JA_append_I_79 (by assumption) (by assumption) tl_9_3 fl_9_3 ?_
    refine z_aload_n ee_JA_append_I_53 rfl ?_
    -- at 54
    refine z_aret ee_JA_append_I_54 rfl (Or.inl ⟨_, rfl⟩) (by omega) (by omega) ?_
    refine ⟨_, _, _, _, _, a1, cap1, rfl, rfl, ⟨⟨k1, k2, k3, k4, k5, k6⟩, ?_, ?_, by rw [List.length_append]; simpa using hm, i5, fun j hj => ?_, i7.app (zz_as.one (by omega))⟩, by omega, ha1, hz1, ⟨hk.1, hk.2.1, fun q q1 q2 => ?_, hk.2.2.2⟩⟩
    · rw [zz_up_k (by decide), zz_up_a (by omega)]; exact i1
    · rw [zz_up_s, List.length_append]; rfl
    · rw [zz_getD_app]
      rw [List.length_append] at hj
      have hj : j < xs.length + 1 := hj
      rw [zz_up_a (by omega)]
      by_cases q : j = xs.length
      · rw [if_pos q, q, zz_up_s]
      · rw [if_neg q, zz_up_k q]; exact i6 j (by omega)
    · rw [zz_up_r (by omega), zz_up_r (by omega)]; exact hk.2.2.1 q q1 q2
theorem sp_JB_append_Str (hf : l.stackTraces = false) (hS : zz_SB g K R I b a cap xs) (hG : zz_Sg K R I s sa ys) (hn : xs.length + ys.length ≤ 34) (hb : lo ≤ b) (ha : lo ≤ a) (hs : s < lo) (hsa : sa < lo) : zz_S g l mm_JB_append_Str 1 34 [.ref b, .ref s] (K, R, I, L, z) (zz_Zc g K R I L z lo b (some (.ref b)) 0 (xs ++ ys)) zz_no := by
  refine z_start hf rfl (by decide +kernel) (Nat.le_of_ble_eq_true rfl) ?_
  dsimp only [zz_lv0]
  refine z_aload_n ee_JB_append_Str_0 rfl ?_
  refine z_aload_n ee_JB_append_Str_1 rfl ?_
  -- at 2
  refine z_callSU (As := [_]) ee_JB_append_Str_2 ku_JB_append_Str_29 rfl hS.1.1 rfl (Nat.le_of_ble_eq_true rfl) (by omega) (sp_JA_append_Str hf hS hG hn hb ha hs hsa) (fun E h1 hx => hx.elim) (fun v h1 hq => ?_)
  obtain ⟨K1, R1, I1, L1, z1, a1, cap1, rfl, rfl, hS1, hm, ha1, hz1, hk⟩ := hq
  refine z_pop ee_JB_append_Str_5 rfl ?_
  refine z_aload_n ee_JB_append_Str_6 rfl ?_
  -- at 7
  refine z_aret ee_JB_append_Str_7 rfl (Or.inl ⟨_, rfl⟩) (by omega) (by omega) ?_
  exact ⟨_, _, _, _, _, a1, cap1, rfl, rfl, hS1, hm, ha1, hz1, hk⟩
theorem sp_JB_append_C (hf : l.stackTraces = false) (hS : zz_SB g K R I b a cap xs) (k : Nat) (hc : k < 128) (hn : xs.length + 1 ≤ 34) (hb : lo ≤ b) : zz_S g l mm_JB_append_C 1 34 [.ref b, .int (nI k)] (K, R, I, L, z) (zz_Zc g K R I L z lo b (some (.ref b)) 0 (xs ++ [nI k])) zz_no := by
  refine z_start hf rfl (by decide +kernel) (Nat.le_of_ble_eq_true rfl) ?_
  dsimp only [zz_lv0]
  refine z_aload_n ee_JB_append_C_0 rfl ?_
  refine z_iload_n ee_JB_append_C_1 rfl ?_
  -- at 2
  refine z_callSU (As := [_]) ee_JB_append_C_2 ku_JB_append_C_50 rfl hS.1.1 rfl (Nat.le_of_ble_eq_true rfl) (by omega) (sp_JA_append_C hf hS k hc hn hb) (fun E h1 hx => hx.elim) (fun v h1 hq => ?_)
  obtain ⟨K1, R1, I1, L1, z1, a1, cap1, rfl, rfl, hS1, hm, ha1, hz1, hk⟩ := hq
  refine z_pop ee_JB_append_C_5 rfl ?_
  refine z_aload_n ee_JB_append_C_6 rfl ?_
  -- at 7
  refine z_aret ee_JB_append_C_7 rfl (Or.inl ⟨_, rfl⟩) (by omega) (by omega) ?_
  exact ⟨_, _, _, _, _, a1, cap1, rfl, rfl, hS1, hm, ha1, hz1, hk⟩
theorem sp_JB_append_I (hf : l.stackTraces = false) (hS : zz_SB g K R I b a cap xs) (k : Nat) (hc : k < 10) (hn : xs.length + 1 ≤ 34) (hb : lo ≤ b) (hD : zz_Dg g K I) (hd : g.2.2.2.2 30 < lo) : zz_S g l mm_JB_append_I 1 34 [.ref b, .int (nI k)] (K, R, I, L, z) (zz_Zc g K R I L z lo b (some (.ref b)) 0 (xs ++ [nI (48 + k)])) zz_no := by
  refine z_start hf rfl (by decide +kernel) (Nat.le_of_ble_eq_true rfl) ?_
  dsimp only [zz_lv0]
  refine z_aload_n ee_JB_append_I_0 rfl ?_
  refine z_iload_n ee_JB_append_I_1 rfl ?_
  -- at 2
  refine z_callSU (As := [_]) ee_JB_append_I_2 ku_JB_append_I_53 rfl hS.1.1 rfl (Nat.le_of_ble_eq_true rfl) (by omega) (sp_JA_append_I hf hS k hc hn hb hD hd) (fun E h1 hx => hx.elim) (fun v h1 hq => ?_)
  obtain ⟨K1, R1, I1, L1, z1, a1, cap1, rfl, rfl, hS1, hm, ha1, hz1, hk⟩ := hq
  refine z_pop ee_JB_append_I_5 rfl ?_
  refine z_aload_n ee_JB_append_I_6 rfl ?_
  -- at 7
  refine z_aret ee_JB_append_I_7 rfl (Or.inl ⟨_, rfl⟩) (by omega) (by omega) ?_
  exact ⟨_, _, _, _, _, a1, cap1, rfl, rfl, hS1, hm, ha1, hz1, hk⟩
end Sb2
