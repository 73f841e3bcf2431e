/-! SUBSTRING -/
section Sub
variable {g : zz_G} {l : Launch} {K : Nat → Nat × Nat} {R : Nat → Nat → Option Nat} {I : Nat → Nat → Int32} {L : Nat → Nat → Int64} {z : Nat} {b a cap lo s sa : Nat} {xs ys : List Int32} {h : zz_H}
theorem sp_JP_checkFromToIndex (hf : l.stackTraces = false) (i j n : Nat) (hi : i ≤ j) (hj : j ≤ n) (hn : n < 2 ^ 31) (w : Value) (hw : w = .null ∨ ∃ q, w = .ref q) : zz_S g l mm_JP_checkFromToIndex 0 0 [.int (nI i), .int (nI j), .int (nI n), w] h (zz_is h (.int (nI i))) zz_no := by
  rcases hw with rfl | ⟨q, rfl⟩
  · refine z_start hf rfl (by decide +kernel) (Nat.le_of_ble_eq_true rfl) ?_
    dsimp only [zz_lv0]
    refine z_iload_n ee_JP_checkFromToIndex_0 rfl ?_
    refine z_if_lt ee_JP_checkFromToIndex_1 (tgt := 14) (by decide) (fun c_1 => ?_) (fun c_1 => ?_)
    -- at 1
    · simp (disch := omega) only [zi_lt, zi_le, zi_eq, zi_n, zi_0, zi_m1] at c_1
      omega
    · refine z_iload_n ee_JP_checkFromToIndex_4 rfl ?_
      refine z_iload_n ee_JP_checkFromToIndex_5 rfl ?_
      refine z_icmp_gt ee_JP_checkFromToIndex_6 (tgt := 14) (by decide) (fun c_6 => ?_) (fun c_6 => ?_)
      -- at 6
      · simp (disch := omega) only [zi_lt, zi_le, zi_eq, zi_n, zi_0, zi_m1] at c_6
        omega
      · refine z_iload_n ee_JP_checkFromToIndex_9 rfl ?_
        refine z_iload_n ee_JP_checkFromToIndex_10 rfl ?_
        refine z_icmp_le ee_JP_checkFromToIndex_11 (tgt := 22) (by decide) (fun c_11 => ?_) (fun c_11 => ?_)
        -- at 11
        · refine z_iload_n ee_JP_checkFromToIndex_22 rfl ?_
          refine z_iret ee_JP_checkFromToIndex_23 rfl (by omega) (by omega) ?_
          -- at 23
          exact ⟨rfl, rfl⟩
        · simp (disch := omega) only [zi_lt, zi_le, zi_eq, zi_n, zi_0, zi_m1] at c_11
          omega
  · refine z_start hf rfl (by decide +kernel) (Nat.le_of_ble_eq_true rfl) ?_
    dsimp only [zz_lv0]
    refine z_iload_n ee_JP_checkFromToIndex_0 rfl ?_
    refine z_if_lt ee_JP_checkFromToIndex_1 (tgt := 14) (by decide) (fun c_1 => ?_) (fun c_1 => ?_)
    -- at 1
    · simp (disch := omega) only [zi_lt, zi_le, zi_eq, zi_n, zi_0, zi_m1] at c_1
      omega
    · refine z_iload_n ee_JP_checkFromToIndex_4 rfl ?_
      refine z_iload_n ee_JP_checkFromToIndex_5 rfl ?_
      refine z_icmp_gt ee_JP_checkFromToIndex_6 (tgt := 14) (by decide) (fun c_6 => ?_) (fun c_6 => ?_)
      -- at 6
      · simp (disch := omega) only [zi_lt, zi_le, zi_eq, zi_n, zi_0, zi_m1] at c_6
        omega
      · refine z_iload_n ee_JP_checkFromToIndex_9 rfl ?_
        refine z_iload_n ee_JP_checkFromToIndex_10 rfl ?_
        refine z_icmp_le ee_JP_checkFromToIndex_11 (tgt := 22) (by decide) (fun c_11 => ?_) (fun c_11 => ?_)
        -- at 11
        · refine z_iload_n ee_JP_checkFromToIndex_22 rfl ?_
          refine z_iret ee_JP_checkFromToIndex_23 rfl (by omega) (by omega) ?_
          -- at 23
          exact ⟨rfl, rfl⟩
        · simp (disch := omega) only [zi_lt, zi_le, zi_eq, zi_n, zi_0, zi_m1] at c_11
          omega
theorem sp_JS_checkBoundsBeginEnd (hf : l.stackTraces = false) (i j n : Nat) (hi : i ≤ j) (hj : j ≤ n) (hn : n < 2 ^ 31) : zz_S g l mm_JS_checkBoundsBeginEnd 0 0 [.int (nI i), .int (nI j), .int (nI n)] h (fun v h' => h' = h ∧ v = none) zz_no := by
  refine z_start hf rfl (by decide +kernel) (Nat.le_of_ble_eq_true rfl) ?_
  dsimp only [zz_lv0]
  refine z_iload_n ee_JS_checkBoundsBeginEnd_0 rfl ?_
  refine z_iload_n ee_JS_checkBoundsBeginEnd_1 rfl ?_
  refine z_iload_n ee_JS_checkBoundsBeginEnd_2 rfl ?_
  -- at 3
  refine z_getsq ee_JS_checkBoundsBeginEnd_3 (fun s h => h.2.2.2.2) gs_JS_checkBoundsBeginEnd_1053 (fun w hw => ?_)
  refine z_callS (As := [_, _, _, _]) ee_JS_checkBoundsBeginEnd_6 kk_JS_checkBoundsBeginEnd_1062 rfl rfl (Nat.le_of_ble_eq_true rfl) (by omega) (sp_JP_checkFromToIndex hf i j n hi hj hn w hw) (fun E h1 hx => hx.elim) (fun v h1 hq => ?_)
  obtain ⟨rfl, rfl⟩ := hq
  refine z_pop ee_JS_checkBoundsBeginEnd_9 rfl ?_
  refine z_vret ee_JS_checkBoundsBeginEnd_10 rfl (by omega) (by omega) ?_
  -- at 10
  exact ⟨rfl, rfl⟩
theorem sp_JS_init_ABB (hf : l.stackTraces = false) (hK : K s = zz_o 8) (hA : zz_A g s) : zz_S g l mm_JS_init_ABB 0 0 [.ref s, .ref a, .int (nI 0)] (K, R, I, L, z) (fun v h' => h' = (K, zz_up R s 0 (some a), zz_up I s 1 (nI 0), L, z) ∧ v = none) zz_no := by
  refine z_start hf rfl (by decide +kernel) (Nat.le_of_ble_eq_true rfl) ?_
  dsimp only [zz_lv0]
  refine z_aload_n ee_JS_init_ABB_0 rfl ?_
  refine z_obj ee_JS_init_ABB_1 oo_JS_init_ABB_1 cw_oi cw_oc (Nat.le_of_ble_eq_true rfl) (Nat.le_of_ble_eq_true rfl) ?_
  refine z_aload_n ee_JS_init_ABB_4 rfl ?_
  refine z_aload_n ee_JS_init_ABB_5 rfl ?_
  -- at 6
  refine z_putR ee_JS_init_ABB_6 ff_JS_init_ABB_9 hK hA il_8_0 (Or.inr ⟨rfl, dl_8_0⟩) (nl_8_0 _) (pl_8_0 _) ?_
  refine z_aload_n ee_JS_init_ABB_9 rfl ?_
  refine z_iload_n ee_JS_init_ABB_10 rfl ?_
  -- at 11
  refine z_putS ee_JS_init_ABB_11 ff_JS_init_ABB_15 hK hA tl_8_1 rfl (Or.inr ⟨rfl, dl_8_1⟩) rfl rfl ?_
  refine z_vret ee_JS_init_ABB_14 rfl (by omega) (by omega) ?_
  -- at 14
  exact ⟨rfl, rfl⟩
theorem sp_JL_newString (hf : l.stackTraces = false) (hG : zz_Sg K R I s sa xs) (i m : Nat) (h0 : 0 < i) (hm : 0 < m) (hi : i + m = xs.length) : zz_S g l mm_JL_newString 2 (4 + xs.length) [.ref sa, .int (nI i), .int (nI m)] (K, R, I, L, z) (fun v h' => ∃ K' R' I' L', h' = (K', R', I', L', z + 2) ∧ v = some (.ref z) ∧ zz_Sg K' R' I' z (z + 1) (xs.drop i) ∧ zz_lk z K K' R R' I I' L L') zz_no := by
  obtain ⟨k1, k2, k3, k4, k5, k6, k7⟩ := hG
  refine z_start hf rfl (by decide +kernel) (Nat.le_of_ble_eq_true rfl) ?_
  dsimp only [zz_lv0]
  refine z_ltA k3 (fun hz => ?_)
  refine z_iload_n ee_JL_newString_0 rfl ?_
  refine z_if_ne ee_JL_newString_1 (tgt := 7) (by decide) (fun c_1 => ?_) (fun c_1 => ?_)
  -- at 1
  · refine z_new ee_JL_newString_7 nn_JL_newString_1 (by omega) (by omega) (fun hz7 => ?_)
    refine z_dup ee_JL_newString_10 rfl ?_
    refine z_aload_n ee_JL_newString_11 rfl ?_
    refine z_iload_n ee_JL_newString_12 rfl ?_
    refine z_iload_n ee_JL_newString_13 rfl ?_
    refine z_iload_n ee_JL_newString_14 rfl ?_
    -- at 15
    refine z_iadd ee_JL_newString_15 ?_
    rw [nI_add]
    refine z_callS (As := [_, _, _]) ee_JL_newString_16 kk_JL_newString_232 rfl rfl (Nat.le_of_ble_eq_true rfl) (by omega) (sp_JR_copyOfRange hf xs.length i (i + m) (by omega) (by omega) k5 (by rw [zz_K_n (by omega)]; exact k3) (Or.inr h0)) (fun E h1 hx => hx.elim) (fun v h1 hq => ?_)
    obtain ⟨I1, L1, rfl, rfl, hA1, hI1, hk1, hl1⟩ := hq
    refine z_iconst ee_JL_newString_19 (v := nI 0) (by decide) ?_
    -- at 20
    refine z_callI (As := [_, _]) ee_JL_newString_20 kk_JL_newString_112 rfl rfl (Nat.le_of_ble_eq_true rfl) (by omega) (sp_JS_init_ABB hf (by rw [zz_K_n (by omega)]; exact zz_K_s) hz7) (fun E h1 hx => hx.elim) (fun v h1 hq => ?_)
    obtain ⟨rfl, rfl⟩ := hq
    refine z_aret ee_JL_newString_23 rfl (Or.inl ⟨_, rfl⟩) (by omega) (by omega) ?_
    have hld : (xs.drop i).length = m := by rw [List.length_drop]; omega
    refine ⟨_, _, _, _, rfl, rfl, ⟨by rw [zz_K_n (by omega)]; exact zz_K_s, zz_up_s, by rw [zz_K_s, hld, show i + m - i = m by omega], zz_up_s, by omega, fun j hj => ?_, fun j hj => ?_⟩, ⟨(zz_kt.rf.k0 (by omega)).k0 (by omega), (zz_kt.rf.z0 (by omega)).u0 (by omega), fun q q1 q2 => by rw [zz_up_r (by omega), hk1 q (by omega) (by omega), zz_0_n (by omega)], fun q q1 q2 => hl1 q (by omega) (by omega)⟩⟩
    · rw [hld] at hj
      rw [zz_up_r (by omega), hI1 j (by omega), zz_0_n (by omega), k6 _ (by omega)]
      simp [List.getD_eq_getElem?_getD]
    · rw [hld] at hj
      have := k7 (i + j) (by omega)
      simpa [List.getD_eq_getElem?_getD] using this
  · simp (disch := omega) only [zi_lt, zi_le, zi_eq, zi_n, zi_0, zi_m1] at c_1
    omega
theorem sp_JS_substring_II (hf : l.stackTraces = false) (hG : zz_Sg K R I s sa xs) (i : Nat) (hi : i < xs.length) : zz_S g l mm_JS_substring_II 2 (4 + xs.length) [.ref s, .int (nI i), .int (nI xs.length)] (K, R, I, L, z) (fun v h' => ∃ K' R' I' L' z' s' a', h' = (K', R', I', L', z') ∧ v = some (.ref s') ∧ zz_Sg K' R' I' s' a' (xs.drop i) ∧ ((s' = s ∧ a' = sa) ∨ (z ≤ s' ∧ z ≤ a')) ∧ z ≤ z' ∧ zz_lk z K K' R R' I I' L L') zz_no := by
  have hG' := hG
  obtain ⟨k1, k2, k3, k4, k5, k6, k7⟩ := hG
  refine z_start hf rfl (by decide +kernel) (Nat.le_of_ble_eq_true rfl) ?_
  dsimp only [zz_lv0]
  refine z_aload_n ee_JS_substring_II_0 rfl ?_
  -- at 1
  refine z_callV (As := []) ee_JS_substring_II_1 kk_JS_substring_II_505 rfl (by assumption) rfl rfl (Nat.le_of_ble_eq_true rfl) (by omega) (sp_JS_length hf hG') (fun E h1 hx => hx.elim) (fun v h1 hq => ?_)
  obtain ⟨rfl, rfl⟩ := hq
  refine z_istore_m ee_JS_substring_II_4 (j := 3) rfl (by decide) ?_
  refine z_iload_n ee_JS_substring_II_5 rfl ?_
  refine z_iload_n ee_JS_substring_II_6 rfl ?_
  refine z_iload_n ee_JS_substring_II_7 rfl ?_
  -- at 8
  refine z_callS (As := [_, _, _]) ee_JS_substring_II_8 kk_JS_substring_II_521 rfl rfl (Nat.le_of_ble_eq_true rfl) (by omega) (sp_JS_checkBoundsBeginEnd hf i xs.length xs.length (by omega) (by omega) (by omega)) (fun E h1 hx => hx.elim) (fun v h1 hq => ?_)
  obtain ⟨rfl, rfl⟩ := hq
  refine z_iload_n ee_JS_substring_II_11 rfl ?_
  refine z_if_ne ee_JS_substring_II_12 (tgt := 22) (by decide) (fun c_12 => ?_) (fun c_12 => ?_)
  -- at 12
  · simp (disch := omega) only [zi_lt, zi_le, zi_eq, zi_n, zi_0, zi_m1] at c_12
    refine z_iload_n ee_JS_substring_II_22 rfl ?_
    refine z_iload_n ee_JS_substring_II_23 rfl ?_
    refine z_isub ee_JS_substring_II_24 ?_
    -- at 25
    rw [pk_sub (by omega)]
    refine z_istore ee_JS_substring_II_25 (by decide) ?_
    refine z_aload_n ee_JS_substring_II_27 rfl ?_
    -- at 28
    refine z_callV (As := []) ee_JS_substring_II_28 kk_JS_substring_II_492 rfl (by assumption) rfl rfl (Nat.le_of_ble_eq_true rfl) (by omega) (sp_JS_isLatin1 hf hG') (fun E h1 hx => hx.elim) (fun v h1 hq => ?_)
    obtain ⟨rfl, rfl⟩ := hq
    refine z_if_eq ee_JS_substring_II_31 (tgt := 47) (by decide) (fun c_31 => ?_) (fun c_31 => ?_)
    -- at 31
    · exact absurd c_31 (by decide)
    · refine z_aload_n ee_JS_substring_II_34 rfl ?_
      refine z_getR ee_JS_substring_II_35 ff_JS_substring_II_9 (by assumption) il_8_0 (by assumption) ?_
      refine z_iload_n ee_JS_substring_II_38 rfl ?_
      refine z_iload ee_JS_substring_II_39 rfl ?_
      -- at 41
      refine z_callS (As := [_, _, _]) ee_JS_substring_II_41 kk_JS_substring_II_685 rfl rfl (Nat.le_of_ble_eq_true rfl) (by omega) (sp_JL_newString hf hG' i (xs.length - i) (by omega) (by omega) (by omega)) (fun E h1 hx => hx.elim) (fun v h1 hq => ?_)
      obtain ⟨K1, R1, I1, L1, rfl, rfl, hG1, hk⟩ := hq
      refine z_goto ee_JS_substring_II_44 (tgt := 57) (by decide) ?_
      -- at 57
      refine z_aret ee_JS_substring_II_57 rfl (Or.inl ⟨_, rfl⟩) (by omega) (by omega) ?_
      exact ⟨K1, R1, I1, L1, _, _, _, rfl, rfl, hG1, Or.inr ⟨Nat.le_refl _, by omega⟩, by omega, hk⟩
  · simp (disch := omega) only [zi_lt, zi_le, zi_eq, zi_n, zi_0, zi_m1] at c_12
    have e0 : i = 0 := by omega
    subst e0
    refine z_iload_n ee_JS_substring_II_15 rfl ?_
    refine z_iload_n ee_JS_substring_II_16 rfl ?_
    refine z_icmp_ne ee_JS_substring_II_17 (tgt := 22) (by decide) (fun c_17 => ?_) (fun c_17 => ?_)
    -- at 17
    · exact absurd rfl c_17
    · refine z_aload_n ee_JS_substring_II_20 rfl ?_
      -- at 21
      refine z_aret ee_JS_substring_II_21 rfl (Or.inl ⟨_, rfl⟩) (by omega) (by omega) ?_
      exact ⟨_, _, _, _, _, _, _, rfl, rfl, hG', Or.inl ⟨rfl, rfl⟩, by omega, zz_lk.rf⟩
theorem sp_JS_substring_I (hf : l.stackTraces = false) (hG : zz_Sg K R I s sa xs) (i : Nat) (hi : i < xs.length) : zz_S g l mm_JS_substring_I 2 (4 + xs.length) [.ref s, .int (nI i)] (K, R, I, L, z) (fun v h' => ∃ K' R' I' L' z' s' a', h' = (K', R', I', L', z') ∧ v = some (.ref s') ∧ zz_Sg K' R' I' s' a' (xs.drop i) ∧ ((s' = s ∧ a' = sa) ∨ (z ≤ s' ∧ z ≤ a')) ∧ z ≤ z' ∧ zz_lk z K K' R R' I I' L L') zz_no := by
  have k1 := hG.1
  refine z_start hf rfl (by decide +kernel) (Nat.le_of_ble_eq_true rfl) ?_
  dsimp only [zz_lv0]
  refine z_aload_n ee_JS_substring_I_0 rfl ?_
  refine z_iload_n ee_JS_substring_I_1 rfl ?_
  refine z_aload_n ee_JS_substring_I_2 rfl ?_
  -- at 3
  refine z_callV (As := []) ee_JS_substring_I_3 kk_JS_substring_I_505 rfl (by assumption) rfl rfl (Nat.le_of_ble_eq_true rfl) (by omega) (sp_JS_length hf hG) (fun E h1 hx => hx.elim) (fun v h1 hq => ?_)
  obtain ⟨rfl, rfl⟩ := hq
  refine z_callV (As := [_, _]) ee_JS_substring_I_6 kk_JS_substring_I_681 rfl (by assumption) rfl rfl (Nat.le_of_ble_eq_true rfl) (by omega) (sp_JS_substring_II hf hG i hi) (fun E h1 hx => hx.elim) (fun v h1 hq => ?_)
  obtain ⟨K1, R1, I1, L1, z1, s1, a1, rfl, rfl, h1⟩ := hq
  refine z_aret ee_JS_substring_I_9 rfl (Or.inl ⟨_, rfl⟩) (by omega) (by omega) ?_
  exact ⟨K1, R1, I1, L1, _, _, _, rfl, rfl, h1⟩
end Sub
