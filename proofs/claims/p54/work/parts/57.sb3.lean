/-! STRINGBUILDER: toString -/
theorem cw_cl1 : Cond.methodLink "java/util/Arrays" 310 ⟨"[B", "clone", "()Ljava/lang/Object;"⟩ ∈ zz_gw := zz_in 1030 (by decide +kernel) rfl
theorem cw_cl2 : Cond.sameMethod "[B" "java/lang/Object" "clone" "()Ljava/lang/Object;" ∈ zz_gw := zz_in 1031 (by decide +kernel) rfl
theorem cw_cl3 : Cond.native ⟨"java/lang/Object", "clone", "()Ljava/lang/Object;"⟩ ∈ zz_gw := zz_in 1032 (by decide +kernel) rfl
theorem cw_cl4 : Cond.instanceMethod ⟨"java/lang/Object", "clone", "()Ljava/lang/Object;"⟩ ∈ zz_gw := zz_in 1033 (by decide +kernel) rfl
theorem cw_cl5 : Cond.selects "[B" ⟨"[B", "clone", "()Ljava/lang/Object;"⟩ ⟨"java/lang/Object", "clone", "()Ljava/lang/Object;"⟩ ∈ zz_gw := zz_in 1034 (by decide +kernel) rfl
theorem cw_cl6 : Cond.castable "[B" "java/lang/Cloneable" ∈ zz_nw := zz_inN 1035 (by decide +kernel) (by decide +kernel)
theorem cw_cl7 : Cond.classLink "java/util/Arrays" 311 "[B" ∈ zz_gw := zz_in 1036 (by decide +kernel) rfl
section Sb3
variable {g : zz_G} {l : Launch} {K : Nat → Nat × Nat} {R : Nat → Nat → Option Nat} {I : Nat → Nat → Int32} {L : Nat → Nat → Int64} {z : Nat} {b a cap lo s sa : Nat} {xs ys : List Int32} {h : zz_H}
theorem sp_JR_checkLength (hf : l.stackTraces = false) (i j : Nat) (hij : i ≤ j) (hj : j < 2 ^ 31) : zz_S g l mm_JR_checkLength 0 0 [.int (nI i), .int (nI j)] h (fun v h' => h' = h ∧ v = none) zz_no := by
  refine z_start hf rfl (by decide +kernel) (Nat.le_of_ble_eq_true rfl) ?_
  dsimp only [zz_lv0]
  refine z_iload_n ee_JR_checkLength_0 rfl ?_
  refine z_iload_n ee_JR_checkLength_1 rfl ?_
  refine z_icmp_ge ee_JR_checkLength_2 (tgt := 37) (by decide) (fun c_2 => ?_) (fun c_2 => ?_)
  -- at 2
  · refine z_vret ee_JR_checkLength_37 rfl (by omega) (by omega) ?_
    -- at 37
    exact ⟨rfl, rfl⟩
  · simp (disch := omega) only [zi_lt, zi_le, zi_eq, zi_n, zi_0, zi_m1] at c_2
    omega
/-- a copy of the bytes from i to j -/
theorem sp_JR_copyOfRangeByte (hf : l.stackTraces = false) (n i j : Nat) (hij : i ≤ j) (hj : j ≤ n) (hn : n < 2 ^ 20) (hK : K a = zz_a 2 n) : zz_S g l mm_JR_copyOfRangeByte 1 n [.ref a, .int (nI i), .int (nI j)] (K, R, I, L, z) (fun v h' => ∃ I' L', h' = (zz_K K z (zz_a 2 (j - i)), R, I', L', z + 1) ∧ v = some (.ref z) ∧ zz_A g z ∧ (∀ q, q < j - i → I' z q = I a (i + q)) ∧ zz_kt 0 z I I' ∧ zz_kt 0 z L L') zz_no := by
  refine z_start hf rfl (by decide +kernel) (Nat.le_of_ble_eq_true rfl) ?_
  dsimp only [zz_lv0]
  refine z_ltA hK (fun hz => ?_)
  refine z_iload_n ee_JR_copyOfRangeByte_0 rfl ?_
  refine z_iload_n ee_JR_copyOfRangeByte_1 rfl ?_
  -- at 2
  refine z_callS (As := [_, _]) ee_JR_copyOfRangeByte_2 kk_JR_copyOfRangeByte_343 rfl rfl (Nat.le_of_ble_eq_true rfl) (by omega) (sp_JR_checkLength hf i j hij (by omega)) (fun E h1 hx => hx.elim) (fun v h1 hq => ?_)
  obtain ⟨rfl, rfl⟩ := hq
  refine z_iload_n ee_JR_copyOfRangeByte_5 rfl ?_
  refine z_iload_n ee_JR_copyOfRangeByte_6 rfl ?_
  refine z_isub ee_JR_copyOfRangeByte_7 ?_
  -- at 8
  rw [pk_sub (by omega)]
  refine z_istore_m ee_JR_copyOfRangeByte_8 (j := 3) rfl (by decide) ?_
  refine z_iload_n ee_JR_copyOfRangeByte_9 rfl ?_
  refine z_newa (t := 2) ee_JR_copyOfRangeByte_10 (by omega) cw_byte rfl (by omega) (by omega) (by omega) (fun hz10 => ?_)
  refine z_astore ee_JR_copyOfRangeByte_12 (by decide) ?_
  refine z_aload_n ee_JR_copyOfRangeByte_14 rfl ?_
  refine z_iload_n ee_JR_copyOfRangeByte_15 rfl ?_
  refine z_aload ee_JR_copyOfRangeByte_16 rfl ?_
  refine z_iconst ee_JR_copyOfRangeByte_18 (v := nI 0) (by decide) ?_
  refine z_aload_n ee_JR_copyOfRangeByte_19 rfl ?_
  -- at 20
  refine z_alen ee_JR_copyOfRangeByte_20 (by rw [zz_K_n (by omega)]; assumption) ?_
  refine z_iload_n ee_JR_copyOfRangeByte_21 rfl ?_
  refine z_isub ee_JR_copyOfRangeByte_22 ?_
  -- at 23
  rw [pk_sub (by omega)]
  refine z_iload_n ee_JR_copyOfRangeByte_23 rfl ?_
  -- at 24
  refine z_callS (As := [_, _]) ee_JR_copyOfRangeByte_24 kk_JR_copyOfRangeByte_304 rfl rfl (Nat.le_of_ble_eq_true rfl) (by omega) (sp_JM_min hf _ _) (fun E h1 hx => hx.elim) (fun v h1 hq => ?_)
  obtain ⟨rfl, rfl⟩ := hq
  rw [zz_min_n (by omega) (by omega), Nat.min_eq_right (by omega)]
  refine z_copy (t := 2) (sp := i) (dp := 0) (n := j - i) ee_JR_copyOfRangeByte_27 (by omega) cc_JR_copyOfRangeByte_150 cw_nat cw_stat cw_ini (by rw [zz_K_n (by omega)]; assumption) zz_K_s hz10 rfl rfl rfl (by omega) (by omega) (by omega) (by omega) (Nat.le_of_ble_eq_true rfl) (Nat.le_of_ble_eq_true rfl) ?_
  refine z_aload ee_JR_copyOfRangeByte_30 rfl ?_
  -- at 32
  refine z_aret ee_JR_copyOfRangeByte_32 rfl (Or.inr ⟨_, rfl⟩) (by omega) (by omega) ?_
  refine ⟨_, _, rfl, rfl, hz10, fun q hq => ?_, fun q q1 q2 => by rw [zz_cp_n (by omega), zz_0_n (by omega)], fun q q1 q2 => by rw [zz_0_n (by omega)]⟩
  rw [zz_cp_s, pk_cpy_in (by omega) (by omega), zz_0_n (by omega), Nat.sub_zero]
theorem sp_JR_copyOfRange (hf : l.stackTraces = false) (n i j : Nat) (hij : i ≤ j) (hj : j ≤ n) (hn : n < 2 ^ 20) (hK : K a = zz_a 2 n) (hA : zz_A g a ∨ 0 < i) : zz_S g l mm_JR_copyOfRange 1 n [.ref a, .int (nI i), .int (nI j)] (K, R, I, L, z) (fun v h' => ∃ I' L', h' = (zz_K K z (zz_a 2 (j - i)), R, I', L', z + 1) ∧ v = some (.ref z) ∧ zz_A g z ∧ (∀ q, q < j - i → I' z q = I a (i + q)) ∧ zz_kt 0 z I I' ∧ zz_kt 0 z L L') zz_no := by
  refine z_start hf rfl (by decide +kernel) (Nat.le_of_ble_eq_true rfl) ?_
  dsimp only [zz_lv0]
  refine z_ltA hK (fun hz => ?_)
  have key : Zz g l mm_JR_copyOfRange 1 n (fun v h' => ∃ I' L', h' = (zz_K K z (zz_a 2 (j - i)), R, I', L', z + 1) ∧ v = some (.ref z) ∧ zz_A g z ∧ (∀ q, q < j - i → I' z q = I a (i + q)) ∧ zz_kt 0 z I I' ∧ zz_kt 0 z L L') zz_no 0 0 10 [some (.ref a), some (.int (nI i)), some (.int (nI j))] [] (K, R, I, L, z) := by
    refine z_aload_n ee_JR_copyOfRange_10 rfl ?_
    refine z_iload_n ee_JR_copyOfRange_11 rfl ?_
    refine z_iload_n ee_JR_copyOfRange_12 rfl ?_
    -- at 13
    refine z_callS (As := [_, _, _]) ee_JR_copyOfRange_13 kk_JR_copyOfRange_339 rfl rfl (Nat.le_of_ble_eq_true rfl) (by omega) (sp_JR_copyOfRangeByte hf n i j hij hj hn hK) (fun E h1 hx => hx.elim) (fun v h1 hq => ?_)
    obtain ⟨I1, L1, rfl, rfl, hA1, hI1, hk1, hl1⟩ := hq
    refine z_aret ee_JR_copyOfRange_16 rfl (Or.inr ⟨_, rfl⟩) (by omega) (by omega) ?_
    exact ⟨_, _, rfl, rfl, hA1, hI1, hk1, hl1⟩
  refine z_iload_n ee_JR_copyOfRange_0 rfl ?_
  refine z_if_ne ee_JR_copyOfRange_1 (tgt := 10) (by decide) (fun c_1 => ?_) (fun c_1 => ?_)
  -- at 1
  · exact key
  · refine z_iload_n ee_JR_copyOfRange_4 rfl ?_
    refine z_aload_n ee_JR_copyOfRange_5 rfl ?_
    refine z_alen ee_JR_copyOfRange_6 (by assumption) ?_
    refine z_icmp_eq ee_JR_copyOfRange_7 (tgt := 17) (by decide) (fun c_7 => ?_) (fun c_7 => ?_)
    -- at 7
    · simp (disch := omega) only [zi_lt, zi_le, zi_eq, zi_n, zi_0, zi_m1] at c_1
      simp (disch := omega) only [zi_lt, zi_le, zi_eq, zi_n, zi_0, zi_m1] at c_7
      have e1 : i = 0 := by omega
      have e2 : j = n := by omega
      subst e1; subst e2
      refine z_aload_n ee_JR_copyOfRange_17 rfl ?_
      -- at 18
      refine z_clone ee_JR_copyOfRange_18 cw_cl1 cw_cl2 cw_cl3 cw_cl4 cw_cl5 cw_cl6 hK (hA.resolve_right (by omega)) (Nat.le_of_ble_eq_true rfl) (Nat.le_of_ble_eq_true rfl) (by omega) (by omega) (fun hz18 => ?_)
      refine z_castB ee_JR_copyOfRange_21 cw_cl7 zz_K_s hz18 ?_
      refine z_aret ee_JR_copyOfRange_24 rfl (Or.inr ⟨_, rfl⟩) (by omega) (by omega) ?_
      exact ⟨_, _, rfl, rfl, hz18, fun q hq => by rw [zz_ci_s, Nat.zero_add], fun q q1 q2 => by rw [zz_ci_n (by omega)], zz_kt.rf⟩
    · exact key
theorem sp_JS_init_AbsVoi (hf : l.stackTraces = false) (hS : zz_SB g K R I b a cap xs) (hK : K s = zz_o 8) (hA : zz_A g s) (hsb : s ≠ b) (hsa : s ≠ a) : zz_S g l mm_JS_init_AbsVoi 1 34 [.ref s, .ref b, .null] (K, R, I, L, z) (fun v h' => ∃ K' R' I' L', h' = (K', R', I', L', z + 1) ∧ v = none ∧ zz_Sg K' R' I' s z xs ∧ zz_A g z ∧ s < z ∧ zz_kt 0 z K K' ∧ (∀ q, q < z → q ≠ s → R' q = R q) ∧ (∀ q, q < z → q ≠ s → I' q = I q) ∧ zz_kt 0 z L L') zz_no := by
  have hS' := hS
  obtain ⟨⟨k1, k2, k3, k4, k5, k6⟩, i1, i3, i4, i5, i6, i7⟩ := hS
  refine z_start hf rfl (by decide +kernel) (Nat.le_of_ble_eq_true rfl) ?_
  dsimp only [zz_lv0]
  refine z_ltO hK (fun hsz => ?_)
  refine z_ltA k4 (fun haz => ?_)
  refine z_aload_n ee_JS_init_AbsVoi_0 rfl ?_
  refine z_obj ee_JS_init_AbsVoi_1 oo_JS_init_AbsVoi_1 cw_oi cw_oc (Nat.le_of_ble_eq_true rfl) (Nat.le_of_ble_eq_true rfl) ?_
  refine z_aload_n ee_JS_init_AbsVoi_4 rfl ?_
  -- at 5
  refine z_callU (As := []) ee_JS_init_AbsVoi_5 ku_JS_init_AbsVoi_552 rfl k1 rfl (Nat.le_of_ble_eq_true rfl) (by omega) (sp_JA_getValue hf hS') (fun E h1 hx => hx.elim) (fun v h1 hq => ?_)
  obtain ⟨rfl, rfl⟩ := hq
  refine z_astore_m ee_JS_init_AbsVoi_8 (j := 3) rfl (by decide) ?_
  refine z_aload_n ee_JS_init_AbsVoi_9 rfl ?_
  -- at 10
  refine z_callO (As := []) ee_JS_init_AbsVoi_10 ku_JS_init_AbsVoi_549 rfl k1 rfl (Nat.le_of_ble_eq_true rfl) (by omega) (sp_JB_length hf hS') (fun E h1 hx => hx.elim) (fun v h1 hq => ?_)
  obtain ⟨rfl, rfl⟩ := hq
  refine z_istore ee_JS_init_AbsVoi_13 (by decide) ?_
  refine z_aload_n ee_JS_init_AbsVoi_15 rfl ?_
  -- at 16
  refine z_callU (As := []) ee_JS_init_AbsVoi_16 ku_JS_init_AbsVoi_1047 rfl k1 rfl (Nat.le_of_ble_eq_true rfl) (by omega) (sp_JA_isLatin1 hf hS') (fun E h1 hx => hx.elim) (fun v h1 hq => ?_)
  obtain ⟨rfl, rfl⟩ := hq
  refine z_if_eq ee_JS_init_AbsVoi_19 (tgt := 41) (by decide) (fun c_19 => ?_) (fun c_19 => ?_)
  -- at 19
  · exact absurd c_19 (by decide)
  · refine z_aload_n ee_JS_init_AbsVoi_22 rfl ?_
    refine z_iconst ee_JS_init_AbsVoi_23 (v := nI 0) (by decide) ?_
    -- at 24
    refine z_putS ee_JS_init_AbsVoi_24 ff_JS_init_AbsVoi_15 hK hA tl_8_1 rfl (Or.inr ⟨rfl, dl_8_1⟩) rfl rfl ?_
    refine z_aload_n ee_JS_init_AbsVoi_27 rfl ?_
    refine z_aload_n ee_JS_init_AbsVoi_28 rfl ?_
    refine z_iconst ee_JS_init_AbsVoi_29 (v := nI 0) (by decide) ?_
    refine z_iload ee_JS_init_AbsVoi_30 rfl ?_
    -- at 32
    refine z_callS (As := [_, _, _]) ee_JS_init_AbsVoi_32 kk_JS_init_AbsVoi_54 rfl rfl (Nat.le_of_ble_eq_true rfl) (by omega) (sp_JR_copyOfRange hf cap 0 xs.length (by omega) i4 (by omega) k4 (Or.inl k5)) (fun E h1 hx => hx.elim) (fun v h1 hq => ?_)
    obtain ⟨I1, L1, rfl, rfl, hA1, hI1, hk1, hl1⟩ := hq
    refine z_putR ee_JS_init_AbsVoi_35 ff_JS_init_AbsVoi_9 (by rw [zz_K_n (by omega)]; exact hK) hA il_8_0 (Or.inr ⟨rfl, dl_8_0⟩) (nl_8_0 _) (pl_8_0 _) ?_
    refine z_goto ee_JS_init_AbsVoi_38 (tgt := 97) (by decide) ?_
    refine z_vret ee_JS_init_AbsVoi_97 rfl (by omega) (by omega) ?_
    -- at 97
    refine ⟨_, _, _, _, rfl, rfl, ⟨by rw [zz_K_n (by omega)]; exact hK, zz_up_s, by rw [zz_K_s, Nat.sub_zero], by rw [hk1 s (by omega) hsz, zz_up_s], by omega, fun j hj => ?_, fun j hj => i7.at hj⟩, hA1, hsz, zz_kt.rf.k0 (by omega), fun q q1 q2 => zz_up_r q2, fun q q1 q2 => by rw [hk1 q (by omega) q1, zz_up_r q2], hl1⟩
    rw [hI1 j (by omega), zz_up_r (Ne.symm hsa), Nat.zero_add]
    exact i6 j hj
theorem sp_JS_init_Str (hf : l.stackTraces = false) (hS : zz_SB g K R I b a cap xs) (hK : K s = zz_o 8) (hA : zz_A g s) (hsb : s ≠ b) (hsa : s ≠ a) : zz_S g l mm_JS_init_Str 1 34 [.ref s, .ref b] (K, R, I, L, z) (fun v h' => ∃ K' R' I' L', h' = (K', R', I', L', z + 1) ∧ v = none ∧ zz_Sg K' R' I' s z xs ∧ zz_A g z ∧ s < z ∧ zz_kt 0 z K K' ∧ (∀ q, q < z → q ≠ s → R' q = R q) ∧ (∀ q, q < z → q ≠ s → I' q = I q) ∧ zz_kt 0 z L L') zz_no := by
  refine z_start hf rfl (by decide +kernel) (Nat.le_of_ble_eq_true rfl) ?_
  dsimp only [zz_lv0]
  refine z_aload_n ee_JS_init_Str_0 rfl ?_
  refine z_aload_n ee_JS_init_Str_1 rfl ?_
  refine z_null ee_JS_init_Str_2 ?_
  -- at 3
  refine z_callI (As := [_, _]) ee_JS_init_Str_3 kk_JS_init_Str_489 rfl rfl (Nat.le_of_ble_eq_true rfl) (by omega) (sp_JS_init_AbsVoi hf hS hK hA hsb hsa) (fun E h1 hx => hx.elim) (fun v h1 hq => ?_)
  obtain ⟨K1, R1, I1, L1, rfl, rfl, h1⟩ := hq
  refine z_vret ee_JS_init_Str_6 rfl (by omega) (by omega) ?_
  -- at 6
  exact ⟨K1, R1, I1, L1, rfl, rfl, h1⟩
theorem sp_JB_toString (hf : l.stackTraces = false) (hS : zz_SB g K R I b a cap xs) : zz_S g l mm_JB_toString 2 38 [.ref b] (K, R, I, L, z) (fun v h' => ∃ K' R' I' L', h' = (K', R', I', L', z + 2) ∧ v = some (.ref z) ∧ zz_Sg K' R' I' z (z + 1) xs ∧ zz_A g z ∧ zz_A g (z + 1) ∧ zz_lk z K K' R R' I I' L L') zz_no := by
  obtain ⟨⟨k1, k2, k3, k4, k5, k6⟩, i1, i3, i4, i5, i6, i7⟩ := hS
  refine z_start hf rfl (by decide +kernel) (Nat.le_of_ble_eq_true rfl) ?_
  dsimp only [zz_lv0]
  refine z_ltA k4 (fun haz => ?_)
  refine z_new ee_JB_toString_0 nn_JB_toString_18 (by omega) (by omega) (fun hz0 => ?_)
  refine z_dup ee_JB_toString_3 rfl ?_
  refine z_aload_n ee_JB_toString_4 rfl ?_
  -- at 5
  have hS1 : zz_SB g (zz_K K z (zz_o 8)) (zz_0 R z none) (zz_0 I z 0) b a cap xs := ⟨⟨by rw [zz_K_n (by omega)]; exact k1, k2, by rw [zz_0_n (by omega)]; exact k3, by rw [zz_K_n (by omega)]; exact k4, k5, k6⟩, by rw [zz_0_n (by omega)]; exact i1, by rw [zz_0_n (by omega)]; exact i3, i4, i5, fun j hj => by rw [zz_0_n (by omega)]; exact i6 j hj, i7⟩
  refine z_callI (As := [_]) ee_JB_toString_5 kk_JB_toString_137 rfl rfl (Nat.le_of_ble_eq_true rfl) (by omega) (sp_JS_init_Str hf hS1 zz_K_s hz0 (by omega) (by omega)) (fun E h1 hx => hx.elim) (fun v h1 hq => ?_)
  obtain ⟨K1, R1, I1, L1, rfl, rfl, hG, hA1, -, hk, hR, hI, hL⟩ := hq
  refine z_aret ee_JB_toString_8 rfl (Or.inl ⟨_, rfl⟩) (by omega) (by omega) ?_
  exact ⟨_, _, _, _, rfl, rfl, hG, hz0, hA1, ⟨(zz_kt.rf.k0 (by omega)).trans (hk.wid (by omega) (by omega)), (zz_kt.rf.z0 (a := z) (x := none) (by omega)).trans fun q q1 q2 => hR q (by omega) (by omega), (zz_kt.rf.z0 (a := z) (x := 0) (by omega)).trans fun q q1 q2 => hI q (by omega) (by omega), fun q q1 q2 => hL q (by omega) (by omega)⟩⟩
/-- new StringBuilder() -/
theorem sp_JA_init (hf : l.stackTraces = false) (hK : K b = zz_o 9) (hA : zz_A g b) (hb : b < z) (h1 : I b 1 = nI 0) (h3 : I b 3 = nI 0) : zz_S g l mm_JA_init 1 16 [.ref b, .int (nI 16)] (K, R, I, L, z) (fun v h' => ∃ K' R' I' L', h' = (K', R', I', L', z + 1) ∧ v = none ∧ zz_SB g K' R' I' b z 16 [] ∧ zz_lk b K K' R R' I I' L L') zz_no := by
  refine z_start hf rfl (by decide +kernel) (Nat.le_of_ble_eq_true rfl) ?_
  dsimp only [zz_lv0]
  refine z_aload_n ee_JA_init_0 rfl ?_
  refine z_obj ee_JA_init_1 oo_JA_init_3 cw_oi cw_oc (Nat.le_of_ble_eq_true rfl) (Nat.le_of_ble_eq_true rfl) ?_
  -- at 4
  refine z_gets ee_JA_init_4 (fun s h => h.2.2.1) gs_JA_init_18 ?_
  refine z_if_eq ee_JA_init_7 (tgt := 25) (by decide) (fun c_7 => ?_) (fun c_7 => ?_)
  -- at 7
  · exact absurd c_7 (by decide)
  · refine z_aload_n ee_JA_init_10 rfl ?_
    refine z_iload_n ee_JA_init_11 rfl ?_
    refine z_newa (t := 2) ee_JA_init_12 (by omega) cw_byte rfl (by omega) (by omega) (by omega) (fun hz12 => ?_)
    -- at 14
    refine z_putR ee_JA_init_14 ff_JA_init_15 (by rw [zz_K_n (by omega)]; exact hK) hA il_9_0 (Or.inl fl_9_0) (nl_9_0 _) (pl_9_0 _) ?_
    refine z_aload_n ee_JA_init_17 rfl ?_
    refine z_iconst ee_JA_init_18 (v := nI 0) (by decide) ?_
    -- at 19
    refine z_putS ee_JA_init_19 ff_JA_init_22 (by rw [zz_K_n (by omega)]; exact hK) hA tl_9_1 rfl (Or.inl fl_9_1) rfl rfl ?_
    refine z_goto ee_JA_init_22 (tgt := 38) (by decide) ?_
    refine z_vret ee_JA_init_38 rfl (by omega) (by omega) ?_
    -- at 38
    exact ⟨_, _, _, _, rfl, rfl, ⟨⟨by rw [zz_K_n (by omega)]; exact hK, hA, zz_up_s, zz_K_s, by assumption, hb⟩, zz_up_s, by rw [zz_up_k (by decide), zz_0_n (by omega)]; exact h3, by simp, Or.inl rfl, fun j hj => absurd hj (by simp), fun x hx => absurd hx List.not_mem_nil⟩, ⟨zz_kt.rf.k0 (by omega), zz_kt.rf.u0 (by omega), (zz_kt.rf.z0 (by omega)).u0 (by omega), zz_kt.rf.z0 (by omega)⟩⟩
theorem sp_JB_init (hf : l.stackTraces = false) (hK : K b = zz_o 9) (hA : zz_A g b) (hb : b < z) (h1 : I b 1 = nI 0) (h3 : I b 3 = nI 0) : zz_S g l mm_JB_init 1 16 [.ref b] (K, R, I, L, z) (fun v h' => ∃ K' R' I' L', h' = (K', R', I', L', z + 1) ∧ v = none ∧ zz_SB g K' R' I' b z 16 [] ∧ zz_lk b K K' R R' I I' L L') zz_no := by
  refine z_start hf rfl (by decide +kernel) (Nat.le_of_ble_eq_true rfl) ?_
  dsimp only [zz_lv0]
  refine z_aload_n ee_JB_init_0 rfl ?_
  refine z_bipush ee_JB_init_1 (v := nI 16) (by decide) ?_
  -- at 3
  refine z_callI (As := [_]) ee_JB_init_3 kk_JB_init_1 rfl rfl (Nat.le_of_ble_eq_true rfl) (by omega) (sp_JA_init hf hK hA hb h1 h3) (fun E h1 hx => hx.elim) (fun v h1 hq => ?_)
  obtain ⟨K1, R1, I1, L1, rfl, rfl, h2⟩ := hq
  refine z_vret ee_JB_init_6 rfl (by omega) (by omega) ?_
  -- at 6
  exact ⟨K1, R1, I1, L1, rfl, rfl, h2⟩
end Sb3
