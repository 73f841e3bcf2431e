/-! STRINGBUILDER -/
/-- characters below 128 -/
def zz_as (xs : List Int32) : Prop := ∀ x ∈ xs, ∃ k, k < 128 ∧ x = nI k
theorem zz_as.at {xs : List Int32} (h : zz_as xs) {j : Nat} (hj : j < xs.length) : ∃ k, k < 128 ∧ xs.getD j 0 = nI k := h _ (by rw [List.getD_eq_getElem?_getD, List.getElem?_eq_getElem hj]; exact List.getElem_mem hj)
theorem zz_as.app {xs ys : List Int32} (h : zz_as xs) (h' : zz_as ys) : zz_as (xs ++ ys) := fun x hx => (List.mem_append.mp hx).elim (h x) (h' x)
theorem zz_as.of {xs : List Int32} (h : ∀ j, j < xs.length → ∃ k, k < 128 ∧ xs.getD j 0 = nI k) : zz_as xs := fun x hx => by
  obtain ⟨j, hj, e⟩ := List.getElem_of_mem hx
  have := h j hj
  rw [List.getD_eq_getElem?_getD, List.getElem?_eq_getElem hj, Option.getD_some, e] at this
  exact this
theorem zz_as.one {k : Nat} (h : k < 128) : zz_as [nI k] := fun x hx => ⟨k, h, by simpa using hx⟩
theorem zz_shl0 (x : Int32) : x <<< (nI 0 &&& 31) = x := by
  rw [show (nI 0 &&& 31 : Int32) = 0 by decide]
  exact Int32.shiftLeft_zero
theorem zz_i2b : ∀ k, k < 128 → ((nI k).toInt8.toInt32 = nI k ∧ fits .byte (.int (nI k)) = true ∧ narrow .byte (.int (nI k)) = .int (nI k)) := by decide +kernel
theorem zz_gD_app {xs ys : List Int32} {j : Nat} : (xs ++ ys).getD j 0 = if j < xs.length then xs.getD j 0 else ys.getD (j - xs.length) 0 := by
  by_cases h : j < xs.length
  · rw [if_pos h]; simp [List.getD_eq_getElem?_getD, List.getElem?_append_left h]
  · rw [if_neg h]; simp [List.getD_eq_getElem?_getD, List.getElem?_append_right (Nat.not_lt.mp h)]
/-- the object b is a builder that holds xs in the bytes a, of which there are cap -/
def zz_SB (g : zz_G) (K : Nat → Nat × Nat) (R : Nat → Nat → Option Nat) (I : Nat → Nat → Int32) (b a cap : Nat) (xs : List Int32) : Prop :=
  (K b = zz_o 9 ∧ zz_A g b ∧ R b 0 = some a ∧ K a = zz_a 2 cap ∧ zz_A g a ∧ b < a) ∧ I b 1 = nI 0 ∧ I b 3 = nI xs.length ∧ xs.length ≤ cap ∧ (cap = 16 ∨ cap = 34) ∧ (∀ j, j < xs.length → I a j = xs.getD j 0) ∧ zz_as xs
def zz_Zc (g : zz_G) (K : Nat → Nat × Nat) (R : Nat → Nat → Option Nat) (I : Nat → Nat → Int32) (L : Nat → Nat → Int64) (z lo b : Nat) (v : Option Value) (m : Nat) (xs : List Int32) : Option Value → zz_H → Prop := fun w h' => ∃ K' R' I' L' z' a' cap', h' = (K', R', I', L', z') ∧ w = v ∧ zz_SB g K' R' I' b a' cap' xs ∧ m ≤ cap' ∧ lo ≤ a' ∧ (z ≤ z' ∧ a' < z') ∧ zz_lk lo K K' R R' I I' L L'
section Sb
variable {g : zz_G} {l : Launch} {K : Nat → Nat × Nat} {R : Nat → Nat → Option Nat} {I : Nat → Nat → Int32} {L : Nat → Nat → Int64} {z : Nat} {b a cap lo : Nat} {xs ys : List Int32} {h : zz_H}
theorem sp_JA_isLatin1 (hf : l.stackTraces = false) (hS : zz_SB g K R I b a cap xs) : zz_S g l mm_JA_isLatin1 0 0 [.ref b] (K, R, I, L, z) (zz_is (K, R, I, L, z) (.int (nI 1))) zz_no := by
  obtain ⟨⟨k1, k2, k3, k4, k5, k6⟩, i1, i3, -⟩ := hS
  refine z_start hf rfl (by decide +kernel) (Nat.le_of_ble_eq_true rfl) ?_
  dsimp only [zz_lv0]
  refine z_gets ee_JA_isLatin1_0 (fun s h => h.2.2.1) gs_JA_isLatin1_18 ?_
  refine z_if_eq ee_JA_isLatin1_3 (tgt := 17) (by decide) (fun c_3 => ?_) (fun c_3 => ?_)
  -- at 3
  · exact absurd c_3 (by decide)
  · refine z_aload_n ee_JA_isLatin1_6 rfl ?_
    refine z_getI ee_JA_isLatin1_7 ff_JA_isLatin1_22 (by assumption) il_9_1 ?_
    refine z_if_ne ee_JA_isLatin1_10 (tgt := 17) (by decide) (fun c_10 => ?_) (fun c_10 => ?_)
    -- at 10
    · rw [i1] at c_10
      exact absurd rfl c_10
    · refine z_iconst ee_JA_isLatin1_13 (v := nI 1) (by decide) ?_
      refine z_goto ee_JA_isLatin1_14 (tgt := 18) (by decide) ?_
      refine z_zret ee_JA_isLatin1_18 (ty := .boolean) rfl (by decide) (by omega) (by omega) ?_
      -- at 18
      exact ⟨rfl, rfl⟩
theorem sp_JA_getValue (hf : l.stackTraces = false) (hS : zz_SB g K R I b a cap xs) : zz_S g l mm_JA_getValue 0 0 [.ref b] (K, R, I, L, z) (zz_is (K, R, I, L, z) (.ref a)) zz_no := by
  obtain ⟨⟨k1, k2, k3, k4, k5, k6⟩, i1, i3, -⟩ := hS
  refine z_start hf rfl (by decide +kernel) (Nat.le_of_ble_eq_true rfl) ?_
  dsimp only [zz_lv0]
  refine z_aload_n ee_JA_getValue_0 rfl ?_
  refine z_getR ee_JA_getValue_1 ff_JA_getValue_15 (by assumption) il_9_0 (by assumption) ?_
  -- at 4
  refine z_aret ee_JA_getValue_4 rfl (Or.inr ⟨_, rfl⟩) (by omega) (by omega) ?_
  exact ⟨rfl, rfl⟩
theorem sp_JA_length (hf : l.stackTraces = false) (hS : zz_SB g K R I b a cap xs) : zz_S g l mm_JA_length 0 0 [.ref b] (K, R, I, L, z) (zz_is (K, R, I, L, z) (.int (nI xs.length))) zz_no := by
  obtain ⟨⟨k1, k2, k3, k4, k5, k6⟩, i1, i3, -⟩ := hS
  refine z_start hf rfl (by decide +kernel) (Nat.le_of_ble_eq_true rfl) ?_
  dsimp only [zz_lv0]
  refine z_aload_n ee_JA_length_0 rfl ?_
  refine z_getI ee_JA_length_1 ff_JA_length_79 (by assumption) il_9_3 ?_
  refine z_iret ee_JA_length_4 rfl (by omega) (by omega) ?_
  -- at 4
  exact ⟨rfl, by rw [i3]⟩
theorem sp_JB_length (hf : l.stackTraces = false) (hS : zz_SB g K R I b a cap xs) : zz_S g l mm_JB_length 0 0 [.ref b] (K, R, I, L, z) (zz_is (K, R, I, L, z) (.int (nI xs.length))) zz_no := by
  have k1 := hS.1.1
  refine z_start hf rfl (by decide +kernel) (Nat.le_of_ble_eq_true rfl) ?_
  dsimp only [zz_lv0]
  refine z_aload_n ee_JB_length_0 rfl ?_
  refine z_callSU (As := []) ee_JB_length_1 ku_JB_length_343 rfl k1 rfl (Nat.le_of_ble_eq_true rfl) (by omega) (sp_JA_length hf hS) (fun E h1 hx => hx.elim) (fun v h1 hq => ?_)
  obtain ⟨rfl, rfl⟩ := hq
  refine z_iret ee_JB_length_4 rfl (by omega) (by omega) ?_
  exact ⟨rfl, rfl⟩
theorem sp_JL_canEncode (hf : l.stackTraces = false) (k : Nat) (hk : k < 256) : zz_S g l mm_JL_canEncode 0 0 [.int (nI k)] h (zz_is h (.int (nI 1))) zz_no := by
  refine z_start hf rfl (by decide +kernel) (Nat.le_of_ble_eq_true rfl) ?_
  dsimp only [zz_lv0]
  refine z_iload_n ee_JL_canEncode_0 rfl ?_
  refine z_sipush ee_JL_canEncode_1 (v := nI 255) (by decide) ?_
  refine z_icmp_gt ee_JL_canEncode_4 (tgt := 11) (by decide) (fun c_4 => ?_) (fun c_4 => ?_)
  -- at 4
  · simp (disch := omega) only [zi_lt, zi_le, zi_eq, zi_n, zi_0, zi_m1] at c_4
    omega
  · refine z_iconst ee_JL_canEncode_7 (v := nI 1) (by decide) ?_
    refine z_goto ee_JL_canEncode_8 (tgt := 12) (by decide) ?_
    refine z_zret ee_JL_canEncode_12 (ty := .boolean) rfl (by decide) (by omega) (by omega) ?_
    -- at 12
    exact ⟨rfl, rfl⟩
theorem sp_JU_newLength (hf : l.stackTraces = false) (x y w : Nat) (h0 : 0 < x) (hx : x + y + w < 2 ^ 20) : zz_S g l mm_JU_newLength 0 0 [.int (nI x), .int (nI y), .int (nI w)] h (zz_is h (.int (nI (x + max y w)))) zz_no := by
  refine z_start hf rfl (by decide +kernel) (Nat.le_of_ble_eq_true rfl) ?_
  dsimp only [zz_lv0]
  refine z_iload_n ee_JU_newLength_0 rfl ?_
  refine z_iload_n ee_JU_newLength_1 rfl ?_
  refine z_iload_n ee_JU_newLength_2 rfl ?_
  -- at 3
  refine z_callS (As := [_, _]) ee_JU_newLength_3 kk_JU_newLength_194 rfl rfl (Nat.le_of_ble_eq_true rfl) (by omega) (sp_JM_max hf _ _) (fun E h1 hx => hx.elim) (fun v h1 hq => ?_)
  obtain ⟨rfl, rfl⟩ := hq
  rw [zz_max_n (by omega) (by omega)]
  have hm : max y w ≤ y + w := by omega
  refine z_iadd ee_JU_newLength_6 ?_
  -- at 7
  rw [nI_add]
  refine z_istore_m ee_JU_newLength_7 (j := 3) rfl (by decide) ?_
  refine z_iconst ee_JU_newLength_8 (v := nI 0) (by decide) ?_
  refine z_iload_n ee_JU_newLength_9 rfl ?_
  refine z_icmp_ge ee_JU_newLength_10 (tgt := 21) (by decide) (fun c_10 => ?_) (fun c_10 => ?_)
  -- at 10
  · simp (disch := omega) only [zi_lt, zi_le, zi_eq, zi_n, zi_0, zi_m1] at c_10
    omega
  · simp (disch := omega) only [zi_lt, zi_le, zi_eq, zi_n, zi_0, zi_m1] at c_10
    refine z_iload_n ee_JU_newLength_13 rfl ?_
    refine z_ldc ee_JU_newLength_14 wc_JU_newLength_200 ?_
    refine z_icmp_gt ee_JU_newLength_16 (tgt := 21) (by decide) (fun c_16 => ?_) (fun c_16 => ?_)
    -- at 16
    · rw [zi_lt, zi_n (by omega), show (2147483639 : Int32).toInt = 2147483639 by decide] at c_16
      omega
    · refine z_iload_n ee_JU_newLength_19 rfl ?_
      refine z_iret ee_JU_newLength_20 rfl (by omega) (by omega) ?_
      -- at 20
      exact ⟨rfl, rfl⟩
theorem sp_JA_newCapacity (hf : l.stackTraces = false) (hS : zz_SB g K R I b a 16 xs) (m : Nat) (h1 : 16 < m) (h2 : m ≤ 34) : zz_S g l mm_JA_newCapacity 0 0 [.ref b, .int (nI m)] (K, R, I, L, z) (zz_is (K, R, I, L, z) (.int (nI 34))) zz_no := by
  obtain ⟨⟨k1, k2, k3, k4, k5, k6⟩, i1, i3, -⟩ := hS
  refine z_start hf rfl (by decide +kernel) (Nat.le_of_ble_eq_true rfl) ?_
  dsimp only [zz_lv0]
  refine z_aload_n ee_JA_newCapacity_0 rfl ?_
  refine z_getR ee_JA_newCapacity_1 ff_JA_newCapacity_15 (by assumption) il_9_0 (by assumption) ?_
  refine z_alen ee_JA_newCapacity_4 (by assumption) ?_
  refine z_istore_m ee_JA_newCapacity_5 (j := 2) rfl (by decide) ?_
  refine z_iload_n ee_JA_newCapacity_6 rfl ?_
  refine z_aload_n ee_JA_newCapacity_7 rfl ?_
  refine z_getI ee_JA_newCapacity_8 ff_JA_newCapacity_22 (by assumption) il_9_1 ?_
  -- at 11
  rw [i1]
  refine z_ishl ee_JA_newCapacity_11 ?_
  rw [zz_shl0]
  refine z_istore_m ee_JA_newCapacity_12 (j := 3) rfl (by decide) ?_
  refine z_iload_n ee_JA_newCapacity_13 rfl ?_
  refine z_iload_n ee_JA_newCapacity_14 rfl ?_
  refine z_isub ee_JA_newCapacity_15 ?_
  -- at 16
  rw [pk_sub (by omega)]
  refine z_istore ee_JA_newCapacity_16 (by decide) ?_
  refine z_iload_n ee_JA_newCapacity_18 rfl ?_
  refine z_iload ee_JA_newCapacity_19 rfl ?_
  refine z_iload_n ee_JA_newCapacity_21 rfl ?_
  refine z_iconst ee_JA_newCapacity_22 (v := nI 2) (by decide) ?_
  refine z_aload_n ee_JA_newCapacity_23 rfl ?_
  refine z_getI ee_JA_newCapacity_24 ff_JA_newCapacity_22 (by assumption) il_9_1 ?_
  -- at 27
  rw [i1]
  refine z_ishl ee_JA_newCapacity_27 ?_
  rw [zz_shl0]
  refine z_iadd ee_JA_newCapacity_28 ?_
  rw [nI_add]
  refine z_callS (As := [_, _, _]) ee_JA_newCapacity_29 kk_JA_newCapacity_114 rfl rfl (Nat.le_of_ble_eq_true rfl) (by omega) (sp_JU_newLength hf 16 (m - 16) (16 + 2) (by omega) (by omega)) (fun E h1 hx => hx.elim) (fun v h1 hq => ?_)
  obtain ⟨rfl, rfl⟩ := hq
  rw [show 16 + max (m - 16) (16 + 2) = 34 by omega]
  refine z_istore ee_JA_newCapacity_32 (by decide) ?_
  refine z_iload ee_JA_newCapacity_34 rfl ?_
  refine z_ldc ee_JA_newCapacity_36 wc_JA_newCapacity_39 ?_
  refine z_icmp_ne ee_JA_newCapacity_38 (tgt := 51) (by decide) (fun c_38 => ?_) (fun c_38 => ?_)
  -- at 38
  · refine z_iload ee_JA_newCapacity_51 rfl ?_
    refine z_aload_n ee_JA_newCapacity_53 rfl ?_
    refine z_getI ee_JA_newCapacity_54 ff_JA_newCapacity_22 (by assumption) il_9_1 ?_
    -- at 57
    rw [i1]
    refine z_ishr ee_JA_newCapacity_57 ?_
    rw [zz_shr0]
    refine z_iret ee_JA_newCapacity_58 rfl (by omega) (by omega) ?_
    -- at 58
    exact ⟨rfl, rfl⟩
  · exact absurd c_38 (by decide)
theorem sp_JR_copyOf (hf : l.stackTraces = false) (n m : Nat) (hnm : n < m) (hm : m < 2 ^ 20) (hK : K a = zz_a 2 n) : zz_S g l mm_JR_copyOf 1 m [.ref a, .int (nI m)] (K, R, I, L, z) (fun v h' => ∃ I' L', h' = (zz_K K z (zz_a 2 m), R, I', L', z + 1) ∧ v = some (.ref z) ∧ zz_A g z ∧ a < z ∧ (∀ j, j < n → I' z j = I a j) ∧ zz_kt 0 z I I' ∧ zz_kt 0 z L L') zz_no := by
  refine z_start hf rfl (by decide +kernel) (Nat.le_of_ble_eq_true rfl) ?_
  dsimp only [zz_lv0]
  refine z_ltA hK (fun hz => ?_)
  refine z_iload_n ee_JR_copyOf_0 rfl ?_
  refine z_aload_n ee_JR_copyOf_1 rfl ?_
  refine z_alen ee_JR_copyOf_2 (by assumption) ?_
  refine z_icmp_ne ee_JR_copyOf_3 (tgt := 14) (by decide) (fun c_3 => ?_) (fun c_3 => ?_)
  -- at 3
  · refine z_iload_n ee_JR_copyOf_14 rfl ?_
    refine z_newa (t := 2) ee_JR_copyOf_15 (by omega) cw_byte rfl (by omega) (by omega) (by omega) (fun hz15 => ?_)
    refine z_astore_m ee_JR_copyOf_17 (j := 2) rfl (by decide) ?_
    refine z_aload_n ee_JR_copyOf_18 rfl ?_
    refine z_iconst ee_JR_copyOf_19 (v := nI 0) (by decide) ?_
    refine z_aload_n ee_JR_copyOf_20 rfl ?_
    refine z_iconst ee_JR_copyOf_21 (v := nI 0) (by decide) ?_
    refine z_aload_n ee_JR_copyOf_22 rfl ?_
    -- at 23
    refine z_alen ee_JR_copyOf_23 (by rw [zz_K_n (by omega)]; assumption) ?_
    refine z_iload_n ee_JR_copyOf_24 rfl ?_
    -- at 25
    refine z_callS (As := [_, _]) ee_JR_copyOf_25 kk_JR_copyOf_304 rfl rfl (Nat.le_of_ble_eq_true rfl) (by omega) (sp_JM_min hf _ _) (fun E h1 hx => hx.elim) (fun v h1 hq => ?_)
    obtain ⟨rfl, rfl⟩ := hq
    rw [zz_min_n (by omega) (by omega), Nat.min_eq_left (by omega)]
    refine z_copy (t := 2) (sp := 0) (dp := 0) (n := n) ee_JR_copyOf_28 (by omega) cc_JR_copyOf_150 cw_nat cw_stat cw_ini (by rw [zz_K_n (by omega)]; assumption) zz_K_s hz15 rfl rfl rfl (by omega) (by omega) (by omega) (by omega) (Nat.le_of_ble_eq_true rfl) (Nat.le_of_ble_eq_true rfl) ?_
    refine z_aload_n ee_JR_copyOf_31 rfl ?_
    -- at 32
    refine z_aret ee_JR_copyOf_32 rfl (Or.inr ⟨_, rfl⟩) (by omega) (by omega) ?_
    refine ⟨_, _, rfl, rfl, hz15, hz, fun j hj => ?_, fun q q1 q2 => by rw [zz_cp_n (by omega), zz_0_n (by omega)], fun q q1 q2 => by rw [zz_0_n (by omega)]⟩
    rw [zz_cp_s, pk_cpy_in (by omega) (by omega), zz_0_n (by omega)]
    congr 1
    omega
  · simp (disch := omega) only [zi_lt, zi_le, zi_eq, zi_n, zi_0, zi_m1] at c_3
    omega
theorem sp_JA_ensureCapacityInternal (hf : l.stackTraces = false) (hS : zz_SB g K R I b a cap xs) (m : Nat) (hm : m ≤ 34) (hb : lo ≤ b) : zz_S g l mm_JA_ensureCapacityInternal 1 34 [.ref b, .int (nI m)] (K, R, I, L, z) (zz_Zc g K R I L z lo b none m xs) zz_no := by
  have hS' := hS
  obtain ⟨⟨k1, k2, k3, k4, k5, k6⟩, i1, i3, i4, i5, i6, i7⟩ := hS
  have hcap : cap ≤ 34 := by omega
  refine z_start hf rfl (by decide +kernel) (Nat.le_of_ble_eq_true rfl) ?_
  dsimp only [zz_lv0]
  refine z_ltA k4 (fun hz => ?_)
  refine z_aload_n ee_JA_ensureCapacityInternal_0 rfl ?_
  refine z_getR ee_JA_ensureCapacityInternal_1 ff_JA_ensureCapacityInternal_15 (by assumption) il_9_0 (by assumption) ?_
  refine z_alen ee_JA_ensureCapacityInternal_4 (by assumption) ?_
  refine z_aload_n ee_JA_ensureCapacityInternal_5 rfl ?_
  refine z_getI ee_JA_ensureCapacityInternal_6 ff_JA_ensureCapacityInternal_22 (by assumption) il_9_1 ?_
  -- at 9
  rw [i1]
  refine z_ishr ee_JA_ensureCapacityInternal_9 ?_
  rw [zz_shr0]
  refine z_istore_m ee_JA_ensureCapacityInternal_10 (j := 2) rfl (by decide) ?_
  refine z_iload_n ee_JA_ensureCapacityInternal_11 rfl ?_
  refine z_iload_n ee_JA_ensureCapacityInternal_12 rfl ?_
  refine z_isub ee_JA_ensureCapacityInternal_13 ?_
  refine z_if_le ee_JA_ensureCapacityInternal_14 (tgt := 38) (by decide) (fun c_14 => ?_) (fun c_14 => ?_)
  -- at 14
  · rw [zi_le, zi_0, pk_sub_toInt (by omega) (by omega)] at c_14
    refine z_vret ee_JA_ensureCapacityInternal_38 rfl (by omega) (by omega) ?_
    -- at 38
    exact ⟨_, _, _, _, _, a, cap, rfl, rfl, hS', by omega, by omega, by omega, zz_lk.rf⟩
  · rw [zi_le, zi_0, pk_sub_toInt (by omega) (by omega)] at c_14
    have e16 : cap = 16 := by omega
    subst e16
    refine z_aload_n ee_JA_ensureCapacityInternal_17 rfl ?_
    refine z_aload_n ee_JA_ensureCapacityInternal_18 rfl ?_
    refine z_getR ee_JA_ensureCapacityInternal_19 ff_JA_ensureCapacityInternal_15 (by assumption) il_9_0 (by assumption) ?_
    refine z_aload_n ee_JA_ensureCapacityInternal_22 rfl ?_
    refine z_iload_n ee_JA_ensureCapacityInternal_23 rfl ?_
    -- at 24
    refine z_callU (As := [_]) ee_JA_ensureCapacityInternal_24 ku_JA_ensureCapacityInternal_104 rfl k1 rfl (Nat.le_of_ble_eq_true rfl) (by omega) (sp_JA_newCapacity hf hS' m (by omega) hm) (fun E h1 hx => hx.elim) (fun v h1 hq => ?_)
    obtain ⟨rfl, rfl⟩ := hq
    refine z_aload_n ee_JA_ensureCapacityInternal_27 rfl ?_
    refine z_getI ee_JA_ensureCapacityInternal_28 ff_JA_ensureCapacityInternal_22 (by assumption) il_9_1 ?_
    -- at 31
    rw [i1]
    refine z_ishl ee_JA_ensureCapacityInternal_31 ?_
    rw [zz_shl0]
    refine z_callS (As := [_, _]) ee_JA_ensureCapacityInternal_32 kk_JA_ensureCapacityInternal_108 rfl rfl (Nat.le_of_ble_eq_true rfl) (by omega) (sp_JR_copyOf hf 16 34 (by omega) (by omega) k4) (fun E h1 hx => hx.elim) (fun v h1 hq => ?_)
    obtain ⟨I1, L1, rfl, rfl, hA, haz, hI1, hk1, hl1⟩ := hq
    refine z_putR ee_JA_ensureCapacityInternal_35 ff_JA_ensureCapacityInternal_15 (by rw [zz_K_n (by omega)]; exact k1) k2 il_9_0 (Or.inl fl_9_0) (nl_9_0 _) (pl_9_0 _) ?_
    refine z_vret ee_JA_ensureCapacityInternal_38 rfl (by omega) (by omega) ?_
    -- at 38
    refine ⟨_, _, _, _, _, z, 34, rfl, rfl, ⟨⟨by rw [zz_K_n (by omega)]; exact k1, k2, zz_up_s, zz_K_s, hA, by omega⟩, by rw [hk1 b (by omega) (by omega)]; exact i1, by rw [hk1 b (by omega) (by omega)]; exact i3, by omega, Or.inr rfl, fun j hj => by rw [hI1 j (by omega)]; exact i6 j hj, i7⟩, by omega, by omega, by omega, ⟨zz_kt.rf.k0 (by omega), zz_kt.rf.u0 (by omega), hk1.wid (by omega) (by omega), hl1.wid (by omega) (by omega)⟩⟩
end Sb
