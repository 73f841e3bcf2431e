/-! TEXT: copies, numbers, new texts -/
section Text2
variable {g : zz_G} {l : Launch} {K : Nat → Nat × Nat} {R : Nat → Nat → Option Nat} {I : Nat → Nat → Int32} {L : Nat → Nat → Int64} {z : Nat} {t n u m : Nat} {xs ys : List Int32}
theorem zz_getD_take {ys : List Int32} {n j : Nat} (h : j < (ys.take n).length) : (ys.take n).getD j 0 = ys.getD j 0 := by
  simp only [List.getD_eq_getElem?_getD]
  rw [List.getElem?_take, if_pos (by rw [List.length_take] at h; omega)]
theorem sp_T_copyFrom (hf : l.stackTraces = false) (hT : zz_Tx g K R t n) (hU : zz_Tx g K R u m) (hy : zz_tx I u m ys) (hd : t + 2 ≤ u ∨ u + 2 ≤ t) : zz_S g l mm_T_copyFrom 0 0 [.ref t, .ref u] (K, R, I, L, z) (fun v h' => ∃ I', h' = (K, R, I', L, z) ∧ v = none ∧ zz_tx I' t n (ys.take n) ∧ zz_fr t (t + 2) I I') zz_no := by
  obtain ⟨k1, k2, k3, k4, k5, k6⟩ := hT
  obtain ⟨u1, u2, u3, u4, u5, u6⟩ := hU
  have hl := hy.2.1
  refine z_start hf rfl (by decide +kernel) (Nat.le_of_ble_eq_true rfl) ?_
  dsimp only [zz_lv0]
  refine z_aload_n ee_T_copyFrom_0 rfl ?_
  refine z_aload_n ee_T_copyFrom_1 rfl ?_
  refine z_getI ee_T_copyFrom_2 ff_T_copyFrom_9 (by assumption) il_7_1 ?_
  refine z_aload_n ee_T_copyFrom_5 rfl ?_
  refine z_getR ee_T_copyFrom_6 ff_T_copyFrom_21 (by assumption) il_7_0 (by assumption) ?_
  refine z_alen ee_T_copyFrom_9 (by assumption) ?_
  refine z_aload_n ee_T_copyFrom_10 rfl ?_
  refine z_getR ee_T_copyFrom_11 ff_T_copyFrom_21 (by assumption) il_7_0 (by assumption) ?_
  refine z_alen ee_T_copyFrom_14 (by assumption) ?_
  -- at 15
  refine z_callS (As := [_, _]) ee_T_copyFrom_15 kk_T_copyFrom_38 rfl rfl (Nat.le_of_ble_eq_true rfl) (by omega) (sp_JM_min hf _ _) (fun E h1 hx => hx.elim) (fun v h1 hq => ?_)
  obtain ⟨rfl, rfl⟩ := hq
  refine z_callS (As := [_, _]) ee_T_copyFrom_18 kk_T_copyFrom_38 rfl rfl (Nat.le_of_ble_eq_true rfl) (by omega) (sp_JM_min hf _ _) (fun E h1 hx => hx.elim) (fun v h1 hq => ?_)
  obtain ⟨rfl, rfl⟩ := hq
  rw [hy.1, zz_min_n (by omega) (by omega), zz_min_n (by omega) (by omega)]
  have e : min ys.length (min m n) = (ys.take n).length := by rw [List.length_take]; omega
  rw [e]
  refine z_putI ee_T_copyFrom_21 ff_T_copyFrom_9 (by assumption) (by assumption) tl_7_1 fl_7_1 ?_
  refine z_aload_n ee_T_copyFrom_24 rfl ?_
  refine z_getR ee_T_copyFrom_25 ff_T_copyFrom_21 (by assumption) il_7_0 (by assumption) ?_
  refine z_iconst ee_T_copyFrom_28 (v := nI 0) (by decide) ?_
  refine z_aload_n ee_T_copyFrom_29 rfl ?_
  refine z_getR ee_T_copyFrom_30 ff_T_copyFrom_21 (by assumption) il_7_0 (by assumption) ?_
  refine z_iconst ee_T_copyFrom_33 (v := nI 0) (by decide) ?_
  refine z_aload_n ee_T_copyFrom_34 rfl ?_
  refine z_getI ee_T_copyFrom_35 ff_T_copyFrom_9 (by assumption) il_7_1 ?_
  -- at 38
  refine z_copy (t := 1) (n0 := m) (n1 := n) (sp := 0) (dp := 0) (n := (ys.take n).length) ee_T_copyFrom_38 (by omega) cc_T_copyFrom_41 cw_nat cw_stat cw_ini u3 k3 k5 rfl rfl zz_up_s (by rw [List.length_take]; omega) (by rw [List.length_take]; omega) (by omega) (by omega) (by decide) (Nat.le_of_ble_eq_true rfl) ?_
  refine z_vret ee_T_copyFrom_41 rfl (by omega) (by omega) ?_
  -- at 41
  refine ⟨_, rfl, rfl, ⟨?_, by rw [List.length_take]; omega, fun j hj => ?_⟩, fun b hb => ?_⟩
  · rw [zz_cp_n (by omega), zz_up_s]
  · rw [zz_cp_s]
    unfold va_cpy
    rw [if_pos ⟨by omega, by omega⟩, zz_up_a (by omega), zz_getD_take hj, Nat.zero_add, Nat.sub_zero, hy.2.2 j (by rw [List.length_take] at hj; omega)]
  · rw [zz_cp_n (by omega), zz_up_r (by omega)]
/-- the digit of x at the unit u -/
def zz_dig (x u : Int32) : Int32 := ((nI 48 + (x / u - x / u / nI 10 * nI 10)).toUInt32 % 65536).toInt32
theorem zz_dig_ch {x u : Int32} : zz_ch (zz_dig x u) := pk_fc _
def zz_un : Nat → Nat
  | 0 => 0
  | j + 1 => 10 ^ j
theorem zz_un_le : ∀ j, j ≤ 10 → zz_un j ≤ 1000000000
  | 0, _ => by decide
  | j + 1, h => by
    show 10 ^ j ≤ 10 ^ 9
    exact Nat.pow_le_pow_right (by decide) (by omega)
theorem zz_un_div (j : Nat) : zz_un (j + 1) / 10 = zz_un j := by
  cases j with
  | zero => rfl
  | succ j =>
    show 10 ^ (j + 1) / 10 = 10 ^ j
    rw [Nat.pow_succ]
    exact Nat.mul_div_cancel _ (by decide)
/-- the digits of x, from the unit 10 ^ (j - 1) on -/
def zz_num (n : Nat) (x : Int32) : Nat → List Int32 → List Int32
  | 0, xs => xs
  | j + 1, xs => zz_num n x j (if nI (zz_un (j + 1)) ≤ x ∨ j = 0 then zz_add n xs (zz_dig x (nI (zz_un (j + 1)))) else xs)
theorem zz_num_loop (hf : l.stackTraces = false) (hT : zz_Tx g K R t n) (x : Int32) {I0 : Nat → Nat → Int32} : ∀ (j : Nat) (xs : List Int32) (I : Nat → Nat → Int32), j ≤ 10 → zz_tx I t n xs → zz_fr t (t + 2) I0 I →
    Zz g l mm_T_addNumber 0 0 (fun v h' => ∃ I', h' = (K, R, I', L, z) ∧ v = none ∧ zz_tx I' t n (zz_num n x j xs) ∧ zz_fr t (t + 2) I0 I') zz_no 0 0 3 [some (.ref t), some (.int x), some (.int (nI (zz_un j)))] [] (K, R, I, L, z) := by
  intro j
  induction j with
  | zero =>
    intro xs I _ hx hfr
    obtain ⟨k1, k2, k3, k4, k5, k6⟩ := hT
    refine z_iload_n ee_T_addNumber_3 rfl ?_
    refine z_if_le ee_T_addNumber_4 (tgt := 39) (by decide) (fun c_4 => ?_) (fun c_4 => ?_)
    -- at 4
    · refine z_vret ee_T_addNumber_39 rfl (by omega) (by omega) ?_
      -- at 39
      exact ⟨_, rfl, rfl, hx, hfr⟩
    · exact absurd (by decide) c_4
  | succ j ih =>
    intro xs I hj hx hfr
    have hu := zz_un_le (j + 1) hj
    have hp : 0 < zz_un (j + 1) := Nat.pow_pos (by decide)
    have hdiv : nI (zz_un (j + 1)) / nI 10 = nI (zz_un j) := by rw [pk_div (by omega) (by decide) (by decide), zz_un_div]
    have k1 := hT.1
    refine z_iload_n ee_T_addNumber_3 rfl ?_
    refine z_if_le ee_T_addNumber_4 (tgt := 39) (by decide) (fun c_4 => ?_) (fun c_4 => ?_)
    -- at 4
    · simp (disch := omega) only [zi_lt, zi_le, zi_eq, zi_n, zi_0, zi_m1] at c_4
      omega
    have back : ∀ (xs' : List Int32) (I' : Nat → Nat → Int32), zz_tx I' t n xs' → zz_fr t (t + 2) I0 I' → xs' = (if nI (zz_un (j + 1)) ≤ x ∨ j = 0 then zz_add n xs (zz_dig x (nI (zz_un (j + 1)))) else xs) → Zz g l mm_T_addNumber 0 0 (fun v h' => ∃ I', h' = (K, R, I', L, z) ∧ v = none ∧ zz_tx I' t n (zz_num n x (j + 1) xs) ∧ zz_fr t (t + 2) I0 I') zz_no 0 0 31 [some (.ref t), some (.int x), some (.int (nI (zz_un (j + 1))))] [] (K, R, I', L, z) := by
      intro xs' I' hx' hfr' e
      refine z_iload_n ee_T_addNumber_31 rfl ?_
      refine z_bipush ee_T_addNumber_32 (v := nI 10) (by decide) ?_
      -- at 34
      refine z_idiv ee_T_addNumber_34 (by decide) ?_
      rw [hdiv]
      refine z_istore_m ee_T_addNumber_35 (j := 2) rfl (by decide) ?_
      refine z_goto ee_T_addNumber_36 (tgt := 3) (by decide) ?_
      -- at 3
      have h9 := ih xs' I' (by omega) hx' hfr'
      unfold zz_num
      rw [← e]
      exact h9
    have put : nI (zz_un (j + 1)) ≤ x ∨ j = 0 → Zz g l mm_T_addNumber 0 0 (fun v h' => ∃ I', h' = (K, R, I', L, z) ∧ v = none ∧ zz_tx I' t n (zz_num n x (j + 1) xs) ∧ zz_fr t (t + 2) I0 I') zz_no 0 0 17 [some (.ref t), some (.int x), some (.int (nI (zz_un (j + 1))))] [] (K, R, I, L, z) := by
      intro hc
      refine z_aload_n ee_T_addNumber_17 rfl ?_
      refine z_bipush ee_T_addNumber_18 (v := nI 48) (by decide) ?_
      refine z_iload_n ee_T_addNumber_20 rfl ?_
      refine z_iload_n ee_T_addNumber_21 rfl ?_
      -- at 22
      refine z_idiv ee_T_addNumber_22 (fun q => ?_) ?_
      · simp (disch := omega) only [zi_lt, zi_le, zi_eq, zi_n, zi_0, zi_m1] at q
        omega
      refine z_bipush ee_T_addNumber_23 (v := nI 10) (by decide) ?_
      -- at 25
      refine z_irem ee_T_addNumber_25 (by decide) ?_
      refine z_iadd ee_T_addNumber_26 ?_
      refine z_i2c ee_T_addNumber_27 rfl ?_
      -- at 28
      refine z_callV (As := [_]) ee_T_addNumber_28 kk_T_addNumber_34 rfl (by assumption) rfl rfl (Nat.le_of_ble_eq_true rfl) (by omega) (sp_T_add hf hT hx _ zz_dig_ch) (fun E h1 hx => hx.elim) (fun v h1 hq => ?_)
      obtain ⟨I', rfl, rfl, hx', hfr'⟩ := hq
      exact back _ I' hx' (hfr.trans hfr') (by rw [if_pos hc]; rfl)
    refine z_iload_n ee_T_addNumber_7 rfl ?_
    refine z_iload_n ee_T_addNumber_8 rfl ?_
    refine z_icmp_ge ee_T_addNumber_9 (tgt := 17) (by decide) (fun c_9 => ?_) (fun c_9 => ?_)
    -- at 9
    · exact put (Or.inl c_9)
    · refine z_iload_n ee_T_addNumber_12 rfl ?_
      refine z_iconst ee_T_addNumber_13 (v := nI 1) (by decide) ?_
      refine z_icmp_ne ee_T_addNumber_14 (tgt := 31) (by decide) (fun c_14 => ?_) (fun c_14 => ?_)
      -- at 14
      · refine back xs I hx hfr ?_
        rw [if_neg]
        rintro (q | q)
        · exact c_9 q
        · subst q
          exact c_14 rfl
      · refine put (Or.inr ?_)
        have e1 := (nI_eq (by omega) (by omega)).mp c_14
        cases j with
        | zero => rfl
        | succ j =>
          have : 10 ≤ zz_un (j + 1 + 1) := by
            show 10 ≤ 10 ^ (j + 1)
            rw [Nat.pow_succ]
            have := Nat.pow_pos (n := j) (show 0 < 10 by decide)
            omega
          omega
theorem sp_T_addNumber (hf : l.stackTraces = false) (hT : zz_Tx g K R t n) (hx : zz_tx I t n xs) (x : Int32) : zz_S g l mm_T_addNumber 0 0 [.ref t, .int x] (K, R, I, L, z) (fun v h' => ∃ I', h' = (K, R, I', L, z) ∧ v = none ∧ zz_tx I' t n (zz_num n x 10 xs) ∧ zz_fr t (t + 2) I I') zz_no := by
  refine z_start hf rfl (by decide +kernel) (Nat.le_of_ble_eq_true rfl) ?_
  dsimp only [zz_lv0]
  refine z_ldc ee_T_addNumber_0 wc_T_addNumber_33 ?_
  refine z_istore_m ee_T_addNumber_2 (j := 2) rfl (by decide) ?_
  -- at 3
  exact zz_num_loop hf hT x 10 xs I (by omega) hx zz_fr.rf
end Text2
