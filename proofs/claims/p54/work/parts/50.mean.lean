/-! THE TWO MEANS -/
def zz_md (s : zz_SV) : UInt64 := FP.ddiv (FP.i2d (zz_scl s)) (FP.i2d (nI (sv_t s).length))
def zz_rs (s : zz_SV) : UInt32 := FP.fdiv (FP.i2f (zz_crp s)) (FP.i2f (zz_cps s))
section Mean
variable {g : zz_G} {l : Launch} {K : Nat → Nat × Nat} {R : Nat → Nat → Option Nat} {I : Nat → Nat → Int32} {L : Nat → Nat → Int64} {z B : Nat} {v : zz_OV}
theorem sp_P_meanCodeLength (hf : l.stackTraces = false) (hO : zz_Ob g K R I B v) (hn : (sv_t (ov_s v)).length ≠ 0 → vf_n64 (zz_md (ov_s v))) : zz_S g l mm_P_meanCodeLength 1 6 [.ref B] (K, R, I, L, z) (fun a h' => (sv_t (ov_s v)).length ≠ 0 ∧ a = some (.double (zz_md (ov_s v))) ∧ h' = (K, R, I, L, z)) (fun E h' => ∃ z', (sv_t (ov_s v)).length = 0 ∧ E = eM ∧ z ≤ z' ∧ h' = (K, R, I, L, z')) := by
  obtain ⟨hP, f, hp⟩ := hO
  obtain ⟨⟨k1, k2, k3, k4, k5, k6, k7, k8, k9, k10, k11⟩, -⟩ := hP
  obtain ⟨σ, hS, hv⟩ := hp.2.1
  have hk := hS.1.1
  have b1 := hv.2.1.1
  have b2 := hv.2.1.2.1
  refine z_start hf rfl (by decide +kernel) (Nat.le_of_ble_eq_true rfl) ?_
  dsimp only [zz_lv0]
  refine z_aload_n ee_P_meanCodeLength_0 rfl ?_
  refine z_getR ee_P_meanCodeLength_1 ff_P_meanCodeLength_35 (by assumption) il_0_4 (by assumption) ?_
  refine z_getI ee_P_meanCodeLength_4 ff_P_meanCodeLength_181 (by assumption) il_5_3 ?_
  refine z_if_ne ee_P_meanCodeLength_7 (tgt := 18) (by decide) (fun c_7 => ?_) (fun c_7 => ?_)
  -- at 7
  · rw [b1] at c_7
    have hne : (sv_t (ov_s v)).length ≠ 0 := fun q => c_7 (by rw [q]; rfl)
    refine z_aload_n ee_P_meanCodeLength_18 rfl ?_
    refine z_getR ee_P_meanCodeLength_19 ff_P_meanCodeLength_35 (by assumption) il_0_4 (by assumption) ?_
    -- at 22
    refine z_callV (As := []) ee_P_meanCodeLength_22 kk_P_meanCodeLength_260 rfl (by assumption) rfl rfl (Nat.le_of_ble_eq_true rfl) (by omega) (sp_S_sumCodeLengths hf hS hv) (fun E h1 hx => hx.elim) (fun v h1 hq => ?_)
    obtain ⟨rfl, rfl⟩ := hq
    refine z_i2d ee_P_meanCodeLength_25 ?_
    refine z_aload_n ee_P_meanCodeLength_26 rfl ?_
    refine z_getR ee_P_meanCodeLength_27 ff_P_meanCodeLength_35 (by assumption) il_0_4 (by assumption) ?_
    refine z_getI ee_P_meanCodeLength_30 ff_P_meanCodeLength_181 (by assumption) il_5_3 ?_
    refine z_i2d ee_P_meanCodeLength_33 ?_
    -- at 34
    rw [b1]
    refine z_ddiv ee_P_meanCodeLength_34 (hn hne) ?_
    refine z_dret ee_P_meanCodeLength_35 rfl (by omega) (by omega) ?_
    -- at 35
    exact ⟨hne, rfl, rfl⟩
  · rw [b1] at c_7
    have h0 : (sv_t (ov_s v)).length = 0 := (nI_eq (b := 0) (by omega) (by omega)).mp c_7
    refine z_throw tt_P_meanCodeLength_10 rfl (Nat.le_of_ble_eq_true rfl) (by omega) (by omega) (fun z1 hz1 => ?_)
    -- at 10
    exact ⟨z1, h0, rfl, hz1, rfl⟩
theorem sp_P_rottenShare (hf : l.stackTraces = false) (hO : zz_Ob g K R I B v) (hn : zz_cps (ov_s v) ≠ 0 → vf_n32 (zz_rs (ov_s v))) : zz_S g l mm_P_rottenShare 1 6 [.ref B] (K, R, I, L, z) (fun a h' => zz_cps (ov_s v) ≠ 0 ∧ a = some (.float (zz_rs (ov_s v))) ∧ h' = (K, R, I, L, z)) (fun E h' => ∃ z', zz_cps (ov_s v) = 0 ∧ E = eM ∧ z ≤ z' ∧ h' = (K, R, I, L, z')) := by
  obtain ⟨hP, f, hp⟩ := hO
  obtain ⟨⟨k1, k2, k3, k4, k5, k6, k7, k8, k9, k10, k11⟩, -⟩ := hP
  obtain ⟨σ, hS, hv⟩ := hp.2.1
  have hk := hS.1.1
  refine z_start hf rfl (by decide +kernel) (Nat.le_of_ble_eq_true rfl) ?_
  dsimp only [zz_lv0]
  refine z_aload_n ee_P_rottenShare_0 rfl ?_
  refine z_getR ee_P_rottenShare_1 ff_P_rottenShare_35 (by assumption) il_0_4 (by assumption) ?_
  -- at 4
  refine z_callV (As := []) ee_P_rottenShare_4 kk_P_rottenShare_263 rfl (by assumption) rfl rfl (Nat.le_of_ble_eq_true rfl) (by omega) (sp_S_countPages hf hS hv) (fun E h1 hx => hx.elim) (fun v h1 hq => ?_)
  obtain ⟨rfl, rfl⟩ := hq
  refine z_istore_m ee_P_rottenShare_7 (j := 1) rfl (by decide) ?_
  refine z_iload_n ee_P_rottenShare_8 rfl ?_
  refine z_if_ne ee_P_rottenShare_9 (tgt := 20) (by decide) (fun c_9 => ?_) (fun c_9 => ?_)
  -- at 9
  · refine z_aload_n ee_P_rottenShare_20 rfl ?_
    refine z_getR ee_P_rottenShare_21 ff_P_rottenShare_35 (by assumption) il_0_4 (by assumption) ?_
    -- at 24
    refine z_callV (As := []) ee_P_rottenShare_24 kk_P_rottenShare_248 rfl (by assumption) rfl rfl (Nat.le_of_ble_eq_true rfl) (by omega) (sp_S_countRottenPages hf hS hv) (fun E h1 hx => hx.elim) (fun v h1 hq => ?_)
    obtain ⟨rfl, rfl⟩ := hq
    refine z_i2f ee_P_rottenShare_27 ?_
    refine z_iload_n ee_P_rottenShare_28 rfl ?_
    refine z_i2f ee_P_rottenShare_29 ?_
    -- at 30
    refine z_fdiv ee_P_rottenShare_30 (hn c_9) ?_
    refine z_fret ee_P_rottenShare_31 rfl (by omega) (by omega) ?_
    -- at 31
    exact ⟨c_9, rfl, rfl⟩
  · refine z_throw tt_P_rottenShare_12 rfl (Nat.le_of_ble_eq_true rfl) (by omega) (by omega) (fun z1 hz1 => ?_)
    -- at 12
    exact ⟨z1, c_9, rfl, hz1, rfl⟩
/-- what the law's own methods answer of them -/
def zz_mdl (s : zz_SV) : UInt64 := if (sv_t s).length = 0 then 13875388141788987392 else zz_md s
def zz_rsl (s : zz_SV) : UInt32 := if zz_cps s = 0 then 3296346112 else zz_rs s
theorem sp_L_meanLength (hf : l.stackTraces = false) (hO : zz_Ob g K R I B v) (hn : (sv_t (ov_s v)).length ≠ 0 → vf_n64 (zz_md (ov_s v))) : zz_S g l mm_L_meanLength 1 6 [.ref B] (K, R, I, L, z) (fun a h' => ∃ z', a = some (.double (zz_mdl (ov_s v))) ∧ z ≤ z' ∧ h' = (K, R, I, L, z')) zz_no := by
  have hk := hO.1.1.1
  unfold zz_mdl
  refine z_startW hf rfl (by decide +kernel) (Nat.le_of_ble_eq_true rfl) ?_
  dsimp only [zz_lv0]
  refine z_aload_n ee_L_meanLength_0 rfl ?_
  -- at 1
  refine z_callVh (As := []) ee_L_meanLength_1 kk_L_meanLength_107 (by assumption) rfl rfl (Nat.le_of_ble_eq_true rfl) (by omega) (sp_P_meanCodeLength hf hO hn) (fun E h1 hx => ?_) (fun a h1 hq => ?_)
  · obtain ⟨z', e0, rfl, e2, rfl⟩ := hx
    refine ⟨5, hd_L_meanLength_0, fun q => ?_⟩
    rw [if_pos e0]
    refine z_astore_m ee_L_meanLength_5 (j := 1) rfl (by decide) ?_
    refine z_ldc2d ee_L_meanLength_6 wc_L_meanLength_113 ?_
    refine z_dret ee_L_meanLength_9 rfl (by omega) (by omega) ?_
    -- at 9
    exact ⟨z', rfl, e2, rfl⟩
  · obtain ⟨e0, rfl, rfl⟩ := hq
    rw [if_neg e0]
    refine z_dret ee_L_meanLength_4 rfl (by omega) (by omega) ?_
    -- at 4
    exact ⟨z, rfl, Nat.le_refl _, rfl⟩
theorem sp_L_rottenShare (hf : l.stackTraces = false) (hO : zz_Ob g K R I B v) (hn : zz_cps (ov_s v) ≠ 0 → vf_n32 (zz_rs (ov_s v))) : zz_S g l mm_L_rottenShare 1 6 [.ref B] (K, R, I, L, z) (fun a h' => ∃ z', a = some (.float (zz_rsl (ov_s v))) ∧ z ≤ z' ∧ h' = (K, R, I, L, z')) zz_no := by
  have hk := hO.1.1.1
  unfold zz_rsl
  refine z_startW hf rfl (by decide +kernel) (Nat.le_of_ble_eq_true rfl) ?_
  dsimp only [zz_lv0]
  refine z_aload_n ee_L_rottenShare_0 rfl ?_
  -- at 1
  refine z_callVh (As := []) ee_L_rottenShare_1 kk_L_rottenShare_115 (by assumption) rfl rfl (Nat.le_of_ble_eq_true rfl) (by omega) (sp_P_rottenShare hf hO hn) (fun E h1 hx => ?_) (fun a h1 hq => ?_)
  · obtain ⟨z', e0, rfl, e2, rfl⟩ := hx
    refine ⟨5, hd_L_rottenShare_0, fun q => ?_⟩
    rw [if_pos e0]
    refine z_astore_m ee_L_rottenShare_5 (j := 1) rfl (by decide) ?_
    refine z_ldcf ee_L_rottenShare_6 wc_L_rottenShare_119 ?_
    refine z_fret ee_L_rottenShare_8 rfl (by omega) (by omega) ?_
    -- at 8
    exact ⟨z', rfl, e2, rfl⟩
  · obtain ⟨e0, rfl, rfl⟩ := hq
    rw [if_neg e0]
    refine z_fret ee_L_rottenShare_4 rfl (by omega) (by omega) ?_
    -- at 4
    exact ⟨z, rfl, Nat.le_refl _, rfl⟩
end Mean
