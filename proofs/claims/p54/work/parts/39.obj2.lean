/-! THE OBJECT: changes -/
def po_ch (v : zz_OV) (F : zz_SV → zz_RS × zz_SV) : zz_PR := po_settle v (F (ov_s v))
def po_carve (v : zz_OV) (r o : Int32) : zz_PR :=
  match po_ch v (fun s => zv_carve s r o (ov_m v)) with
  | (.inl n, w) => (.inl n, ow_m w [])
  | (.inr E, w) => (.inr E, w)
section Obj2
variable {g : zz_G} {l : Launch} {K : Nat → Nat × Nat} {R R1 : Nat → Nat → Option Nat} {I I1 : Nat → Nat → Int32} {L : Nat → Nat → Int64} {z : Nat} {B f : Nat} {v : zz_OV} {w : zz_SV} {h : zz_H}
theorem zz_PX.from {r : zz_PR} {E : String} (hR : zz_fq B (B + 1460) R R1) (hI : zz_fr B (B + 1460) I I1) (hx : zz_PX g K R1 I1 L z B r E h) : zz_PX g K R I L z B r E h := by
  obtain ⟨R', I', z', h1, h2, h3, h4, h5, h6⟩ := hx
  exact ⟨R', I', z', h1, h2, h3, h4, hR.trans h5, hI.trans h6⟩
theorem zz_PQ.from {r : zz_PR} {a : Option Value} (hR : zz_fq B (B + 1460) R R1) (hI : zz_fr B (B + 1460) I I1) (hx : zz_PQ g K R1 I1 L z B r a h) : zz_PQ g K R I L z B r a h := by
  obtain ⟨n, R', I', h1, h2, h3, h4, h5, h6⟩ := hx
  exact ⟨n, R', I', h1, h2, h3, h4, hR.trans h5, hI.trans h6⟩
theorem zz_i2c_n (k : Nat) (hk : k < 65536) : ((nI k).toUInt32 % 65536).toInt32 = nI k := by
  apply Int32.toBitVec_inj.mp
  apply BitVec.eq_of_toNat_eq
  show (BitVec.ofNat 32 k % 65536#32).toNat = (BitVec.ofNat 32 k).toNat
  rw [BitVec.toNat_umod, BitVec.toNat_ofNat]
  show k % 2 ^ 32 % 65536 = k % 2 ^ 32
  omega
theorem zz_PX.carve {r o : Int32} {E : String} (hx : zz_PX g K R I L z B (po_ch v (fun s => zv_carve s r o (ov_m v))) E h) : zz_PX g K R I L z B (po_carve v r o) E h := by
  obtain ⟨R', I', z', h1, h2, h3, h4, h5, h6⟩ := hx
  unfold po_carve
  cases hw : po_ch v (fun s => zv_carve s r o (ov_m v)) with
  | mk a w =>
    rw [hw] at h1 h4
    have h1 : a = .inr E := h1
    subst h1
    exact ⟨R', I', z', rfl, h2, h3, h4, h5, h6⟩
theorem zz_px.msg {xs : List Int32} {I' : Nat → Nat → Int32} (h : zz_px g K R I B f v) (hI : zz_fr (B + 1) (B + 1 + 2) I I') (hx : zz_tx I' (B + 1) 40 xs) : zz_px g K R I' B f (ow_m v xs) := by
  obtain ⟨⟨t1, t2, t3⟩, hs, hp, hh, ⟨i1, i2⟩, d1, d2, d3⟩ := h
  have e : I' B = I B := hI _ (by omega)
  have e1 : I' (B + 1459) = I (B + 1459) := hI _ (by omega)
  exact ⟨⟨hx, t2.fr hI (by omega), t3.fr hI (by omega)⟩, hs.in zz_kt.rf (hI.in (by omega)), hp.in zz_kt.rf (hI.in (by omega)), hh.in zz_kt.rf (hI.in (by omega)), ⟨by rw [e]; exact i1, by rw [e]; exact i2⟩, by rw [e1]; exact d1, by rw [e1]; exact d2, by rw [e1]; exact d3⟩
theorem zz_px.buf {xs : List Int32} {I' : Nat → Nat → Int32} (h : zz_px g K R I B f v) (hI : zz_fr (B + 3) (B + 3 + 2) I I') (hx : zz_tx I' (B + 3) 60 xs) : zz_px g K R I' B f (ow_b v xs) := by
  obtain ⟨⟨t1, t2, t3⟩, hs, hp, hh, ⟨i1, i2⟩, d1, d2, d3⟩ := h
  have e : I' B = I B := hI _ (by omega)
  have e1 : I' (B + 1459) = I (B + 1459) := hI _ (by omega)
  exact ⟨⟨t1.fr hI (by omega), hx, t3.fr hI (by omega)⟩, hs.in zz_kt.rf (hI.in (by omega)), hp.in zz_kt.rf (hI.in (by omega)), hh.in zz_kt.rf (hI.in (by omega)), ⟨by rw [e]; exact i1, by rw [e]; exact i2⟩, by rw [e1]; exact d1, by rw [e1]; exact d2, by rw [e1]; exact d3⟩
theorem zz_px.lin {xs : List Int32} {I' : Nat → Nat → Int32} (h : zz_px g K R I B f v) (hI : zz_fr (B + 5) (B + 5 + 2) I I') (hx : zz_tx I' (B + 5) 432 xs) : zz_px g K R I' B f (ow_l v xs) := by
  obtain ⟨⟨t1, t2, t3⟩, hs, hp, hh, ⟨i1, i2⟩, d1, d2, d3⟩ := h
  have e : I' B = I B := hI _ (by omega)
  have e1 : I' (B + 1459) = I (B + 1459) := hI _ (by omega)
  exact ⟨⟨t1.fr hI (by omega), t2.fr hI (by omega), hx⟩, hs.in zz_kt.rf (hI.in (by omega)), hp.in zz_kt.rf (hI.in (by omega)), hh.in zz_kt.rf (hI.in (by omega)), ⟨by rw [e]; exact i1, by rw [e]; exact i2⟩, by rw [e1]; exact d1, by rw [e1]; exact d2, by rw [e1]; exact d3⟩
theorem sp_P_addRoot (hf : l.stackTraces = false) (hO : zz_Ob g K R I B v) (d : Int32) (hr : rs_ok (zv_plant (ov_s v) d).1) : zz_S g l mm_P_addRoot 1 6 [.ref B, .int d] (K, R, I, L, z) (zz_PQ g K R I L z B (po_ch v (fun s => zv_plant s d))) (zz_PX g K R I L z B (po_ch v (fun s => zv_plant s d))) := by
  obtain ⟨hP, f, hp⟩ := hO
  have hP' := hP
  obtain ⟨⟨k1, k2, k3, k4, k5, k6, k7, k8, k9, k10, k11⟩, ⟨t1, t2, t3⟩, hV, hH, hC, hD, hS⟩ := hP
  have hV0 := hV.1
  have hH0 := hH.1.1
  refine z_start hf rfl (by decide +kernel) (Nat.le_of_ble_eq_true rfl) ?_
  dsimp only [zz_lv0]
  refine z_aload_n ee_P_addRoot_0 rfl ?_
  refine z_getR ee_P_addRoot_1 ff_P_addRoot_45 (by assumption) il_0_6 (by assumption) ?_
  refine z_aload_n ee_P_addRoot_4 rfl ?_
  refine z_getR ee_P_addRoot_5 ff_P_addRoot_35 (by assumption) il_0_4 (by assumption) ?_
  -- at 8
  refine z_callV (As := [_]) ee_P_addRoot_8 kk_P_addRoot_117 rfl (by assumption) rfl rfl (Nat.le_of_ble_eq_true rfl) (by omega) (sp_H_prepare hf hH hp.2.2.2.1 hp.2.1 (by omega)) (fun E h1 hx => hx.elim) (fun v h1 hq => ?_)
  obtain ⟨I2, rfl, rfl, hh2, hsp, hfr2⟩ := hq
  have hp2 : zz_px g K R I2 B f v := hp.hx (hfr2.wid (by omega) (by omega)) hh2
  refine z_aload_n ee_P_addRoot_11 rfl ?_
  refine z_aload_n ee_P_addRoot_12 rfl ?_
  refine z_getR ee_P_addRoot_13 ff_P_addRoot_27 (by assumption) il_0_3 (by assumption) ?_
  refine z_iload_n ee_P_addRoot_16 rfl ?_
  -- at 17
  refine z_callV (As := [_]) ee_P_addRoot_17 kk_P_addRoot_121 rfl (by assumption) rfl rfl (Nat.le_of_ble_eq_true rfl) (by omega) (sp_V_plantRoot hf hV hp2.2.1 d) (fun E h1 hx => hx.elim) (fun v h1 hq => ?_)
  obtain ⟨R3, I3, rfl, rfl, hd3, hS3, hR3, hI3⟩ := hq
  have hP3 := hP'.fq hR3
  have hp3 := hp2.st hR3 hI3 hS3
  have hsp3 := hsp.in (hR3.in (by omega)) (hI3.in (by omega))
  have hRt : zz_fq B (B + 1460) R R3 := hR3.wid (by omega) (by omega)
  have hIt : zz_fr B (B + 1460) I I3 := (hfr2.wid (by omega) (by omega)).trans (hI3.wid (by omega) (by omega))
  have hK0 := hP3.1.1
  refine z_callV (As := [_]) ee_P_addRoot_20 kk_P_addRoot_125 rfl (by assumption) rfl rfl (Nat.le_of_ble_eq_true rfl) (by omega) (sp_P_settle hf hP3 _ hp3 hsp3 hr hd3) (fun E h1 hx => (zz_PX.from hRt hIt hx)) (fun v h1 hq => ?_)
  obtain ⟨n, R4, I4, h1, rfl, rfl, hO4, hR4, hI4⟩ := hq
  refine z_iret ee_P_addRoot_23 rfl (by omega) (by omega) ?_
  -- at 23
  exact ⟨n, R4, I4, h1, rfl, rfl, hO4, hRt.trans hR4, hIt.trans hI4⟩
theorem sp_P_dry (hf : l.stackTraces = false) (hO : zz_Ob g K R I B v) (r : Int32) (hr : rs_ok (zv_dry (ov_s v) r).1) : zz_S g l mm_P_dry 1 6 [.ref B, .int r] (K, R, I, L, z) (zz_PQ g K R I L z B (po_ch v (fun s => zv_dry s r))) (zz_PX g K R I L z B (po_ch v (fun s => zv_dry s r))) := by
  obtain ⟨hP, f, hp⟩ := hO
  have hP' := hP
  obtain ⟨⟨k1, k2, k3, k4, k5, k6, k7, k8, k9, k10, k11⟩, ⟨t1, t2, t3⟩, hV, hH, hC, hD, hS⟩ := hP
  have hV0 := hV.1
  have hH0 := hH.1.1
  refine z_start hf rfl (by decide +kernel) (Nat.le_of_ble_eq_true rfl) ?_
  dsimp only [zz_lv0]
  refine z_aload_n ee_P_dry_0 rfl ?_
  refine z_getR ee_P_dry_1 ff_P_dry_45 (by assumption) il_0_6 (by assumption) ?_
  refine z_aload_n ee_P_dry_4 rfl ?_
  refine z_getR ee_P_dry_5 ff_P_dry_35 (by assumption) il_0_4 (by assumption) ?_
  -- at 8
  refine z_callV (As := [_]) ee_P_dry_8 kk_P_dry_117 rfl (by assumption) rfl rfl (Nat.le_of_ble_eq_true rfl) (by omega) (sp_H_prepare hf hH hp.2.2.2.1 hp.2.1 (by omega)) (fun E h1 hx => hx.elim) (fun v h1 hq => ?_)
  obtain ⟨I2, rfl, rfl, hh2, hsp, hfr2⟩ := hq
  have hp2 : zz_px g K R I2 B f v := hp.hx (hfr2.wid (by omega) (by omega)) hh2
  refine z_aload_n ee_P_dry_11 rfl ?_
  refine z_aload_n ee_P_dry_12 rfl ?_
  refine z_getR ee_P_dry_13 ff_P_dry_27 (by assumption) il_0_3 (by assumption) ?_
  refine z_iload_n ee_P_dry_16 rfl ?_
  -- at 17
  refine z_callV (As := [_]) ee_P_dry_17 kk_P_dry_128 rfl (by assumption) rfl rfl (Nat.le_of_ble_eq_true rfl) (by omega) (sp_V_dryRoot hf hV hp2.2.1 r) (fun E h1 hx => hx.elim) (fun v h1 hq => ?_)
  obtain ⟨R3, I3, rfl, rfl, hd3, hS3, hR3, hI3⟩ := hq
  have hP3 := hP'.fq hR3
  have hp3 := hp2.st hR3 hI3 hS3
  have hsp3 := hsp.in (hR3.in (by omega)) (hI3.in (by omega))
  have hRt : zz_fq B (B + 1460) R R3 := hR3.wid (by omega) (by omega)
  have hIt : zz_fr B (B + 1460) I I3 := (hfr2.wid (by omega) (by omega)).trans (hI3.wid (by omega) (by omega))
  have hK0 := hP3.1.1
  refine z_callV (As := [_]) ee_P_dry_20 kk_P_dry_125 rfl (by assumption) rfl rfl (Nat.le_of_ble_eq_true rfl) (by omega) (sp_P_settle hf hP3 _ hp3 hsp3 hr hd3) (fun E h1 hx => (zz_PX.from hRt hIt hx)) (fun v h1 hq => ?_)
  obtain ⟨n, R4, I4, h1, rfl, rfl, hO4, hR4, hI4⟩ := hq
  refine z_iret ee_P_dry_23 rfl (by omega) (by omega) ?_
  -- at 23
  exact ⟨n, R4, I4, h1, rfl, rfl, hO4, hRt.trans hR4, hIt.trans hI4⟩
theorem sp_P_recarve (hf : l.stackTraces = false) (hO : zz_Ob g K R I B v) (n : Int32) (hr : rs_ok (zv_anew (ov_s v) n).1) : zz_S g l mm_P_recarve 1 6 [.ref B, .int n] (K, R, I, L, z) (zz_PQ g K R I L z B (po_ch v (fun s => zv_anew s n))) (zz_PX g K R I L z B (po_ch v (fun s => zv_anew s n))) := by
  obtain ⟨hP, f, hp⟩ := hO
  have hP' := hP
  obtain ⟨⟨k1, k2, k3, k4, k5, k6, k7, k8, k9, k10, k11⟩, ⟨t1, t2, t3⟩, hV, hH, hC, hD, hS⟩ := hP
  have hV0 := hV.1
  have hH0 := hH.1.1
  refine z_start hf rfl (by decide +kernel) (Nat.le_of_ble_eq_true rfl) ?_
  dsimp only [zz_lv0]
  refine z_aload_n ee_P_recarve_0 rfl ?_
  refine z_getR ee_P_recarve_1 ff_P_recarve_45 (by assumption) il_0_6 (by assumption) ?_
  refine z_aload_n ee_P_recarve_4 rfl ?_
  refine z_getR ee_P_recarve_5 ff_P_recarve_35 (by assumption) il_0_4 (by assumption) ?_
  -- at 8
  refine z_callV (As := [_]) ee_P_recarve_8 kk_P_recarve_117 rfl (by assumption) rfl rfl (Nat.le_of_ble_eq_true rfl) (by omega) (sp_H_prepare hf hH hp.2.2.2.1 hp.2.1 (by omega)) (fun E h1 hx => hx.elim) (fun v h1 hq => ?_)
  obtain ⟨I2, rfl, rfl, hh2, hsp, hfr2⟩ := hq
  have hp2 : zz_px g K R I2 B f v := hp.hx (hfr2.wid (by omega) (by omega)) hh2
  refine z_aload_n ee_P_recarve_11 rfl ?_
  refine z_aload_n ee_P_recarve_12 rfl ?_
  refine z_getR ee_P_recarve_13 ff_P_recarve_27 (by assumption) il_0_3 (by assumption) ?_
  refine z_iload_n ee_P_recarve_16 rfl ?_
  -- at 17
  refine z_callV (As := [_]) ee_P_recarve_17 kk_P_recarve_158 rfl (by assumption) rfl rfl (Nat.le_of_ble_eq_true rfl) (by omega) (sp_V_carveAnew hf hV hp2.2.1 n) (fun E h1 hx => hx.elim) (fun v h1 hq => ?_)
  obtain ⟨R3, I3, rfl, rfl, hd3, hS3, hR3, hI3⟩ := hq
  have hP3 := hP'.fq hR3
  have hp3 := hp2.st hR3 hI3 hS3
  have hsp3 := hsp.in (hR3.in (by omega)) (hI3.in (by omega))
  have hRt : zz_fq B (B + 1460) R R3 := hR3.wid (by omega) (by omega)
  have hIt : zz_fr B (B + 1460) I I3 := (hfr2.wid (by omega) (by omega)).trans (hI3.wid (by omega) (by omega))
  have hK0 := hP3.1.1
  refine z_callV (As := [_]) ee_P_recarve_20 kk_P_recarve_125 rfl (by assumption) rfl rfl (Nat.le_of_ble_eq_true rfl) (by omega) (sp_P_settle hf hP3 _ hp3 hsp3 hr hd3) (fun E h1 hx => (zz_PX.from hRt hIt hx)) (fun v h1 hq => ?_)
  obtain ⟨n, R4, I4, h1, rfl, rfl, hO4, hR4, hI4⟩ := hq
  refine z_iret ee_P_recarve_23 rfl (by omega) (by omega) ?_
  -- at 23
  exact ⟨n, R4, I4, h1, rfl, rfl, hO4, hRt.trans hR4, hIt.trans hI4⟩
theorem sp_P_drop (hf : l.stackTraces = false) (hO : zz_Ob g K R I B v) (n : Int32) (hr : rs_ok (zv_drop (ov_s v) n).1) : zz_S g l mm_P_drop 1 6 [.ref B, .int n] (K, R, I, L, z) (zz_PQ g K R I L z B (po_ch v (fun s => zv_drop s n))) (zz_PX g K R I L z B (po_ch v (fun s => zv_drop s n))) := by
  obtain ⟨hP, f, hp⟩ := hO
  have hP' := hP
  obtain ⟨⟨k1, k2, k3, k4, k5, k6, k7, k8, k9, k10, k11⟩, ⟨t1, t2, t3⟩, hV, hH, hC, hD, hS⟩ := hP
  have hV0 := hV.1
  have hH0 := hH.1.1
  refine z_start hf rfl (by decide +kernel) (Nat.le_of_ble_eq_true rfl) ?_
  dsimp only [zz_lv0]
  refine z_aload_n ee_P_drop_0 rfl ?_
  refine z_getR ee_P_drop_1 ff_P_drop_45 (by assumption) il_0_6 (by assumption) ?_
  refine z_aload_n ee_P_drop_4 rfl ?_
  refine z_getR ee_P_drop_5 ff_P_drop_35 (by assumption) il_0_4 (by assumption) ?_
  -- at 8
  refine z_callV (As := [_]) ee_P_drop_8 kk_P_drop_117 rfl (by assumption) rfl rfl (Nat.le_of_ble_eq_true rfl) (by omega) (sp_H_prepare hf hH hp.2.2.2.1 hp.2.1 (by omega)) (fun E h1 hx => hx.elim) (fun v h1 hq => ?_)
  obtain ⟨I2, rfl, rfl, hh2, hsp, hfr2⟩ := hq
  have hp2 : zz_px g K R I2 B f v := hp.hx (hfr2.wid (by omega) (by omega)) hh2
  refine z_aload_n ee_P_drop_11 rfl ?_
  refine z_aload_n ee_P_drop_12 rfl ?_
  refine z_getR ee_P_drop_13 ff_P_drop_27 (by assumption) il_0_3 (by assumption) ?_
  refine z_iload_n ee_P_drop_16 rfl ?_
  -- at 17
  refine z_callV (As := [_]) ee_P_drop_17 kk_P_drop_165 rfl (by assumption) rfl rfl (Nat.le_of_ble_eq_true rfl) (by omega) (sp_V_dropTelegram hf hV hp2.2.1 n) (fun E h1 hx => hx.elim) (fun v h1 hq => ?_)
  obtain ⟨R3, I3, rfl, rfl, hd3, hS3, hR3, hI3⟩ := hq
  have hP3 := hP'.fq hR3
  have hp3 := hp2.st hR3 hI3 hS3
  have hsp3 := hsp.in (hR3.in (by omega)) (hI3.in (by omega))
  have hRt : zz_fq B (B + 1460) R R3 := hR3.wid (by omega) (by omega)
  have hIt : zz_fr B (B + 1460) I I3 := (hfr2.wid (by omega) (by omega)).trans (hI3.wid (by omega) (by omega))
  have hK0 := hP3.1.1
  refine z_callV (As := [_]) ee_P_drop_20 kk_P_drop_125 rfl (by assumption) rfl rfl (Nat.le_of_ble_eq_true rfl) (by omega) (sp_P_settle hf hP3 _ hp3 hsp3 hr hd3) (fun E h1 hx => (zz_PX.from hRt hIt hx)) (fun v h1 hq => ?_)
  obtain ⟨n, R4, I4, h1, rfl, rfl, hO4, hR4, hI4⟩ := hq
  refine z_iret ee_P_drop_23 rfl (by omega) (by omega) ?_
  -- at 23
  exact ⟨n, R4, I4, h1, rfl, rfl, hO4, hRt.trans hR4, hIt.trans hI4⟩
theorem sp_P_age (hf : l.stackTraces = false) (hO : zz_Ob g K R I B v) (d : Int32) (hr : rs_ok (zv_pass (ov_s v) d).1) : zz_S g l mm_P_age 1 6 [.ref B, .int d] (K, R, I, L, z) (zz_PQ g K R I L z B (po_ch v (fun s => zv_pass s d))) (zz_PX g K R I L z B (po_ch v (fun s => zv_pass s d))) := by
  obtain ⟨hP, f, hp⟩ := hO
  have hP' := hP
  obtain ⟨⟨k1, k2, k3, k4, k5, k6, k7, k8, k9, k10, k11⟩, ⟨t1, t2, t3⟩, hV, hH, hC, hD, hS⟩ := hP
  have hV0 := hV.1
  have hH0 := hH.1.1
  refine z_start hf rfl (by decide +kernel) (Nat.le_of_ble_eq_true rfl) ?_
  dsimp only [zz_lv0]
  refine z_aload_n ee_P_age_0 rfl ?_
  refine z_getR ee_P_age_1 ff_P_age_45 (by assumption) il_0_6 (by assumption) ?_
  refine z_aload_n ee_P_age_4 rfl ?_
  refine z_getR ee_P_age_5 ff_P_age_35 (by assumption) il_0_4 (by assumption) ?_
  -- at 8
  refine z_callV (As := [_]) ee_P_age_8 kk_P_age_117 rfl (by assumption) rfl rfl (Nat.le_of_ble_eq_true rfl) (by omega) (sp_H_prepare hf hH hp.2.2.2.1 hp.2.1 (by omega)) (fun E h1 hx => hx.elim) (fun v h1 hq => ?_)
  obtain ⟨I2, rfl, rfl, hh2, hsp, hfr2⟩ := hq
  have hp2 : zz_px g K R I2 B f v := hp.hx (hfr2.wid (by omega) (by omega)) hh2
  refine z_aload_n ee_P_age_11 rfl ?_
  refine z_aload_n ee_P_age_12 rfl ?_
  refine z_getR ee_P_age_13 ff_P_age_27 (by assumption) il_0_3 (by assumption) ?_
  refine z_iload_n ee_P_age_16 rfl ?_
  -- at 17
  refine z_callV (As := [_]) ee_P_age_17 kk_P_age_232 rfl (by assumption) rfl rfl (Nat.le_of_ble_eq_true rfl) (by omega) (sp_V_passDays hf hV hp2.2.1 d) (fun E h1 hx => hx.elim) (fun v h1 hq => ?_)
  obtain ⟨R3, I3, rfl, rfl, hd3, hS3, hR3, hI3⟩ := hq
  have hP3 := hP'.fq hR3
  have hp3 := hp2.st hR3 hI3 hS3
  have hsp3 := hsp.in (hR3.in (by omega)) (hI3.in (by omega))
  have hRt : zz_fq B (B + 1460) R R3 := hR3.wid (by omega) (by omega)
  have hIt : zz_fr B (B + 1460) I I3 := (hfr2.wid (by omega) (by omega)).trans (hI3.wid (by omega) (by omega))
  have hK0 := hP3.1.1
  refine z_callV (As := [_]) ee_P_age_20 kk_P_age_125 rfl (by assumption) rfl rfl (Nat.le_of_ble_eq_true rfl) (by omega) (sp_P_settle hf hP3 _ hp3 hsp3 hr hd3) (fun E h1 hx => (zz_PX.from hRt hIt hx)) (fun v h1 hq => ?_)
  obtain ⟨n, R4, I4, h1, rfl, rfl, hO4, hR4, hI4⟩ := hq
  refine z_iret ee_P_age_23 rfl (by omega) (by omega) ?_
  -- at 23
  exact ⟨n, R4, I4, h1, rfl, rfl, hO4, hRt.trans hR4, hIt.trans hI4⟩
theorem sp_P_move (hf : l.stackTraces = false) (hO : zz_Ob g K R I B v) (n r : Int32) (hr : rs_ok (zv_move (ov_s v) n r).1) : zz_S g l mm_P_move 1 6 [.ref B, .int n, .int r] (K, R, I, L, z) (zz_PQ g K R I L z B (po_ch v (fun s => zv_move s n r))) (zz_PX g K R I L z B (po_ch v (fun s => zv_move s n r))) := by
  obtain ⟨hP, f, hp⟩ := hO
  have hP' := hP
  obtain ⟨⟨k1, k2, k3, k4, k5, k6, k7, k8, k9, k10, k11⟩, ⟨t1, t2, t3⟩, hV, hH, hC, hD, hS⟩ := hP
  have hV0 := hV.1
  have hH0 := hH.1.1
  refine z_start hf rfl (by decide +kernel) (Nat.le_of_ble_eq_true rfl) ?_
  dsimp only [zz_lv0]
  refine z_aload_n ee_P_move_0 rfl ?_
  refine z_getR ee_P_move_1 ff_P_move_45 (by assumption) il_0_6 (by assumption) ?_
  refine z_aload_n ee_P_move_4 rfl ?_
  refine z_getR ee_P_move_5 ff_P_move_35 (by assumption) il_0_4 (by assumption) ?_
  -- at 8
  refine z_callV (As := [_]) ee_P_move_8 kk_P_move_117 rfl (by assumption) rfl rfl (Nat.le_of_ble_eq_true rfl) (by omega) (sp_H_prepare hf hH hp.2.2.2.1 hp.2.1 (by omega)) (fun E h1 hx => hx.elim) (fun v h1 hq => ?_)
  obtain ⟨I2, rfl, rfl, hh2, hsp, hfr2⟩ := hq
  have hp2 : zz_px g K R I2 B f v := hp.hx (hfr2.wid (by omega) (by omega)) hh2
  refine z_aload_n ee_P_move_11 rfl ?_
  refine z_aload_n ee_P_move_12 rfl ?_
  refine z_getR ee_P_move_13 ff_P_move_27 (by assumption) il_0_3 (by assumption) ?_
  refine z_iload_n ee_P_move_16 rfl ?_
  refine z_iload_n ee_P_move_17 rfl ?_
  -- at 18
  refine z_callV (As := [_, _]) ee_P_move_18 kk_P_move_161 rfl (by assumption) rfl rfl (Nat.le_of_ble_eq_true rfl) (by omega) (sp_V_moveTelegram hf hV hp2.2.1 n r) (fun E h1 hx => hx.elim) (fun v h1 hq => ?_)
  obtain ⟨R3, I3, rfl, rfl, hd3, hS3, hR3, hI3⟩ := hq
  have hP3 := hP'.fq hR3
  have hp3 := hp2.st hR3 hI3 hS3
  have hsp3 := hsp.in (hR3.in (by omega)) (hI3.in (by omega))
  have hRt : zz_fq B (B + 1460) R R3 := hR3.wid (by omega) (by omega)
  have hIt : zz_fr B (B + 1460) I I3 := (hfr2.wid (by omega) (by omega)).trans (hI3.wid (by omega) (by omega))
  have hK0 := hP3.1.1
  refine z_callV (As := [_]) ee_P_move_21 kk_P_move_125 rfl (by assumption) rfl rfl (Nat.le_of_ble_eq_true rfl) (by omega) (sp_P_settle hf hP3 _ hp3 hsp3 hr hd3) (fun E h1 hx => (zz_PX.from hRt hIt hx)) (fun v h1 hq => ?_)
  obtain ⟨n, R4, I4, h1, rfl, rfl, hO4, hR4, hI4⟩ := hq
  refine z_iret ee_P_move_24 rfl (by omega) (by omega) ?_
  -- at 24
  exact ⟨n, R4, I4, h1, rfl, rfl, hO4, hRt.trans hR4, hIt.trans hI4⟩
theorem sp_P_damage (hf : l.stackTraces = false) (hO : zz_Ob g K R I B v) (n i c : Int32) (hc : zz_ch c) (hr : rs_ok (zv_dmg (ov_s v) n i c).1) (hch : ∀ o, (zv_dmg (ov_s v) n i c).1 = .inr o → 0 ≤ o → zz_ch o) : zz_S g l mm_P_damage 1 6 [.ref B, .int n, .int i, .int c] (K, R, I, L, z) (zz_PQ g K R I L z B (po_ch v (fun s => zv_dmg s n i c))) (zz_PX g K R I L z B (po_ch v (fun s => zv_dmg s n i c))) := by
  obtain ⟨hP, f, hp⟩ := hO
  have hP' := hP
  obtain ⟨⟨k1, k2, k3, k4, k5, k6, k7, k8, k9, k10, k11⟩, ⟨t1, t2, t3⟩, hV, hH, hC, hD, hS⟩ := hP
  have hV0 := hV.1
  have hH0 := hH.1.1
  refine z_start hf rfl (by decide +kernel) (Nat.le_of_ble_eq_true rfl) ?_
  dsimp only [zz_lv0]
  refine z_aload_n ee_P_damage_0 rfl ?_
  refine z_getR ee_P_damage_1 ff_P_damage_45 (by assumption) il_0_6 (by assumption) ?_
  refine z_aload_n ee_P_damage_4 rfl ?_
  refine z_getR ee_P_damage_5 ff_P_damage_35 (by assumption) il_0_4 (by assumption) ?_
  -- at 8
  refine z_callV (As := [_]) ee_P_damage_8 kk_P_damage_117 rfl (by assumption) rfl rfl (Nat.le_of_ble_eq_true rfl) (by omega) (sp_H_prepare hf hH hp.2.2.2.1 hp.2.1 (by omega)) (fun E h1 hx => hx.elim) (fun v h1 hq => ?_)
  obtain ⟨I2, rfl, rfl, hh2, hsp, hfr2⟩ := hq
  have hp2 : zz_px g K R I2 B f v := hp.hx (hfr2.wid (by omega) (by omega)) hh2
  refine z_aload_n ee_P_damage_11 rfl ?_
  refine z_aload_n ee_P_damage_12 rfl ?_
  refine z_getR ee_P_damage_13 ff_P_damage_27 (by assumption) il_0_3 (by assumption) ?_
  refine z_iload_n ee_P_damage_16 rfl ?_
  refine z_iload_n ee_P_damage_17 rfl ?_
  refine z_iload_n ee_P_damage_18 rfl ?_
  -- at 19
  refine z_callV (As := [_, _, _]) ee_P_damage_19 kk_P_damage_154 rfl (by assumption) rfl rfl (Nat.le_of_ble_eq_true rfl) (by omega) (sp_V_damageCode hf hV hp2.2.1 n i c hc) (fun E h1 hx => hx.elim) (fun v h1 hq => ?_)
  obtain ⟨R3, I3, rfl, rfl, hd3, hS3, hR3, hI3⟩ := hq
  have hP3 := hP'.fq hR3
  have hp3 := hp2.st hR3 hI3 hS3
  have hsp3 := hsp.in (hR3.in (by omega)) (hI3.in (by omega))
  have hRt : zz_fq B (B + 1460) R R3 := hR3.wid (by omega) (by omega)
  have hIt : zz_fr B (B + 1460) I I3 := (hfr2.wid (by omega) (by omega)).trans (hI3.wid (by omega) (by omega))
  have hK0 := hP3.1.1
  refine z_callV (As := [_]) ee_P_damage_22 kk_P_damage_125 rfl (by assumption) rfl rfl (Nat.le_of_ble_eq_true rfl) (by omega) (sp_P_settle hf hP3 _ hp3 hsp3 hr hd3) (fun E h1 hx => (zz_PX.from hRt hIt hx)) (fun v h1 hq => ?_)
  obtain ⟨m, R4, I4, h1, rfl, rfl, hO4, hR4, hI4⟩ := hq
  have hm : zz_ch m := by
    have h2 : (po_settle v (zv_dmg (ov_s v) n i c)).1 = .inl m := h1
    unfold po_settle at h2
    cases hz : (zv_dmg (ov_s v) n i c).1 with
    | inl q =>
      rw [hz] at h2
      simp only [rs_e] at h2
      cases h2
    | inr o =>
      rw [hz] at h2 hr
      have hr : o = -11 ∨ o = -12 ∨ o = -13 ∨ 0 ≤ o := hr
      simp only [rs_e] at h2
      by_cases q1 : o = -11
      · rw [if_pos q1] at h2; cases h2
      · rw [if_neg q1] at h2
        by_cases q2 : o = -12
        · rw [if_pos q2] at h2; cases h2
        · rw [if_neg q2] at h2
          by_cases q3 : o = -13
          · rw [if_pos q3] at h2; cases h2
          · rw [if_neg q3] at h2
            cases h2
            exact hch o hz (hr.resolve_left q1 |>.resolve_left q2 |>.resolve_left q3)
  have hm2 := hm.le
  have e : m = nI m.toInt.toNat := zi_of hm2.1
  refine z_i2c ee_P_damage_25 (v := m) (by rw [e]; exact zz_i2c_n _ (by omega)) ?_
  refine z_zret ee_P_damage_26 (ty := .char) rfl hm.nar (by omega) (by omega) ?_
  -- at 26
  exact ⟨m, R4, I4, h1, rfl, rfl, hO4, hRt.trans hR4, hIt.trans hI4⟩
theorem sp_P_carve (hf : l.stackTraces = false) (hO : zz_Ob g K R I B v) (r o : Int32) (hr : rs_ok (zv_carve (ov_s v) r o (ov_m v)).1) : zz_S g l mm_P_carve 1 6 [.ref B, .int r, .int o] (K, R, I, L, z) (zz_PQ g K R I L z B (po_carve v r o)) (zz_PX g K R I L z B (po_carve v r o)) := by
  obtain ⟨hP, f, hp⟩ := hO
  have hP' := hP
  obtain ⟨⟨k1, k2, k3, k4, k5, k6, k7, k8, k9, k10, k11⟩, ⟨t1, t2, t3⟩, hV, hH, hC, hD, hS⟩ := hP
  have hV0 := hV.1
  have hH0 := hH.1.1
  refine z_start hf rfl (by decide +kernel) (Nat.le_of_ble_eq_true rfl) ?_
  dsimp only [zz_lv0]
  refine z_aload_n ee_P_carve_0 rfl ?_
  refine z_getR ee_P_carve_1 ff_P_carve_45 (by assumption) il_0_6 (by assumption) ?_
  refine z_aload_n ee_P_carve_4 rfl ?_
  refine z_getR ee_P_carve_5 ff_P_carve_35 (by assumption) il_0_4 (by assumption) ?_
  -- at 8
  refine z_callV (As := [_]) ee_P_carve_8 kk_P_carve_117 rfl (by assumption) rfl rfl (Nat.le_of_ble_eq_true rfl) (by omega) (sp_H_prepare hf hH hp.2.2.2.1 hp.2.1 (by omega)) (fun E h1 hx => hx.elim) (fun v h1 hq => ?_)
  obtain ⟨I2, rfl, rfl, hh2, hsp, hfr2⟩ := hq
  have hp2 : zz_px g K R I2 B f v := hp.hx (hfr2.wid (by omega) (by omega)) hh2
  refine z_aload_n ee_P_carve_11 rfl ?_
  refine z_aload_n ee_P_carve_12 rfl ?_
  refine z_getR ee_P_carve_13 ff_P_carve_27 (by assumption) il_0_3 (by assumption) ?_
  refine z_iload_n ee_P_carve_16 rfl ?_
  refine z_iload_n ee_P_carve_17 rfl ?_
  refine z_aload_n ee_P_carve_18 rfl ?_
  refine z_getR ee_P_carve_19 ff_P_carve_14 (by assumption) il_0_0 (by assumption) ?_
  -- at 22
  refine z_callV (As := [_, _, _]) ee_P_carve_22 kk_P_carve_150 rfl (by assumption) rfl rfl (Nat.le_of_ble_eq_true rfl) (by omega) (sp_V_carveText hf hV hp2.2.1 t1 hp2.1.1 (by omega) r o) (fun E h1 hx => hx.elim) (fun v h1 hq => ?_)
  obtain ⟨R3, I3, rfl, rfl, hd3, hS3, hR3, hI3⟩ := hq
  have hP3 := hP'.fq hR3
  have hp3 := hp2.st hR3 hI3 hS3
  have hsp3 := hsp.in (hR3.in (by omega)) (hI3.in (by omega))
  have hRt : zz_fq B (B + 1460) R R3 := hR3.wid (by omega) (by omega)
  have hIt : zz_fr B (B + 1460) I I3 := (hfr2.wid (by omega) (by omega)).trans (hI3.wid (by omega) (by omega))
  have hK0 := hP3.1.1
  refine z_callV (As := [_]) ee_P_carve_25 kk_P_carve_125 rfl (by assumption) rfl rfl (Nat.le_of_ble_eq_true rfl) (by omega) (sp_P_settle hf hP3 _ hp3 hsp3 hr hd3) (fun E h1 hx => (zz_PX.carve (zz_PX.from hRt hIt hx))) (fun v h1 hq => ?_)
  obtain ⟨n, R4, I4, h1, rfl, rfl, hO4, hR4, hI4⟩ := hq
  have h1 : (po_ch v (fun s => zv_carve s r o (ov_m v))).1 = .inl n := h1
  have hO4 : zz_Ob g K R4 I4 B (po_ch v (fun s => zv_carve s r o (ov_m v))).2 := hO4
  cases hw : po_ch v (fun s => zv_carve s r o (ov_m v)) with
  | mk a w =>
    rw [hw] at h1 hO4
    have h1 : a = .inl n := h1
    subst h1
    obtain ⟨hP4, f4, hp4⟩ := hO4
    have k0' := hP4.1.1
    have kt := hP4.2.1.1.1
    have k4' := hP4.1.2.2.1
    refine z_istore_m ee_P_carve_28 (j := 3) rfl (by decide) ?_
    refine z_aload_n ee_P_carve_29 rfl ?_
    refine z_getR ee_P_carve_30 ff_P_carve_14 (by assumption) il_0_0 (by assumption) ?_
    -- at 33
    refine z_callV (As := []) ee_P_carve_33 kk_P_carve_92 rfl (by assumption) rfl rfl (Nat.le_of_ble_eq_true rfl) (by omega) (sp_T_clear hf hP4.2.1.1) (fun E h1 hx => hx.elim) (fun v h1 hq => ?_)
    obtain ⟨I5, rfl, rfl, hx5, hfr5⟩ := hq
    refine z_iload_n ee_P_carve_36 rfl ?_
    refine z_iret ee_P_carve_37 rfl (by omega) (by omega) ?_
    -- at 37
    refine ⟨n, R4, I5, by unfold po_carve; rw [hw], rfl, rfl, ⟨hP4, f4, ?_⟩, hRt.trans hR4, (hIt.trans hI4).trans (hfr5.wid (by omega) (by omega))⟩
    unfold po_carve
    rw [hw]
    exact hp4.msg hfr5 hx5
end Obj2
