/-! THE LAW'S OWN METHODS: one for each call -/
def zw (f : String → Int32) (r : zz_PR) : Int32 :=
  match r.1 with
  | .inl n => n
  | .inr E => f E
theorem zw_ol {f : String → Int32} {r : zz_PR} {n : Int32} (h : r.1 = .inl n) : zw f r = n := by unfold zw; rw [h]
theorem zw_of {f : String → Int32} {r : zz_PR} {E : String} (h : r.1 = .inr E) : zw f r = f E := by unfold zw; rw [h]
theorem zw_rd {v : zz_OV} {m n : Int32} (h : (pq_tel v m (fun x => (.inl (zz_tf (0 ≤ zz_oc (zz_uir x))), v))).1 = .inl n) : n = nI 0 ∨ n = nI 1 := by
  cases hp : zz_pos m 0 (sv_t (ov_s v)) with
  | none => rw [pq_tel_n hp] at h; cases h
  | some p =>
    obtain ⟨hp1, x, hx, -⟩ := zz_pos_at hp
    rw [pq_tel_s hp hx] at h
    have h : (Sum.inl (zz_tf (0 ≤ zz_oc (zz_uir x))) : Int32 ⊕ String) = .inl n := h
    cases h
    unfold zz_tf
    split
    · exact Or.inr rfl
    · exact Or.inl rfl
def zf1 : String → Int32 := fun _ => -1001
def zf2 (a : String) : String → Int32 := fun E => if E = a then -1001 else -1002
def zf3 (a b : String) : String → Int32 := fun E => if E = a then -1001 else if E = b then -1002 else -1003
def zf4 (a b c : String) : String → Int32 := fun E => if E = a then -1001 else if E = b then -1002 else if E = c then -1003 else -1004
def zz_LQ (g : zz_G) (K : Nat → Nat × Nat) (R : Nat → Nat → Option Nat) (I : Nat → Nat → Int32) (L : Nat → Nat → Int64) (z B : Nat) (x : Int32) (w : zz_OV) : Option Value → zz_H → Prop := fun a h' => ∃ R' I' z', a = some (.int x) ∧ z ≤ z' ∧ h' = (K, R', I', L, z') ∧ zz_Ob g K R' I' B w ∧ zz_fq B (B + 1460) R R' ∧ zz_fr B (B + 1460) I I'
section Wrap
variable {g : zz_G} {l : Launch} {K : Nat → Nat × Nat} {R : Nat → Nat → Option Nat} {I : Nat → Nat → Int32} {L : Nat → Nat → Int64} {z B : Nat} {v : zz_OV}
theorem sp_L_type (hf : l.stackTraces = false) (hO : zz_Ob g K R I B v) (c : Int32) (hc : zz_ch c)  (hE : ∀ E, (po_type v c).1 = .inr E → E = eA ∨ E = eS) : zz_S g l mm_L_type 1 6 [.ref B, .int c] (K, R, I, L, z) (zz_LQ g K R I L z B (zw (zf2 eA) (po_type v c)) (po_type v c).2) zz_no := by
  have hk := hO.1.1.1
  refine z_startW hf rfl (by decide +kernel) (Nat.le_of_ble_eq_true rfl) ?_
  dsimp only [zz_lv0]
  refine z_aload_n ee_L_type_0 rfl ?_
  refine z_iload_n ee_L_type_1 rfl ?_
  -- at 2
  refine z_callVh (As := [_]) ee_L_type_2 kk_L_type_7 (by assumption) rfl rfl (Nat.le_of_ble_eq_true rfl) (by omega) (sp_P_type hf hO c hc) (fun E h1 hx => ?_) (fun a h1 hq => ?_)
  · obtain ⟨R', I', z', e1, e2, rfl, e4, e5, e6⟩ := hx
    rcases hE E e1 with rfl | rfl
    · refine ⟨6, hd_L_type_0, fun q => ?_⟩
      refine z_astore_m ee_L_type_6 (j := 2) rfl (by decide) ?_
      refine z_sipush ee_L_type_7 (v := -1001) (by decide) ?_
      refine z_iret ee_L_type_10 rfl (by omega) (by omega) ?_
      -- at 10
      refine ⟨R', I', z', ?_, e2, rfl, e4, e5, e6⟩
      rw [zw_of e1]
      unfold zf2
      rw [if_pos rfl]
    · refine ⟨11, hd_L_type_1, fun q => ?_⟩
      refine z_astore_m ee_L_type_11 (j := 2) rfl (by decide) ?_
      refine z_sipush ee_L_type_12 (v := -1002) (by decide) ?_
      refine z_iret ee_L_type_15 rfl (by omega) (by omega) ?_
      -- at 15
      refine ⟨R', I', z', ?_, e2, rfl, e4, e5, e6⟩
      rw [zw_of e1]
      unfold zf2
      rw [if_neg (by decide +kernel)]
  · obtain ⟨n, R', I', e1, rfl, rfl, e4, e5, e6⟩ := hq
    refine z_iret ee_L_type_5 rfl (by omega) (by omega) ?_
    -- at 5
    exact ⟨R', I', z, by rw [zw_ol e1], Nat.le_refl _, rfl, e4, e5, e6⟩
theorem sp_L_feed (hf : l.stackTraces = false) (hO : zz_Ob g K R I B v) (c : Int32) (hc : zz_ch c)  (hE : ∀ E, (po_feed v c).1 = .inr E → E = eS) : zz_S g l mm_L_feed 1 6 [.ref B, .int c] (K, R, I, L, z) (zz_LQ g K R I L z B (zw zf1 (po_feed v c)) (po_feed v c).2) zz_no := by
  have hk := hO.1.1.1
  refine z_startW hf rfl (by decide +kernel) (Nat.le_of_ble_eq_true rfl) ?_
  dsimp only [zz_lv0]
  refine z_aload_n ee_L_feed_0 rfl ?_
  refine z_iload_n ee_L_feed_1 rfl ?_
  -- at 2
  refine z_callVh (As := [_]) ee_L_feed_2 kk_L_feed_120 (by assumption) rfl rfl (Nat.le_of_ble_eq_true rfl) (by omega) (sp_P_feed hf hO c hc) (fun E h1 hx => ?_) (fun a h1 hq => ?_)
  · obtain ⟨R', I', z', e1, e2, rfl, e4, e5, e6⟩ := hx
    rcases hE E e1 with rfl
    · refine ⟨6, hd_L_feed_0, fun q => ?_⟩
      refine z_astore_m ee_L_feed_6 (j := 2) rfl (by decide) ?_
      refine z_sipush ee_L_feed_7 (v := -1001) (by decide) ?_
      refine z_iret ee_L_feed_10 rfl (by omega) (by omega) ?_
      -- at 10
      refine ⟨R', I', z', ?_, e2, rfl, e4, e5, e6⟩
      rw [zw_of e1]
      rfl
  · obtain ⟨n, R', I', e1, rfl, rfl, e4, e5, e6⟩ := hq
    refine z_iret ee_L_feed_5 rfl (by omega) (by omega) ?_
    -- at 5
    exact ⟨R', I', z, by rw [zw_ol e1], Nat.le_refl _, rfl, e4, e5, e6⟩
theorem sp_L_addRoot (hf : l.stackTraces = false) (hO : zz_Ob g K R I B v) (d : Int32) (hr : rs_ok (zv_plant (ov_s v) d).1) (hE : ∀ E, (po_ch v (fun s => zv_plant s d)).1 = .inr E → E = eA ∨ E = eU) : zz_S g l mm_L_addRoot 1 6 [.ref B, .int d] (K, R, I, L, z) (zz_LQ g K R I L z B (zw (zf2 eA) (po_ch v (fun s => zv_plant s d))) (po_ch v (fun s => zv_plant s d)).2) zz_no := by
  have hk := hO.1.1.1
  refine z_startW hf rfl (by decide +kernel) (Nat.le_of_ble_eq_true rfl) ?_
  dsimp only [zz_lv0]
  refine z_aload_n ee_L_addRoot_0 rfl ?_
  refine z_iload_n ee_L_addRoot_1 rfl ?_
  -- at 2
  refine z_callVh (As := [_]) ee_L_addRoot_2 kk_L_addRoot_21 (by assumption) rfl rfl (Nat.le_of_ble_eq_true rfl) (by omega) (sp_P_addRoot hf hO d hr) (fun E h1 hx => ?_) (fun a h1 hq => ?_)
  · obtain ⟨R', I', z', e1, e2, rfl, e4, e5, e6⟩ := hx
    rcases hE E e1 with rfl | rfl
    · refine ⟨6, hd_L_addRoot_0, fun q => ?_⟩
      refine z_astore_m ee_L_addRoot_6 (j := 2) rfl (by decide) ?_
      refine z_sipush ee_L_addRoot_7 (v := -1001) (by decide) ?_
      refine z_iret ee_L_addRoot_10 rfl (by omega) (by omega) ?_
      -- at 10
      refine ⟨R', I', z', ?_, e2, rfl, e4, e5, e6⟩
      rw [zw_of e1]
      unfold zf2
      rw [if_pos rfl]
    · refine ⟨11, hd_L_addRoot_1, fun q => ?_⟩
      refine z_astore_m ee_L_addRoot_11 (j := 2) rfl (by decide) ?_
      refine z_sipush ee_L_addRoot_12 (v := -1002) (by decide) ?_
      refine z_iret ee_L_addRoot_15 rfl (by omega) (by omega) ?_
      -- at 15
      refine ⟨R', I', z', ?_, e2, rfl, e4, e5, e6⟩
      rw [zw_of e1]
      unfold zf2
      rw [if_neg (by decide +kernel)]
  · obtain ⟨n, R', I', e1, rfl, rfl, e4, e5, e6⟩ := hq
    refine z_iret ee_L_addRoot_5 rfl (by omega) (by omega) ?_
    -- at 5
    exact ⟨R', I', z, by rw [zw_ol e1], Nat.le_refl _, rfl, e4, e5, e6⟩
theorem sp_L_dry (hf : l.stackTraces = false) (hO : zz_Ob g K R I B v) (r : Int32) (hr : rs_ok (zv_dry (ov_s v) r).1) (hE : ∀ E, (po_ch v (fun s => zv_dry s r)).1 = .inr E → E = eI ∨ E = eU) : zz_S g l mm_L_dry 1 6 [.ref B, .int r] (K, R, I, L, z) (zz_LQ g K R I L z B (zw (zf2 eI) (po_ch v (fun s => zv_dry s r))) (po_ch v (fun s => zv_dry s r)).2) zz_no := by
  have hk := hO.1.1.1
  refine z_startW hf rfl (by decide +kernel) (Nat.le_of_ble_eq_true rfl) ?_
  dsimp only [zz_lv0]
  refine z_aload_n ee_L_dry_0 rfl ?_
  refine z_iload_n ee_L_dry_1 rfl ?_
  -- at 2
  refine z_callVh (As := [_]) ee_L_dry_2 kk_L_dry_27 (by assumption) rfl rfl (Nat.le_of_ble_eq_true rfl) (by omega) (sp_P_dry hf hO r hr) (fun E h1 hx => ?_) (fun a h1 hq => ?_)
  · obtain ⟨R', I', z', e1, e2, rfl, e4, e5, e6⟩ := hx
    rcases hE E e1 with rfl | rfl
    · refine ⟨6, hd_L_dry_0, fun q => ?_⟩
      refine z_astore_m ee_L_dry_6 (j := 2) rfl (by decide) ?_
      refine z_sipush ee_L_dry_7 (v := -1001) (by decide) ?_
      refine z_iret ee_L_dry_10 rfl (by omega) (by omega) ?_
      -- at 10
      refine ⟨R', I', z', ?_, e2, rfl, e4, e5, e6⟩
      rw [zw_of e1]
      unfold zf2
      rw [if_pos rfl]
    · refine ⟨11, hd_L_dry_1, fun q => ?_⟩
      refine z_astore_m ee_L_dry_11 (j := 2) rfl (by decide) ?_
      refine z_sipush ee_L_dry_12 (v := -1002) (by decide) ?_
      refine z_iret ee_L_dry_15 rfl (by omega) (by omega) ?_
      -- at 15
      refine ⟨R', I', z', ?_, e2, rfl, e4, e5, e6⟩
      rw [zw_of e1]
      unfold zf2
      rw [if_neg (by decide +kernel)]
  · obtain ⟨n, R', I', e1, rfl, rfl, e4, e5, e6⟩ := hq
    refine z_iret ee_L_dry_5 rfl (by omega) (by omega) ?_
    -- at 5
    exact ⟨R', I', z, by rw [zw_ol e1], Nat.le_refl _, rfl, e4, e5, e6⟩
theorem sp_L_dampness (hf : l.stackTraces = false) (hO : zz_Ob g K R I B v) (r : Int32)  (hE : ∀ E, (((if zz_hr (ov_s v) r then .inl (zz_dmp (ov_s v) r) else .inr eI, v) : zz_PR)).1 = .inr E → E = eI) : zz_S g l mm_L_dampness 1 6 [.ref B, .int r] (K, R, I, L, z) (zz_LQ g K R I L z B (zw zf1 (((if zz_hr (ov_s v) r then .inl (zz_dmp (ov_s v) r) else .inr eI, v) : zz_PR))) (((if zz_hr (ov_s v) r then .inl (zz_dmp (ov_s v) r) else .inr eI, v) : zz_PR)).2) zz_no := by
  have hk := hO.1.1.1
  refine z_startW hf rfl (by decide +kernel) (Nat.le_of_ble_eq_true rfl) ?_
  dsimp only [zz_lv0]
  refine z_aload_n ee_L_dampness_0 rfl ?_
  refine z_iload_n ee_L_dampness_1 rfl ?_
  -- at 2
  refine z_callVh (As := [_]) ee_L_dampness_2 kk_L_dampness_32 (by assumption) rfl rfl (Nat.le_of_ble_eq_true rfl) (by omega) (sp_P_dampness hf hO r) (fun E h1 hx => ?_) (fun a h1 hq => ?_)
  · obtain ⟨R', I', z', e1, e2, rfl, e4, e5, e6⟩ := hx
    rcases hE E e1 with rfl
    · refine ⟨6, hd_L_dampness_0, fun q => ?_⟩
      refine z_astore_m ee_L_dampness_6 (j := 2) rfl (by decide) ?_
      refine z_sipush ee_L_dampness_7 (v := -1001) (by decide) ?_
      refine z_iret ee_L_dampness_10 rfl (by omega) (by omega) ?_
      -- at 10
      refine ⟨R', I', z', ?_, e2, rfl, e4, e5, e6⟩
      rw [zw_of e1]
      rfl
  · obtain ⟨n, R', I', e1, rfl, rfl, e4, e5, e6⟩ := hq
    refine z_iret ee_L_dampness_5 rfl (by omega) (by omega) ?_
    -- at 5
    exact ⟨R', I', z, by rw [zw_ol e1], Nat.le_refl _, rfl, e4, e5, e6⟩
theorem sp_L_pagesIn (hf : l.stackTraces = false) (hO : zz_Ob g K R I B v) (r : Int32)  (hE : ∀ E, (((if zz_hr (ov_s v) r then .inl (zz_cpi (ov_s v) r) else .inr eI, v) : zz_PR)).1 = .inr E → E = eI) : zz_S g l mm_L_pagesIn 1 6 [.ref B, .int r] (K, R, I, L, z) (zz_LQ g K R I L z B (zw zf1 (((if zz_hr (ov_s v) r then .inl (zz_cpi (ov_s v) r) else .inr eI, v) : zz_PR))) (((if zz_hr (ov_s v) r then .inl (zz_cpi (ov_s v) r) else .inr eI, v) : zz_PR)).2) zz_no := by
  have hk := hO.1.1.1
  refine z_startW hf rfl (by decide +kernel) (Nat.le_of_ble_eq_true rfl) ?_
  dsimp only [zz_lv0]
  refine z_aload_n ee_L_pagesIn_0 rfl ?_
  refine z_iload_n ee_L_pagesIn_1 rfl ?_
  -- at 2
  refine z_callVh (As := [_]) ee_L_pagesIn_2 kk_L_pagesIn_35 (by assumption) rfl rfl (Nat.le_of_ble_eq_true rfl) (by omega) (sp_P_pagesIn hf hO r) (fun E h1 hx => ?_) (fun a h1 hq => ?_)
  · obtain ⟨R', I', z', e1, e2, rfl, e4, e5, e6⟩ := hx
    rcases hE E e1 with rfl
    · refine ⟨6, hd_L_pagesIn_0, fun q => ?_⟩
      refine z_astore_m ee_L_pagesIn_6 (j := 2) rfl (by decide) ?_
      refine z_sipush ee_L_pagesIn_7 (v := -1001) (by decide) ?_
      refine z_iret ee_L_pagesIn_10 rfl (by omega) (by omega) ?_
      -- at 10
      refine ⟨R', I', z', ?_, e2, rfl, e4, e5, e6⟩
      rw [zw_of e1]
      rfl
  · obtain ⟨n, R', I', e1, rfl, rfl, e4, e5, e6⟩ := hq
    refine z_iret ee_L_pagesIn_5 rfl (by omega) (by omega) ?_
    -- at 5
    exact ⟨R', I', z, by rw [zw_ol e1], Nat.le_refl _, rfl, e4, e5, e6⟩
theorem sp_L_carve (hf : l.stackTraces = false) (hO : zz_Ob g K R I B v) (r o : Int32) (hr : rs_ok (zv_carve (ov_s v) r o (ov_m v)).1) (hE : ∀ E, (po_carve v r o).1 = .inr E → E = eI ∨ E = eA ∨ E = eU) : zz_S g l mm_L_carve 1 6 [.ref B, .int r, .int o] (K, R, I, L, z) (zz_LQ g K R I L z B (zw (zf3 eI eA) (po_carve v r o)) (po_carve v r o).2) zz_no := by
  have hk := hO.1.1.1
  refine z_startW hf rfl (by decide +kernel) (Nat.le_of_ble_eq_true rfl) ?_
  dsimp only [zz_lv0]
  refine z_aload_n ee_L_carve_0 rfl ?_
  refine z_iload_n ee_L_carve_1 rfl ?_
  refine z_iload_n ee_L_carve_2 rfl ?_
  -- at 3
  refine z_callVh (As := [_, _]) ee_L_carve_3 kk_L_carve_43 (by assumption) rfl rfl (Nat.le_of_ble_eq_true rfl) (by omega) (sp_P_carve hf hO r o hr) (fun E h1 hx => ?_) (fun a h1 hq => ?_)
  · obtain ⟨R', I', z', e1, e2, rfl, e4, e5, e6⟩ := hx
    rcases hE E e1 with rfl | rfl | rfl
    · refine ⟨7, hd_L_carve_0, fun q => ?_⟩
      refine z_astore_m ee_L_carve_7 (j := 3) rfl (by decide) ?_
      refine z_sipush ee_L_carve_8 (v := -1001) (by decide) ?_
      refine z_iret ee_L_carve_11 rfl (by omega) (by omega) ?_
      -- at 11
      refine ⟨R', I', z', ?_, e2, rfl, e4, e5, e6⟩
      rw [zw_of e1]
      unfold zf3
      rw [if_pos rfl]
    · refine ⟨12, hd_L_carve_1, fun q => ?_⟩
      refine z_astore_m ee_L_carve_12 (j := 3) rfl (by decide) ?_
      refine z_sipush ee_L_carve_13 (v := -1002) (by decide) ?_
      refine z_iret ee_L_carve_16 rfl (by omega) (by omega) ?_
      -- at 16
      refine ⟨R', I', z', ?_, e2, rfl, e4, e5, e6⟩
      rw [zw_of e1]
      unfold zf3
      rw [if_neg (by decide +kernel)]
      rw [if_pos rfl]
    · refine ⟨17, hd_L_carve_2, fun q => ?_⟩
      refine z_astore_m ee_L_carve_17 (j := 3) rfl (by decide) ?_
      refine z_sipush ee_L_carve_18 (v := -1003) (by decide) ?_
      refine z_iret ee_L_carve_21 rfl (by omega) (by omega) ?_
      -- at 21
      refine ⟨R', I', z', ?_, e2, rfl, e4, e5, e6⟩
      rw [zw_of e1]
      unfold zf3
      rw [if_neg (by decide +kernel)]
      rw [if_neg (by decide +kernel)]
  · obtain ⟨n, R', I', e1, rfl, rfl, e4, e5, e6⟩ := hq
    refine z_iret ee_L_carve_6 rfl (by omega) (by omega) ?_
    -- at 6
    exact ⟨R', I', z, by rw [zw_ol e1], Nat.le_refl _, rfl, e4, e5, e6⟩
theorem sp_L_damage (hf : l.stackTraces = false) (hO : zz_Ob g K R I B v) (n i c : Int32) (hc : zz_ch c) (hr : rs_ok (zv_dmg (ov_s v) n i c).1) (hch : ∀ o, (zv_dmg (ov_s v) n i c).1 = .inr o → 0 ≤ o → zz_ch o) (hE : ∀ E, (po_ch v (fun s => zv_dmg s n i c)).1 = .inr E → E = eN ∨ E = eI ∨ E = eA ∨ E = eU) : zz_S g l mm_L_damage 1 6 [.ref B, .int n, .int i, .int c] (K, R, I, L, z) (zz_LQ g K R I L z B (zw (zf4 eN eI eA) (po_ch v (fun s => zv_dmg s n i c))) (po_ch v (fun s => zv_dmg s n i c)).2) zz_no := by
  have hk := hO.1.1.1
  refine z_startW hf rfl (by decide +kernel) (Nat.le_of_ble_eq_true rfl) ?_
  dsimp only [zz_lv0]
  refine z_aload_n ee_L_damage_0 rfl ?_
  refine z_iload_n ee_L_damage_1 rfl ?_
  refine z_iload_n ee_L_damage_2 rfl ?_
  refine z_iload_n ee_L_damage_3 rfl ?_
  -- at 4
  refine z_callVh (As := [_, _, _]) ee_L_damage_4 kk_L_damage_47 (by assumption) rfl rfl (Nat.le_of_ble_eq_true rfl) (by omega) (sp_P_damage hf hO n i c hc hr hch) (fun E h1 hx => ?_) (fun a h1 hq => ?_)
  · obtain ⟨R', I', z', e1, e2, rfl, e4, e5, e6⟩ := hx
    rcases hE E e1 with rfl | rfl | rfl | rfl
    · refine ⟨8, hd_L_damage_0, fun q => ?_⟩
      refine z_astore ee_L_damage_8 (by decide) ?_
      refine z_sipush ee_L_damage_10 (v := -1001) (by decide) ?_
      refine z_iret ee_L_damage_13 rfl (by omega) (by omega) ?_
      -- at 13
      refine ⟨R', I', z', ?_, e2, rfl, e4, e5, e6⟩
      rw [zw_of e1]
      unfold zf4
      rw [if_pos rfl]
    · refine ⟨14, hd_L_damage_1, fun q => ?_⟩
      refine z_astore ee_L_damage_14 (by decide) ?_
      refine z_sipush ee_L_damage_16 (v := -1002) (by decide) ?_
      refine z_iret ee_L_damage_19 rfl (by omega) (by omega) ?_
      -- at 19
      refine ⟨R', I', z', ?_, e2, rfl, e4, e5, e6⟩
      rw [zw_of e1]
      unfold zf4
      rw [if_neg (by decide +kernel)]
      rw [if_pos rfl]
    · refine ⟨20, hd_L_damage_2, fun q => ?_⟩
      refine z_astore ee_L_damage_20 (by decide) ?_
      refine z_sipush ee_L_damage_22 (v := -1003) (by decide) ?_
      refine z_iret ee_L_damage_25 rfl (by omega) (by omega) ?_
      -- at 25
      refine ⟨R', I', z', ?_, e2, rfl, e4, e5, e6⟩
      rw [zw_of e1]
      unfold zf4
      rw [if_neg (by decide +kernel)]
      rw [if_neg (by decide +kernel)]
      rw [if_pos rfl]
    · refine ⟨26, hd_L_damage_3, fun q => ?_⟩
      refine z_astore ee_L_damage_26 (by decide) ?_
      refine z_sipush ee_L_damage_28 (v := -1004) (by decide) ?_
      refine z_iret ee_L_damage_31 rfl (by omega) (by omega) ?_
      -- at 31
      refine ⟨R', I', z', ?_, e2, rfl, e4, e5, e6⟩
      rw [zw_of e1]
      unfold zf4
      rw [if_neg (by decide +kernel)]
      rw [if_neg (by decide +kernel)]
      rw [if_neg (by decide +kernel)]
  · obtain ⟨n, R', I', e1, rfl, rfl, e4, e5, e6⟩ := hq
    refine z_iret ee_L_damage_7 rfl (by omega) (by omega) ?_
    -- at 7
    exact ⟨R', I', z, by rw [zw_ol e1], Nat.le_refl _, rfl, e4, e5, e6⟩
theorem sp_L_recarve (hf : l.stackTraces = false) (hO : zz_Ob g K R I B v) (n : Int32) (hr : rs_ok (zv_anew (ov_s v) n).1) (hE : ∀ E, (po_ch v (fun s => zv_anew s n)).1 = .inr E → E = eN ∨ E = eU) : zz_S g l mm_L_recarve 1 6 [.ref B, .int n] (K, R, I, L, z) (zz_LQ g K R I L z B (zw (zf2 eN) (po_ch v (fun s => zv_anew s n))) (po_ch v (fun s => zv_anew s n)).2) zz_no := by
  have hk := hO.1.1.1
  refine z_startW hf rfl (by decide +kernel) (Nat.le_of_ble_eq_true rfl) ?_
  dsimp only [zz_lv0]
  refine z_aload_n ee_L_recarve_0 rfl ?_
  refine z_iload_n ee_L_recarve_1 rfl ?_
  -- at 2
  refine z_callVh (As := [_]) ee_L_recarve_2 kk_L_recarve_51 (by assumption) rfl rfl (Nat.le_of_ble_eq_true rfl) (by omega) (sp_P_recarve hf hO n hr) (fun E h1 hx => ?_) (fun a h1 hq => ?_)
  · obtain ⟨R', I', z', e1, e2, rfl, e4, e5, e6⟩ := hx
    rcases hE E e1 with rfl | rfl
    · refine ⟨6, hd_L_recarve_0, fun q => ?_⟩
      refine z_astore_m ee_L_recarve_6 (j := 2) rfl (by decide) ?_
      refine z_sipush ee_L_recarve_7 (v := -1001) (by decide) ?_
      refine z_iret ee_L_recarve_10 rfl (by omega) (by omega) ?_
      -- at 10
      refine ⟨R', I', z', ?_, e2, rfl, e4, e5, e6⟩
      rw [zw_of e1]
      unfold zf2
      rw [if_pos rfl]
    · refine ⟨11, hd_L_recarve_1, fun q => ?_⟩
      refine z_astore_m ee_L_recarve_11 (j := 2) rfl (by decide) ?_
      refine z_sipush ee_L_recarve_12 (v := -1002) (by decide) ?_
      refine z_iret ee_L_recarve_15 rfl (by omega) (by omega) ?_
      -- at 15
      refine ⟨R', I', z', ?_, e2, rfl, e4, e5, e6⟩
      rw [zw_of e1]
      unfold zf2
      rw [if_neg (by decide +kernel)]
  · obtain ⟨n, R', I', e1, rfl, rfl, e4, e5, e6⟩ := hq
    refine z_iret ee_L_recarve_5 rfl (by omega) (by omega) ?_
    -- at 5
    exact ⟨R', I', z, by rw [zw_ol e1], Nat.le_refl _, rfl, e4, e5, e6⟩
theorem sp_L_move (hf : l.stackTraces = false) (hO : zz_Ob g K R I B v) (n r : Int32) (hr : rs_ok (zv_move (ov_s v) n r).1) (hE : ∀ E, (po_ch v (fun s => zv_move s n r)).1 = .inr E → E = eN ∨ E = eI ∨ E = eU) : zz_S g l mm_L_move 1 6 [.ref B, .int n, .int r] (K, R, I, L, z) (zz_LQ g K R I L z B (zw (zf3 eN eI) (po_ch v (fun s => zv_move s n r))) (po_ch v (fun s => zv_move s n r)).2) zz_no := by
  have hk := hO.1.1.1
  refine z_startW hf rfl (by decide +kernel) (Nat.le_of_ble_eq_true rfl) ?_
  dsimp only [zz_lv0]
  refine z_aload_n ee_L_move_0 rfl ?_
  refine z_iload_n ee_L_move_1 rfl ?_
  refine z_iload_n ee_L_move_2 rfl ?_
  -- at 3
  refine z_callVh (As := [_, _]) ee_L_move_3 kk_L_move_54 (by assumption) rfl rfl (Nat.le_of_ble_eq_true rfl) (by omega) (sp_P_move hf hO n r hr) (fun E h1 hx => ?_) (fun a h1 hq => ?_)
  · obtain ⟨R', I', z', e1, e2, rfl, e4, e5, e6⟩ := hx
    rcases hE E e1 with rfl | rfl | rfl
    · refine ⟨7, hd_L_move_0, fun q => ?_⟩
      refine z_astore_m ee_L_move_7 (j := 3) rfl (by decide) ?_
      refine z_sipush ee_L_move_8 (v := -1001) (by decide) ?_
      refine z_iret ee_L_move_11 rfl (by omega) (by omega) ?_
      -- at 11
      refine ⟨R', I', z', ?_, e2, rfl, e4, e5, e6⟩
      rw [zw_of e1]
      unfold zf3
      rw [if_pos rfl]
    · refine ⟨12, hd_L_move_1, fun q => ?_⟩
      refine z_astore_m ee_L_move_12 (j := 3) rfl (by decide) ?_
      refine z_sipush ee_L_move_13 (v := -1002) (by decide) ?_
      refine z_iret ee_L_move_16 rfl (by omega) (by omega) ?_
      -- at 16
      refine ⟨R', I', z', ?_, e2, rfl, e4, e5, e6⟩
      rw [zw_of e1]
      unfold zf3
      rw [if_neg (by decide +kernel)]
      rw [if_pos rfl]
    · refine ⟨17, hd_L_move_2, fun q => ?_⟩
      refine z_astore_m ee_L_move_17 (j := 3) rfl (by decide) ?_
      refine z_sipush ee_L_move_18 (v := -1003) (by decide) ?_
      refine z_iret ee_L_move_21 rfl (by omega) (by omega) ?_
      -- at 21
      refine ⟨R', I', z', ?_, e2, rfl, e4, e5, e6⟩
      rw [zw_of e1]
      unfold zf3
      rw [if_neg (by decide +kernel)]
      rw [if_neg (by decide +kernel)]
  · obtain ⟨n, R', I', e1, rfl, rfl, e4, e5, e6⟩ := hq
    refine z_iret ee_L_move_6 rfl (by omega) (by omega) ?_
    -- at 6
    exact ⟨R', I', z, by rw [zw_ol e1], Nat.le_refl _, rfl, e4, e5, e6⟩
theorem sp_L_drop (hf : l.stackTraces = false) (hO : zz_Ob g K R I B v) (n : Int32) (hr : rs_ok (zv_drop (ov_s v) n).1) (hE : ∀ E, (po_ch v (fun s => zv_drop s n)).1 = .inr E → E = eN) : zz_S g l mm_L_drop 1 6 [.ref B, .int n] (K, R, I, L, z) (zz_LQ g K R I L z B (zw zf1 (po_ch v (fun s => zv_drop s n))) (po_ch v (fun s => zv_drop s n)).2) zz_no := by
  have hk := hO.1.1.1
  refine z_startW hf rfl (by decide +kernel) (Nat.le_of_ble_eq_true rfl) ?_
  dsimp only [zz_lv0]
  refine z_aload_n ee_L_drop_0 rfl ?_
  refine z_iload_n ee_L_drop_1 rfl ?_
  -- at 2
  refine z_callVh (As := [_]) ee_L_drop_2 kk_L_drop_57 (by assumption) rfl rfl (Nat.le_of_ble_eq_true rfl) (by omega) (sp_P_drop hf hO n hr) (fun E h1 hx => ?_) (fun a h1 hq => ?_)
  · obtain ⟨R', I', z', e1, e2, rfl, e4, e5, e6⟩ := hx
    rcases hE E e1 with rfl
    · refine ⟨6, hd_L_drop_0, fun q => ?_⟩
      refine z_astore_m ee_L_drop_6 (j := 2) rfl (by decide) ?_
      refine z_sipush ee_L_drop_7 (v := -1001) (by decide) ?_
      refine z_iret ee_L_drop_10 rfl (by omega) (by omega) ?_
      -- at 10
      refine ⟨R', I', z', ?_, e2, rfl, e4, e5, e6⟩
      rw [zw_of e1]
      rfl
  · obtain ⟨n, R', I', e1, rfl, rfl, e4, e5, e6⟩ := hq
    refine z_iret ee_L_drop_5 rfl (by omega) (by omega) ?_
    -- at 5
    exact ⟨R', I', z, by rw [zw_ol e1], Nat.le_refl _, rfl, e4, e5, e6⟩
theorem sp_L_age (hf : l.stackTraces = false) (hO : zz_Ob g K R I B v) (d : Int32) (hr : rs_ok (zv_pass (ov_s v) d).1) (hE : ∀ E, (po_ch v (fun s => zv_pass s d)).1 = .inr E → E = eA) : zz_S g l mm_L_age 1 6 [.ref B, .int d] (K, R, I, L, z) (zz_LQ g K R I L z B (zw zf1 (po_ch v (fun s => zv_pass s d))) (po_ch v (fun s => zv_pass s d)).2) zz_no := by
  have hk := hO.1.1.1
  refine z_startW hf rfl (by decide +kernel) (Nat.le_of_ble_eq_true rfl) ?_
  dsimp only [zz_lv0]
  refine z_aload_n ee_L_age_0 rfl ?_
  refine z_iload_n ee_L_age_1 rfl ?_
  -- at 2
  refine z_callVh (As := [_]) ee_L_age_2 kk_L_age_95 (by assumption) rfl rfl (Nat.le_of_ble_eq_true rfl) (by omega) (sp_P_age hf hO d hr) (fun E h1 hx => ?_) (fun a h1 hq => ?_)
  · obtain ⟨R', I', z', e1, e2, rfl, e4, e5, e6⟩ := hx
    rcases hE E e1 with rfl
    · refine ⟨6, hd_L_age_0, fun q => ?_⟩
      refine z_astore_m ee_L_age_6 (j := 2) rfl (by decide) ?_
      refine z_sipush ee_L_age_7 (v := -1001) (by decide) ?_
      refine z_iret ee_L_age_10 rfl (by omega) (by omega) ?_
      -- at 10
      refine ⟨R', I', z', ?_, e2, rfl, e4, e5, e6⟩
      rw [zw_of e1]
      rfl
  · obtain ⟨n, R', I', e1, rfl, rfl, e4, e5, e6⟩ := hq
    refine z_iret ee_L_age_5 rfl (by omega) (by omega) ?_
    -- at 5
    exact ⟨R', I', z, by rw [zw_ol e1], Nat.le_refl _, rfl, e4, e5, e6⟩
theorem sp_L_read (hf : l.stackTraces = false) (hO : zz_Ob g K R I B v) (n : Int32)  (hE : ∀ E, (po_read v n).1 = .inr E → E = eN ∨ E = eU) : zz_S g l mm_L_read 1 6 [.ref B, .int n] (K, R, I, L, z) (zz_LQ g K R I L z B (zw (zf2 eN) (po_read v n)) (po_read v n).2) zz_no := by
  have hk := hO.1.1.1
  refine z_startW hf rfl (by decide +kernel) (Nat.le_of_ble_eq_true rfl) ?_
  dsimp only [zz_lv0]
  refine z_aload_n ee_L_read_0 rfl ?_
  refine z_iload_n ee_L_read_1 rfl ?_
  -- at 2
  refine z_callVh (As := [_]) ee_L_read_2 kk_L_read_60 (by assumption) rfl rfl (Nat.le_of_ble_eq_true rfl) (by omega) (sp_P_read hf hO n) (fun E h1 hx => ?_) (fun a h1 hq => ?_)
  · obtain ⟨R', I', z', e1, e2, rfl, e4, e5, e6⟩ := hx
    rcases hE E e1 with rfl | rfl
    · refine ⟨6, hd_L_read_0, fun q => ?_⟩
      refine z_astore_m ee_L_read_6 (j := 2) rfl (by decide) ?_
      refine z_sipush ee_L_read_7 (v := -1001) (by decide) ?_
      refine z_iret ee_L_read_10 rfl (by omega) (by omega) ?_
      -- at 10
      refine ⟨R', I', z', ?_, e2, rfl, e4, e5, e6⟩
      rw [zw_of e1]
      unfold zf2
      rw [if_pos rfl]
    · refine ⟨11, hd_L_read_1, fun q => ?_⟩
      refine z_astore_m ee_L_read_11 (j := 2) rfl (by decide) ?_
      refine z_sipush ee_L_read_12 (v := -1002) (by decide) ?_
      refine z_iret ee_L_read_15 rfl (by omega) (by omega) ?_
      -- at 15
      refine ⟨R', I', z', ?_, e2, rfl, e4, e5, e6⟩
      rw [zw_of e1]
      unfold zf2
      rw [if_neg (by decide +kernel)]
  · obtain ⟨n, R', I', e1, rfl, rfl, e4, e5, e6⟩ := hq
    refine z_iret ee_L_read_5 rfl (by omega) (by omega) ?_
    -- at 5
    exact ⟨R', I', z, by rw [zw_ol e1], Nat.le_refl _, rfl, e4, e5, e6⟩
theorem sp_L_telegramAt (hf : l.stackTraces = false) (hO : zz_Ob g K R I B v) (i : Int32)  (hE : ∀ E, (((if 0 ≤ i.toInt ∧ i.toInt < (sv_t (ov_s v)).length then .inl (tg_n (zz_tat (sv_t (ov_s v)) i.toInt.toNat)) else .inr eI, v) : zz_PR)).1 = .inr E → E = eI) : zz_S g l mm_L_telegramAt 1 6 [.ref B, .int i] (K, R, I, L, z) (zz_LQ g K R I L z B (zw zf1 (((if 0 ≤ i.toInt ∧ i.toInt < (sv_t (ov_s v)).length then .inl (tg_n (zz_tat (sv_t (ov_s v)) i.toInt.toNat)) else .inr eI, v) : zz_PR))) (((if 0 ≤ i.toInt ∧ i.toInt < (sv_t (ov_s v)).length then .inl (tg_n (zz_tat (sv_t (ov_s v)) i.toInt.toNat)) else .inr eI, v) : zz_PR)).2) zz_no := by
  have hk := hO.1.1.1
  refine z_startW hf rfl (by decide +kernel) (Nat.le_of_ble_eq_true rfl) ?_
  dsimp only [zz_lv0]
  refine z_aload_n ee_L_telegramAt_0 rfl ?_
  refine z_iload_n ee_L_telegramAt_1 rfl ?_
  -- at 2
  refine z_callVh (As := [_]) ee_L_telegramAt_2 kk_L_telegramAt_63 (by assumption) rfl rfl (Nat.le_of_ble_eq_true rfl) (by omega) (sp_P_telegramAt hf hO i) (fun E h1 hx => ?_) (fun a h1 hq => ?_)
  · obtain ⟨R', I', z', e1, e2, rfl, e4, e5, e6⟩ := hx
    rcases hE E e1 with rfl
    · refine ⟨6, hd_L_telegramAt_0, fun q => ?_⟩
      refine z_astore_m ee_L_telegramAt_6 (j := 2) rfl (by decide) ?_
      refine z_sipush ee_L_telegramAt_7 (v := -1001) (by decide) ?_
      refine z_iret ee_L_telegramAt_10 rfl (by omega) (by omega) ?_
      -- at 10
      refine ⟨R', I', z', ?_, e2, rfl, e4, e5, e6⟩
      rw [zw_of e1]
      rfl
  · obtain ⟨n, R', I', e1, rfl, rfl, e4, e5, e6⟩ := hq
    refine z_iret ee_L_telegramAt_5 rfl (by omega) (by omega) ?_
    -- at 5
    exact ⟨R', I', z, by rw [zw_ol e1], Nat.le_refl _, rfl, e4, e5, e6⟩
theorem sp_L_byPriority (hf : l.stackTraces = false) (hO : zz_Ob g K R I B v) (r : Int32)  (hE : ∀ E, (((if zz_fbr zz_ahp (sv_t (ov_s v)) r (sv_t (ov_s v)) = -1 then .inr eN else .inl (zz_fbr zz_ahp (sv_t (ov_s v)) r (sv_t (ov_s v))), v) : zz_PR)).1 = .inr E → E = eN) : zz_S g l mm_L_byPriority 1 6 [.ref B, .int r] (K, R, I, L, z) (zz_LQ g K R I L z B (zw zf1 (((if zz_fbr zz_ahp (sv_t (ov_s v)) r (sv_t (ov_s v)) = -1 then .inr eN else .inl (zz_fbr zz_ahp (sv_t (ov_s v)) r (sv_t (ov_s v))), v) : zz_PR))) (((if zz_fbr zz_ahp (sv_t (ov_s v)) r (sv_t (ov_s v)) = -1 then .inr eN else .inl (zz_fbr zz_ahp (sv_t (ov_s v)) r (sv_t (ov_s v))), v) : zz_PR)).2) zz_no := by
  have hk := hO.1.1.1
  refine z_startW hf rfl (by decide +kernel) (Nat.le_of_ble_eq_true rfl) ?_
  dsimp only [zz_lv0]
  refine z_aload_n ee_L_byPriority_0 rfl ?_
  refine z_iload_n ee_L_byPriority_1 rfl ?_
  -- at 2
  refine z_callVh (As := [_]) ee_L_byPriority_2 kk_L_byPriority_66 (by assumption) rfl rfl (Nat.le_of_ble_eq_true rfl) (by omega) (sp_P_telegramByPriority hf hO r) (fun E h1 hx => ?_) (fun a h1 hq => ?_)
  · obtain ⟨R', I', z', e1, e2, rfl, e4, e5, e6⟩ := hx
    rcases hE E e1 with rfl
    · refine ⟨6, hd_L_byPriority_0, fun q => ?_⟩
      refine z_astore_m ee_L_byPriority_6 (j := 2) rfl (by decide) ?_
      refine z_sipush ee_L_byPriority_7 (v := -1001) (by decide) ?_
      refine z_iret ee_L_byPriority_10 rfl (by omega) (by omega) ?_
      -- at 10
      refine ⟨R', I', z', ?_, e2, rfl, e4, e5, e6⟩
      rw [zw_of e1]
      rfl
  · obtain ⟨n, R', I', e1, rfl, rfl, e4, e5, e6⟩ := hq
    refine z_iret ee_L_byPriority_5 rfl (by omega) (by omega) ?_
    -- at 5
    exact ⟨R', I', z, by rw [zw_ol e1], Nat.le_refl _, rfl, e4, e5, e6⟩
theorem sp_L_byRot (hf : l.stackTraces = false) (hO : zz_Ob g K R I B v) (r : Int32)  (hE : ∀ E, (((if zz_fbr zz_ahr (sv_t (ov_s v)) r (sv_t (ov_s v)) = -1 then .inr eN else .inl (zz_fbr zz_ahr (sv_t (ov_s v)) r (sv_t (ov_s v))), v) : zz_PR)).1 = .inr E → E = eN) : zz_S g l mm_L_byRot 1 6 [.ref B, .int r] (K, R, I, L, z) (zz_LQ g K R I L z B (zw zf1 (((if zz_fbr zz_ahr (sv_t (ov_s v)) r (sv_t (ov_s v)) = -1 then .inr eN else .inl (zz_fbr zz_ahr (sv_t (ov_s v)) r (sv_t (ov_s v))), v) : zz_PR))) (((if zz_fbr zz_ahr (sv_t (ov_s v)) r (sv_t (ov_s v)) = -1 then .inr eN else .inl (zz_fbr zz_ahr (sv_t (ov_s v)) r (sv_t (ov_s v))), v) : zz_PR)).2) zz_no := by
  have hk := hO.1.1.1
  refine z_startW hf rfl (by decide +kernel) (Nat.le_of_ble_eq_true rfl) ?_
  dsimp only [zz_lv0]
  refine z_aload_n ee_L_byRot_0 rfl ?_
  refine z_iload_n ee_L_byRot_1 rfl ?_
  -- at 2
  refine z_callVh (As := [_]) ee_L_byRot_2 kk_L_byRot_69 (by assumption) rfl rfl (Nat.le_of_ble_eq_true rfl) (by omega) (sp_P_telegramByRot hf hO r) (fun E h1 hx => ?_) (fun a h1 hq => ?_)
  · obtain ⟨R', I', z', e1, e2, rfl, e4, e5, e6⟩ := hx
    rcases hE E e1 with rfl
    · refine ⟨6, hd_L_byRot_0, fun q => ?_⟩
      refine z_astore_m ee_L_byRot_6 (j := 2) rfl (by decide) ?_
      refine z_sipush ee_L_byRot_7 (v := -1001) (by decide) ?_
      refine z_iret ee_L_byRot_10 rfl (by omega) (by omega) ?_
      -- at 10
      refine ⟨R', I', z', ?_, e2, rfl, e4, e5, e6⟩
      rw [zw_of e1]
      rfl
  · obtain ⟨n, R', I', e1, rfl, rfl, e4, e5, e6⟩ := hq
    refine z_iret ee_L_byRot_5 rfl (by omega) (by omega) ?_
    -- at 5
    exact ⟨R', I', z, by rw [zw_ol e1], Nat.le_refl _, rfl, e4, e5, e6⟩
theorem sp_L_rootOf (hf : l.stackTraces = false) (hO : zz_Ob g K R I B v) (n : Int32)  (hE : ∀ E, (pq_tel v n (fun x => (.inl (tg_o x), v))).1 = .inr E → E = eN) : zz_S g l mm_L_rootOf 1 6 [.ref B, .int n] (K, R, I, L, z) (zz_LQ g K R I L z B (zw zf1 (pq_tel v n (fun x => (.inl (tg_o x), v)))) (pq_tel v n (fun x => (.inl (tg_o x), v))).2) zz_no := by
  have hk := hO.1.1.1
  refine z_startW hf rfl (by decide +kernel) (Nat.le_of_ble_eq_true rfl) ?_
  dsimp only [zz_lv0]
  refine z_aload_n ee_L_rootOf_0 rfl ?_
  refine z_iload_n ee_L_rootOf_1 rfl ?_
  -- at 2
  refine z_callVh (As := [_]) ee_L_rootOf_2 kk_L_rootOf_72 (by assumption) rfl rfl (Nat.le_of_ble_eq_true rfl) (by omega) (sp_P_rootOf hf hO n) (fun E h1 hx => ?_) (fun a h1 hq => ?_)
  · obtain ⟨R', I', z', e1, e2, rfl, e4, e5, e6⟩ := hx
    rcases hE E e1 with rfl
    · refine ⟨6, hd_L_rootOf_0, fun q => ?_⟩
      refine z_astore_m ee_L_rootOf_6 (j := 2) rfl (by decide) ?_
      refine z_sipush ee_L_rootOf_7 (v := -1001) (by decide) ?_
      refine z_iret ee_L_rootOf_10 rfl (by omega) (by omega) ?_
      -- at 10
      refine ⟨R', I', z', ?_, e2, rfl, e4, e5, e6⟩
      rw [zw_of e1]
      rfl
  · obtain ⟨n, R', I', e1, rfl, rfl, e4, e5, e6⟩ := hq
    refine z_iret ee_L_rootOf_5 rfl (by omega) (by omega) ?_
    -- at 5
    exact ⟨R', I', z, by rw [zw_ol e1], Nat.le_refl _, rfl, e4, e5, e6⟩
theorem sp_L_checksumOf (hf : l.stackTraces = false) (hO : zz_Ob g K R I B v) (n : Int32)  (hE : ∀ E, (pq_tel v n (fun x => (.inl (tg_k x), v))).1 = .inr E → E = eN) : zz_S g l mm_L_checksumOf 1 6 [.ref B, .int n] (K, R, I, L, z) (zz_LQ g K R I L z B (zw zf1 (pq_tel v n (fun x => (.inl (tg_k x), v)))) (pq_tel v n (fun x => (.inl (tg_k x), v))).2) zz_no := by
  have hk := hO.1.1.1
  refine z_startW hf rfl (by decide +kernel) (Nat.le_of_ble_eq_true rfl) ?_
  dsimp only [zz_lv0]
  refine z_aload_n ee_L_checksumOf_0 rfl ?_
  refine z_iload_n ee_L_checksumOf_1 rfl ?_
  -- at 2
  refine z_callVh (As := [_]) ee_L_checksumOf_2 kk_L_checksumOf_75 (by assumption) rfl rfl (Nat.le_of_ble_eq_true rfl) (by omega) (sp_P_checksumOf hf hO n) (fun E h1 hx => ?_) (fun a h1 hq => ?_)
  · obtain ⟨R', I', z', e1, e2, rfl, e4, e5, e6⟩ := hx
    rcases hE E e1 with rfl
    · refine ⟨6, hd_L_checksumOf_0, fun q => ?_⟩
      refine z_astore_m ee_L_checksumOf_6 (j := 2) rfl (by decide) ?_
      refine z_sipush ee_L_checksumOf_7 (v := -1001) (by decide) ?_
      refine z_iret ee_L_checksumOf_10 rfl (by omega) (by omega) ?_
      -- at 10
      refine ⟨R', I', z', ?_, e2, rfl, e4, e5, e6⟩
      rw [zw_of e1]
      rfl
  · obtain ⟨n, R', I', e1, rfl, rfl, e4, e5, e6⟩ := hq
    refine z_iret ee_L_checksumOf_5 rfl (by omega) (by omega) ?_
    -- at 5
    exact ⟨R', I', z, by rw [zw_ol e1], Nat.le_refl _, rfl, e4, e5, e6⟩
theorem sp_L_pageCount (hf : l.stackTraces = false) (hO : zz_Ob g K R I B v) (n : Int32)  (hE : ∀ E, (pq_tel v n (fun x => (.inl (nI (tg_p x)), v))).1 = .inr E → E = eN) : zz_S g l mm_L_pageCount 1 6 [.ref B, .int n] (K, R, I, L, z) (zz_LQ g K R I L z B (zw zf1 (pq_tel v n (fun x => (.inl (nI (tg_p x)), v)))) (pq_tel v n (fun x => (.inl (nI (tg_p x)), v))).2) zz_no := by
  have hk := hO.1.1.1
  refine z_startW hf rfl (by decide +kernel) (Nat.le_of_ble_eq_true rfl) ?_
  dsimp only [zz_lv0]
  refine z_aload_n ee_L_pageCount_0 rfl ?_
  refine z_iload_n ee_L_pageCount_1 rfl ?_
  -- at 2
  refine z_callVh (As := [_]) ee_L_pageCount_2 kk_L_pageCount_98 (by assumption) rfl rfl (Nat.le_of_ble_eq_true rfl) (by omega) (sp_P_pageCount hf hO n) (fun E h1 hx => ?_) (fun a h1 hq => ?_)
  · obtain ⟨R', I', z', e1, e2, rfl, e4, e5, e6⟩ := hx
    rcases hE E e1 with rfl
    · refine ⟨6, hd_L_pageCount_0, fun q => ?_⟩
      refine z_astore_m ee_L_pageCount_6 (j := 2) rfl (by decide) ?_
      refine z_sipush ee_L_pageCount_7 (v := -1001) (by decide) ?_
      refine z_iret ee_L_pageCount_10 rfl (by omega) (by omega) ?_
      -- at 10
      refine ⟨R', I', z', ?_, e2, rfl, e4, e5, e6⟩
      rw [zw_of e1]
      rfl
  · obtain ⟨n, R', I', e1, rfl, rfl, e4, e5, e6⟩ := hq
    refine z_iret ee_L_pageCount_5 rfl (by omega) (by omega) ?_
    -- at 5
    exact ⟨R', I', z, by rw [zw_ol e1], Nat.le_refl _, rfl, e4, e5, e6⟩
theorem sp_L_codeLength (hf : l.stackTraces = false) (hO : zz_Ob g K R I B v) (n : Int32)  (hE : ∀ E, (pq_tel v n (fun x => (.inl (nI (tg_c x).length), v))).1 = .inr E → E = eN) : zz_S g l mm_L_codeLength 1 6 [.ref B, .int n] (K, R, I, L, z) (zz_LQ g K R I L z B (zw zf1 (pq_tel v n (fun x => (.inl (nI (tg_c x).length), v)))) (pq_tel v n (fun x => (.inl (nI (tg_c x).length), v))).2) zz_no := by
  have hk := hO.1.1.1
  refine z_startW hf rfl (by decide +kernel) (Nat.le_of_ble_eq_true rfl) ?_
  dsimp only [zz_lv0]
  refine z_aload_n ee_L_codeLength_0 rfl ?_
  refine z_iload_n ee_L_codeLength_1 rfl ?_
  -- at 2
  refine z_callVh (As := [_]) ee_L_codeLength_2 kk_L_codeLength_78 (by assumption) rfl rfl (Nat.le_of_ble_eq_true rfl) (by omega) (sp_P_codeLength hf hO n) (fun E h1 hx => ?_) (fun a h1 hq => ?_)
  · obtain ⟨R', I', z', e1, e2, rfl, e4, e5, e6⟩ := hx
    rcases hE E e1 with rfl
    · refine ⟨6, hd_L_codeLength_0, fun q => ?_⟩
      refine z_astore_m ee_L_codeLength_6 (j := 2) rfl (by decide) ?_
      refine z_sipush ee_L_codeLength_7 (v := -1001) (by decide) ?_
      refine z_iret ee_L_codeLength_10 rfl (by omega) (by omega) ?_
      -- at 10
      refine ⟨R', I', z', ?_, e2, rfl, e4, e5, e6⟩
      rw [zw_of e1]
      rfl
  · obtain ⟨n, R', I', e1, rfl, rfl, e4, e5, e6⟩ := hq
    refine z_iret ee_L_codeLength_5 rfl (by omega) (by omega) ?_
    -- at 5
    exact ⟨R', I', z, by rw [zw_ol e1], Nat.le_refl _, rfl, e4, e5, e6⟩
theorem sp_L_codeChar (hf : l.stackTraces = false) (hO : zz_Ob g K R I B v) (n i : Int32)  (hE : ∀ E, (pq_tel v n (fun x => (if 0 ≤ i.toInt ∧ i.toInt < (tg_c x).length then .inl (zz_at0 (tg_c x) i) else .inr eI, v))).1 = .inr E → E = eN ∨ E = eI) : zz_S g l mm_L_codeChar 2 12 [.ref B, .int n, .int i] (K, R, I, L, z) (zz_LQ g K R I L z B (zw (zf2 eN) (pq_tel v n (fun x => (if 0 ≤ i.toInt ∧ i.toInt < (tg_c x).length then .inl (zz_at0 (tg_c x) i) else .inr eI, v)))) (pq_tel v n (fun x => (if 0 ≤ i.toInt ∧ i.toInt < (tg_c x).length then .inl (zz_at0 (tg_c x) i) else .inr eI, v))).2) zz_no := by
  have hk := hO.1.1.1
  refine z_startW hf rfl (by decide +kernel) (Nat.le_of_ble_eq_true rfl) ?_
  dsimp only [zz_lv0]
  refine z_aload_n ee_L_codeChar_0 rfl ?_
  refine z_iload_n ee_L_codeChar_1 rfl ?_
  refine z_iload_n ee_L_codeChar_2 rfl ?_
  -- at 3
  refine z_callVh (As := [_, _]) ee_L_codeChar_3 kk_L_codeChar_81 (by assumption) rfl rfl (Nat.le_of_ble_eq_true rfl) (by omega) (sp_P_codeCharacter hf hO n i) (fun E h1 hx => ?_) (fun a h1 hq => ?_)
  · obtain ⟨R', I', z', e1, e2, rfl, e4, e5, e6⟩ := hx
    rcases hE E e1 with rfl | rfl
    · refine ⟨7, hd_L_codeChar_0, fun q => ?_⟩
      refine z_astore_m ee_L_codeChar_7 (j := 3) rfl (by decide) ?_
      refine z_sipush ee_L_codeChar_8 (v := -1001) (by decide) ?_
      refine z_iret ee_L_codeChar_11 rfl (by omega) (by omega) ?_
      -- at 11
      refine ⟨R', I', z', ?_, e2, rfl, e4, e5, e6⟩
      rw [zw_of e1]
      unfold zf2
      rw [if_pos rfl]
    · refine ⟨12, hd_L_codeChar_1, fun q => ?_⟩
      refine z_astore_m ee_L_codeChar_12 (j := 3) rfl (by decide) ?_
      refine z_sipush ee_L_codeChar_13 (v := -1002) (by decide) ?_
      refine z_iret ee_L_codeChar_16 rfl (by omega) (by omega) ?_
      -- at 16
      refine ⟨R', I', z', ?_, e2, rfl, e4, e5, e6⟩
      rw [zw_of e1]
      unfold zf2
      rw [if_neg (by decide +kernel)]
  · obtain ⟨n, R', I', e1, rfl, rfl, e4, e5, e6⟩ := hq
    refine z_iret ee_L_codeChar_6 rfl (by omega) (by omega) ?_
    -- at 6
    exact ⟨R', I', z, by rw [zw_ol e1], Nat.le_refl _, rfl, e4, e5, e6⟩
theorem sp_L_rotOf (hf : l.stackTraces = false) (hO : zz_Ob g K R I B v) (n i : Int32)  (hE : ∀ E, (pq_tel v n (fun x => (if 0 ≤ i.toInt ∧ i.toInt < tg_p x then .inl (zz_rotj x i) else .inr eI, v))).1 = .inr E → E = eN ∨ E = eI) : zz_S g l mm_L_rotOf 2 12 [.ref B, .int n, .int i] (K, R, I, L, z) (zz_LQ g K R I L z B (zw (zf2 eN) (pq_tel v n (fun x => (if 0 ≤ i.toInt ∧ i.toInt < tg_p x then .inl (zz_rotj x i) else .inr eI, v)))) (pq_tel v n (fun x => (if 0 ≤ i.toInt ∧ i.toInt < tg_p x then .inl (zz_rotj x i) else .inr eI, v))).2) zz_no := by
  have hk := hO.1.1.1
  refine z_startW hf rfl (by decide +kernel) (Nat.le_of_ble_eq_true rfl) ?_
  dsimp only [zz_lv0]
  refine z_aload_n ee_L_rotOf_0 rfl ?_
  refine z_iload_n ee_L_rotOf_1 rfl ?_
  refine z_iload_n ee_L_rotOf_2 rfl ?_
  -- at 3
  refine z_callVh (As := [_, _]) ee_L_rotOf_3 kk_L_rotOf_101 (by assumption) rfl rfl (Nat.le_of_ble_eq_true rfl) (by omega) (sp_P_rotOf hf hO n i) (fun E h1 hx => ?_) (fun a h1 hq => ?_)
  · obtain ⟨R', I', z', e1, e2, rfl, e4, e5, e6⟩ := hx
    rcases hE E e1 with rfl | rfl
    · refine ⟨7, hd_L_rotOf_0, fun q => ?_⟩
      refine z_astore_m ee_L_rotOf_7 (j := 3) rfl (by decide) ?_
      refine z_sipush ee_L_rotOf_8 (v := -1001) (by decide) ?_
      refine z_iret ee_L_rotOf_11 rfl (by omega) (by omega) ?_
      -- at 11
      refine ⟨R', I', z', ?_, e2, rfl, e4, e5, e6⟩
      rw [zw_of e1]
      unfold zf2
      rw [if_pos rfl]
    · refine ⟨12, hd_L_rotOf_1, fun q => ?_⟩
      refine z_astore_m ee_L_rotOf_12 (j := 3) rfl (by decide) ?_
      refine z_sipush ee_L_rotOf_13 (v := -1002) (by decide) ?_
      refine z_iret ee_L_rotOf_16 rfl (by omega) (by omega) ?_
      -- at 16
      refine ⟨R', I', z', ?_, e2, rfl, e4, e5, e6⟩
      rw [zw_of e1]
      unfold zf2
      rw [if_neg (by decide +kernel)]
  · obtain ⟨n, R', I', e1, rfl, rfl, e4, e5, e6⟩ := hq
    refine z_iret ee_L_rotOf_6 rfl (by omega) (by omega) ?_
    -- at 6
    exact ⟨R', I', z, by rw [zw_ol e1], Nat.le_refl _, rfl, e4, e5, e6⟩
theorem sp_L_untilRotten (hf : l.stackTraces = false) (hO : zz_Ob g K R I B v) (n : Int32)  (hE : ∀ E, (pq_tel v n (fun x => (if zz_dur (ov_s v) x = -1 then .inr eN else .inl (zz_dur (ov_s v) x), v))).1 = .inr E → E = eN) : zz_S g l mm_L_untilRotten 2 12 [.ref B, .int n] (K, R, I, L, z) (zz_LQ g K R I L z B (zw zf1 (pq_tel v n (fun x => (if zz_dur (ov_s v) x = -1 then .inr eN else .inl (zz_dur (ov_s v) x), v)))) (pq_tel v n (fun x => (if zz_dur (ov_s v) x = -1 then .inr eN else .inl (zz_dur (ov_s v) x), v))).2) zz_no := by
  have hk := hO.1.1.1
  refine z_startW hf rfl (by decide +kernel) (Nat.le_of_ble_eq_true rfl) ?_
  dsimp only [zz_lv0]
  refine z_aload_n ee_L_untilRotten_0 rfl ?_
  refine z_iload_n ee_L_untilRotten_1 rfl ?_
  -- at 2
  refine z_callVh (As := [_]) ee_L_untilRotten_2 kk_L_untilRotten_104 (by assumption) rfl rfl (Nat.le_of_ble_eq_true rfl) (by omega) (sp_P_daysUntilRotten hf hO n) (fun E h1 hx => ?_) (fun a h1 hq => ?_)
  · obtain ⟨R', I', z', e1, e2, rfl, e4, e5, e6⟩ := hx
    rcases hE E e1 with rfl
    · refine ⟨6, hd_L_untilRotten_0, fun q => ?_⟩
      refine z_astore_m ee_L_untilRotten_6 (j := 2) rfl (by decide) ?_
      refine z_sipush ee_L_untilRotten_7 (v := -1001) (by decide) ?_
      refine z_iret ee_L_untilRotten_10 rfl (by omega) (by omega) ?_
      -- at 10
      refine ⟨R', I', z', ?_, e2, rfl, e4, e5, e6⟩
      rw [zw_of e1]
      rfl
  · obtain ⟨n, R', I', e1, rfl, rfl, e4, e5, e6⟩ := hq
    refine z_iret ee_L_untilRotten_5 rfl (by omega) (by omega) ?_
    -- at 5
    exact ⟨R', I', z, by rw [zw_ol e1], Nat.le_refl _, rfl, e4, e5, e6⟩
theorem sp_L_decodedLength (hf : l.stackTraces = false) (hO : zz_Ob g K R I B v) (n : Int32)  (hE : ∀ E, (pq_tel v n (fun x => (if zz_flt 0 false false (tg_c x) = -1 then .inl (nI (zz_dec x).length) else .inr eN, v))).1 = .inr E → E = eN) : zz_S g l mm_L_decodedLength 2 12 [.ref B, .int n] (K, R, I, L, z) (zz_LQ g K R I L z B (zw zf1 (pq_tel v n (fun x => (if zz_flt 0 false false (tg_c x) = -1 then .inl (nI (zz_dec x).length) else .inr eN, v)))) (pq_tel v n (fun x => (if zz_flt 0 false false (tg_c x) = -1 then .inl (nI (zz_dec x).length) else .inr eN, v))).2) zz_no := by
  have hk := hO.1.1.1
  refine z_startW hf rfl (by decide +kernel) (Nat.le_of_ble_eq_true rfl) ?_
  dsimp only [zz_lv0]
  refine z_aload_n ee_L_decodedLength_0 rfl ?_
  refine z_iload_n ee_L_decodedLength_1 rfl ?_
  -- at 2
  refine z_callVh (As := [_]) ee_L_decodedLength_2 kk_L_decodedLength_85 (by assumption) rfl rfl (Nat.le_of_ble_eq_true rfl) (by omega) (sp_P_decodedLength hf hO n) (fun E h1 hx => ?_) (fun a h1 hq => ?_)
  · obtain ⟨R', I', z', e1, e2, rfl, e4, e5, e6⟩ := hx
    rcases hE E e1 with rfl
    · refine ⟨6, hd_L_decodedLength_0, fun q => ?_⟩
      refine z_astore_m ee_L_decodedLength_6 (j := 2) rfl (by decide) ?_
      refine z_sipush ee_L_decodedLength_7 (v := -1001) (by decide) ?_
      refine z_iret ee_L_decodedLength_10 rfl (by omega) (by omega) ?_
      -- at 10
      refine ⟨R', I', z', ?_, e2, rfl, e4, e5, e6⟩
      rw [zw_of e1]
      rfl
  · obtain ⟨n, R', I', e1, rfl, rfl, e4, e5, e6⟩ := hq
    refine z_iret ee_L_decodedLength_5 rfl (by omega) (by omega) ?_
    -- at 5
    exact ⟨R', I', z, by rw [zw_ol e1], Nat.le_refl _, rfl, e4, e5, e6⟩
theorem sp_L_decodedByUnits (hf : l.stackTraces = false) (hO : zz_Ob g K R I B v) (n : Int32) (hn : zz_pos n 0 (sv_t (ov_s v)) = none)  (hE : ∀ E, (((.inr eN, v) : zz_PR)).1 = .inr E → E = eN) : zz_S g l mm_L_decodedByUnits 2 12 [.ref B, .int n] (K, R, I, L, z) (zz_LQ g K R I L z B (zw zf1 (((.inr eN, v) : zz_PR))) (((.inr eN, v) : zz_PR)).2) zz_no := by
  have hk := hO.1.1.1
  refine z_startW hf rfl (by decide +kernel) (Nat.le_of_ble_eq_true rfl) ?_
  dsimp only [zz_lv0]
  refine z_aload_n ee_L_decodedByUnits_0 rfl ?_
  refine z_iload_n ee_L_decodedByUnits_1 rfl ?_
  -- at 2
  refine z_callVh (As := [_]) ee_L_decodedByUnits_2 kk_L_decodedByUnits_88 (by assumption) rfl rfl (Nat.le_of_ble_eq_true rfl) (by omega) (sp_P_decodedLengthByUnits hf hO n hn) (fun E h1 hx => ?_) (fun a h1 hq => ?_)
  · obtain ⟨R', I', z', e1, e2, rfl, e4, e5, e6⟩ := hx
    rcases hE E e1 with rfl
    · refine ⟨6, hd_L_decodedByUnits_0, fun q => ?_⟩
      refine z_astore_m ee_L_decodedByUnits_6 (j := 2) rfl (by decide) ?_
      refine z_sipush ee_L_decodedByUnits_7 (v := -1001) (by decide) ?_
      refine z_iret ee_L_decodedByUnits_10 rfl (by omega) (by omega) ?_
      -- at 10
      refine ⟨R', I', z', ?_, e2, rfl, e4, e5, e6⟩
      rw [zw_of e1]
      rfl
  · obtain ⟨n, R', I', e1, rfl, rfl, e4, e5, e6⟩ := hq
    refine z_iret ee_L_decodedByUnits_5 rfl (by omega) (by omega) ?_
    -- at 5
    exact ⟨R', I', z, by rw [zw_ol e1], Nat.le_refl _, rfl, e4, e5, e6⟩
theorem sp_L_execute (hf : l.stackTraces = false) (hO : zz_Ob g K R I B v)  (hW : zz_Wd g K R I) (hE : ∀ E, (po_exec v).1 = .inr E → E = eA ∨ E = eU) : zz_S g l mm_L_execute 1 6 [.ref B] (K, R, I, L, z) (zz_LQ g K R I L z B (zw (zf2 eA) (po_exec v)) (po_exec v).2) zz_no := by
  have hk := hO.1.1.1
  refine z_startW hf rfl (by decide +kernel) (Nat.le_of_ble_eq_true rfl) ?_
  dsimp only [zz_lv0]
  refine z_aload_n ee_L_execute_0 rfl ?_
  -- at 1
  refine z_callVh (As := []) ee_L_execute_1 kk_L_execute_123 (by assumption) rfl rfl (Nat.le_of_ble_eq_true rfl) (by omega) (sp_P_execute hf hO hW) (fun E h1 hx => ?_) (fun a h1 hq => ?_)
  · obtain ⟨R', I', z', e1, e2, rfl, e4, e5, e6⟩ := hx
    rcases hE E e1 with rfl | rfl
    · refine ⟨5, hd_L_execute_0, fun q => ?_⟩
      refine z_astore_m ee_L_execute_5 (j := 1) rfl (by decide) ?_
      refine z_sipush ee_L_execute_6 (v := -1001) (by decide) ?_
      refine z_iret ee_L_execute_9 rfl (by omega) (by omega) ?_
      -- at 9
      refine ⟨R', I', z', ?_, e2, rfl, e4, e5, e6⟩
      rw [zw_of e1]
      unfold zf2
      rw [if_pos rfl]
    · refine ⟨10, hd_L_execute_1, fun q => ?_⟩
      refine z_astore_m ee_L_execute_10 (j := 1) rfl (by decide) ?_
      refine z_sipush ee_L_execute_11 (v := -1002) (by decide) ?_
      refine z_iret ee_L_execute_14 rfl (by omega) (by omega) ?_
      -- at 14
      refine ⟨R', I', z', ?_, e2, rfl, e4, e5, e6⟩
      rw [zw_of e1]
      unfold zf2
      rw [if_neg (by decide +kernel)]
  · obtain ⟨n, R', I', e1, rfl, rfl, e4, e5, e6⟩ := hq
    refine z_iret ee_L_execute_4 rfl (by omega) (by omega) ?_
    -- at 4
    exact ⟨R', I', z, by rw [zw_ol e1], Nat.le_refl _, rfl, e4, e5, e6⟩
theorem sp_L_faultPosition (hf : l.stackTraces = false) (hO : zz_Ob g K R I B v)   (hE : ∀ E, (((if ov_k v = -1 then .inr eN else .inl (ov_k v), v) : zz_PR)).1 = .inr E → E = eN) : zz_S g l mm_L_faultPosition 1 6 [.ref B] (K, R, I, L, z) (zz_LQ g K R I L z B (zw zf1 (((if ov_k v = -1 then .inr eN else .inl (ov_k v), v) : zz_PR))) (((if ov_k v = -1 then .inr eN else .inl (ov_k v), v) : zz_PR)).2) zz_no := by
  have hk := hO.1.1.1
  refine z_startW hf rfl (by decide +kernel) (Nat.le_of_ble_eq_true rfl) ?_
  dsimp only [zz_lv0]
  refine z_aload_n ee_L_faultPosition_0 rfl ?_
  -- at 1
  refine z_callVh (As := []) ee_L_faultPosition_1 kk_L_faultPosition_126 (by assumption) rfl rfl (Nat.le_of_ble_eq_true rfl) (by omega) (sp_P_faultPosition hf hO ) (fun E h1 hx => ?_) (fun a h1 hq => ?_)
  · obtain ⟨R', I', z', e1, e2, rfl, e4, e5, e6⟩ := hx
    rcases hE E e1 with rfl
    · refine ⟨5, hd_L_faultPosition_0, fun q => ?_⟩
      refine z_astore_m ee_L_faultPosition_5 (j := 1) rfl (by decide) ?_
      refine z_sipush ee_L_faultPosition_6 (v := -1001) (by decide) ?_
      refine z_iret ee_L_faultPosition_9 rfl (by omega) (by omega) ?_
      -- at 9
      refine ⟨R', I', z', ?_, e2, rfl, e4, e5, e6⟩
      rw [zw_of e1]
      rfl
  · obtain ⟨n, R', I', e1, rfl, rfl, e4, e5, e6⟩ := hq
    refine z_iret ee_L_faultPosition_4 rfl (by omega) (by omega) ?_
    -- at 4
    exact ⟨R', I', z, by rw [zw_ol e1], Nat.le_refl _, rfl, e4, e5, e6⟩
theorem sp_L_write (hf : l.stackTraces = false) (hO : zz_Ob g K R I B v) (n : Int32)  (hE : ∀ E, (pq_tel v n (fun x => (.inl (nI (zz_wto 432 x).length), ow_l v (zz_wto 432 x)))).1 = .inr E → E = eN) : zz_S g l mm_L_write 1 6 [.ref B, .int n] (K, R, I, L, z) (zz_LQ g K R I L z B (zw zf1 (pq_tel v n (fun x => (.inl (nI (zz_wto 432 x).length), ow_l v (zz_wto 432 x))))) (pq_tel v n (fun x => (.inl (nI (zz_wto 432 x).length), ow_l v (zz_wto 432 x)))).2) zz_no := by
  have hk := hO.1.1.1
  refine z_startW hf rfl (by decide +kernel) (Nat.le_of_ble_eq_true rfl) ?_
  dsimp only [zz_lv0]
  refine z_aload_n ee_L_write_0 rfl ?_
  refine z_iload_n ee_L_write_1 rfl ?_
  -- at 2
  refine z_callVh (As := [_]) ee_L_write_2 kk_L_write_129 (by assumption) rfl rfl (Nat.le_of_ble_eq_true rfl) (by omega) (sp_P_writeTelegram hf hO n) (fun E h1 hx => ?_) (fun a h1 hq => ?_)
  · obtain ⟨R', I', z', e1, e2, rfl, e4, e5, e6⟩ := hx
    rcases hE E e1 with rfl
    · refine ⟨6, hd_L_write_0, fun q => ?_⟩
      refine z_astore_m ee_L_write_6 (j := 2) rfl (by decide) ?_
      refine z_sipush ee_L_write_7 (v := -1001) (by decide) ?_
      refine z_iret ee_L_write_10 rfl (by omega) (by omega) ?_
      -- at 10
      refine ⟨R', I', z', ?_, e2, rfl, e4, e5, e6⟩
      rw [zw_of e1]
      rfl
  · obtain ⟨n, R', I', e1, rfl, rfl, e4, e5, e6⟩ := hq
    refine z_iret ee_L_write_5 rfl (by omega) (by omega) ?_
    -- at 5
    exact ⟨R', I', z, by rw [zw_ol e1], Nat.le_refl _, rfl, e4, e5, e6⟩
theorem sp_L_lineChar (hf : l.stackTraces = false) (hO : zz_Ob g K R I B v) (i : Int32)  (hE : ∀ E, (((if 0 ≤ i.toInt ∧ i.toInt < (ov_l v).length then .inl (zz_at0 (ov_l v) i) else .inr eI, v) : zz_PR)).1 = .inr E → E = eI) : zz_S g l mm_L_lineChar 1 6 [.ref B, .int i] (K, R, I, L, z) (zz_LQ g K R I L z B (zw zf1 (((if 0 ≤ i.toInt ∧ i.toInt < (ov_l v).length then .inl (zz_at0 (ov_l v) i) else .inr eI, v) : zz_PR))) (((if 0 ≤ i.toInt ∧ i.toInt < (ov_l v).length then .inl (zz_at0 (ov_l v) i) else .inr eI, v) : zz_PR)).2) zz_no := by
  have hk := hO.1.1.1
  refine z_startW hf rfl (by decide +kernel) (Nat.le_of_ble_eq_true rfl) ?_
  dsimp only [zz_lv0]
  refine z_aload_n ee_L_lineChar_0 rfl ?_
  refine z_iload_n ee_L_lineChar_1 rfl ?_
  -- at 2
  refine z_callVh (As := [_]) ee_L_lineChar_2 kk_L_lineChar_132 (by assumption) rfl rfl (Nat.le_of_ble_eq_true rfl) (by omega) (sp_P_lineCharacter hf hO i) (fun E h1 hx => ?_) (fun a h1 hq => ?_)
  · obtain ⟨R', I', z', e1, e2, rfl, e4, e5, e6⟩ := hx
    rcases hE E e1 with rfl
    · refine ⟨6, hd_L_lineChar_0, fun q => ?_⟩
      refine z_astore_m ee_L_lineChar_6 (j := 2) rfl (by decide) ?_
      refine z_sipush ee_L_lineChar_7 (v := -1001) (by decide) ?_
      refine z_iret ee_L_lineChar_10 rfl (by omega) (by omega) ?_
      -- at 10
      refine ⟨R', I', z', ?_, e2, rfl, e4, e5, e6⟩
      rw [zw_of e1]
      rfl
  · obtain ⟨n, R', I', e1, rfl, rfl, e4, e5, e6⟩ := hq
    refine z_iret ee_L_lineChar_5 rfl (by omega) (by omega) ?_
    -- at 5
    exact ⟨R', I', z, by rw [zw_ol e1], Nat.le_refl _, rfl, e4, e5, e6⟩
theorem sp_L_denial (hf : l.stackTraces = false) (hO : zz_Ob g K R I B v)   (hE : ∀ E, (((if (ov_d v).1 = -1 then .inr eN else .inl (ov_d v).1, v) : zz_PR)).1 = .inr E → E = eN) : zz_S g l mm_L_denial 1 6 [.ref B] (K, R, I, L, z) (zz_LQ g K R I L z B (zw zf1 (((if (ov_d v).1 = -1 then .inr eN else .inl (ov_d v).1, v) : zz_PR))) (((if (ov_d v).1 = -1 then .inr eN else .inl (ov_d v).1, v) : zz_PR)).2) zz_no := by
  have hk := hO.1.1.1
  refine z_startW hf rfl (by decide +kernel) (Nat.le_of_ble_eq_true rfl) ?_
  dsimp only [zz_lv0]
  refine z_aload_n ee_L_denial_0 rfl ?_
  -- at 1
  refine z_callVh (As := []) ee_L_denial_1 kk_L_denial_136 (by assumption) rfl rfl (Nat.le_of_ble_eq_true rfl) (by omega) (sp_P_denial hf hO ) (fun E h1 hx => ?_) (fun a h1 hq => ?_)
  · obtain ⟨R', I', z', e1, e2, rfl, e4, e5, e6⟩ := hx
    rcases hE E e1 with rfl
    · refine ⟨5, hd_L_denial_0, fun q => ?_⟩
      refine z_astore_m ee_L_denial_5 (j := 1) rfl (by decide) ?_
      refine z_sipush ee_L_denial_6 (v := -1001) (by decide) ?_
      refine z_iret ee_L_denial_9 rfl (by omega) (by omega) ?_
      -- at 9
      refine ⟨R', I', z', ?_, e2, rfl, e4, e5, e6⟩
      rw [zw_of e1]
      rfl
  · obtain ⟨n, R', I', e1, rfl, rfl, e4, e5, e6⟩ := hq
    refine z_iret ee_L_denial_4 rfl (by omega) (by omega) ?_
    -- at 4
    exact ⟨R', I', z, by rw [zw_ol e1], Nat.le_refl _, rfl, e4, e5, e6⟩
theorem sp_L_denialDetail (hf : l.stackTraces = false) (hO : zz_Ob g K R I B v)   (hE : ∀ E, (((if (ov_d v).1 = -1 then .inr eN else .inl (ov_d v).2.1, v) : zz_PR)).1 = .inr E → E = eN) : zz_S g l mm_L_denialDetail 1 6 [.ref B] (K, R, I, L, z) (zz_LQ g K R I L z B (zw zf1 (((if (ov_d v).1 = -1 then .inr eN else .inl (ov_d v).2.1, v) : zz_PR))) (((if (ov_d v).1 = -1 then .inr eN else .inl (ov_d v).2.1, v) : zz_PR)).2) zz_no := by
  have hk := hO.1.1.1
  refine z_startW hf rfl (by decide +kernel) (Nat.le_of_ble_eq_true rfl) ?_
  dsimp only [zz_lv0]
  refine z_aload_n ee_L_denialDetail_0 rfl ?_
  -- at 1
  refine z_callVh (As := []) ee_L_denialDetail_1 kk_L_denialDetail_139 (by assumption) rfl rfl (Nat.le_of_ble_eq_true rfl) (by omega) (sp_P_denialDetail hf hO ) (fun E h1 hx => ?_) (fun a h1 hq => ?_)
  · obtain ⟨R', I', z', e1, e2, rfl, e4, e5, e6⟩ := hx
    rcases hE E e1 with rfl
    · refine ⟨5, hd_L_denialDetail_0, fun q => ?_⟩
      refine z_astore_m ee_L_denialDetail_5 (j := 1) rfl (by decide) ?_
      refine z_sipush ee_L_denialDetail_6 (v := -1001) (by decide) ?_
      refine z_iret ee_L_denialDetail_9 rfl (by omega) (by omega) ?_
      -- at 9
      refine ⟨R', I', z', ?_, e2, rfl, e4, e5, e6⟩
      rw [zw_of e1]
      rfl
  · obtain ⟨n, R', I', e1, rfl, rfl, e4, e5, e6⟩ := hq
    refine z_iret ee_L_denialDetail_4 rfl (by omega) (by omega) ?_
    -- at 4
    exact ⟨R', I', z, by rw [zw_ol e1], Nat.le_refl _, rfl, e4, e5, e6⟩
theorem sp_L_denialCause (hf : l.stackTraces = false) (hO : zz_Ob g K R I B v)   (hE : ∀ E, (((if (ov_d v).2.2 = -1 then .inr eN else .inl (ov_d v).2.2, v) : zz_PR)).1 = .inr E → E = eN) : zz_S g l mm_L_denialCause 1 6 [.ref B] (K, R, I, L, z) (zz_LQ g K R I L z B (zw zf1 (((if (ov_d v).2.2 = -1 then .inr eN else .inl (ov_d v).2.2, v) : zz_PR))) (((if (ov_d v).2.2 = -1 then .inr eN else .inl (ov_d v).2.2, v) : zz_PR)).2) zz_no := by
  have hk := hO.1.1.1
  refine z_startW hf rfl (by decide +kernel) (Nat.le_of_ble_eq_true rfl) ?_
  dsimp only [zz_lv0]
  refine z_aload_n ee_L_denialCause_0 rfl ?_
  -- at 1
  refine z_callVh (As := []) ee_L_denialCause_1 kk_L_denialCause_142 (by assumption) rfl rfl (Nat.le_of_ble_eq_true rfl) (by omega) (sp_P_denialCause hf hO ) (fun E h1 hx => ?_) (fun a h1 hq => ?_)
  · obtain ⟨R', I', z', e1, e2, rfl, e4, e5, e6⟩ := hx
    rcases hE E e1 with rfl
    · refine ⟨5, hd_L_denialCause_0, fun q => ?_⟩
      refine z_astore_m ee_L_denialCause_5 (j := 1) rfl (by decide) ?_
      refine z_sipush ee_L_denialCause_6 (v := -1001) (by decide) ?_
      refine z_iret ee_L_denialCause_9 rfl (by omega) (by omega) ?_
      -- at 9
      refine ⟨R', I', z', ?_, e2, rfl, e4, e5, e6⟩
      rw [zw_of e1]
      rfl
  · obtain ⟨n, R', I', e1, rfl, rfl, e4, e5, e6⟩ := hq
    refine z_iret ee_L_denialCause_4 rfl (by omega) (by omega) ?_
    -- at 4
    exact ⟨R', I', z, by rw [zw_ol e1], Nat.le_refl _, rfl, e4, e5, e6⟩
theorem sp_L_undo (hf : l.stackTraces = false) (hO : zz_Ob g K R I B v)   (hE : ∀ E, (po_undo v).1 = .inr E → E = eS) : zz_S g l mm_L_undo 1 6 [.ref B] (K, R, I, L, z) (zz_LQ g K R I L z B (zw zf1 (po_undo v)) (po_undo v).2) zz_no := by
  have hk := hO.1.1.1
  refine z_startW hf rfl (by decide +kernel) (Nat.le_of_ble_eq_true rfl) ?_
  dsimp only [zz_lv0]
  refine z_aload_n ee_L_undo_0 rfl ?_
  -- at 1
  refine z_callVh (As := []) ee_L_undo_1 kk_L_undo_145 (by assumption) rfl rfl (Nat.le_of_ble_eq_true rfl) (by omega) (sp_P_undo hf hO ) (fun E h1 hx => ?_) (fun a h1 hq => ?_)
  · obtain ⟨R', I', z', e1, e2, rfl, e4, e5, e6⟩ := hx
    rcases hE E e1 with rfl
    · refine ⟨5, hd_L_undo_0, fun q => ?_⟩
      refine z_astore_m ee_L_undo_5 (j := 1) rfl (by decide) ?_
      refine z_sipush ee_L_undo_6 (v := -1001) (by decide) ?_
      refine z_iret ee_L_undo_9 rfl (by omega) (by omega) ?_
      -- at 9
      refine ⟨R', I', z', ?_, e2, rfl, e4, e5, e6⟩
      rw [zw_of e1]
      rfl
  · obtain ⟨n, R', I', e1, rfl, rfl, e4, e5, e6⟩ := hq
    refine z_iret ee_L_undo_4 rfl (by omega) (by omega) ?_
    -- at 4
    exact ⟨R', I', z, by rw [zw_ol e1], Nat.le_refl _, rfl, e4, e5, e6⟩
theorem sp_L_restore (hf : l.stackTraces = false) (hO : zz_Ob g K R I B v)   (hE : ∀ E, (po_restore v).1 = .inr E → E = eS) : zz_S g l mm_L_restore 1 6 [.ref B] (K, R, I, L, z) (zz_LQ g K R I L z B (zw zf1 (po_restore v)) (po_restore v).2) zz_no := by
  have hk := hO.1.1.1
  refine z_startW hf rfl (by decide +kernel) (Nat.le_of_ble_eq_true rfl) ?_
  dsimp only [zz_lv0]
  refine z_aload_n ee_L_restore_0 rfl ?_
  -- at 1
  refine z_callVh (As := []) ee_L_restore_1 kk_L_restore_148 (by assumption) rfl rfl (Nat.le_of_ble_eq_true rfl) (by omega) (sp_P_restoreSnapshot hf hO ) (fun E h1 hx => ?_) (fun a h1 hq => ?_)
  · obtain ⟨R', I', z', e1, e2, rfl, e4, e5, e6⟩ := hx
    rcases hE E e1 with rfl
    · refine ⟨5, hd_L_restore_0, fun q => ?_⟩
      refine z_astore_m ee_L_restore_5 (j := 1) rfl (by decide) ?_
      refine z_sipush ee_L_restore_6 (v := -1001) (by decide) ?_
      refine z_iret ee_L_restore_9 rfl (by omega) (by omega) ?_
      -- at 9
      refine ⟨R', I', z', ?_, e2, rfl, e4, e5, e6⟩
      rw [zw_of e1]
      rfl
  · obtain ⟨n, R', I', e1, rfl, rfl, e4, e5, e6⟩ := hq
    refine z_iret ee_L_restore_4 rfl (by omega) (by omega) ?_
    -- at 4
    exact ⟨R', I', z, by rw [zw_ol e1], Nat.le_refl _, rfl, e4, e5, e6⟩
theorem sp_L_isReadable (hf : l.stackTraces = false) (hO : zz_Ob g K R I B v) (n : Int32)  (hE : ∀ E, (pq_tel v n (fun x => (.inl (zz_tf (0 ≤ zz_oc (zz_uir x))), v))).1 = .inr E → E = eN) : zz_S g l mm_L_isReadable 1 6 [.ref B, .int n] (K, R, I, L, z) (zz_LQ g K R I L z B (zw zf1 (pq_tel v n (fun x => (.inl (zz_tf (0 ≤ zz_oc (zz_uir x))), v)))) (pq_tel v n (fun x => (.inl (zz_tf (0 ≤ zz_oc (zz_uir x))), v))).2) zz_no := by
  have hk := hO.1.1.1
  refine z_startW hf rfl (by decide +kernel) (Nat.le_of_ble_eq_true rfl) ?_
  dsimp only [zz_lv0]
  refine z_aload_n ee_L_isReadable_0 rfl ?_
  refine z_iload_n ee_L_isReadable_1 rfl ?_
  -- at 2
  refine z_callVh (As := [_]) ee_L_isReadable_2 kk_L_isReadable_91 (by assumption) rfl rfl (Nat.le_of_ble_eq_true rfl) (by omega) (sp_P_isReadable hf hO n) (fun E h1 hx => ?_) (fun a h1 hq => ?_)
  · obtain ⟨R', I', z', e1, e2, rfl, e4, e5, e6⟩ := hx
    rcases hE E e1 with rfl
    · refine ⟨14, hd_L_isReadable_0, fun q => ?_⟩
      refine z_astore_m ee_L_isReadable_14 (j := 2) rfl (by decide) ?_
      refine z_sipush ee_L_isReadable_15 (v := -1001) (by decide) ?_
      refine z_iret ee_L_isReadable_18 rfl (by omega) (by omega) ?_
      -- at 18
      refine ⟨R', I', z', ?_, e2, rfl, e4, e5, e6⟩
      rw [zw_of e1]
      rfl
  · obtain ⟨n, R', I', e1, rfl, rfl, e4, e5, e6⟩ := hq
    have hn := zw_rd e1
    refine z_if_eq ee_L_isReadable_5 (tgt := 12) (by decide) (fun c_5 => ?_) (fun c_5 => ?_)
    -- at 5
    · have c_6 : n = nI 0 := c_5
      refine z_iconst ee_L_isReadable_12 (v := nI 0) (by decide) ?_
      refine z_iret ee_L_isReadable_13 rfl (by omega) (by omega) ?_
      -- at 13
      exact ⟨R', I', z, by rw [zw_ol e1, c_6], Nat.le_refl _, rfl, e4, e5, e6⟩
    · refine z_iconst ee_L_isReadable_8 (v := nI 1) (by decide) ?_
      refine z_goto ee_L_isReadable_9 (tgt := 13) (by decide) ?_
      refine z_iret ee_L_isReadable_13 rfl (by omega) (by omega) ?_
      -- at 13
      exact ⟨R', I', z, by rw [zw_ol e1, hn.resolve_left c_5], Nat.le_refl _, rfl, e4, e5, e6⟩
end Wrap
