/-! THE OBJECT: texts, snapshots, undo -/
def po_type (v : zz_OV) (c : Int32) : zz_PR := if ¬ zz_typ c then (.inr eA, v) else if 40 ≤ (ov_m v).length then (.inr eS, v) else (.inl (nI ((ov_m v).length + 1)), ow_m v (ov_m v ++ [c]))
def po_feed (v : zz_OV) (c : Int32) : zz_PR := if 60 ≤ (ov_b v).length then (.inr eS, v) else (.inl (nI ((ov_b v).length + 1)), ow_b v (ov_b v ++ [c]))
def po_undo (v : zz_OV) : zz_PR :=
  match (ov_h v).getLast? with
  | none => (.inr eS, v)
  | some w => (.inl (nI (ov_h v).dropLast.length), ow_h (ow_s v w) (ov_h v).dropLast)
def po_restore (v : zz_OV) : zz_PR := if ov_f v = true then (.inl (nI (sv_t (ov_p v)).length), ow_h (ow_s v (ov_p v)) []) else (.inr eS, v)
def po_read (v : zz_OV) (n : Int32) : zz_PR :=
  match rs_e (zv_read (ov_s v) n).1 with
  | some E => (.inr E, rs_d v (zv_read (ov_s v) n).1)
  | none => pq_tel v n (fun x => (.inl (nI ((zz_dec x).take 432).length), ow_l v ((zz_dec x).take 432)))
section Obj3
variable {g : zz_G} {l : Launch} {K : Nat → Nat × Nat} {R R1 : Nat → Nat → Option Nat} {I I1 : Nat → Nat → Int32} {L : Nat → Nat → Int64} {z : Nat} {B f : Nat} {v : zz_OV} {w : zz_SV} {h : zz_H} {σ : Nat → Nat}
/-- the carver's texts and detail change -/
theorem zz_px.cv {I' : Nat → Nat → Int32} (h : zz_px g K R I B f v) (hI : zz_fr (B + 7) (B + 7 + 136) I I') (hk : zz_kt (B + 7 + 1) (B + 7 + 132) I I') : zz_px g K R I' B f v := h.st zz_fq.rf hI (h.2.1.in zz_kt.rf hk)
theorem sp_P_type (hf : l.stackTraces = false) (hO : zz_Ob g K R I B v) (c : Int32) (hc : zz_ch c) : zz_S g l mm_P_type 1 6 [.ref B, .int c] (K, R, I, L, z) (zz_PQ g K R I L z B (po_type v c)) (zz_PX g K R I L z B (po_type v c)) := by
  have hO' := hO
  obtain ⟨hP, f, hp⟩ := hO
  have hP' := hP
  obtain ⟨⟨k1, k2, k3, k4, k5, k6, k7, k8, k9, k10, k11⟩, ⟨t1, t2, t3⟩, hV, hH, hC, hD, hS9⟩ := hP
  have hV' := hV
  obtain ⟨v1, v2, v3, v4, v5, v6, v7⟩ := hV
  have hH0 := hH.1.1
  have hC0 := hC.1
  have hD0 := hD.1
  have t10 := t1.1
  have t20 := t2.1
  have t30 := t3.1
  have v50 := v5.1
  have v60 := v6.1
  obtain ⟨σ, hS, hv⟩ := hp.2.1
  have hk := hS.1.1
  refine z_start hf rfl (by decide +kernel) (Nat.le_of_ble_eq_true rfl) ?_
  dsimp only [zz_lv0]
  have hl := hp.1.1.2.1
  unfold po_type
  refine z_iload_n ee_P_type_0 rfl ?_
  -- at 1
  refine z_callS (As := [_]) ee_P_type_1 kk_P_type_71 rfl rfl (Nat.le_of_ble_eq_true rfl) (by omega) (sp_P_isTypeable hf c) (fun E h1 hx => hx.elim) (fun v h1 hq => ?_)
  obtain ⟨rfl, rfl⟩ := hq
  refine z_if_ne ee_P_type_4 (tgt := 15) (by decide) (fun c_4 => ?_) (fun c_4 => ?_)
  -- at 4
  · rw [zz_tf_n0] at c_4
    rw [if_neg (fun q => q c_4)]
    refine z_aload_n ee_P_type_15 rfl ?_
    refine z_getR ee_P_type_16 ff_P_type_14 (by assumption) il_0_0 (by assumption) ?_
    -- at 19
    refine z_callV (As := []) ee_P_type_19 kk_P_type_78 rfl (by assumption) rfl rfl (Nat.le_of_ble_eq_true rfl) (by omega) (sp_T_isFull hf t1 hp.1.1) (fun E h1 hx => hx.elim) (fun v h1 hq => ?_)
    obtain ⟨rfl, rfl⟩ := hq
    refine z_if_eq ee_P_type_22 (tgt := 33) (by decide) (fun c_22 => ?_) (fun c_22 => ?_)
    -- at 22
    · rw [zz_tf_0] at c_22
      rw [if_neg c_22]
      refine z_aload_n ee_P_type_33 rfl ?_
      refine z_getR ee_P_type_34 ff_P_type_14 (by assumption) il_0_0 (by assumption) ?_
      refine z_iload_n ee_P_type_37 rfl ?_
      -- at 38
      refine z_callV (As := [_]) ee_P_type_38 kk_P_type_85 rfl (by assumption) rfl rfl (Nat.le_of_ble_eq_true rfl) (by omega) (sp_T_add hf t1 hp.1.1 c hc) (fun E h1 hx => hx.elim) (fun v h1 hq => ?_)
      obtain ⟨I2, rfl, rfl, hx2, hfr2⟩ := hq
      rw [show zz_add 40 (ov_m v) c = ov_m v ++ [c] from if_pos (by omega)] at hx2
      refine z_aload_n ee_P_type_41 rfl ?_
      refine z_getR ee_P_type_42 ff_P_type_14 (by assumption) il_0_0 (by assumption) ?_
      refine z_getI ee_P_type_45 ff_P_type_89 (by assumption) il_7_1 ?_
      refine z_iret ee_P_type_48 rfl (by omega) (by omega) ?_
      -- at 48
      rw [hx2.1, List.length_append, List.length_singleton]
      exact ⟨_, R, I2, rfl, rfl, rfl, ⟨hP', f, hp.msg hfr2 hx2⟩, zz_fq.rf, hfr2.wid (by omega) (by omega)⟩
    · rw [zz_tf_n0] at c_22
      rw [if_pos c_22]
      refine z_throw tt_P_type_25 rfl (Nat.le_of_ble_eq_true rfl) (by omega) (by omega) (fun z1 hz1 => ?_)
      -- at 25
      exact zz_PX.same hO' hz1
  · rw [zz_tf_0] at c_4
    rw [if_pos c_4]
    refine z_throw tt_P_type_7 rfl (Nat.le_of_ble_eq_true rfl) (by omega) (by omega) (fun z1 hz1 => ?_)
    -- at 7
    exact zz_PX.same hO' hz1
theorem sp_P_feed (hf : l.stackTraces = false) (hO : zz_Ob g K R I B v) (c : Int32) (hc : zz_ch c) : zz_S g l mm_P_feed 1 6 [.ref B, .int c] (K, R, I, L, z) (zz_PQ g K R I L z B (po_feed v c)) (zz_PX g K R I L z B (po_feed v c)) := by
  have hO' := hO
  obtain ⟨hP, f, hp⟩ := hO
  have hP' := hP
  obtain ⟨⟨k1, k2, k3, k4, k5, k6, k7, k8, k9, k10, k11⟩, ⟨t1, t2, t3⟩, hV, hH, hC, hD, hS9⟩ := hP
  have hV' := hV
  obtain ⟨v1, v2, v3, v4, v5, v6, v7⟩ := hV
  have hH0 := hH.1.1
  have hC0 := hC.1
  have hD0 := hD.1
  have t10 := t1.1
  have t20 := t2.1
  have t30 := t3.1
  have v50 := v5.1
  have v60 := v6.1
  obtain ⟨σ, hS, hv⟩ := hp.2.1
  have hk := hS.1.1
  refine z_start hf rfl (by decide +kernel) (Nat.le_of_ble_eq_true rfl) ?_
  dsimp only [zz_lv0]
  have hl := hp.1.2.1.2.1
  unfold po_feed
  refine z_aload_n ee_P_feed_0 rfl ?_
  refine z_getR ee_P_feed_1 ff_P_feed_18 (by assumption) il_0_1 (by assumption) ?_
  -- at 4
  refine z_callV (As := []) ee_P_feed_4 kk_P_feed_78 rfl (by assumption) rfl rfl (Nat.le_of_ble_eq_true rfl) (by omega) (sp_T_isFull hf t2 hp.1.2.1) (fun E h1 hx => hx.elim) (fun v h1 hq => ?_)
  obtain ⟨rfl, rfl⟩ := hq
  refine z_if_eq ee_P_feed_7 (tgt := 18) (by decide) (fun c_7 => ?_) (fun c_7 => ?_)
  -- at 7
  · rw [zz_tf_0] at c_7
    rw [if_neg c_7]
    refine z_aload_n ee_P_feed_18 rfl ?_
    refine z_getR ee_P_feed_19 ff_P_feed_18 (by assumption) il_0_1 (by assumption) ?_
    refine z_iload_n ee_P_feed_22 rfl ?_
    -- at 23
    refine z_callV (As := [_]) ee_P_feed_23 kk_P_feed_85 rfl (by assumption) rfl rfl (Nat.le_of_ble_eq_true rfl) (by omega) (sp_T_add hf t2 hp.1.2.1 c hc) (fun E h1 hx => hx.elim) (fun v h1 hq => ?_)
    obtain ⟨I2, rfl, rfl, hx2, hfr2⟩ := hq
    rw [show zz_add 60 (ov_b v) c = ov_b v ++ [c] from if_pos (by omega)] at hx2
    refine z_aload_n ee_P_feed_26 rfl ?_
    refine z_getR ee_P_feed_27 ff_P_feed_18 (by assumption) il_0_1 (by assumption) ?_
    refine z_getI ee_P_feed_30 ff_P_feed_89 (by assumption) il_7_1 ?_
    refine z_iret ee_P_feed_33 rfl (by omega) (by omega) ?_
    -- at 33
    rw [hx2.1, List.length_append, List.length_singleton]
    exact ⟨_, R, I2, rfl, rfl, rfl, ⟨hP', f, hp.buf hfr2 hx2⟩, zz_fq.rf, hfr2.wid (by omega) (by omega)⟩
  · rw [zz_tf_n0] at c_7
    rw [if_pos c_7]
    refine z_throw tt_P_feed_10 rfl (Nat.le_of_ble_eq_true rfl) (by omega) (by omega) (fun z1 hz1 => ?_)
    -- at 10
    exact zz_PX.same hO' hz1
theorem sp_P_clearMessage (hf : l.stackTraces = false) (hO : zz_Ob g K R I B v) : zz_S g l mm_P_clearMessage 0 0 [.ref B] (K, R, I, L, z) (zz_PQ g K R I L z B ((.inl (nI (ov_m v).length), ow_m v []))) (zz_PX g K R I L z B ((.inl (nI (ov_m v).length), ow_m v []))) := by
  have hO' := hO
  obtain ⟨hP, f, hp⟩ := hO
  have hP' := hP
  obtain ⟨⟨k1, k2, k3, k4, k5, k6, k7, k8, k9, k10, k11⟩, ⟨t1, t2, t3⟩, hV, hH, hC, hD, hS9⟩ := hP
  have hV' := hV
  obtain ⟨v1, v2, v3, v4, v5, v6, v7⟩ := hV
  have hH0 := hH.1.1
  have hC0 := hC.1
  have hD0 := hD.1
  have t10 := t1.1
  have t20 := t2.1
  have t30 := t3.1
  have v50 := v5.1
  have v60 := v6.1
  obtain ⟨σ, hS, hv⟩ := hp.2.1
  have hk := hS.1.1
  refine z_start hf rfl (by decide +kernel) (Nat.le_of_ble_eq_true rfl) ?_
  dsimp only [zz_lv0]
  refine z_aload_n ee_P_clearMessage_0 rfl ?_
  refine z_getR ee_P_clearMessage_1 ff_P_clearMessage_14 (by assumption) il_0_0 (by assumption) ?_
  refine z_getI ee_P_clearMessage_4 ff_P_clearMessage_89 (by assumption) il_7_1 ?_
  refine z_istore_m ee_P_clearMessage_7 (j := 1) rfl (by decide) ?_
  refine z_aload_n ee_P_clearMessage_8 rfl ?_
  refine z_getR ee_P_clearMessage_9 ff_P_clearMessage_14 (by assumption) il_0_0 (by assumption) ?_
  -- at 12
  rw [hp.1.1.1]
  refine z_callV (As := []) ee_P_clearMessage_12 kk_P_clearMessage_92 rfl (by assumption) rfl rfl (Nat.le_of_ble_eq_true rfl) (by omega) (sp_T_clear hf t1) (fun E h1 hx => hx.elim) (fun v h1 hq => ?_)
  obtain ⟨I2, rfl, rfl, hx2, hfr2⟩ := hq
  refine z_iload_n ee_P_clearMessage_15 rfl ?_
  refine z_iret ee_P_clearMessage_16 rfl (by omega) (by omega) ?_
  -- at 16
  exact ⟨_, R, I2, rfl, rfl, rfl, ⟨hP', f, hp.msg hfr2 hx2⟩, zz_fq.rf, hfr2.wid (by omega) (by omega)⟩
theorem sp_P_encodedLength (hf : l.stackTraces = false) (hO : zz_Ob g K R I B v) : zz_S g l mm_P_encodedLength 0 0 [.ref B] (K, R, I, L, z) (zz_PQ g K R I L z B ((.inl (nI (zz_fold 864 0 (ov_m v) []).length), v))) (zz_PX g K R I L z B ((.inl (nI (zz_fold 864 0 (ov_m v) []).length), v))) := by
  have hO' := hO
  obtain ⟨hP, f, hp⟩ := hO
  have hP' := hP
  obtain ⟨⟨k1, k2, k3, k4, k5, k6, k7, k8, k9, k10, k11⟩, ⟨t1, t2, t3⟩, hV, hH, hC, hD, hS9⟩ := hP
  have hV' := hV
  obtain ⟨v1, v2, v3, v4, v5, v6, v7⟩ := hV
  have hH0 := hH.1.1
  have hC0 := hC.1
  have hD0 := hD.1
  have t10 := t1.1
  have t20 := t2.1
  have t30 := t3.1
  have v50 := v5.1
  have v60 := v6.1
  obtain ⟨σ, hS, hv⟩ := hp.2.1
  have hk := hS.1.1
  refine z_start hf rfl (by decide +kernel) (Nat.le_of_ble_eq_true rfl) ?_
  dsimp only [zz_lv0]
  refine z_aload_n ee_P_encodedLength_0 rfl ?_
  refine z_getR ee_P_encodedLength_1 ff_P_encodedLength_14 (by assumption) il_0_0 (by assumption) ?_
  refine z_aload_n ee_P_encodedLength_4 rfl ?_
  refine z_getR ee_P_encodedLength_5 ff_P_encodedLength_27 (by assumption) il_0_3 (by assumption) ?_
  refine z_getR ee_P_encodedLength_8 ff_P_encodedLength_95 (by assumption) il_1_2 (by assumption) ?_
  -- at 11
  refine z_callS (As := [_, _]) ee_P_encodedLength_11 kk_P_encodedLength_98 rfl rfl (Nat.le_of_ble_eq_true rfl) (by omega) (sp_O_fold hf t1 v6 (by omega) hp.1.1) (fun E h1 hx => hx.elim) (fun v h1 hq => ?_)
  obtain ⟨I2, rfl, rfl, hx2, hfr2⟩ := hq
  refine z_aload_n ee_P_encodedLength_14 rfl ?_
  refine z_getR ee_P_encodedLength_15 ff_P_encodedLength_27 (by assumption) il_0_3 (by assumption) ?_
  refine z_getR ee_P_encodedLength_18 ff_P_encodedLength_95 (by assumption) il_1_2 (by assumption) ?_
  refine z_getI ee_P_encodedLength_21 ff_P_encodedLength_89 (by assumption) il_7_1 ?_
  refine z_iret ee_P_encodedLength_24 rfl (by omega) (by omega) ?_
  -- at 24
  rw [hx2.1]
  exact ⟨_, R, I2, rfl, rfl, rfl, ⟨hP', f, hp.cv (hfr2.wid (by omega) (by omega)) (hfr2.in (by omega))⟩, zz_fq.rf, hfr2.wid (by omega) (by omega)⟩
theorem sp_P_requireValidCode (hf : l.stackTraces = false) (hP : zz_Px g K R B) (hS : zz_Sx g K R (B + 7 + 1) σ) (hv : zz_sx I σ (B + 7 + 1) w) (n : Int32) : zz_S g l mm_P_requireValidCode 2 12 [.ref B, .int n] (K, R, I, L, z) (fun a h' => h' = (K, R, I, L, z) ∧ ∃ p x, zz_pos n 0 (sv_t w) = some p ∧ (sv_t w)[p]? = some x ∧ a = some (.ref (B + 7 + 1 + 3 + 4 * σ p + 1)) ∧ zz_Gx g K R (B + 7 + 1 + 3 + 4 * σ p) ∧ zz_gx I (B + 7 + 1 + 3 + 4 * σ p) x ∧ σ p < 32 ∧ zz_flt 0 false false (tg_c x) = -1) (fun E h' => ∃ z', E = eN ∧ (zz_pos n 0 (sv_t w) = none ∨ ∃ p x, zz_pos n 0 (sv_t w) = some p ∧ (sv_t w)[p]? = some x ∧ ¬ zz_flt 0 false false (tg_c x) = -1) ∧ z ≤ z' ∧ h' = (K, R, I, L, z')) := by
  have k1 := hP.1.1
  refine z_start hf rfl (by decide +kernel) (Nat.le_of_ble_eq_true rfl) ?_
  dsimp only [zz_lv0]
  refine z_aload_n ee_P_requireValidCode_0 rfl ?_
  refine z_iload_n ee_P_requireValidCode_1 rfl ?_
  -- at 2
  refine z_callV (As := [_]) ee_P_requireValidCode_2 kk_P_requireValidCode_205 rfl (by assumption) rfl rfl (Nat.le_of_ble_eq_true rfl) (by omega) (sp_P_requireTelegram hf hP hS hv n) (fun E h1 hx => (by obtain ⟨z', rfl, h2, h3, rfl⟩ := hx; exact ⟨z', rfl, Or.inl h2, h3, rfl⟩)) (fun v h1 hq => ?_)
  obtain ⟨rfl, p, x, h1, h2, rfl, hG, hgx, h3⟩ := hq
  have hG' := hG
  obtain ⟨g1, g2, g3, g4⟩ := hG
  refine z_getR ee_P_requireValidCode_5 ff_P_requireValidCode_214 (by assumption) il_6_0 (by assumption) ?_
  refine z_astore_m ee_P_requireValidCode_8 (j := 2) rfl (by decide) ?_
  refine z_aload_n ee_P_requireValidCode_9 rfl ?_
  -- at 10
  refine z_callS (As := [_]) ee_P_requireValidCode_10 kk_P_requireValidCode_108 rfl rfl (Nat.le_of_ble_eq_true rfl) (by omega) (sp_O_faultIn hf g3 hgx.1) (fun E h1 hx => hx.elim) (fun v h1 hq => ?_)
  obtain ⟨rfl, rfl⟩ := hq
  refine z_iconst ee_P_requireValidCode_13 (v := -1) (by decide) ?_
  refine z_icmp_eq ee_P_requireValidCode_14 (tgt := 25) (by decide) (fun c_14 => ?_) (fun c_14 => ?_)
  -- at 14
  · refine z_aload_n ee_P_requireValidCode_25 rfl ?_
    refine z_aret ee_P_requireValidCode_26 rfl (Or.inl ⟨_, rfl⟩) (by omega) (by omega) ?_
    -- at 26
    exact ⟨rfl, p, x, h1, h2, rfl, hG', hgx, h3, c_14⟩
  · refine z_throw tt_P_requireValidCode_17 rfl (Nat.le_of_ble_eq_true rfl) (by omega) (by omega) (fun z1 hz1 => ?_)
    -- at 17
    exact ⟨z1, rfl, Or.inr ⟨p, x, h1, h2, c_14⟩, hz1, rfl⟩
theorem zz_vx {n : Int32} {F : zz_TG → zz_PR} {E : String} {h1 : zz_H} (hO : zz_Ob g K R I B v) (hF : ∀ x, ¬ zz_flt 0 false false (tg_c x) = -1 → F x = (.inr eN, v)) (hx : ∃ z', E = eN ∧ (zz_pos n 0 (sv_t (ov_s v)) = none ∨ ∃ p x, zz_pos n 0 (sv_t (ov_s v)) = some p ∧ (sv_t (ov_s v))[p]? = some x ∧ ¬ zz_flt 0 false false (tg_c x) = -1) ∧ z ≤ z' ∧ h1 = (K, R, I, L, z')) : zz_PX g K R I L z B (pq_tel v n F) E h1 := by
  obtain ⟨z', rfl, h2, h3, rfl⟩ := hx
  rcases h2 with h2 | ⟨p, x, h2, h4, h5⟩
  · rw [pq_tel_n h2]; exact zz_PX.same hO h3
  · rw [pq_tel_s h2 h4, hF x h5]; exact zz_PX.same hO h3
theorem sp_P_decodedLength (hf : l.stackTraces = false) (hO : zz_Ob g K R I B v) (n : Int32) : zz_S g l mm_P_decodedLength 2 12 [.ref B, .int n] (K, R, I, L, z) (zz_PQ g K R I L z B (pq_tel v n (fun x => (if zz_flt 0 false false (tg_c x) = -1 then .inl (nI (zz_dec x).length) else .inr eN, v)))) (zz_PX g K R I L z B (pq_tel v n (fun x => (if zz_flt 0 false false (tg_c x) = -1 then .inl (nI (zz_dec x).length) else .inr eN, v)))) := by
  have hO' := hO
  obtain ⟨hP, f, hp⟩ := hO
  have hP' := hP
  obtain ⟨⟨k1, k2, k3, k4, k5, k6, k7, k8, k9, k10, k11⟩, ⟨t1, t2, t3⟩, hV, hH, hC, hD, hS9⟩ := hP
  have hV' := hV
  obtain ⟨v1, v2, v3, v4, v5, v6, v7⟩ := hV
  have hH0 := hH.1.1
  have hC0 := hC.1
  have hD0 := hD.1
  have t10 := t1.1
  have t20 := t2.1
  have t30 := t3.1
  have v50 := v5.1
  have v60 := v6.1
  obtain ⟨σ, hS, hv⟩ := hp.2.1
  have hk := hS.1.1
  refine z_start hf rfl (by decide +kernel) (Nat.le_of_ble_eq_true rfl) ?_
  dsimp only [zz_lv0]
  refine z_aload_n ee_P_decodedLength_0 rfl ?_
  refine z_iload_n ee_P_decodedLength_1 rfl ?_
  -- at 2
  refine z_callV (As := [_]) ee_P_decodedLength_2 kk_P_decodedLength_225 rfl (by assumption) rfl rfl (Nat.le_of_ble_eq_true rfl) (by omega) (sp_P_requireValidCode hf hP' hS hv n) (fun E h1 hx => (zz_vx hO' (fun x h => by rw [if_neg h]) hx)) (fun v h1 hq => ?_)
  obtain ⟨rfl, p, x, h1, h2, rfl, ⟨g1, g2, g3, g4⟩, hgx, h3, h4⟩ := hq
  rw [pq_tel_s h1 h2, if_pos h4]
  refine z_aload_n ee_P_decodedLength_5 rfl ?_
  refine z_getR ee_P_decodedLength_6 ff_P_decodedLength_27 (by assumption) il_0_3 (by assumption) ?_
  refine z_getR ee_P_decodedLength_9 ff_P_decodedLength_174 (by assumption) il_1_1 (by assumption) ?_
  -- at 12
  refine z_callS (As := [_, _]) ee_P_decodedLength_12 kk_P_decodedLength_111 rfl rfl (Nat.le_of_ble_eq_true rfl) (by omega) (sp_O_unfold hf g3 v5 (by omega) hgx.1) (fun E h1 hx => hx.elim) (fun v h1 hq => ?_)
  obtain ⟨I2, rfl, rfl, hx2, hfr2⟩ := hq
  have hx2 : zz_tx I2 (B + 7 + 132) 432 (zz_dec x) := hx2
  refine z_aload_n ee_P_decodedLength_15 rfl ?_
  refine z_getR ee_P_decodedLength_16 ff_P_decodedLength_27 (by assumption) il_0_3 (by assumption) ?_
  refine z_getR ee_P_decodedLength_19 ff_P_decodedLength_174 (by assumption) il_1_1 (by assumption) ?_
  refine z_getI ee_P_decodedLength_22 ff_P_decodedLength_89 (by assumption) il_7_1 ?_
  refine z_iret ee_P_decodedLength_25 rfl (by omega) (by omega) ?_
  -- at 25
  rw [hx2.1]
  exact ⟨_, R, I2, rfl, rfl, rfl, ⟨hP', f, hp.cv (hfr2.wid (by omega) (by omega)) (hfr2.in (by omega))⟩, zz_fq.rf, hfr2.wid (by omega) (by omega)⟩
theorem sp_P_decodedLengthByUnits (hf : l.stackTraces = false) (hO : zz_Ob g K R I B v) (n : Int32) (hn : zz_pos n 0 (sv_t (ov_s v)) = none) : zz_S g l mm_P_decodedLengthByUnits 2 12 [.ref B, .int n] (K, R, I, L, z) (zz_PQ g K R I L z B ((.inr eN, v))) (zz_PX g K R I L z B ((.inr eN, v))) := by
  have hO' := hO
  obtain ⟨hP, f, hp⟩ := hO
  have hP' := hP
  obtain ⟨⟨k1, k2, k3, k4, k5, k6, k7, k8, k9, k10, k11⟩, ⟨t1, t2, t3⟩, hV, hH, hC, hD, hS9⟩ := hP
  have hV' := hV
  obtain ⟨v1, v2, v3, v4, v5, v6, v7⟩ := hV
  have hH0 := hH.1.1
  have hC0 := hC.1
  have hD0 := hD.1
  have t10 := t1.1
  have t20 := t2.1
  have t30 := t3.1
  have v50 := v5.1
  have v60 := v6.1
  obtain ⟨σ, hS, hv⟩ := hp.2.1
  have hk := hS.1.1
  refine z_start hf rfl (by decide +kernel) (Nat.le_of_ble_eq_true rfl) ?_
  dsimp only [zz_lv0]
  refine z_aload_n ee_P_decodedLengthByUnits_0 rfl ?_
  refine z_iload_n ee_P_decodedLengthByUnits_1 rfl ?_
  -- at 2
  refine z_callV (As := [_]) ee_P_decodedLengthByUnits_2 kk_P_decodedLengthByUnits_225 rfl (by assumption) rfl rfl (Nat.le_of_ble_eq_true rfl) (by omega) (sp_P_requireValidCode hf hP' hS hv n) (fun E h1 hx => (by obtain ⟨z', rfl, h2, h3, rfl⟩ := hx; exact zz_PX.same hO' h3)) (fun v h1 hq => ?_)
  obtain ⟨rfl, p, x, h1, h2, -⟩ := hq
  rw [hn] at h1
  cases h1
theorem sp_P_writeTelegram (hf : l.stackTraces = false) (hO : zz_Ob g K R I B v) (n : Int32) : zz_S g l mm_P_writeTelegram 1 6 [.ref B, .int n] (K, R, I, L, z) (zz_PQ g K R I L z B (pq_tel v n (fun x => (.inl (nI (zz_wto 432 x).length), ow_l v (zz_wto 432 x))))) (zz_PX g K R I L z B (pq_tel v n (fun x => (.inl (nI (zz_wto 432 x).length), ow_l v (zz_wto 432 x))))) := by
  have hO' := hO
  obtain ⟨hP, f, hp⟩ := hO
  have hP' := hP
  obtain ⟨⟨k1, k2, k3, k4, k5, k6, k7, k8, k9, k10, k11⟩, ⟨t1, t2, t3⟩, hV, hH, hC, hD, hS9⟩ := hP
  have hV' := hV
  obtain ⟨v1, v2, v3, v4, v5, v6, v7⟩ := hV
  have hH0 := hH.1.1
  have hC0 := hC.1
  have hD0 := hD.1
  have t10 := t1.1
  have t20 := t2.1
  have t30 := t3.1
  have v50 := v5.1
  have v60 := v6.1
  obtain ⟨σ, hS, hv⟩ := hp.2.1
  have hk := hS.1.1
  refine z_start hf rfl (by decide +kernel) (Nat.le_of_ble_eq_true rfl) ?_
  dsimp only [zz_lv0]
  refine z_aload_n ee_P_writeTelegram_0 rfl ?_
  refine z_iload_n ee_P_writeTelegram_1 rfl ?_
  -- at 2
  refine z_callV (As := [_]) ee_P_writeTelegram_2 kk_P_writeTelegram_205 rfl (by assumption) rfl rfl (Nat.le_of_ble_eq_true rfl) (by omega) (sp_P_requireTelegram hf hP' hS hv n) (fun E h1 hx => (by obtain ⟨z', rfl, h2, h3, rfl⟩ := hx; rw [pq_tel_n h2]; exact zz_PX.same hO' h3)) (fun v h1 hq => ?_)
  obtain ⟨rfl, p, x, h1, h2, rfl, hG, hgx, h3⟩ := hq
  have hg0 := hG.1
  rw [pq_tel_s h1 h2]
  refine z_aload_n ee_P_writeTelegram_5 rfl ?_
  refine z_getR ee_P_writeTelegram_6 ff_P_writeTelegram_21 (by assumption) il_0_2 (by assumption) ?_
  -- at 9
  refine z_callV (As := [_]) ee_P_writeTelegram_9 kk_P_writeTelegram_304 rfl (by assumption) rfl rfl (Nat.le_of_ble_eq_true rfl) (by omega) (sp_G_writeTo hf hG t3 (by omega) hgx) (fun E h1 hx => hx.elim) (fun v h1 hq => ?_)
  obtain ⟨I2, rfl, rfl, hx2, hfr2⟩ := hq
  refine z_aload_n ee_P_writeTelegram_12 rfl ?_
  refine z_getR ee_P_writeTelegram_13 ff_P_writeTelegram_21 (by assumption) il_0_2 (by assumption) ?_
  refine z_getI ee_P_writeTelegram_16 ff_P_writeTelegram_89 (by assumption) il_7_1 ?_
  refine z_iret ee_P_writeTelegram_19 rfl (by omega) (by omega) ?_
  -- at 19
  rw [hx2.1]
  exact ⟨_, R, I2, rfl, rfl, rfl, ⟨hP', f, hp.lin hfr2 hx2⟩, zz_fq.rf, hfr2.wid (by omega) (by omega)⟩
theorem zz_uir_c (x : zz_TG) : ¬ zz_oc (zz_uir x) = -11 ∧ rs_ok (zz_uir x) := by
  unfold zz_uir
  split
  · exact ⟨show ¬ -nI 3 = -11 by decide, ⟨3, by decide, by decide, rfl⟩⟩
  · split
    · exact ⟨show ¬ -nI 5 = -11 by decide, ⟨5, by decide, by decide, rfl⟩⟩
    · split
      · exact ⟨show ¬ nI 0 = -11 by decide, Or.inr (Or.inr (Or.inr (show (0 : Int32) ≤ nI 0 by decide)))⟩
      · exact ⟨show ¬ -nI 6 = -11 by decide, ⟨6, by decide, by decide, rfl⟩⟩
theorem sp_P_isReadable (hf : l.stackTraces = false) (hO : zz_Ob g K R I B v) (n : Int32) : zz_S g l mm_P_isReadable 1 6 [.ref B, .int n] (K, R, I, L, z) (zz_PQ g K R I L z B (pq_tel v n (fun x => (.inl (zz_tf (0 ≤ zz_oc (zz_uir x))), v)))) (zz_PX g K R I L z B (pq_tel v n (fun x => (.inl (zz_tf (0 ≤ zz_oc (zz_uir x))), v)))) := by
  have hO' := hO
  obtain ⟨hP, f, hp⟩ := hO
  have hP' := hP
  obtain ⟨⟨k1, k2, k3, k4, k5, k6, k7, k8, k9, k10, k11⟩, ⟨t1, t2, t3⟩, hV, hH, hC, hD, hS9⟩ := hP
  have hV' := hV
  obtain ⟨v1, v2, v3, v4, v5, v6, v7⟩ := hV
  have hH0 := hH.1.1
  have hC0 := hC.1
  have hD0 := hD.1
  have t10 := t1.1
  have t20 := t2.1
  have t30 := t3.1
  have v50 := v5.1
  have v60 := v6.1
  obtain ⟨σ, hS, hv⟩ := hp.2.1
  have hk := hS.1.1
  refine z_start hf rfl (by decide +kernel) (Nat.le_of_ble_eq_true rfl) ?_
  dsimp only [zz_lv0]
  refine z_aload_n ee_P_isReadable_0 rfl ?_
  refine z_getR ee_P_isReadable_1 ff_P_isReadable_27 (by assumption) il_0_3 (by assumption) ?_
  refine z_iload_n ee_P_isReadable_4 rfl ?_
  -- at 5
  refine z_callV (As := [_]) ee_P_isReadable_5 kk_P_isReadable_168 rfl (by assumption) rfl rfl (Nat.le_of_ble_eq_true rfl) (by omega) (sp_V_readTelegram hf hV' hp.2.1 n) (fun E h1 hx => hx.elim) (fun v h1 hq => ?_)
  obtain ⟨I2, rfl, rfl, h3, h4, h5, h6⟩ := hq
  have hp2 := hp.cv h6 h5
  have hO2 : zz_Ob g K R I2 B v := ⟨hP', f, hp2⟩
  have hfr : zz_fr B (B + 1460) I I2 := h6.wid (by omega) (by omega)
  unfold zv_read
  cases hq : zz_pos n 0 (sv_t (ov_s v)) with
  | none =>
    rw [pq_tel_n hq, zv_tel_n hq]
    refine z_istore_m ee_P_isReadable_8 (j := 2) rfl (by decide) ?_
    refine z_iload_n ee_P_isReadable_9 rfl ?_
    refine z_bipush ee_P_isReadable_10 (v := -11) (by decide) ?_
    refine z_icmp_ne ee_P_isReadable_12 (tgt := 23) (by decide) (fun c_12 => ?_) (fun c_12 => ?_)
    -- at 12
    · exact absurd rfl c_12
    · refine z_throw tt_P_isReadable_15 rfl (Nat.le_of_ble_eq_true rfl) (by omega) (by omega) (fun z1 hz1 => ?_)
      -- at 15
      exact ⟨R, I2, z1, rfl, hz1, rfl, hO2, zz_fq.rf, hfr⟩
  | some p =>
    obtain ⟨hp1, x, hx, -⟩ := zz_pos_at hq
    rw [pq_tel_s hq hx, zv_tel_s hq hx]
    obtain ⟨u1, u2⟩ := zz_uir_c x
    refine z_istore_m ee_P_isReadable_8 (j := 2) rfl (by decide) ?_
    refine z_iload_n ee_P_isReadable_9 rfl ?_
    refine z_bipush ee_P_isReadable_10 (v := -11) (by decide) ?_
    refine z_icmp_ne ee_P_isReadable_12 (tgt := 23) (by decide) (fun c_12 => ?_) (fun c_12 => ?_)
    -- at 12
    · refine z_iload_n ee_P_isReadable_23 rfl ?_
      refine z_if_lt ee_P_isReadable_24 (tgt := 31) (by decide) (fun c_24 => ?_) (fun c_24 => ?_)
      -- at 24
      · rw [zz_tf_f (Int32.not_le.mpr c_24)]
        refine z_iconst ee_P_isReadable_31 (v := nI 0) (by decide) ?_
        refine z_zret ee_P_isReadable_32 (ty := .boolean) rfl (by decide) (by omega) (by omega) ?_
        -- at 32
        exact ⟨_, R, I2, rfl, rfl, rfl, hO2, zz_fq.rf, hfr⟩
      · rw [zz_tf_t (Int32.not_lt.mp c_24)]
        refine z_iconst ee_P_isReadable_27 (v := nI 1) (by decide) ?_
        refine z_goto ee_P_isReadable_28 (tgt := 32) (by decide) ?_
        refine z_zret ee_P_isReadable_32 (ty := .boolean) rfl (by decide) (by omega) (by omega) ?_
        -- at 32
        exact ⟨_, R, I2, rfl, rfl, rfl, hO2, zz_fq.rf, hfr⟩
    · exact absurd c_12 u1
theorem sp_P_read (hf : l.stackTraces = false) (hO : zz_Ob g K R I B v) (n : Int32) : zz_S g l mm_P_read 1 6 [.ref B, .int n] (K, R, I, L, z) (zz_PQ g K R I L z B (po_read v n)) (zz_PX g K R I L z B (po_read v n)) := by
  have hO' := hO
  obtain ⟨hP, f, hp⟩ := hO
  have hP' := hP
  obtain ⟨⟨k1, k2, k3, k4, k5, k6, k7, k8, k9, k10, k11⟩, ⟨t1, t2, t3⟩, hV, hH, hC, hD, hS9⟩ := hP
  have hV' := hV
  obtain ⟨v1, v2, v3, v4, v5, v6, v7⟩ := hV
  have hH0 := hH.1.1
  have hC0 := hC.1
  have hD0 := hD.1
  have t10 := t1.1
  have t20 := t2.1
  have t30 := t3.1
  have v50 := v5.1
  have v60 := v6.1
  obtain ⟨σ, hS, hv⟩ := hp.2.1
  have hk := hS.1.1
  refine z_start hf rfl (by decide +kernel) (Nat.le_of_ble_eq_true rfl) ?_
  dsimp only [zz_lv0]
  unfold po_read
  refine z_aload_n ee_P_read_0 rfl ?_
  refine z_aload_n ee_P_read_1 rfl ?_
  refine z_getR ee_P_read_2 ff_P_read_27 (by assumption) il_0_3 (by assumption) ?_
  refine z_iload_n ee_P_read_5 rfl ?_
  -- at 6
  refine z_callV (As := [_]) ee_P_read_6 kk_P_read_168 rfl (by assumption) rfl rfl (Nat.le_of_ble_eq_true rfl) (by omega) (sp_V_readTelegram hf hV' hp.2.1 n) (fun E h1 hx => hx.elim) (fun v h1 hq => ?_)
  obtain ⟨I2, rfl, rfl, h3, h4, h5, h6⟩ := hq
  have hp2 := hp.cv h6 h5
  have hfr : zz_fr B (B + 1460) I I2 := h6.wid (by omega) (by omega)
  have hok : rs_ok (zv_read (ov_s v) n).1 := by
    unfold zv_read
    cases hq : zz_pos n 0 (sv_t (ov_s v)) with
    | none => rw [zv_tel_n hq]; exact Or.inl rfl
    | some p =>
      obtain ⟨hp1, x, hx, -⟩ := zz_pos_at hq
      rw [zv_tel_s hq hx]
      exact (zz_uir_c x).2
  refine z_callV (As := [_]) ee_P_read_9 kk_P_read_171 rfl (by assumption) rfl rfl (Nat.le_of_ble_eq_true rfl) (by omega) (sp_P_refuse hf hP' hp2 _ hok h3) (fun E h1 hx => (by obtain ⟨I3, z', he, hz, rfl, hp3, hfr3⟩ := hx; rw [he]; exact ⟨R, I3, z', rfl, hz, rfl, ⟨hP', f, hp3⟩, zz_fq.rf, hfr.trans (hfr3.wid (by omega) (by omega))⟩)) (fun v h1 hq => ?_)
  obtain ⟨he, rfl, rfl⟩ := hq
  rw [he]
  cases hq : zz_pos n 0 (sv_t (ov_s v)) with
  | none =>
    unfold zv_read at he
    rw [zv_tel_n hq] at he
    exact absurd (show some eN = none from he) (by simp)
  | some p =>
    obtain ⟨hp1, x, hx, -⟩ := zz_pos_at hq
    rw [pq_tel_s hq hx]
    have hu : ∃ o, zz_uir x = .inr o := by
      unfold zv_read at he
      rw [zv_tel_s hq hx] at he
      cases hu : zz_uir x with
      | inl q => rw [hu] at he; cases he
      | inr o => exact ⟨o, rfl⟩
    obtain ⟨o, hu⟩ := hu
    have hdec := h4 p x hq hx o hu
    refine z_aload_n ee_P_read_12 rfl ?_
    refine z_getR ee_P_read_13 ff_P_read_21 (by assumption) il_0_2 (by assumption) ?_
    refine z_aload_n ee_P_read_16 rfl ?_
    refine z_getR ee_P_read_17 ff_P_read_27 (by assumption) il_0_3 (by assumption) ?_
    refine z_getR ee_P_read_20 ff_P_read_174 (by assumption) il_1_1 (by assumption) ?_
    -- at 23
    refine z_callV (As := [_]) ee_P_read_23 kk_P_read_177 rfl (by assumption) rfl rfl (Nat.le_of_ble_eq_true rfl) (by omega) (sp_T_copyFrom hf t3 v5 hdec (by omega)) (fun E h1 hx => hx.elim) (fun v h1 hq => ?_)
    obtain ⟨I3, rfl, rfl, hx3, hfr3⟩ := hq
    refine z_aload_n ee_P_read_26 rfl ?_
    refine z_getR ee_P_read_27 ff_P_read_21 (by assumption) il_0_2 (by assumption) ?_
    refine z_getI ee_P_read_30 ff_P_read_89 (by assumption) il_7_1 ?_
    refine z_iret ee_P_read_33 rfl (by omega) (by omega) ?_
    -- at 33
    rw [hx3.1]
    exact ⟨_, R, I3, rfl, rfl, rfl, ⟨hP', f, hp2.lin hfr3 hx3⟩, zz_fq.rf, hfr.trans (hfr3.wid (by omega) (by omega))⟩
theorem sp_P_saveSnapshot (hf : l.stackTraces = false) (hO : zz_Ob g K R I B v) : zz_S g l mm_P_saveSnapshot 0 0 [.ref B] (K, R, I, L, z) (zz_PQ g K R I L z B ((.inl (nI (sv_t (ov_s v)).length), ow_p v (ov_s v)))) (zz_PX g K R I L z B ((.inl (nI (sv_t (ov_s v)).length), ow_p v (ov_s v)))) := by
  have hO' := hO
  obtain ⟨hP, f, hp⟩ := hO
  have hP' := hP
  obtain ⟨⟨k1, k2, k3, k4, k5, k6, k7, k8, k9, k10, k11⟩, ⟨t1, t2, t3⟩, hV, hH, hC, hD, hS9⟩ := hP
  have hV' := hV
  obtain ⟨v1, v2, v3, v4, v5, v6, v7⟩ := hV
  have hH0 := hH.1.1
  have hC0 := hC.1
  have hD0 := hD.1
  have t10 := t1.1
  have t20 := t2.1
  have t30 := t3.1
  have v50 := v5.1
  have v60 := v6.1
  obtain ⟨σ, hS, hv⟩ := hp.2.1
  have hk := hS.1.1
  refine z_start hf rfl (by decide +kernel) (Nat.le_of_ble_eq_true rfl) ?_
  dsimp only [zz_lv0]
  obtain ⟨τ, hT⟩ := hp.2.2.1.ss
  refine z_aload_n ee_P_saveSnapshot_0 rfl ?_
  refine z_getR ee_P_saveSnapshot_1 ff_P_saveSnapshot_39 (by assumption) il_0_5 (by assumption) ?_
  refine z_aload_n ee_P_saveSnapshot_4 rfl ?_
  refine z_getR ee_P_saveSnapshot_5 ff_P_saveSnapshot_35 (by assumption) il_0_4 (by assumption) ?_
  -- at 8
  refine z_callV (As := [_]) ee_P_saveSnapshot_8 kk_P_saveSnapshot_289 rfl (by assumption) rfl rfl (Nat.le_of_ble_eq_true rfl) (by omega) (sp_S_copyFrom hf hT hS (by omega) hv) (fun E h1 hx => hx.elim) (fun v h1 hq => ?_)
  obtain ⟨I2, rfl, rfl, hx2, hfr2⟩ := hq
  have hv2 := hv.in hS.2.2.2.1 (hfr2.in (by omega))
  refine z_aload_n ee_P_saveSnapshot_11 rfl ?_
  refine z_iconst ee_P_saveSnapshot_12 (v := nI 1) (by decide) ?_
  -- at 13
  refine z_putS ee_P_saveSnapshot_13 ff_P_saveSnapshot_63 (by assumption) (by assumption) rfl rfl (Or.inl rfl) rfl rfl ?_
  refine z_aload_n ee_P_saveSnapshot_16 rfl ?_
  refine z_getR ee_P_saveSnapshot_17 ff_P_saveSnapshot_35 (by assumption) il_0_4 (by assumption) ?_
  refine z_getI ee_P_saveSnapshot_20 ff_P_saveSnapshot_181 (by assumption) il_5_3 ?_
  refine z_iret ee_P_saveSnapshot_23 rfl (by omega) (by omega) ?_
  -- at 23
  have hfr3 : zz_fr B (B + 1) I2 (zz_up I2 B 9 (nI 1)) := zz_fr.rf.up (by omega) (by omega)
  rw [(hv2.fr hS.2.2.2.1 hfr3 (by omega)).2.1.1]
  refine ⟨_, R, _, rfl, rfl, rfl, ⟨hP', f, ?_⟩, zz_fq.rf, (hfr2.wid (by omega) (by omega)).trans (hfr3.wid (by omega) (by omega))⟩
  obtain ⟨⟨p1, p2, p3⟩, p4, p5, p6, ⟨p7, p8⟩, p9, p10, p11⟩ := hp
  have hkt : ∀ lo hi, (B + 1 ≤ lo ∧ hi ≤ B + 143) ∨ B + 274 ≤ lo → zz_kt lo hi I (zz_up I2 B 9 (nI 1)) := fun lo hi hd => (zz_fr.in hfr2 (by omega)).trans (hfr3.in (by omega))
  have e1 : zz_up I2 B 9 (nI 1) (B + 1459) = I (B + 1459) := hkt (B + 1459) (B + 1460) (by omega) _ (by omega) (by omega)
  have e0 : I2 B = I B := hfr2 _ (by omega)
  exact ⟨⟨p1.in (hkt _ _ (by omega)), p2.in (hkt _ _ (by omega)), p3.in (hkt _ _ (by omega))⟩, p4.in zz_kt.rf (hkt _ _ (by omega)), ⟨τ, hT, hx2.fr hT.2.2.2.1 hfr3 (by omega)⟩, p6.in zz_kt.rf (hkt _ _ (by omega)), ⟨by rw [zz_up_s]; rfl, by rw [zz_up_k (by decide), e0]; exact p8⟩, by rw [e1]; exact p9, by rw [e1]; exact p10, by rw [e1]; exact p11⟩
theorem sp_P_restoreSnapshot (hf : l.stackTraces = false) (hO : zz_Ob g K R I B v) : zz_S g l mm_P_restoreSnapshot 1 6 [.ref B] (K, R, I, L, z) (zz_PQ g K R I L z B (po_restore v)) (zz_PX g K R I L z B (po_restore v)) := by
  have hO' := hO
  obtain ⟨hP, f, hp⟩ := hO
  have hP' := hP
  obtain ⟨⟨k1, k2, k3, k4, k5, k6, k7, k8, k9, k10, k11⟩, ⟨t1, t2, t3⟩, hV, hH, hC, hD, hS9⟩ := hP
  have hV' := hV
  obtain ⟨v1, v2, v3, v4, v5, v6, v7⟩ := hV
  have hH0 := hH.1.1
  have hC0 := hC.1
  have hD0 := hD.1
  have t10 := t1.1
  have t20 := t2.1
  have t30 := t3.1
  have v50 := v5.1
  have v60 := v6.1
  obtain ⟨σ, hS, hv⟩ := hp.2.1
  have hk := hS.1.1
  refine z_start hf rfl (by decide +kernel) (Nat.le_of_ble_eq_true rfl) ?_
  dsimp only [zz_lv0]
  unfold po_restore
  have hfl := hp.2.2.2.2.1.1
  obtain ⟨τ, hT, ht⟩ := hp.2.2.1
  refine z_aload_n ee_P_restoreSnapshot_0 rfl ?_
  refine z_getI ee_P_restoreSnapshot_1 ff_P_restoreSnapshot_63 (by assumption) il_0_9 ?_
  refine z_if_ne ee_P_restoreSnapshot_4 (tgt := 15) (by decide) (fun c_4 => ?_) (fun c_4 => ?_)
  -- at 4
  · rw [hfl, zz_tf_n0] at c_4
    rw [if_pos c_4]
    refine z_aload_n ee_P_restoreSnapshot_15 rfl ?_
    refine z_getR ee_P_restoreSnapshot_16 ff_P_restoreSnapshot_35 (by assumption) il_0_4 (by assumption) ?_
    refine z_aload_n ee_P_restoreSnapshot_19 rfl ?_
    refine z_getR ee_P_restoreSnapshot_20 ff_P_restoreSnapshot_39 (by assumption) il_0_5 (by assumption) ?_
    -- at 23
    refine z_callV (As := [_]) ee_P_restoreSnapshot_23 kk_P_restoreSnapshot_289 rfl (by assumption) rfl rfl (Nat.le_of_ble_eq_true rfl) (by omega) (sp_S_copyFrom hf hS hT (by omega) ht) (fun E h1 hx => hx.elim) (fun v h1 hq => ?_)
    obtain ⟨I2, rfl, rfl, hx2, hfr2⟩ := hq
    have hp2 := hp.st zz_fq.rf (hfr2.wid (by omega) (by omega)) ⟨σ, hS, hx2⟩
    refine z_aload_n ee_P_restoreSnapshot_26 rfl ?_
    refine z_getR ee_P_restoreSnapshot_27 ff_P_restoreSnapshot_45 (by assumption) il_0_6 (by assumption) ?_
    -- at 30
    refine z_callV (As := []) ee_P_restoreSnapshot_30 kk_P_restoreSnapshot_321 rfl (by assumption) rfl rfl (Nat.le_of_ble_eq_true rfl) (by omega) (sp_H_forget hf hH hp2.2.2.2.1) (fun E h1 hx => hx.elim) (fun v h1 hq => ?_)
    obtain ⟨I3, rfl, rfl, hh3, hfr3⟩ := hq
    refine z_aload_n ee_P_restoreSnapshot_33 rfl ?_
    refine z_getR ee_P_restoreSnapshot_34 ff_P_restoreSnapshot_35 (by assumption) il_0_4 (by assumption) ?_
    refine z_getI ee_P_restoreSnapshot_37 ff_P_restoreSnapshot_181 (by assumption) il_5_3 ?_
    refine z_iret ee_P_restoreSnapshot_40 rfl (by omega) (by omega) ?_
    -- at 40
    rw [(hx2.fr hS.2.2.2.1 hfr3 (by omega)).2.1.1]
    exact ⟨_, R, I3, rfl, rfl, rfl, ⟨hP', f, hp2.hx (hfr3.wid (by omega) (by omega)) hh3⟩, zz_fq.rf, (hfr2.wid (by omega) (by omega)).trans (hfr3.wid (by omega) (by omega))⟩
  · rw [hfl, zz_tf_0] at c_4
    rw [if_neg c_4]
    refine z_throw tt_P_restoreSnapshot_7 rfl (Nat.le_of_ble_eq_true rfl) (by omega) (by omega) (fun z1 hz1 => ?_)
    -- at 7
    exact zz_PX.same hO' hz1
theorem sp_P_undo (hf : l.stackTraces = false) (hO : zz_Ob g K R I B v) : zz_S g l mm_P_undo 1 6 [.ref B] (K, R, I, L, z) (zz_PQ g K R I L z B (po_undo v)) (zz_PX g K R I L z B (po_undo v)) := by
  have hO' := hO
  obtain ⟨hP, f, hp⟩ := hO
  have hP' := hP
  obtain ⟨⟨k1, k2, k3, k4, k5, k6, k7, k8, k9, k10, k11⟩, ⟨t1, t2, t3⟩, hV, hH, hC, hD, hS9⟩ := hP
  have hV' := hV
  obtain ⟨v1, v2, v3, v4, v5, v6, v7⟩ := hV
  have hH0 := hH.1.1
  have hC0 := hC.1
  have hD0 := hD.1
  have t10 := t1.1
  have t20 := t2.1
  have t30 := t3.1
  have v50 := v5.1
  have v60 := v6.1
  obtain ⟨σ, hS, hv⟩ := hp.2.1
  have hk := hS.1.1
  refine z_start hf rfl (by decide +kernel) (Nat.le_of_ble_eq_true rfl) ?_
  dsimp only [zz_lv0]
  unfold po_undo
  have hh := hp.2.2.2.1
  have hl := hh.2.2.2.1
  refine z_aload_n ee_P_undo_0 rfl ?_
  refine z_getR ee_P_undo_1 ff_P_undo_45 (by assumption) il_0_6 (by assumption) ?_
  refine z_getI ee_P_undo_4 ff_P_undo_317 (by assumption) il_4_2 ?_
  refine z_if_ne ee_P_undo_7 (tgt := 18) (by decide) (fun c_7 => ?_) (fun c_7 => ?_)
  -- at 7
  · rw [hh.2.2.1] at c_7
    cases hg : (ov_h v).getLast? with
    | none => exact absurd (by rw [List.getLast?_eq_none_iff.mp hg]; rfl) c_7
    | some w =>
      have hap : ov_h v = (ov_h v).dropLast ++ [w] := by
        obtain ⟨ys, hy⟩ := List.getLast?_eq_some_iff.mp hg
        rw [hy]; simp
      rw [hap] at hh
      refine z_aload_n ee_P_undo_18 rfl ?_
      refine z_getR ee_P_undo_19 ff_P_undo_45 (by assumption) il_0_6 (by assumption) ?_
      refine z_aload_n ee_P_undo_22 rfl ?_
      refine z_getR ee_P_undo_23 ff_P_undo_35 (by assumption) il_0_4 (by assumption) ?_
      -- at 26
      refine z_callV (As := [_]) ee_P_undo_26 kk_P_undo_318 rfl (by assumption) rfl rfl (Nat.le_of_ble_eq_true rfl) (by omega) (sp_H_takeBack hf hH hh ⟨σ, hS⟩ hk (by omega)) (fun E h1 hx => hx.elim) (fun v h1 hq => ?_)
      obtain ⟨I2, rfl, rfl, hh2, hS2, hfr2⟩ := hq
      refine z_aload_n ee_P_undo_29 rfl ?_
      refine z_getR ee_P_undo_30 ff_P_undo_45 (by assumption) il_0_6 (by assumption) ?_
      refine z_getI ee_P_undo_33 ff_P_undo_317 (by assumption) il_4_2 ?_
      refine z_iret ee_P_undo_36 rfl (by omega) (by omega) ?_
      -- at 36
      rw [hh2.2.2.1]
      obtain ⟨⟨p1, p2, p3⟩, p4, p5, p6, ⟨p7, p8⟩, p9, p10, p11⟩ := hp
      have hkt : ∀ lo hi, (hi ≤ B + 8 ∨ (B + 139 ≤ lo ∧ hi ≤ B + 274) ∨ B + 275 ≤ lo) → zz_kt lo hi I I2 := fun lo hi hd b h1 h2 => hfr2 b (by omega)
      have e0 : I2 B = I B := hfr2 _ (by omega)
      have e1 : I2 (B + 1459) = I (B + 1459) := hfr2 _ (by omega)
      exact ⟨_, R, I2, rfl, rfl, rfl, ⟨hP', f, ⟨p1.in (hkt _ _ (by omega)), p2.in (hkt _ _ (by omega)), p3.in (hkt _ _ (by omega))⟩, hS2, p5.in zz_kt.rf (hkt _ _ (by omega)), hh2, ⟨by rw [e0]; exact p7, by rw [e0]; exact p8⟩, by rw [e1]; exact p9, by rw [e1]; exact p10, by rw [e1]; exact p11⟩, zz_fq.rf, fun b hb => hfr2 b (by omega)⟩
  · rw [hh.2.2.1] at c_7
    have h0 : (ov_h v).length = 0 := (nI_eq (b := 0) (by omega) (by omega)).mp c_7
    rw [List.length_eq_zero_iff.mp h0]
    refine z_throw tt_P_undo_10 rfl (Nat.le_of_ble_eq_true rfl) (by omega) (by omega) (fun z1 hz1 => ?_)
    -- at 10
    exact zz_PX.same hO' hz1
end Obj3
