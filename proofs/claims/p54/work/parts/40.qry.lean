/-! THE OBJECT: questions -/
def pq_tel (v : zz_OV) (n : Int32) (F : zz_TG → zz_PR) : zz_PR :=
  match zz_pos n 0 (sv_t (ov_s v)) with
  | none => (.inr eN, v)
  | some p => F (zz_tat (sv_t (ov_s v)) p)
theorem pq_tel_n {v : zz_OV} {n : Int32} {F : zz_TG → zz_PR} (h : zz_pos n 0 (sv_t (ov_s v)) = none) : pq_tel v n F = (.inr eN, v) := by
  unfold pq_tel
  rw [h]
theorem pq_tel_s {v : zz_OV} {n : Int32} {F : zz_TG → zz_PR} {p : Nat} {x : zz_TG} (h : zz_pos n 0 (sv_t (ov_s v)) = some p) (hx : (sv_t (ov_s v))[p]? = some x) : pq_tel v n F = F x := by
  unfold pq_tel
  rw [h]
  show F (zz_tat (sv_t (ov_s v)) p) = F x
  rw [zz_tat_of hx]
section Qry
variable {g : zz_G} {l : Launch} {K : Nat → Nat × Nat} {R R1 : Nat → Nat → Option Nat} {I I1 : Nat → Nat → Int32} {L : Nat → Nat → Int64} {z : Nat} {B f : Nat} {v : zz_OV} {w : zz_SV} {h : zz_H} {σ : Nat → Nat}
theorem zz_PQ.same {n : Int32} (hO : zz_Ob g K R I B v) : zz_PQ g K R I L z B (.inl n, v) (some (.int n)) (K, R, I, L, z) := ⟨n, R, I, rfl, rfl, rfl, hO, zz_fq.rf, zz_fr.rf⟩
theorem zz_PX.same {E : String} {z' : Nat} (hO : zz_Ob g K R I B v) (hz : z ≤ z') : zz_PX g K R I L z B (.inr E, v) E (K, R, I, L, z') := ⟨R, I, z', rfl, hz, rfl, hO, zz_fq.rf, zz_fr.rf⟩
theorem sp_P_requireTelegram (hf : l.stackTraces = false) (hP : zz_Px g K R B) (hS : zz_Sx g K R (B + 7 + 1) σ) (hv : zz_sx I σ (B + 7 + 1) w) (n : Int32) : zz_S g l mm_P_requireTelegram 1 6 [.ref B, .int n] (K, R, I, L, z) (fun a h' => h' = (K, R, I, L, z) ∧ ∃ p x, zz_pos n 0 (sv_t w) = some p ∧ (sv_t w)[p]? = some x ∧ a = some (.ref (B + 7 + 1 + 3 + 4 * σ p)) ∧ zz_Gx g K R (B + 7 + 1 + 3 + 4 * σ p) ∧ zz_gx I (B + 7 + 1 + 3 + 4 * σ p) x ∧ σ p < 32) (fun E h' => ∃ z', E = eN ∧ zz_pos n 0 (sv_t w) = none ∧ z ≤ z' ∧ h' = (K, R, I, L, z')) := by
  obtain ⟨⟨k1, k2, k3, k4, k5, k6, k7, k8, k9, k10, k11⟩, -⟩ := hP
  have hk := hS.1.1
  refine z_start hf rfl (by decide +kernel) (Nat.le_of_ble_eq_true rfl) ?_
  dsimp only [zz_lv0]
  refine z_aload_n ee_P_requireTelegram_0 rfl ?_
  refine z_getR ee_P_requireTelegram_1 ff_P_requireTelegram_35 (by assumption) il_0_4 (by assumption) ?_
  refine z_iload_n ee_P_requireTelegram_4 rfl ?_
  -- at 5
  refine z_callV (As := [_]) ee_P_requireTelegram_5 kk_P_requireTelegram_328 rfl (by assumption) rfl rfl (Nat.le_of_ble_eq_true rfl) (by omega) (sp_S_find hf hS hv n) (fun E h1 hx => hx.elim) (fun v h1 hq => ?_)
  obtain ⟨rfl, rfl⟩ := hq
  cases hp : zz_pos n 0 (sv_t w) with
  | none =>
    refine z_astoreN_m ee_P_requireTelegram_8 (j := 2) rfl (by decide) ?_
    refine z_aloadN_n ee_P_requireTelegram_9 rfl ?_
    refine z_ifnonnullN ee_P_requireTelegram_10 ?_
    refine z_throw tt_P_requireTelegram_13 rfl (Nat.le_of_ble_eq_true rfl) (by omega) (by omega) (fun z1 hz1 => ?_)
    -- at 13
    exact ⟨z1, rfl, rfl, hz1, rfl⟩
  | some p =>
    obtain ⟨hp1, x, hx, -⟩ := zz_pos_at hp
    have hp2 : p < 32 := by have := hv.2.1.2.1; omega
    have hs := hS.2.2.2.1 p hp2
    refine z_astore_m ee_P_requireTelegram_8 (j := 2) rfl (by decide) ?_
    refine z_aload_n ee_P_requireTelegram_9 rfl ?_
    refine z_ifnonnull ee_P_requireTelegram_10 (tgt := 21) (by decide) ?_
    refine z_aload_n ee_P_requireTelegram_21 rfl ?_
    refine z_aret ee_P_requireTelegram_22 rfl (Or.inl ⟨_, rfl⟩) (by omega) (by omega) ?_
    -- at 22
    exact ⟨rfl, p, x, rfl, hx, rfl, hS.2.1 _ hs, hv.2.1.2.2 p x hx, hs⟩
theorem sp_P_requireRoot (hf : l.stackTraces = false) (hP : zz_Px g K R B) (hS : zz_Sx g K R (B + 7 + 1) σ) (hv : zz_sx I σ (B + 7 + 1) w) (r : Int32) : zz_S g l mm_P_requireRoot 1 6 [.ref B, .int r] (K, R, I, L, z) (fun a h' => h' = (K, R, I, L, z) ∧ a = none ∧ zz_hr w r) (fun E h' => ∃ z', E = eI ∧ ¬ zz_hr w r ∧ z ≤ z' ∧ h' = (K, R, I, L, z')) := by
  obtain ⟨⟨k1, k2, k3, k4, k5, k6, k7, k8, k9, k10, k11⟩, -⟩ := hP
  have hk := hS.1.1
  refine z_start hf rfl (by decide +kernel) (Nat.le_of_ble_eq_true rfl) ?_
  dsimp only [zz_lv0]
  refine z_aload_n ee_P_requireRoot_0 rfl ?_
  refine z_getR ee_P_requireRoot_1 ff_P_requireRoot_35 (by assumption) il_0_4 (by assumption) ?_
  refine z_iload_n ee_P_requireRoot_4 rfl ?_
  -- at 5
  refine z_callV (As := [_]) ee_P_requireRoot_5 kk_P_requireRoot_325 rfl (by assumption) rfl rfl (Nat.le_of_ble_eq_true rfl) (by omega) (sp_S_hasRoot hf hS hv r) (fun E h1 hx => hx.elim) (fun v h1 hq => ?_)
  obtain ⟨rfl, rfl⟩ := hq
  refine z_if_ne ee_P_requireRoot_8 (tgt := 19) (by decide) (fun c_8 => ?_) (fun c_8 => ?_)
  -- at 8
  · rw [zz_tf_n0] at c_8
    refine z_vret ee_P_requireRoot_19 rfl (by omega) (by omega) ?_
    -- at 19
    exact ⟨rfl, rfl, c_8⟩
  · rw [zz_tf_0] at c_8
    refine z_throw tt_P_requireRoot_11 rfl (Nat.le_of_ble_eq_true rfl) (by omega) (by omega) (fun z1 hz1 => ?_)
    -- at 11
    exact ⟨z1, rfl, c_8, hz1, rfl⟩
theorem sp_P_rootOf (hf : l.stackTraces = false) (hO : zz_Ob g K R I B v) (n : Int32) : zz_S g l mm_P_rootOf 1 6 [.ref B, .int n] (K, R, I, L, z) (zz_PQ g K R I L z B (pq_tel v n (fun x => (.inl (tg_o x), v)))) (zz_PX g K R I L z B (pq_tel v n (fun x => (.inl (tg_o x), v)))) := by
  have hO' := hO
  obtain ⟨hP, f, hp⟩ := hO
  have hP' := hP
  obtain ⟨⟨k1, k2, k3, k4, k5, k6, k7, k8, k9, k10, k11⟩, ⟨t1, t2, t3⟩, hV, hH, hC, hD, hS9⟩ := hP
  have hV0 := hV.1
  have hH0 := hH.1.1
  have hD0 := hD.1
  have t10 := t1.1
  have t20 := t2.1
  have t30 := t3.1
  obtain ⟨σ, hS, hv⟩ := hp.2.1
  have hk := hS.1.1
  refine z_start hf rfl (by decide +kernel) (Nat.le_of_ble_eq_true rfl) ?_
  dsimp only [zz_lv0]
  refine z_aload_n ee_P_rootOf_0 rfl ?_
  refine z_iload_n ee_P_rootOf_1 rfl ?_
  -- at 2
  refine z_callV (As := [_]) ee_P_rootOf_2 kk_P_rootOf_205 rfl (by assumption) rfl rfl (Nat.le_of_ble_eq_true rfl) (by omega) (sp_P_requireTelegram hf hP' hS hv n) (fun E h1 hx => (by obtain ⟨z', rfl, h2, h3, rfl⟩ := hx; rw [pq_tel_n h2]; exact zz_PX.same hO' h3)) (fun v h1 hq => ?_)
  obtain ⟨rfl, p, x, h1, h2, rfl, hG, hgx, h3⟩ := hq
  have hg0 := hG.1
  rw [pq_tel_s h1 h2]
  refine z_getI ee_P_rootOf_5 ff_P_rootOf_208 (by assumption) il_6_4 ?_
  refine z_iret ee_P_rootOf_8 rfl (by omega) (by omega) ?_
  -- at 8
  rw [hgx.2.2.2.2.2.2.1]
  exact zz_PQ.same hO'
theorem sp_P_checksumOf (hf : l.stackTraces = false) (hO : zz_Ob g K R I B v) (n : Int32) : zz_S g l mm_P_checksumOf 1 6 [.ref B, .int n] (K, R, I, L, z) (zz_PQ g K R I L z B (pq_tel v n (fun x => (.inl (tg_k x), v)))) (zz_PX g K R I L z B (pq_tel v n (fun x => (.inl (tg_k x), v)))) := by
  have hO' := hO
  obtain ⟨hP, f, hp⟩ := hO
  have hP' := hP
  obtain ⟨⟨k1, k2, k3, k4, k5, k6, k7, k8, k9, k10, k11⟩, ⟨t1, t2, t3⟩, hV, hH, hC, hD, hS9⟩ := hP
  have hV0 := hV.1
  have hH0 := hH.1.1
  have hD0 := hD.1
  have t10 := t1.1
  have t20 := t2.1
  have t30 := t3.1
  obtain ⟨σ, hS, hv⟩ := hp.2.1
  have hk := hS.1.1
  refine z_start hf rfl (by decide +kernel) (Nat.le_of_ble_eq_true rfl) ?_
  dsimp only [zz_lv0]
  refine z_aload_n ee_P_checksumOf_0 rfl ?_
  refine z_iload_n ee_P_checksumOf_1 rfl ?_
  -- at 2
  refine z_callV (As := [_]) ee_P_checksumOf_2 kk_P_checksumOf_205 rfl (by assumption) rfl rfl (Nat.le_of_ble_eq_true rfl) (by omega) (sp_P_requireTelegram hf hP' hS hv n) (fun E h1 hx => (by obtain ⟨z', rfl, h2, h3, rfl⟩ := hx; rw [pq_tel_n h2]; exact zz_PX.same hO' h3)) (fun v h1 hq => ?_)
  obtain ⟨rfl, p, x, h1, h2, rfl, hG, hgx, h3⟩ := hq
  have hg0 := hG.1
  rw [pq_tel_s h1 h2]
  refine z_getI ee_P_checksumOf_5 ff_P_checksumOf_211 (by assumption) il_6_6 ?_
  refine z_iret ee_P_checksumOf_8 rfl (by omega) (by omega) ?_
  -- at 8
  rw [hgx.2.2.2.2.2.2.2.2]
  exact zz_PQ.same hO'
theorem sp_P_pageCount (hf : l.stackTraces = false) (hO : zz_Ob g K R I B v) (n : Int32) : zz_S g l mm_P_pageCount 1 6 [.ref B, .int n] (K, R, I, L, z) (zz_PQ g K R I L z B (pq_tel v n (fun x => (.inl (nI (tg_p x)), v)))) (zz_PX g K R I L z B (pq_tel v n (fun x => (.inl (nI (tg_p x)), v)))) := by
  have hO' := hO
  obtain ⟨hP, f, hp⟩ := hO
  have hP' := hP
  obtain ⟨⟨k1, k2, k3, k4, k5, k6, k7, k8, k9, k10, k11⟩, ⟨t1, t2, t3⟩, hV, hH, hC, hD, hS9⟩ := hP
  have hV0 := hV.1
  have hH0 := hH.1.1
  have hD0 := hD.1
  have t10 := t1.1
  have t20 := t2.1
  have t30 := t3.1
  obtain ⟨σ, hS, hv⟩ := hp.2.1
  have hk := hS.1.1
  refine z_start hf rfl (by decide +kernel) (Nat.le_of_ble_eq_true rfl) ?_
  dsimp only [zz_lv0]
  refine z_aload_n ee_P_pageCount_0 rfl ?_
  refine z_iload_n ee_P_pageCount_1 rfl ?_
  -- at 2
  refine z_callV (As := [_]) ee_P_pageCount_2 kk_P_pageCount_205 rfl (by assumption) rfl rfl (Nat.le_of_ble_eq_true rfl) (by omega) (sp_P_requireTelegram hf hP' hS hv n) (fun E h1 hx => (by obtain ⟨z', rfl, h2, h3, rfl⟩ := hx; rw [pq_tel_n h2]; exact zz_PX.same hO' h3)) (fun v h1 hq => ?_)
  obtain ⟨rfl, p, x, h1, h2, rfl, hG, hgx, h3⟩ := hq
  have hg0 := hG.1
  rw [pq_tel_s h1 h2]
  refine z_getI ee_P_pageCount_5 ff_P_pageCount_235 (by assumption) il_6_2 ?_
  refine z_iret ee_P_pageCount_8 rfl (by omega) (by omega) ?_
  -- at 8
  rw [hgx.2.2.2.1]
  exact zz_PQ.same hO'
theorem sp_P_codeLength (hf : l.stackTraces = false) (hO : zz_Ob g K R I B v) (n : Int32) : zz_S g l mm_P_codeLength 1 6 [.ref B, .int n] (K, R, I, L, z) (zz_PQ g K R I L z B (pq_tel v n (fun x => (.inl (nI (tg_c x).length), v)))) (zz_PX g K R I L z B (pq_tel v n (fun x => (.inl (nI (tg_c x).length), v)))) := by
  have hO' := hO
  obtain ⟨hP, f, hp⟩ := hO
  have hP' := hP
  obtain ⟨⟨k1, k2, k3, k4, k5, k6, k7, k8, k9, k10, k11⟩, ⟨t1, t2, t3⟩, hV, hH, hC, hD, hS9⟩ := hP
  have hV0 := hV.1
  have hH0 := hH.1.1
  have hD0 := hD.1
  have t10 := t1.1
  have t20 := t2.1
  have t30 := t3.1
  obtain ⟨σ, hS, hv⟩ := hp.2.1
  have hk := hS.1.1
  refine z_start hf rfl (by decide +kernel) (Nat.le_of_ble_eq_true rfl) ?_
  dsimp only [zz_lv0]
  refine z_aload_n ee_P_codeLength_0 rfl ?_
  refine z_iload_n ee_P_codeLength_1 rfl ?_
  -- at 2
  refine z_callV (As := [_]) ee_P_codeLength_2 kk_P_codeLength_205 rfl (by assumption) rfl rfl (Nat.le_of_ble_eq_true rfl) (by omega) (sp_P_requireTelegram hf hP' hS hv n) (fun E h1 hx => (by obtain ⟨z', rfl, h2, h3, rfl⟩ := hx; rw [pq_tel_n h2]; exact zz_PX.same hO' h3)) (fun v h1 hq => ?_)
  obtain ⟨rfl, p, x, h1, h2, rfl, ⟨g1, g2, g3, g4⟩, hgx, h3⟩ := hq
  have g5 := g3.1
  rw [pq_tel_s h1 h2]
  refine z_getR ee_P_codeLength_5 ff_P_codeLength_214 (by assumption) il_6_0 (by assumption) ?_
  refine z_getI ee_P_codeLength_8 ff_P_codeLength_89 (by assumption) il_7_1 ?_
  refine z_iret ee_P_codeLength_11 rfl (by omega) (by omega) ?_
  -- at 11
  rw [hgx.1.1]
  exact zz_PQ.same hO'
theorem sp_P_codeCharacter (hf : l.stackTraces = false) (hO : zz_Ob g K R I B v) (n i : Int32) : zz_S g l mm_P_codeCharacter 2 12 [.ref B, .int n, .int i] (K, R, I, L, z) (zz_PQ g K R I L z B (pq_tel v n (fun x => (if 0 ≤ i.toInt ∧ i.toInt < (tg_c x).length then .inl (zz_at0 (tg_c x) i) else .inr eI, v)))) (zz_PX g K R I L z B (pq_tel v n (fun x => (if 0 ≤ i.toInt ∧ i.toInt < (tg_c x).length then .inl (zz_at0 (tg_c x) i) else .inr eI, v)))) := by
  have hO' := hO
  obtain ⟨hP, f, hp⟩ := hO
  have hP' := hP
  obtain ⟨⟨k1, k2, k3, k4, k5, k6, k7, k8, k9, k10, k11⟩, ⟨t1, t2, t3⟩, hV, hH, hC, hD, hS9⟩ := hP
  have hV0 := hV.1
  have hH0 := hH.1.1
  have hD0 := hD.1
  have t10 := t1.1
  have t20 := t2.1
  have t30 := t3.1
  obtain ⟨σ, hS, hv⟩ := hp.2.1
  have hk := hS.1.1
  refine z_start hf rfl (by decide +kernel) (Nat.le_of_ble_eq_true rfl) ?_
  dsimp only [zz_lv0]
  refine z_aload_n ee_P_codeCharacter_0 rfl ?_
  refine z_iload_n ee_P_codeCharacter_1 rfl ?_
  -- at 2
  refine z_callV (As := [_]) ee_P_codeCharacter_2 kk_P_codeCharacter_205 rfl (by assumption) rfl rfl (Nat.le_of_ble_eq_true rfl) (by omega) (sp_P_requireTelegram hf hP' hS hv n) (fun E h1 hx => (by obtain ⟨z', rfl, h2, h3, rfl⟩ := hx; rw [pq_tel_n h2]; exact zz_PX.same hO' h3)) (fun v h1 hq => ?_)
  obtain ⟨rfl, p, x, h1, h2, rfl, ⟨g1, g2, g3, g4⟩, hgx, h3⟩ := hq
  have g5 := g3.1
  rw [pq_tel_s h1 h2]
  refine z_getR ee_P_codeCharacter_5 ff_P_codeCharacter_214 (by assumption) il_6_0 (by assumption) ?_
  refine z_astore_m ee_P_codeCharacter_8 (j := 3) rfl (by decide) ?_
  refine z_aload_n ee_P_codeCharacter_9 rfl ?_
  refine z_iload_n ee_P_codeCharacter_10 rfl ?_
  -- at 11
  refine z_callV (As := [_]) ee_P_codeCharacter_11 kk_P_codeCharacter_217 rfl (by assumption) rfl rfl (Nat.le_of_ble_eq_true rfl) (by omega) (sp_T_has hf g3 hgx.1 i) (fun E h1 hx => hx.elim) (fun v h1 hq => ?_)
  obtain ⟨rfl, rfl⟩ := hq
  refine z_if_ne ee_P_codeCharacter_14 (tgt := 25) (by decide) (fun c_14 => ?_) (fun c_14 => ?_)
  -- at 14
  · rw [zz_tf_n0] at c_14
    rw [if_pos c_14]
    refine z_aload_n ee_P_codeCharacter_25 rfl ?_
    refine z_iload_n ee_P_codeCharacter_26 rfl ?_
    -- at 27
    refine z_callV (As := [_]) ee_P_codeCharacter_27 kk_P_codeCharacter_221 rfl (by assumption) rfl rfl (Nat.le_of_ble_eq_true rfl) (by omega) (sp_T_at hf g3 hgx.1 i) (fun E h1 hx => hx.elim) (fun v h1 hq => ?_)
    obtain ⟨rfl, rfl, hch⟩ := hq
    refine z_zret ee_P_codeCharacter_30 (ty := .char) rfl hch.nar (by omega) (by omega) ?_
    -- at 30
    exact zz_PQ.same hO'
  · rw [zz_tf_0] at c_14
    rw [if_neg c_14]
    refine z_throw tt_P_codeCharacter_17 rfl (Nat.le_of_ble_eq_true rfl) (by omega) (by omega) (fun z1 hz1 => ?_)
    -- at 17
    exact zz_PX.same hO' hz1
theorem sp_P_rotOf (hf : l.stackTraces = false) (hO : zz_Ob g K R I B v) (n i : Int32) : zz_S g l mm_P_rotOf 2 12 [.ref B, .int n, .int i] (K, R, I, L, z) (zz_PQ g K R I L z B (pq_tel v n (fun x => (if 0 ≤ i.toInt ∧ i.toInt < tg_p x then .inl (zz_rotj x i) else .inr eI, v)))) (zz_PX g K R I L z B (pq_tel v n (fun x => (if 0 ≤ i.toInt ∧ i.toInt < tg_p x then .inl (zz_rotj x i) else .inr eI, v)))) := by
  have hO' := hO
  obtain ⟨hP, f, hp⟩ := hO
  have hP' := hP
  obtain ⟨⟨k1, k2, k3, k4, k5, k6, k7, k8, k9, k10, k11⟩, ⟨t1, t2, t3⟩, hV, hH, hC, hD, hS9⟩ := hP
  have hV0 := hV.1
  have hH0 := hH.1.1
  have hD0 := hD.1
  have t10 := t1.1
  have t20 := t2.1
  have t30 := t3.1
  obtain ⟨σ, hS, hv⟩ := hp.2.1
  have hk := hS.1.1
  refine z_start hf rfl (by decide +kernel) (Nat.le_of_ble_eq_true rfl) ?_
  dsimp only [zz_lv0]
  refine z_aload_n ee_P_rotOf_0 rfl ?_
  refine z_iload_n ee_P_rotOf_1 rfl ?_
  -- at 2
  refine z_callV (As := [_]) ee_P_rotOf_2 kk_P_rotOf_205 rfl (by assumption) rfl rfl (Nat.le_of_ble_eq_true rfl) (by omega) (sp_P_requireTelegram hf hP' hS hv n) (fun E h1 hx => (by obtain ⟨z', rfl, h2, h3, rfl⟩ := hx; rw [pq_tel_n h2]; exact zz_PX.same hO' h3)) (fun v h1 hq => ?_)
  obtain ⟨rfl, p, x, h1, h2, rfl, hG, hgx, h3⟩ := hq
  have g1 := hG.1
  rw [pq_tel_s h1 h2]
  refine z_astore_m ee_P_rotOf_5 (j := 3) rfl (by decide) ?_
  refine z_aload_n ee_P_rotOf_6 rfl ?_
  refine z_iload_n ee_P_rotOf_7 rfl ?_
  -- at 8
  refine z_callV (As := [_]) ee_P_rotOf_8 kk_P_rotOf_238 rfl (by assumption) rfl rfl (Nat.le_of_ble_eq_true rfl) (by omega) (sp_G_hasPage hf hG hgx i) (fun E h1 hx => hx.elim) (fun v h1 hq => ?_)
  obtain ⟨rfl, rfl⟩ := hq
  refine z_if_ne ee_P_rotOf_11 (tgt := 22) (by decide) (fun c_11 => ?_) (fun c_11 => ?_)
  -- at 11
  · rw [zz_tf_n0] at c_11
    rw [if_pos c_11]
    refine z_aload_n ee_P_rotOf_22 rfl ?_
    refine z_iload_n ee_P_rotOf_23 rfl ?_
    -- at 24
    refine z_callV (As := [_]) ee_P_rotOf_24 kk_P_rotOf_241 rfl (by assumption) rfl rfl (Nat.le_of_ble_eq_true rfl) (by omega) (sp_G_rotAt hf hG hgx i) (fun E h1 hx => hx.elim) (fun v h1 hq => ?_)
    obtain ⟨rfl, rfl⟩ := hq
    refine z_iret ee_P_rotOf_27 rfl (by omega) (by omega) ?_
    -- at 27
    exact zz_PQ.same hO'
  · rw [zz_tf_0] at c_11
    rw [if_neg c_11]
    refine z_throw tt_P_rotOf_14 rfl (Nat.le_of_ble_eq_true rfl) (by omega) (by omega) (fun z1 hz1 => ?_)
    -- at 14
    exact zz_PX.same hO' hz1
theorem sp_P_daysUntilRotten (hf : l.stackTraces = false) (hO : zz_Ob g K R I B v) (n : Int32) : zz_S g l mm_P_daysUntilRotten 2 12 [.ref B, .int n] (K, R, I, L, z) (zz_PQ g K R I L z B (pq_tel v n (fun x => (if zz_dur (ov_s v) x = -1 then .inr eN else .inl (zz_dur (ov_s v) x), v)))) (zz_PX g K R I L z B (pq_tel v n (fun x => (if zz_dur (ov_s v) x = -1 then .inr eN else .inl (zz_dur (ov_s v) x), v)))) := by
  have hO' := hO
  obtain ⟨hP, f, hp⟩ := hO
  have hP' := hP
  obtain ⟨⟨k1, k2, k3, k4, k5, k6, k7, k8, k9, k10, k11⟩, ⟨t1, t2, t3⟩, hV, hH, hC, hD, hS9⟩ := hP
  have hV0 := hV.1
  have hH0 := hH.1.1
  have hD0 := hD.1
  have t10 := t1.1
  have t20 := t2.1
  have t30 := t3.1
  obtain ⟨σ, hS, hv⟩ := hp.2.1
  have hk := hS.1.1
  refine z_start hf rfl (by decide +kernel) (Nat.le_of_ble_eq_true rfl) ?_
  dsimp only [zz_lv0]
  refine z_aload_n ee_P_daysUntilRotten_0 rfl ?_
  refine z_getR ee_P_daysUntilRotten_1 ff_P_daysUntilRotten_35 (by assumption) il_0_4 (by assumption) ?_
  refine z_aload_n ee_P_daysUntilRotten_4 rfl ?_
  refine z_iload_n ee_P_daysUntilRotten_5 rfl ?_
  -- at 6
  refine z_callV (As := [_]) ee_P_daysUntilRotten_6 kk_P_daysUntilRotten_205 rfl (by assumption) rfl rfl (Nat.le_of_ble_eq_true rfl) (by omega) (sp_P_requireTelegram hf hP' hS hv n) (fun E h1 hx => (by obtain ⟨z', rfl, h2, h3, rfl⟩ := hx; rw [pq_tel_n h2]; exact zz_PX.same hO' h3)) (fun v h1 hq => ?_)
  obtain ⟨rfl, p, x, h1, h2, rfl, hG, hgx, h3⟩ := hq
  rw [pq_tel_s h1 h2]
  refine z_callV (As := [_]) ee_P_daysUntilRotten_9 kk_P_daysUntilRotten_244 rfl (by assumption) rfl rfl (Nat.le_of_ble_eq_true rfl) (by omega) (sp_S_countDaysUntilRotten hf hS hv hG hgx) (fun E h1 hx => hx.elim) (fun v h1 hq => ?_)
  obtain ⟨rfl, rfl⟩ := hq
  refine z_istore_m ee_P_daysUntilRotten_12 (j := 2) rfl (by decide) ?_
  refine z_iload_n ee_P_daysUntilRotten_13 rfl ?_
  refine z_iconst ee_P_daysUntilRotten_14 (v := -1) (by decide) ?_
  refine z_icmp_ne ee_P_daysUntilRotten_15 (tgt := 26) (by decide) (fun c_15 => ?_) (fun c_15 => ?_)
  -- at 15
  · rw [if_neg c_15]
    refine z_iload_n ee_P_daysUntilRotten_26 rfl ?_
    refine z_iret ee_P_daysUntilRotten_27 rfl (by omega) (by omega) ?_
    -- at 27
    exact zz_PQ.same hO'
  · rw [if_pos c_15]
    refine z_throw tt_P_daysUntilRotten_18 rfl (Nat.le_of_ble_eq_true rfl) (by omega) (by omega) (fun z1 hz1 => ?_)
    -- at 18
    exact zz_PX.same hO' hz1
theorem sp_P_dampness (hf : l.stackTraces = false) (hO : zz_Ob g K R I B v) (r : Int32) : zz_S g l mm_P_dampness 1 6 [.ref B, .int r] (K, R, I, L, z) (zz_PQ g K R I L z B ((if zz_hr (ov_s v) r then .inl (zz_dmp (ov_s v) r) else .inr eI, v))) (zz_PX g K R I L z B ((if zz_hr (ov_s v) r then .inl (zz_dmp (ov_s v) r) else .inr eI, v))) := by
  have hO' := hO
  obtain ⟨hP, f, hp⟩ := hO
  have hP' := hP
  obtain ⟨⟨k1, k2, k3, k4, k5, k6, k7, k8, k9, k10, k11⟩, ⟨t1, t2, t3⟩, hV, hH, hC, hD, hS9⟩ := hP
  have hV0 := hV.1
  have hH0 := hH.1.1
  have hD0 := hD.1
  have t10 := t1.1
  have t20 := t2.1
  have t30 := t3.1
  obtain ⟨σ, hS, hv⟩ := hp.2.1
  have hk := hS.1.1
  refine z_start hf rfl (by decide +kernel) (Nat.le_of_ble_eq_true rfl) ?_
  dsimp only [zz_lv0]
  refine z_aload_n ee_P_dampness_0 rfl ?_
  refine z_iload_n ee_P_dampness_1 rfl ?_
  -- at 2
  refine z_callV (As := [_]) ee_P_dampness_2 kk_P_dampness_134 rfl (by assumption) rfl rfl (Nat.le_of_ble_eq_true rfl) (by omega) (sp_P_requireRoot hf hP' hS hv r) (fun E h1 hx => (by obtain ⟨z', rfl, h2, h3, rfl⟩ := hx; rw [if_neg h2]; exact zz_PX.same hO' h3)) (fun v h1 hq => ?_)
  obtain ⟨rfl, rfl, h2⟩ := hq
  rw [if_pos h2]
  refine z_aload_n ee_P_dampness_5 rfl ?_
  refine z_getR ee_P_dampness_6 ff_P_dampness_35 (by assumption) il_0_4 (by assumption) ?_
  refine z_iload_n ee_P_dampness_9 rfl ?_
  -- at 10
  refine z_callV (As := [_]) ee_P_dampness_10 kk_P_dampness_137 rfl (by assumption) rfl rfl (Nat.le_of_ble_eq_true rfl) (by omega) (sp_S_dampnessAt hf hS hv r) (fun E h1 hx => hx.elim) (fun v h1 hq => ?_)
  obtain ⟨rfl, rfl⟩ := hq
  refine z_iret ee_P_dampness_13 rfl (by omega) (by omega) ?_
  -- at 13
  exact zz_PQ.same hO'
theorem sp_P_pagesIn (hf : l.stackTraces = false) (hO : zz_Ob g K R I B v) (r : Int32) : zz_S g l mm_P_pagesIn 1 6 [.ref B, .int r] (K, R, I, L, z) (zz_PQ g K R I L z B ((if zz_hr (ov_s v) r then .inl (zz_cpi (ov_s v) r) else .inr eI, v))) (zz_PX g K R I L z B ((if zz_hr (ov_s v) r then .inl (zz_cpi (ov_s v) r) else .inr eI, v))) := by
  have hO' := hO
  obtain ⟨hP, f, hp⟩ := hO
  have hP' := hP
  obtain ⟨⟨k1, k2, k3, k4, k5, k6, k7, k8, k9, k10, k11⟩, ⟨t1, t2, t3⟩, hV, hH, hC, hD, hS9⟩ := hP
  have hV0 := hV.1
  have hH0 := hH.1.1
  have hD0 := hD.1
  have t10 := t1.1
  have t20 := t2.1
  have t30 := t3.1
  obtain ⟨σ, hS, hv⟩ := hp.2.1
  have hk := hS.1.1
  refine z_start hf rfl (by decide +kernel) (Nat.le_of_ble_eq_true rfl) ?_
  dsimp only [zz_lv0]
  refine z_aload_n ee_P_pagesIn_0 rfl ?_
  refine z_iload_n ee_P_pagesIn_1 rfl ?_
  -- at 2
  refine z_callV (As := [_]) ee_P_pagesIn_2 kk_P_pagesIn_134 rfl (by assumption) rfl rfl (Nat.le_of_ble_eq_true rfl) (by omega) (sp_P_requireRoot hf hP' hS hv r) (fun E h1 hx => (by obtain ⟨z', rfl, h2, h3, rfl⟩ := hx; rw [if_neg h2]; exact zz_PX.same hO' h3)) (fun v h1 hq => ?_)
  obtain ⟨rfl, rfl, h2⟩ := hq
  rw [if_pos h2]
  refine z_aload_n ee_P_pagesIn_5 rfl ?_
  refine z_getR ee_P_pagesIn_6 ff_P_pagesIn_35 (by assumption) il_0_4 (by assumption) ?_
  refine z_iload_n ee_P_pagesIn_9 rfl ?_
  -- at 10
  refine z_callV (As := [_]) ee_P_pagesIn_10 kk_P_pagesIn_140 rfl (by assumption) rfl rfl (Nat.le_of_ble_eq_true rfl) (by omega) (sp_S_countPagesIn hf hS hv r) (fun E h1 hx => hx.elim) (fun v h1 hq => ?_)
  obtain ⟨rfl, rfl⟩ := hq
  refine z_iret ee_P_pagesIn_13 rfl (by omega) (by omega) ?_
  -- at 13
  exact zz_PQ.same hO'
theorem sp_P_telegramAt (hf : l.stackTraces = false) (hO : zz_Ob g K R I B v) (i : Int32) : zz_S g l mm_P_telegramAt 1 6 [.ref B, .int i] (K, R, I, L, z) (zz_PQ g K R I L z B ((if 0 ≤ i.toInt ∧ i.toInt < (sv_t (ov_s v)).length then .inl (tg_n (zz_tat (sv_t (ov_s v)) i.toInt.toNat)) else .inr eI, v))) (zz_PX g K R I L z B ((if 0 ≤ i.toInt ∧ i.toInt < (sv_t (ov_s v)).length then .inl (tg_n (zz_tat (sv_t (ov_s v)) i.toInt.toNat)) else .inr eI, v))) := by
  have hO' := hO
  obtain ⟨hP, f, hp⟩ := hO
  have hP' := hP
  obtain ⟨⟨k1, k2, k3, k4, k5, k6, k7, k8, k9, k10, k11⟩, ⟨t1, t2, t3⟩, hV, hH, hC, hD, hS9⟩ := hP
  have hV0 := hV.1
  have hH0 := hH.1.1
  have hD0 := hD.1
  have t10 := t1.1
  have t20 := t2.1
  have t30 := t3.1
  obtain ⟨σ, hS, hv⟩ := hp.2.1
  have hk := hS.1.1
  refine z_start hf rfl (by decide +kernel) (Nat.le_of_ble_eq_true rfl) ?_
  dsimp only [zz_lv0]
  refine z_aload_n ee_P_telegramAt_0 rfl ?_
  refine z_getR ee_P_telegramAt_1 ff_P_telegramAt_35 (by assumption) il_0_4 (by assumption) ?_
  refine z_iload_n ee_P_telegramAt_4 rfl ?_
  -- at 5
  refine z_callV (As := [_]) ee_P_telegramAt_5 kk_P_telegramAt_184 rfl (by assumption) rfl rfl (Nat.le_of_ble_eq_true rfl) (by omega) (sp_S_telegramIn hf hS hv i) (fun E h1 hx => hx.elim) (fun v h1 hq => ?_)
  obtain ⟨rfl, rfl⟩ := hq
  by_cases q : 0 ≤ i.toInt ∧ i.toInt < (sv_t (ov_s v)).length
  · rw [if_pos q, if_pos q]
    have hx : (sv_t (ov_s v))[i.toInt.toNat]? = some ((sv_t (ov_s v))[i.toInt.toNat]'(by omega)) := List.getElem?_eq_getElem (by omega)
    have hl := hv.2.1.2.1
    have hs := hS.2.2.2.1 i.toInt.toNat (by omega)
    have hg0 := (hS.2.1 _ hs).1
    refine z_astore_m ee_P_telegramAt_8 (j := 2) rfl (by decide) ?_
    refine z_aload_n ee_P_telegramAt_9 rfl ?_
    refine z_ifnonnull ee_P_telegramAt_10 (tgt := 21) (by decide) ?_
    refine z_aload_n ee_P_telegramAt_21 rfl ?_
    refine z_getI ee_P_telegramAt_22 ff_P_telegramAt_191 (by assumption) il_6_3 ?_
    refine z_iret ee_P_telegramAt_25 rfl (by omega) (by omega) ?_
    -- at 25
    rw [(hv.2.1.2.2 _ _ hx).2.2.2.2.2.1, zz_tat_of hx]
    exact zz_PQ.same hO'
  · rw [if_neg q, if_neg q]
    refine z_astoreN_m ee_P_telegramAt_8 (j := 2) rfl (by decide) ?_
    refine z_aloadN_n ee_P_telegramAt_9 rfl ?_
    refine z_ifnonnullN ee_P_telegramAt_10 ?_
    refine z_throw tt_P_telegramAt_13 rfl (Nat.le_of_ble_eq_true rfl) (by omega) (by omega) (fun z1 hz1 => ?_)
    -- at 13
    exact zz_PX.same hO' hz1
theorem sp_P_requireNumber (hf : l.stackTraces = false) (n : Int32) : zz_S g l mm_P_requireNumber 1 6 [.int n] (K, R, I, L, z) (fun a h' => ¬ n = -1 ∧ h' = (K, R, I, L, z) ∧ a = some (.int n)) (fun E h' => ∃ z', E = eN ∧ n = -1 ∧ z ≤ z' ∧ h' = (K, R, I, L, z')) := by
  refine z_start hf rfl (by decide +kernel) (Nat.le_of_ble_eq_true rfl) ?_
  dsimp only [zz_lv0]
  refine z_iload_n ee_P_requireNumber_0 rfl ?_
  refine z_iconst ee_P_requireNumber_1 (v := -1) (by decide) ?_
  refine z_icmp_ne ee_P_requireNumber_2 (tgt := 13) (by decide) (fun c_2 => ?_) (fun c_2 => ?_)
  -- at 2
  · refine z_iload_n ee_P_requireNumber_13 rfl ?_
    refine z_iret ee_P_requireNumber_14 rfl (by omega) (by omega) ?_
    -- at 14
    exact ⟨c_2, rfl, rfl⟩
  · refine z_throw tt_P_requireNumber_5 rfl (Nat.le_of_ble_eq_true rfl) (by omega) (by omega) (fun z1 hz1 => ?_)
    -- at 5
    exact ⟨z1, rfl, c_2, hz1, rfl⟩
theorem sp_P_telegramByPriority (hf : l.stackTraces = false) (hO : zz_Ob g K R I B v) (r : Int32) : zz_S g l mm_P_telegramByPriority 1 6 [.ref B, .int r] (K, R, I, L, z) (zz_PQ g K R I L z B ((if zz_fbr zz_ahp (sv_t (ov_s v)) r (sv_t (ov_s v)) = -1 then .inr eN else .inl (zz_fbr zz_ahp (sv_t (ov_s v)) r (sv_t (ov_s v))), v))) (zz_PX g K R I L z B ((if zz_fbr zz_ahp (sv_t (ov_s v)) r (sv_t (ov_s v)) = -1 then .inr eN else .inl (zz_fbr zz_ahp (sv_t (ov_s v)) r (sv_t (ov_s v))), v))) := by
  have hO' := hO
  obtain ⟨hP, f, hp⟩ := hO
  have hP' := hP
  obtain ⟨⟨k1, k2, k3, k4, k5, k6, k7, k8, k9, k10, k11⟩, ⟨t1, t2, t3⟩, hV, hH, hC, hD, hS9⟩ := hP
  have hV0 := hV.1
  have hH0 := hH.1.1
  have hD0 := hD.1
  have t10 := t1.1
  have t20 := t2.1
  have t30 := t3.1
  obtain ⟨σ, hS, hv⟩ := hp.2.1
  have hk := hS.1.1
  refine z_start hf rfl (by decide +kernel) (Nat.le_of_ble_eq_true rfl) ?_
  dsimp only [zz_lv0]
  refine z_aload_n ee_P_telegramByPriority_0 rfl ?_
  refine z_getR ee_P_telegramByPriority_1 ff_P_telegramByPriority_35 (by assumption) il_0_4 (by assumption) ?_
  refine z_iload_n ee_P_telegramByPriority_4 rfl ?_
  -- at 5
  refine z_callV (As := [_]) ee_P_telegramByPriority_5 kk_P_telegramByPriority_196 rfl (by assumption) rfl rfl (Nat.le_of_ble_eq_true rfl) (by omega) (sp_S_findByPriority hf hS hv r) (fun E h1 hx => hx.elim) (fun v h1 hq => ?_)
  obtain ⟨rfl, rfl⟩ := hq
  refine z_callS (As := [_]) ee_P_telegramByPriority_8 kk_P_telegramByPriority_199 rfl rfl (Nat.le_of_ble_eq_true rfl) (by omega) (sp_P_requireNumber hf _) (fun E h1 hx => (by obtain ⟨z', rfl, h2, h3, rfl⟩ := hx; rw [if_pos h2]; exact zz_PX.same hO' h3)) (fun v h1 hq => ?_)
  obtain ⟨h2, rfl, rfl⟩ := hq
  rw [if_neg h2]
  refine z_iret ee_P_telegramByPriority_11 rfl (by omega) (by omega) ?_
  -- at 11
  exact zz_PQ.same hO'
theorem sp_P_telegramByRot (hf : l.stackTraces = false) (hO : zz_Ob g K R I B v) (r : Int32) : zz_S g l mm_P_telegramByRot 1 6 [.ref B, .int r] (K, R, I, L, z) (zz_PQ g K R I L z B ((if zz_fbr zz_ahr (sv_t (ov_s v)) r (sv_t (ov_s v)) = -1 then .inr eN else .inl (zz_fbr zz_ahr (sv_t (ov_s v)) r (sv_t (ov_s v))), v))) (zz_PX g K R I L z B ((if zz_fbr zz_ahr (sv_t (ov_s v)) r (sv_t (ov_s v)) = -1 then .inr eN else .inl (zz_fbr zz_ahr (sv_t (ov_s v)) r (sv_t (ov_s v))), v))) := by
  have hO' := hO
  obtain ⟨hP, f, hp⟩ := hO
  have hP' := hP
  obtain ⟨⟨k1, k2, k3, k4, k5, k6, k7, k8, k9, k10, k11⟩, ⟨t1, t2, t3⟩, hV, hH, hC, hD, hS9⟩ := hP
  have hV0 := hV.1
  have hH0 := hH.1.1
  have hD0 := hD.1
  have t10 := t1.1
  have t20 := t2.1
  have t30 := t3.1
  obtain ⟨σ, hS, hv⟩ := hp.2.1
  have hk := hS.1.1
  refine z_start hf rfl (by decide +kernel) (Nat.le_of_ble_eq_true rfl) ?_
  dsimp only [zz_lv0]
  refine z_aload_n ee_P_telegramByRot_0 rfl ?_
  refine z_getR ee_P_telegramByRot_1 ff_P_telegramByRot_35 (by assumption) il_0_4 (by assumption) ?_
  refine z_iload_n ee_P_telegramByRot_4 rfl ?_
  -- at 5
  refine z_callV (As := [_]) ee_P_telegramByRot_5 kk_P_telegramByRot_202 rfl (by assumption) rfl rfl (Nat.le_of_ble_eq_true rfl) (by omega) (sp_S_findByRot hf hS hv r) (fun E h1 hx => hx.elim) (fun v h1 hq => ?_)
  obtain ⟨rfl, rfl⟩ := hq
  refine z_callS (As := [_]) ee_P_telegramByRot_8 kk_P_telegramByRot_199 rfl rfl (Nat.le_of_ble_eq_true rfl) (by omega) (sp_P_requireNumber hf _) (fun E h1 hx => (by obtain ⟨z', rfl, h2, h3, rfl⟩ := hx; rw [if_pos h2]; exact zz_PX.same hO' h3)) (fun v h1 hq => ?_)
  obtain ⟨h2, rfl, rfl⟩ := hq
  rw [if_neg h2]
  refine z_iret ee_P_telegramByRot_11 rfl (by omega) (by omega) ?_
  -- at 11
  exact zz_PQ.same hO'
theorem sp_P_rootCount (hf : l.stackTraces = false) (hO : zz_Ob g K R I B v) : zz_S g l mm_P_rootCount 0 0 [.ref B] (K, R, I, L, z) (zz_PQ g K R I L z B ((.inl (nI (sv_r (ov_s v)).length), v))) (zz_PX g K R I L z B ((.inl (nI (sv_r (ov_s v)).length), v))) := by
  have hO' := hO
  obtain ⟨hP, f, hp⟩ := hO
  have hP' := hP
  obtain ⟨⟨k1, k2, k3, k4, k5, k6, k7, k8, k9, k10, k11⟩, ⟨t1, t2, t3⟩, hV, hH, hC, hD, hS9⟩ := hP
  have hV0 := hV.1
  have hH0 := hH.1.1
  have hD0 := hD.1
  have t10 := t1.1
  have t20 := t2.1
  have t30 := t3.1
  obtain ⟨σ, hS, hv⟩ := hp.2.1
  have hk := hS.1.1
  refine z_start hf rfl (by decide +kernel) (Nat.le_of_ble_eq_true rfl) ?_
  dsimp only [zz_lv0]
  refine z_aload_n ee_P_rootCount_0 rfl ?_
  refine z_getR ee_P_rootCount_1 ff_P_rootCount_35 (by assumption) il_0_4 (by assumption) ?_
  refine z_getI ee_P_rootCount_4 ff_P_rootCount_131 (by assumption) il_5_2 ?_
  refine z_iret ee_P_rootCount_7 rfl (by omega) (by omega) ?_
  -- at 7
  rw [hv.1.1]
  exact zz_PQ.same hO'
theorem sp_P_telegramCount (hf : l.stackTraces = false) (hO : zz_Ob g K R I B v) : zz_S g l mm_P_telegramCount 0 0 [.ref B] (K, R, I, L, z) (zz_PQ g K R I L z B ((.inl (nI (sv_t (ov_s v)).length), v))) (zz_PX g K R I L z B ((.inl (nI (sv_t (ov_s v)).length), v))) := by
  have hO' := hO
  obtain ⟨hP, f, hp⟩ := hO
  have hP' := hP
  obtain ⟨⟨k1, k2, k3, k4, k5, k6, k7, k8, k9, k10, k11⟩, ⟨t1, t2, t3⟩, hV, hH, hC, hD, hS9⟩ := hP
  have hV0 := hV.1
  have hH0 := hH.1.1
  have hD0 := hD.1
  have t10 := t1.1
  have t20 := t2.1
  have t30 := t3.1
  obtain ⟨σ, hS, hv⟩ := hp.2.1
  have hk := hS.1.1
  refine z_start hf rfl (by decide +kernel) (Nat.le_of_ble_eq_true rfl) ?_
  dsimp only [zz_lv0]
  refine z_aload_n ee_P_telegramCount_0 rfl ?_
  refine z_getR ee_P_telegramCount_1 ff_P_telegramCount_35 (by assumption) il_0_4 (by assumption) ?_
  refine z_getI ee_P_telegramCount_4 ff_P_telegramCount_181 (by assumption) il_5_3 ?_
  refine z_iret ee_P_telegramCount_7 rfl (by omega) (by omega) ?_
  -- at 7
  rw [hv.2.1.1]
  exact zz_PQ.same hO'
theorem sp_P_day (hf : l.stackTraces = false) (hO : zz_Ob g K R I B v) : zz_S g l mm_P_day 0 0 [.ref B] (K, R, I, L, z) (zz_PQ g K R I L z B ((.inl (sv_d (ov_s v)), v))) (zz_PX g K R I L z B ((.inl (sv_d (ov_s v)), v))) := by
  have hO' := hO
  obtain ⟨hP, f, hp⟩ := hO
  have hP' := hP
  obtain ⟨⟨k1, k2, k3, k4, k5, k6, k7, k8, k9, k10, k11⟩, ⟨t1, t2, t3⟩, hV, hH, hC, hD, hS9⟩ := hP
  have hV0 := hV.1
  have hH0 := hH.1.1
  have hD0 := hD.1
  have t10 := t1.1
  have t20 := t2.1
  have t30 := t3.1
  obtain ⟨σ, hS, hv⟩ := hp.2.1
  have hk := hS.1.1
  refine z_start hf rfl (by decide +kernel) (Nat.le_of_ble_eq_true rfl) ?_
  dsimp only [zz_lv0]
  refine z_aload_n ee_P_day_0 rfl ?_
  refine z_getR ee_P_day_1 ff_P_day_35 (by assumption) il_0_4 (by assumption) ?_
  refine z_getI ee_P_day_4 ff_P_day_251 (by assumption) il_5_5 ?_
  refine z_iret ee_P_day_7 rfl (by omega) (by omega) ?_
  -- at 7
  rw [hv.2.2.2.1]
  exact zz_PQ.same hO'
theorem sp_P_carvedCharacters (hf : l.stackTraces = false) (hO : zz_Ob g K R I B v) : zz_S g l mm_P_carvedCharacters 0 0 [.ref B] (K, R, I, L, z) (zz_PQ g K R I L z B ((.inl (sv_c (ov_s v)), v))) (zz_PX g K R I L z B ((.inl (sv_c (ov_s v)), v))) := by
  have hO' := hO
  obtain ⟨hP, f, hp⟩ := hO
  have hP' := hP
  obtain ⟨⟨k1, k2, k3, k4, k5, k6, k7, k8, k9, k10, k11⟩, ⟨t1, t2, t3⟩, hV, hH, hC, hD, hS9⟩ := hP
  have hV0 := hV.1
  have hH0 := hH.1.1
  have hD0 := hD.1
  have t10 := t1.1
  have t20 := t2.1
  have t30 := t3.1
  obtain ⟨σ, hS, hv⟩ := hp.2.1
  have hk := hS.1.1
  refine z_start hf rfl (by decide +kernel) (Nat.le_of_ble_eq_true rfl) ?_
  dsimp only [zz_lv0]
  refine z_aload_n ee_P_carvedCharacters_0 rfl ?_
  refine z_getR ee_P_carvedCharacters_1 ff_P_carvedCharacters_35 (by assumption) il_0_4 (by assumption) ?_
  refine z_getI ee_P_carvedCharacters_4 ff_P_carvedCharacters_254 (by assumption) il_5_6 ?_
  refine z_iret ee_P_carvedCharacters_7 rfl (by omega) (by omega) ?_
  -- at 7
  rw [hv.2.2.2.2]
  exact zz_PQ.same hO'
theorem sp_P_undoCount (hf : l.stackTraces = false) (hO : zz_Ob g K R I B v) : zz_S g l mm_P_undoCount 0 0 [.ref B] (K, R, I, L, z) (zz_PQ g K R I L z B ((.inl (nI (ov_h v).length), v))) (zz_PX g K R I L z B ((.inl (nI (ov_h v).length), v))) := by
  have hO' := hO
  obtain ⟨hP, f, hp⟩ := hO
  have hP' := hP
  obtain ⟨⟨k1, k2, k3, k4, k5, k6, k7, k8, k9, k10, k11⟩, ⟨t1, t2, t3⟩, hV, hH, hC, hD, hS9⟩ := hP
  have hV0 := hV.1
  have hH0 := hH.1.1
  have hD0 := hD.1
  have t10 := t1.1
  have t20 := t2.1
  have t30 := t3.1
  obtain ⟨σ, hS, hv⟩ := hp.2.1
  have hk := hS.1.1
  refine z_start hf rfl (by decide +kernel) (Nat.le_of_ble_eq_true rfl) ?_
  dsimp only [zz_lv0]
  refine z_aload_n ee_P_undoCount_0 rfl ?_
  refine z_getR ee_P_undoCount_1 ff_P_undoCount_45 (by assumption) il_0_6 (by assumption) ?_
  refine z_getI ee_P_undoCount_4 ff_P_undoCount_317 (by assumption) il_4_2 ?_
  refine z_iret ee_P_undoCount_7 rfl (by omega) (by omega) ?_
  -- at 7
  rw [hp.2.2.2.1.2.2.1]
  exact zz_PQ.same hO'
theorem sp_P_rottenPages (hf : l.stackTraces = false) (hO : zz_Ob g K R I B v) : zz_S g l mm_P_rottenPages 0 0 [.ref B] (K, R, I, L, z) (zz_PQ g K R I L z B ((.inl (zz_crp (ov_s v)), v))) (zz_PX g K R I L z B ((.inl (zz_crp (ov_s v)), v))) := by
  have hO' := hO
  obtain ⟨hP, f, hp⟩ := hO
  have hP' := hP
  obtain ⟨⟨k1, k2, k3, k4, k5, k6, k7, k8, k9, k10, k11⟩, ⟨t1, t2, t3⟩, hV, hH, hC, hD, hS9⟩ := hP
  have hV0 := hV.1
  have hH0 := hH.1.1
  have hD0 := hD.1
  have t10 := t1.1
  have t20 := t2.1
  have t30 := t3.1
  obtain ⟨σ, hS, hv⟩ := hp.2.1
  have hk := hS.1.1
  refine z_start hf rfl (by decide +kernel) (Nat.le_of_ble_eq_true rfl) ?_
  dsimp only [zz_lv0]
  refine z_aload_n ee_P_rottenPages_0 rfl ?_
  refine z_getR ee_P_rottenPages_1 ff_P_rottenPages_35 (by assumption) il_0_4 (by assumption) ?_
  -- at 4
  refine z_callV (As := []) ee_P_rottenPages_4 kk_P_rottenPages_248 rfl (by assumption) rfl rfl (Nat.le_of_ble_eq_true rfl) (by omega) (sp_S_countRottenPages hf hS hv) (fun E h1 hx => hx.elim) (fun v h1 hq => ?_)
  obtain ⟨rfl, rfl⟩ := hq
  refine z_iret ee_P_rottenPages_7 rfl (by omega) (by omega) ?_
  -- at 7
  exact zz_PQ.same hO'
theorem sp_P_faultPosition (hf : l.stackTraces = false) (hO : zz_Ob g K R I B v) : zz_S g l mm_P_faultPosition 1 6 [.ref B] (K, R, I, L, z) (zz_PQ g K R I L z B ((if ov_k v = -1 then .inr eN else .inl (ov_k v), v))) (zz_PX g K R I L z B ((if ov_k v = -1 then .inr eN else .inl (ov_k v), v))) := by
  have hO' := hO
  obtain ⟨hP, f, hp⟩ := hO
  have hP' := hP
  obtain ⟨⟨k1, k2, k3, k4, k5, k6, k7, k8, k9, k10, k11⟩, ⟨t1, t2, t3⟩, hV, hH, hC, hD, hS9⟩ := hP
  have hV0 := hV.1
  have hH0 := hH.1.1
  have hD0 := hD.1
  have t10 := t1.1
  have t20 := t2.1
  have t30 := t3.1
  obtain ⟨σ, hS, hv⟩ := hp.2.1
  have hk := hS.1.1
  refine z_start hf rfl (by decide +kernel) (Nat.le_of_ble_eq_true rfl) ?_
  dsimp only [zz_lv0]
  have hk2 := hp.2.2.2.2.1.2
  refine z_aload_n ee_P_faultPosition_0 rfl ?_
  refine z_getI ee_P_faultPosition_1 ff_P_faultPosition_67 (by assumption) il_0_10 ?_
  refine z_iconst ee_P_faultPosition_4 (v := -1) (by decide) ?_
  refine z_icmp_ne ee_P_faultPosition_5 (tgt := 16) (by decide) (fun c_5 => ?_) (fun c_5 => ?_)
  -- at 5
  · rw [hk2] at c_5
    rw [if_neg c_5]
    refine z_aload_n ee_P_faultPosition_16 rfl ?_
    refine z_getI ee_P_faultPosition_17 ff_P_faultPosition_67 (by assumption) il_0_10 ?_
    refine z_iret ee_P_faultPosition_20 rfl (by omega) (by omega) ?_
    -- at 20
    rw [hk2]
    exact zz_PQ.same hO'
  · rw [hk2] at c_5
    rw [if_pos c_5]
    refine z_throw tt_P_faultPosition_8 rfl (Nat.le_of_ble_eq_true rfl) (by omega) (by omega) (fun z1 hz1 => ?_)
    -- at 8
    exact zz_PX.same hO' hz1
theorem sp_P_denialCause (hf : l.stackTraces = false) (hO : zz_Ob g K R I B v) : zz_S g l mm_P_denialCause 1 6 [.ref B] (K, R, I, L, z) (zz_PQ g K R I L z B ((if (ov_d v).2.2 = -1 then .inr eN else .inl (ov_d v).2.2, v))) (zz_PX g K R I L z B ((if (ov_d v).2.2 = -1 then .inr eN else .inl (ov_d v).2.2, v))) := by
  have hO' := hO
  obtain ⟨hP, f, hp⟩ := hO
  have hP' := hP
  obtain ⟨⟨k1, k2, k3, k4, k5, k6, k7, k8, k9, k10, k11⟩, ⟨t1, t2, t3⟩, hV, hH, hC, hD, hS9⟩ := hP
  have hV0 := hV.1
  have hH0 := hH.1.1
  have hD0 := hD.1
  have t10 := t1.1
  have t20 := t2.1
  have t30 := t3.1
  obtain ⟨σ, hS, hv⟩ := hp.2.1
  have hk := hS.1.1
  refine z_start hf rfl (by decide +kernel) (Nat.le_of_ble_eq_true rfl) ?_
  dsimp only [zz_lv0]
  have hk2 := hp.2.2.2.2.2.2.2
  refine z_aload_n ee_P_denialCause_0 rfl ?_
  refine z_getR ee_P_denialCause_1 ff_P_denialCause_59 (by assumption) il_0_8 (by assumption) ?_
  refine z_getI ee_P_denialCause_4 ff_P_denialCause_314 (by assumption) il_3_2 ?_
  refine z_iconst ee_P_denialCause_7 (v := -1) (by decide) ?_
  refine z_icmp_ne ee_P_denialCause_8 (tgt := 19) (by decide) (fun c_8 => ?_) (fun c_8 => ?_)
  -- at 8
  · rw [hk2] at c_8
    rw [if_neg c_8]
    refine z_aload_n ee_P_denialCause_19 rfl ?_
    refine z_getR ee_P_denialCause_20 ff_P_denialCause_59 (by assumption) il_0_8 (by assumption) ?_
    refine z_getI ee_P_denialCause_23 ff_P_denialCause_314 (by assumption) il_3_2 ?_
    refine z_iret ee_P_denialCause_26 rfl (by omega) (by omega) ?_
    -- at 26
    rw [hk2]
    exact zz_PQ.same hO'
  · rw [hk2] at c_8
    rw [if_pos c_8]
    refine z_throw tt_P_denialCause_11 rfl (Nat.le_of_ble_eq_true rfl) (by omega) (by omega) (fun z1 hz1 => ?_)
    -- at 11
    exact zz_PX.same hO' hz1
theorem sp_P_requireDenial (hf : l.stackTraces = false) (hO : zz_Ob g K R I B v) : zz_S g l mm_P_requireDenial 1 6 [.ref B] (K, R, I, L, z) (fun a h' => ¬ (ov_d v).1 = -1 ∧ h' = (K, R, I, L, z) ∧ a = none) (fun E h' => ∃ z', E = eN ∧ (ov_d v).1 = -1 ∧ z ≤ z' ∧ h' = (K, R, I, L, z')) := by
  obtain ⟨hP, f, hp⟩ := hO
  have hP' := hP
  obtain ⟨⟨k1, k2, k3, k4, k5, k6, k7, k8, k9, k10, k11⟩, ⟨t1, t2, t3⟩, hV, hH, hC, hD, hS9⟩ := hP
  have hV0 := hV.1
  have hH0 := hH.1.1
  have hD0 := hD.1
  have t10 := t1.1
  have t20 := t2.1
  have t30 := t3.1
  obtain ⟨σ, hS, hv⟩ := hp.2.1
  have hk := hS.1.1
  have hk2 := hp.2.2.2.2.2.1
  refine z_start hf rfl (by decide +kernel) (Nat.le_of_ble_eq_true rfl) ?_
  dsimp only [zz_lv0]
  refine z_aload_n ee_P_requireDenial_0 rfl ?_
  refine z_getR ee_P_requireDenial_1 ff_P_requireDenial_59 (by assumption) il_0_8 (by assumption) ?_
  refine z_getI ee_P_requireDenial_4 ff_P_requireDenial_310 (by assumption) il_3_0 ?_
  refine z_iconst ee_P_requireDenial_7 (v := -1) (by decide) ?_
  refine z_icmp_ne ee_P_requireDenial_8 (tgt := 19) (by decide) (fun c_8 => ?_) (fun c_8 => ?_)
  -- at 8
  · rw [hk2] at c_8
    refine z_vret ee_P_requireDenial_19 rfl (by omega) (by omega) ?_
    -- at 19
    exact ⟨c_8, rfl, rfl⟩
  · rw [hk2] at c_8
    refine z_throw tt_P_requireDenial_11 rfl (Nat.le_of_ble_eq_true rfl) (by omega) (by omega) (fun z1 hz1 => ?_)
    -- at 11
    exact ⟨z1, rfl, c_8, hz1, rfl⟩
theorem sp_P_denial (hf : l.stackTraces = false) (hO : zz_Ob g K R I B v) : zz_S g l mm_P_denial 1 6 [.ref B] (K, R, I, L, z) (zz_PQ g K R I L z B ((if (ov_d v).1 = -1 then .inr eN else .inl ((ov_d v).1), v))) (zz_PX g K R I L z B ((if (ov_d v).1 = -1 then .inr eN else .inl ((ov_d v).1), v))) := by
  have hO' := hO
  obtain ⟨hP, f, hp⟩ := hO
  have hP' := hP
  obtain ⟨⟨k1, k2, k3, k4, k5, k6, k7, k8, k9, k10, k11⟩, ⟨t1, t2, t3⟩, hV, hH, hC, hD, hS9⟩ := hP
  have hV0 := hV.1
  have hH0 := hH.1.1
  have hD0 := hD.1
  have t10 := t1.1
  have t20 := t2.1
  have t30 := t3.1
  obtain ⟨σ, hS, hv⟩ := hp.2.1
  have hk := hS.1.1
  refine z_start hf rfl (by decide +kernel) (Nat.le_of_ble_eq_true rfl) ?_
  dsimp only [zz_lv0]
  refine z_aload_n ee_P_denial_0 rfl ?_
  -- at 1
  refine z_callV (As := []) ee_P_denial_1 kk_P_denial_307 rfl (by assumption) rfl rfl (Nat.le_of_ble_eq_true rfl) (by omega) (sp_P_requireDenial hf hO') (fun E h1 hx => (by obtain ⟨z', rfl, h2, h3, rfl⟩ := hx; rw [if_pos h2]; exact zz_PX.same hO' h3)) (fun v h1 hq => ?_)
  obtain ⟨h2, rfl, rfl⟩ := hq
  rw [if_neg h2]
  refine z_aload_n ee_P_denial_4 rfl ?_
  refine z_getR ee_P_denial_5 ff_P_denial_59 (by assumption) il_0_8 (by assumption) ?_
  refine z_getI ee_P_denial_8 ff_P_denial_310 (by assumption) il_3_0 ?_
  refine z_iret ee_P_denial_11 rfl (by omega) (by omega) ?_
  -- at 11
  rw [hp.2.2.2.2.2.1]
  exact zz_PQ.same hO'
theorem sp_P_denialDetail (hf : l.stackTraces = false) (hO : zz_Ob g K R I B v) : zz_S g l mm_P_denialDetail 1 6 [.ref B] (K, R, I, L, z) (zz_PQ g K R I L z B ((if (ov_d v).1 = -1 then .inr eN else .inl ((ov_d v).2.1), v))) (zz_PX g K R I L z B ((if (ov_d v).1 = -1 then .inr eN else .inl ((ov_d v).2.1), v))) := by
  have hO' := hO
  obtain ⟨hP, f, hp⟩ := hO
  have hP' := hP
  obtain ⟨⟨k1, k2, k3, k4, k5, k6, k7, k8, k9, k10, k11⟩, ⟨t1, t2, t3⟩, hV, hH, hC, hD, hS9⟩ := hP
  have hV0 := hV.1
  have hH0 := hH.1.1
  have hD0 := hD.1
  have t10 := t1.1
  have t20 := t2.1
  have t30 := t3.1
  obtain ⟨σ, hS, hv⟩ := hp.2.1
  have hk := hS.1.1
  refine z_start hf rfl (by decide +kernel) (Nat.le_of_ble_eq_true rfl) ?_
  dsimp only [zz_lv0]
  refine z_aload_n ee_P_denialDetail_0 rfl ?_
  -- at 1
  refine z_callV (As := []) ee_P_denialDetail_1 kk_P_denialDetail_307 rfl (by assumption) rfl rfl (Nat.le_of_ble_eq_true rfl) (by omega) (sp_P_requireDenial hf hO') (fun E h1 hx => (by obtain ⟨z', rfl, h2, h3, rfl⟩ := hx; rw [if_pos h2]; exact zz_PX.same hO' h3)) (fun v h1 hq => ?_)
  obtain ⟨h2, rfl, rfl⟩ := hq
  rw [if_neg h2]
  refine z_aload_n ee_P_denialDetail_4 rfl ?_
  refine z_getR ee_P_denialDetail_5 ff_P_denialDetail_59 (by assumption) il_0_8 (by assumption) ?_
  refine z_getI ee_P_denialDetail_8 ff_P_denialDetail_311 (by assumption) il_3_1 ?_
  refine z_iret ee_P_denialDetail_11 rfl (by omega) (by omega) ?_
  -- at 11
  rw [hp.2.2.2.2.2.2.1]
  exact zz_PQ.same hO'
theorem sp_P_lineCharacter (hf : l.stackTraces = false) (hO : zz_Ob g K R I B v) (i : Int32) : zz_S g l mm_P_lineCharacter 1 6 [.ref B, .int i] (K, R, I, L, z) (zz_PQ g K R I L z B ((if 0 ≤ i.toInt ∧ i.toInt < (ov_l v).length then .inl (zz_at0 (ov_l v) i) else .inr eI, v))) (zz_PX g K R I L z B ((if 0 ≤ i.toInt ∧ i.toInt < (ov_l v).length then .inl (zz_at0 (ov_l v) i) else .inr eI, v))) := by
  have hO' := hO
  obtain ⟨hP, f, hp⟩ := hO
  have hP' := hP
  obtain ⟨⟨k1, k2, k3, k4, k5, k6, k7, k8, k9, k10, k11⟩, ⟨t1, t2, t3⟩, hV, hH, hC, hD, hS9⟩ := hP
  have hV0 := hV.1
  have hH0 := hH.1.1
  have hD0 := hD.1
  have t10 := t1.1
  have t20 := t2.1
  have t30 := t3.1
  obtain ⟨σ, hS, hv⟩ := hp.2.1
  have hk := hS.1.1
  refine z_start hf rfl (by decide +kernel) (Nat.le_of_ble_eq_true rfl) ?_
  dsimp only [zz_lv0]
  refine z_aload_n ee_P_lineCharacter_0 rfl ?_
  refine z_getR ee_P_lineCharacter_1 ff_P_lineCharacter_21 (by assumption) il_0_2 (by assumption) ?_
  refine z_iload_n ee_P_lineCharacter_4 rfl ?_
  -- at 5
  refine z_callV (As := [_]) ee_P_lineCharacter_5 kk_P_lineCharacter_217 rfl (by assumption) rfl rfl (Nat.le_of_ble_eq_true rfl) (by omega) (sp_T_has hf t3 hp.1.2.2 i) (fun E h1 hx => hx.elim) (fun v h1 hq => ?_)
  obtain ⟨rfl, rfl⟩ := hq
  refine z_if_ne ee_P_lineCharacter_8 (tgt := 19) (by decide) (fun c_8 => ?_) (fun c_8 => ?_)
  -- at 8
  · rw [zz_tf_n0] at c_8
    rw [if_pos c_8]
    refine z_aload_n ee_P_lineCharacter_19 rfl ?_
    refine z_getR ee_P_lineCharacter_20 ff_P_lineCharacter_21 (by assumption) il_0_2 (by assumption) ?_
    refine z_iload_n ee_P_lineCharacter_23 rfl ?_
    -- at 24
    refine z_callV (As := [_]) ee_P_lineCharacter_24 kk_P_lineCharacter_221 rfl (by assumption) rfl rfl (Nat.le_of_ble_eq_true rfl) (by omega) (sp_T_at hf t3 hp.1.2.2 i) (fun E h1 hx => hx.elim) (fun v h1 hq => ?_)
    obtain ⟨rfl, rfl, hch⟩ := hq
    refine z_zret ee_P_lineCharacter_27 (ty := .char) rfl hch.nar (by omega) (by omega) ?_
    -- at 27
    exact zz_PQ.same hO'
  · rw [zz_tf_0] at c_8
    rw [if_neg c_8]
    refine z_throw tt_P_lineCharacter_11 rfl (Nat.le_of_ble_eq_true rfl) (by omega) (by omega) (fun z1 hz1 => ?_)
    -- at 11
    exact zz_PX.same hO' hz1
end Qry
