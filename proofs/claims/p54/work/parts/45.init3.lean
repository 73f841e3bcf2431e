/-! CONSTRUCTORS: the rest -/
def ov_0 : zz_OV := ([], [], [], sv_0, sv_0, false, [], -1, (-1, 0, -1))
section Init3
variable {g : zz_G} {l : Launch} {K K' K2 : Nat → Nat × Nat} {R R' R2 : Nat → Nat → Option Nat} {I I' I2 : Nat → Nat → Int32} {L : Nat → Nat → Int64} {S t n m H C Q D B : Nat}
theorem zz_Ss.lo (h : zz_Ss g K R S) (hl : zz_lo n K K' R R' I I') (hn : S + 131 ≤ n) : zz_Ss g K' R' S := by
  obtain ⟨σ, h⟩ := h
  exact ⟨σ, h.lo hl hn⟩
theorem zz_So.lo {v : zz_SV} (h : zz_So g K R I S v) (hl : zz_lo n K K' R R' I I') (hn : S + 131 ≤ n) : zz_So g K' R' I' S v := by
  obtain ⟨σ, h1, h2⟩ := h
  exact ⟨σ, h1.lo hl hn, h2.in h1.2.2.2.1 (hl.2.2.wid (by omega) hn)⟩
theorem zz_lo.aK {kd : Nat × Nat} (h : zz_lo n K K' R R' I I') {a : Nat} (ha : a < n) (hk : K a = kd) : K' a = kd := by rw [h.1 a (by omega) ha]; exact hk
theorem zz_lo.aR {k b : Nat} (h : zz_lo n K K' R R' I I') {a : Nat} (ha : a < n) (hk : R a k = some b) : R' a k = some b := by rw [h.2.1 a (by omega) ha]; exact hk
theorem zz_H_loop (hf : l.stackTraces = false) {Q : Option Value → zz_H → Prop} {K0 : Nat → Nat × Nat} {R0 : Nat → Nat → Option Nat} {I0 : Nat → Nat → Int32} (hA : zz_A g H) (h0 : K0 H = zz_o 4) (h1 : R0 H 0 = some (H + 1)) (hQ : ∀ K R I L, zz_lo (H + 1) K0 K R0 R I0 I → K (H + 1) = zz_a 5 9 → (∀ j, j < 9 → zz_Ss g K R (H + 2 + 131 * j) ∧ R (H + 1) j = some (H + 2 + 131 * j)) → Q none (K, R, I, L, H + 1181)) : ∀ (k i : Nat) (K : Nat → Nat × Nat) (R : Nat → Nat → Option Nat) (I : Nat → Nat → Int32) (L : Nat → Nat → Int64), i + k = 9 → zz_lo (H + 1) K0 K R0 R I0 I → K (H + 1) = zz_a 5 9 → (∀ j, j < i → zz_Ss g K R (H + 2 + 131 * j) ∧ R (H + 1) j = some (H + 2 + 131 * j)) →
    Zz g l mm_H_init 1180 32940 Q zz_no (1 + 131 * i) (9 + 3659 * i) 25 [some (.ref H), some (.int (nI i))] [] (K, R, I, L, H + 2 + 131 * i) := by
  intro k
  induction k with
  | zero =>
    intro i K R I L hi hl hK hj
    have e0 : K H = zz_o 4 := hl.aK (by omega) h0
    have e1 : R H 0 = some (H + 1) := hl.aR (by omega) h1
    refine z_iload_n ee_H_init_25 rfl ?_
    refine z_aload_n ee_H_init_26 rfl ?_
    refine z_getR ee_H_init_27 ff_H_init_13 (by assumption) il_4_0 (by assumption) ?_
    refine z_alen ee_H_init_30 (by assumption) ?_
    refine z_icmp_ge ee_H_init_31 (tgt := 53) (by decide) (fun c_31 => ?_) (fun c_31 => ?_)
    -- at 31
    · refine z_vret ee_H_init_53 rfl (by omega) (by omega) ?_
      -- at 53
      rw [show H + 2 + 131 * i = H + 1181 by omega]
      exact hQ K R I L hl hK (fun j h => hj j (by omega))
    · simp (disch := omega) only [zi_lt, zi_le, zi_eq, zi_n, zi_0, zi_m1] at c_31
      omega
  | succ k ih =>
    intro i K R I L hi hl hK hj
    have e0 : K H = zz_o 4 := hl.aK (by omega) h0
    have e1 : R H 0 = some (H + 1) := hl.aR (by omega) h1
    refine z_iload_n ee_H_init_25 rfl ?_
    refine z_aload_n ee_H_init_26 rfl ?_
    refine z_getR ee_H_init_27 ff_H_init_13 (by assumption) il_4_0 (by assumption) ?_
    refine z_alen ee_H_init_30 (by assumption) ?_
    refine z_icmp_ge ee_H_init_31 (tgt := 53) (by decide) (fun c_31 => ?_) (fun c_31 => ?_)
    -- at 31
    · simp (disch := omega) only [zi_lt, zi_le, zi_eq, zi_n, zi_0, zi_m1] at c_31
      omega
    · refine z_aload_n ee_H_init_34 rfl ?_
      refine z_getR ee_H_init_35 ff_H_init_13 (by assumption) il_4_0 (by assumption) ?_
      refine z_iload_n ee_H_init_38 rfl ?_
      refine z_new ee_H_init_39 nn_H_init_11 (by omega) (by omega) (fun hz39 => ?_)
      refine z_dup ee_H_init_42 rfl ?_
      -- at 43
      refine z_callI (As := []) ee_H_init_43 kk_H_init_24 rfl rfl (Nat.le_of_ble_eq_true rfl) (by omega) (sp_S_init hf zz_K_s hz39) (fun E h1 hx => hx.elim) (fun v h1 hq => ?_)
      obtain ⟨K2, R2, I2, L2, rfl, rfl, hS2, hk2, hl2⟩ := hq
      have hl3 : zz_lo (H + 2 + 131 * i) K K2 R R2 I I2 := ⟨(zz_kt.rf.k0 (by omega)).trans hl2.1, (zz_kt.rf.z0 (by omega)).trans hl2.2.1, (zz_kt.rf.z0 (by omega)).trans hl2.2.2⟩
      have e2 : K2 (H + 1) = zz_a 5 9 := hl3.aK (by omega) hK
      refine z_aast ee_H_init_46 e2 (by unfold zz_A at hA ⊢; omega) (Or.inr ⟨rfl, hk2⟩) hz39 rfl (by omega) (by omega) ?_
      refine z_iinc ee_H_init_47 rfl rfl (by decide) ?_
      refine z_goto ee_H_init_50 (tgt := 25) (by decide) ?_
      -- at 25
      rw [zz_iinc1, show H + 2 + 131 * i + 131 = H + 2 + 131 * (i + 1) by omega]
      have hup : zz_lo (H + 1) K2 K2 R2 (zz_up R2 (H + 1) i (some (H + 2 + 131 * i))) I2 I2 := ⟨zz_kt.rf, zz_kt.rf.u0 (by omega), zz_kt.rf⟩
      refine z_wid (ce' := 1 + 131 * (i + 1)) (sl' := 9 + 3659 * (i + 1)) (by omega) (by omega) (ih (i + 1) K2 _ I2 L2 (by omega) ((hl.trans (hl3.wid (by omega))).trans hup) e2 (fun j hj2 => ?_))
      have frg : ∀ x, zz_Ss g K2 R2 (H + 2 + 131 * x) → zz_Ss g K2 (zz_up R2 (H + 1) i (some (H + 2 + 131 * i))) (H + 2 + 131 * x) := fun x hx => hx.in (fun b q1 q2 => zz_up_r (by omega))
      by_cases q : j = i
      · subst q
        exact ⟨frg _ hS2.ss, zz_up_s⟩
      · obtain ⟨q1, q2⟩ := hj j (by omega)
        exact ⟨frg _ (q1.lo hl3 (by omega)), by rw [zz_up_k q, hl3.2.1 _ (by omega) (by omega)]; exact q2⟩
theorem sp_H_init (hf : l.stackTraces = false) (hK : K H = zz_o 4) (hA : zz_A g H) : zz_S g l mm_H_init 1180 32940 [.ref H] (K, R, I, L, H + 1) (fun v h' => ∃ K' R' I' L', h' = (K', R', I', L', H + 1181) ∧ v = none ∧ zz_Hx g K' R' H ∧ zz_hx g K' R' I' H 0 [] ∧ zz_lo H K K' R R' I I') zz_no := by
  refine z_start hf rfl (by decide +kernel) (Nat.le_of_ble_eq_true rfl) ?_
  dsimp only [zz_lv0]
  refine z_aload_n ee_H_init_0 rfl ?_
  refine z_obj ee_H_init_1 oo_H_init_3 cw_oi cw_oc (Nat.le_of_ble_eq_true rfl) (Nat.le_of_ble_eq_true rfl) ?_
  refine z_aload_n ee_H_init_4 rfl ?_
  refine z_bipush ee_H_init_5 (v := nI 9) (by decide) ?_
  -- at 7
  refine z_anew (t := 5) (c := 5) ee_H_init_7 (Or.inr ⟨rfl, rfl⟩) nn_H_init_11.1 rfl (by omega) (by omega) (by omega) (fun hz7 => ?_)
  refine z_putR ee_H_init_10 ff_H_init_13 (by first | assumption | (rw [zz_K_n (by omega)]; assumption) | (rw [zz_K_n (by omega), zz_K_n (by omega)]; assumption)) (by assumption) il_4_0 (Or.inr ⟨rfl, dl_4_0⟩) (nl_4_0 _) (pl_4_0 _) ?_
  refine z_aload_n ee_H_init_13 rfl ?_
  refine z_iconst ee_H_init_14 (v := nI 0) (by decide) ?_
  refine z_putI ee_H_init_15 ff_H_init_17 (by first | assumption | (rw [zz_K_n (by omega)]; assumption) | (rw [zz_K_n (by omega), zz_K_n (by omega)]; assumption)) (by assumption) tl_4_1 fl_4_1 ?_
  refine z_aload_n ee_H_init_18 rfl ?_
  refine z_iconst ee_H_init_19 (v := nI 0) (by decide) ?_
  refine z_putI ee_H_init_20 ff_H_init_21 (by first | assumption | (rw [zz_K_n (by omega)]; assumption) | (rw [zz_K_n (by omega), zz_K_n (by omega)]; assumption)) (by assumption) tl_4_2 fl_4_2 ?_
  refine z_iconst ee_H_init_23 (v := nI 0) (by decide) ?_
  refine z_istore_m ee_H_init_24 (j := 1) rfl (by decide) ?_
  -- at 25
  refine zz_H_loop (K0 := _) (R0 := _) (I0 := _) hf hA ?_ ?_ (fun K2 R2 I2 L2 hl hk hg => ?_) 9 0 _ _ _ _ (by omega) ⟨zz_kt.rf, zz_kt.rf, zz_kt.rf⟩ ?_ (fun j hj => absurd hj (by omega))
  · rw [zz_K_n (by omega)]; exact hK
  · rw [zz_up_s]
  · have hlo : zz_lo H K K2 R R2 I I2 := ⟨(zz_kt.rf.k0 (by omega)).trans (hl.1.wid (by omega) (by omega)), ((zz_kt.rf.z0 (by omega)).u0 (by omega)).trans (hl.2.1.wid (by omega) (by omega)), ((zz_kt.rf.u0 (by omega)).u0 (by omega)).trans (hl.2.2.wid (by omega) (by omega))⟩
    have eI : ∀ k, I2 H k = _ := fun k => congrFun (hl.2.2 H (by omega) (by omega)) k
    refine ⟨K2, R2, I2, L2, rfl, rfl, ⟨⟨hl.aK (by omega) (by rw [zz_K_n (by omega)]; exact hK), hl.aR (by omega) (by rw [zz_up_s]), hk, hA⟩, fun j hj => (hg j hj).2, fun j hj => (hg j hj).1⟩, ⟨?_, by omega, ?_, Nat.zero_le 8, fun i x hx => absurd (zz_lt_of hx) (Nat.not_lt_zero i)⟩, hlo⟩
    · rw [eI, zz_up_k (by decide), zz_up_s]
    · rw [eI, zz_up_s]; rfl
  · exact zz_K_s
theorem sp_V_init (hf : l.stackTraces = false) (hK : K C = zz_o 1) (hA : zz_A g C) : zz_S g l mm_V_init 135 4959 [.ref C] (K, R, I, L, C + 1) (fun v h' => ∃ K' R' I' L', h' = (K', R', I', L', C + 136) ∧ v = none ∧ zz_Vx g K' R' C ∧ zz_So g K' R' I' (C + 1) sv_0 ∧ zz_lo C K K' R R' I I') zz_no := by
  refine z_start hf rfl (by decide +kernel) (Nat.le_of_ble_eq_true rfl) ?_
  dsimp only [zz_lv0]
  refine z_aload_n ee_V_init_0 rfl ?_
  refine z_obj ee_V_init_1 oo_V_init_3 cw_oi cw_oc (Nat.le_of_ble_eq_true rfl) (Nat.le_of_ble_eq_true rfl) ?_
  refine z_aload_n ee_V_init_4 rfl ?_
  refine z_new ee_V_init_5 nn_V_init_9 (by omega) (by omega) (fun hz5 => ?_)
  refine z_dup ee_V_init_8 rfl ?_
  -- at 9
  refine z_callI (As := []) ee_V_init_9 kk_V_init_11 rfl rfl (Nat.le_of_ble_eq_true rfl) (by omega) (sp_S_init hf zz_K_s hz5) (fun E h1 hx => hx.elim) (fun v h1 hq => ?_)
  obtain ⟨K2, R2, I2, L2, rfl, rfl, hS2, hk2, hl2⟩ := hq
  have e2 : K2 C = zz_o 1 := hl2.aK (by omega) (by rw [zz_K_n (by omega)]; exact hK)
  rw [show C + 1 + 131 = C + 132 by omega]
  have m0 : zz_lo C K K2 R R2 I I2 := ⟨(zz_kt.rf.k0 (by omega)).trans (hl2.1.wid (by omega) (by omega)), (zz_kt.rf.z0 (by omega)).trans (hl2.2.1.wid (by omega) (by omega)), (zz_kt.rf.z0 (by omega)).trans (hl2.2.2.wid (by omega) (by omega))⟩
  refine z_putR ee_V_init_12 ff_V_init_12 (by first | assumption | (rw [zz_K_n (by omega)]; assumption) | (rw [zz_K_n (by omega), zz_K_n (by omega)]; assumption)) (by assumption) il_1_0 (Or.inr ⟨rfl, dl_1_0⟩) (nl_1_0 _) (pl_1_0 _) ?_
  refine z_aload_n ee_V_init_15 rfl ?_
  refine z_new ee_V_init_16 nn_V_init_18 (by omega) (by omega) (fun hz16 => ?_)
  refine z_dup ee_V_init_19 rfl ?_
  refine z_sipush ee_V_init_20 (v := nI 432) (by decide) ?_
  -- at 23
  refine z_callI (As := [_]) ee_V_init_23 kk_V_init_20 rfl rfl (Nat.le_of_ble_eq_true rfl) (by omega) (sp_T_init hf 432 (by omega) zz_K_s hz16) (fun E h1 hx => hx.elim) (fun v h1 hq => ?_)
  obtain ⟨K3, R3, I3, L3, rfl, rfl, hT3, hx3, hl3⟩ := hq
  have e3 : K3 C = zz_o 1 := hl3.aK (by omega) (by rw [zz_K_n (by omega)]; exact e2)
  have m3 : zz_lo (C + 132) K2 K3 (zz_up R2 C 0 (some (C + 1))) R3 I2 I3 := ⟨(zz_kt.rf.k0 (by omega)).trans hl3.1, (zz_kt.rf.z0 (by omega)).trans hl3.2.1, (zz_kt.rf.z0 (by omega)).trans hl3.2.2⟩
  rw [show C + 132 + 2 = C + 134 by omega]
  refine z_putR ee_V_init_26 ff_V_init_23 (by first | assumption | (rw [zz_K_n (by omega)]; assumption) | (rw [zz_K_n (by omega), zz_K_n (by omega)]; assumption)) (by assumption) il_1_1 (Or.inr ⟨rfl, dl_1_1⟩) (nl_1_1 _) (pl_1_1 _) ?_
  refine z_aload_n ee_V_init_29 rfl ?_
  refine z_new ee_V_init_30 nn_V_init_18 (by omega) (by omega) (fun hz30 => ?_)
  refine z_dup ee_V_init_33 rfl ?_
  refine z_sipush ee_V_init_34 (v := nI 864) (by decide) ?_
  -- at 37
  refine z_callI (As := [_]) ee_V_init_37 kk_V_init_20 rfl rfl (Nat.le_of_ble_eq_true rfl) (by omega) (sp_T_init hf 864 (by omega) zz_K_s hz30) (fun E h1 hx => hx.elim) (fun v h1 hq => ?_)
  obtain ⟨K4, R4, I4, L4, rfl, rfl, hT4, hx4, hl4⟩ := hq
  have e4 : K4 C = zz_o 1 := hl4.aK (by omega) (by rw [zz_K_n (by omega)]; exact e3)
  have m4 : zz_lo (C + 134) K3 K4 (zz_up R3 C 1 (some (C + 132))) R4 I3 I4 := ⟨(zz_kt.rf.k0 (by omega)).trans hl4.1, (zz_kt.rf.z0 (by omega)).trans hl4.2.1, (zz_kt.rf.z0 (by omega)).trans hl4.2.2⟩
  refine z_putR ee_V_init_40 ff_V_init_27 (by first | assumption | (rw [zz_K_n (by omega)]; assumption) | (rw [zz_K_n (by omega), zz_K_n (by omega)]; assumption)) (by assumption) il_1_2 (Or.inr ⟨rfl, dl_1_2⟩) (nl_1_2 _) (pl_1_2 _) ?_
  refine z_aload_n ee_V_init_43 rfl ?_
  refine z_iconst ee_V_init_44 (v := nI 0) (by decide) ?_
  refine z_putI ee_V_init_45 ff_V_init_30 (by first | assumption | (rw [zz_K_n (by omega)]; assumption) | (rw [zz_K_n (by omega), zz_K_n (by omega)]; assumption)) (by assumption) tl_1_3 fl_1_3 ?_
  refine z_vret ee_V_init_48 rfl (by omega) (by omega) ?_
  -- at 48
  refine ⟨K4, _, _, L4, rfl, rfl, ⟨e4, ?_, ?_, zz_up_s, ?_, hT4.in ?_, hA⟩, ?_, ?_⟩
  · rw [zz_up_k (by decide), m4.2.1 _ (by omega) (by omega), zz_up_k (by decide), m3.2.1 _ (by omega) (by omega), zz_up_s]
  · rw [zz_up_k (by decide), m4.2.1 _ (by omega) (by omega), zz_up_s]
  · exact ((hT3.in (R' := zz_up R3 C 1 (some (C + 132))) (fun b q1 q2 => zz_up_r (by omega))).lo m4 (by omega)).in (fun b q1 q2 => zz_up_r (by omega))
  · exact fun b q1 q2 => zz_up_r (by omega)
  · have s1 := (hS2.in (R' := zz_up R2 C 0 (some (C + 1))) (fun b q1 q2 => zz_up_r (by omega)) zz_kt.rf).lo m3 (by omega)
    have s2 := (s1.in (R' := zz_up R3 C 1 (some (C + 132))) (fun b q1 q2 => zz_up_r (by omega)) zz_kt.rf).lo m4 (by omega)
    exact s2.in (fun b q1 q2 => zz_up_r (by omega)) (fun b q1 q2 => zz_up_r (by omega))
  · refine ⟨m0.1.trans ((m3.1.wid (by omega) (by omega)).trans (m4.1.wid (by omega) (by omega))), ?_, ?_⟩
    · exact ((((m0.2.1.u0 (by omega)).trans (m3.2.1.wid (by omega) (by omega))).u0 (by omega)).trans (m4.2.1.wid (by omega) (by omega))).u0 (by omega)
    · exact ((m0.2.2.trans (m3.2.2.wid (by omega) (by omega))).trans (m4.2.2.wid (by omega) (by omega))).u0 (by omega)
theorem sp_C_init (hf : l.stackTraces = false) (hK : K Q = zz_o 2) (hA : zz_A g Q) : zz_S g l mm_C_init 3 30 [.ref Q] (K, R, I, L, Q + 1) (fun v h' => ∃ K' R' I' L', h' = (K', R', I', L', Q + 4) ∧ v = none ∧ zz_Cx g K' R' Q ∧ zz_lo Q K K' R R' I I') zz_no := by
  refine z_start hf rfl (by decide +kernel) (Nat.le_of_ble_eq_true rfl) ?_
  dsimp only [zz_lv0]
  refine z_aload_n ee_C_init_0 rfl ?_
  refine z_obj ee_C_init_1 oo_C_init_3 cw_oi cw_oc (Nat.le_of_ble_eq_true rfl) (Nat.le_of_ble_eq_true rfl) ?_
  refine z_aload_n ee_C_init_4 rfl ?_
  refine z_bipush ee_C_init_5 (v := nI 10) (by decide) ?_
  refine z_newa (t := 0) ee_C_init_7 (by omega) cw_int rfl (by omega) (by omega) (by omega) (fun hz7 => ?_)
  refine z_putR ee_C_init_9 ff_C_init_9 (by first | assumption | (rw [zz_K_n (by omega)]; assumption) | (rw [zz_K_n (by omega), zz_K_n (by omega)]; assumption)) (by assumption) il_2_0 (Or.inr ⟨rfl, dl_2_0⟩) (nl_2_0 _) (pl_2_0 _) ?_
  refine z_aload_n ee_C_init_12 rfl ?_
  refine z_bipush ee_C_init_13 (v := nI 10) (by decide) ?_
  refine z_newa (t := 0) ee_C_init_15 (by omega) cw_int rfl (by omega) (by omega) (by omega) (fun hz15 => ?_)
  refine z_putR ee_C_init_17 ff_C_init_15 (by first | assumption | (rw [zz_K_n (by omega)]; assumption) | (rw [zz_K_n (by omega), zz_K_n (by omega)]; assumption)) (by assumption) il_2_1 (Or.inr ⟨rfl, dl_2_1⟩) (nl_2_1 _) (pl_2_1 _) ?_
  -- at 20
  have eK : zz_K (zz_K K (Q + 1) (zz_a 0 10)) (Q + 1 + 1) (zz_a 0 10) Q = zz_o 2 := by rw [zz_K_n (by omega), zz_K_n (by omega)]; exact hK
  refine z_aload_n ee_C_init_20 rfl ?_
  refine z_bipush ee_C_init_21 (v := nI 10) (by decide) ?_
  refine z_newa (t := 0) ee_C_init_23 (by omega) cw_int rfl (by omega) (by omega) (by omega) (fun hz23 => ?_)
  refine z_putR ee_C_init_25 ff_C_init_18 (by first | assumption | (rw [zz_K_n (by omega)]; assumption) | (rw [zz_K_n (by omega), zz_K_n (by omega)]; assumption)) (by assumption) il_2_2 (Or.inr ⟨rfl, dl_2_2⟩) (nl_2_2 _) (pl_2_2 _) ?_
  -- at 28
  have eK2 : zz_K (zz_K (zz_K K (Q + 1) (zz_a 0 10)) (Q + 1 + 1) (zz_a 0 10)) (Q + 1 + 1 + 1) (zz_a 0 10) Q = zz_o 2 := by rw [zz_K_n (by omega)]; exact eK
  refine z_aload_n ee_C_init_28 rfl ?_
  refine z_iconst ee_C_init_29 (v := nI 0) (by decide) ?_
  refine z_putI ee_C_init_30 ff_C_init_21 (by first | assumption | (rw [zz_K_n (by omega)]; assumption) | (rw [zz_K_n (by omega), zz_K_n (by omega)]; assumption)) (by assumption) tl_2_3 fl_2_3 ?_
  refine z_aload_n ee_C_init_33 rfl ?_
  refine z_iconst ee_C_init_34 (v := nI 0) (by decide) ?_
  refine z_putI ee_C_init_35 ff_C_init_25 (by first | assumption | (rw [zz_K_n (by omega)]; assumption) | (rw [zz_K_n (by omega), zz_K_n (by omega)]; assumption)) (by assumption) tl_2_4 fl_2_4 ?_
  refine z_vret ee_C_init_38 rfl (by omega) (by omega) ?_
  -- at 38
  refine ⟨_, _, _, _, rfl, rfl, ⟨eK2, ?_, ?_, zz_up_s, ?_, ?_, zz_K_s, hA, by unfold zz_A at hA ⊢; omega, by unfold zz_A at hA ⊢; omega, by unfold zz_A at hA ⊢; omega⟩, ((zz_kt.rf.k0 (by omega)).k0 (by omega)).k0 (by omega), ((zz_kt.rf.u0 (by omega)).u0 (by omega)).u0 (by omega), ((((zz_kt.rf.z0 (by omega)).z0 (by omega)).z0 (by omega)).u0 (by omega)).u0 (by omega)⟩
  · rw [zz_up_k (by decide), zz_up_k (by decide), zz_up_s]
  · rw [zz_up_k (by decide), zz_up_s]
  · rw [zz_K_n (by omega), zz_K_n (by omega), zz_K_s]
  · rw [zz_K_n (by omega), zz_K_s]
theorem sp_D_init (hf : l.stackTraces = false) (hK : K D = zz_o 3) (hA : zz_A g D) : zz_S g l mm_D_init 0 0 [.ref D] (K, R, I, L, D + 1) (fun v h' => ∃ I', h' = (K, R, I', L, D + 1) ∧ v = none ∧ (I' D 0 = -1 ∧ I' D 1 = 0 ∧ I' D 2 = -1) ∧ zz_kt 0 D I I') zz_no := by
  refine z_start hf rfl (by decide +kernel) (Nat.le_of_ble_eq_true rfl) ?_
  dsimp only [zz_lv0]
  refine z_aload_n ee_D_init_0 rfl ?_
  refine z_obj ee_D_init_1 oo_D_init_3 cw_oi cw_oc (Nat.le_of_ble_eq_true rfl) (Nat.le_of_ble_eq_true rfl) ?_
  refine z_aload_n ee_D_init_4 rfl ?_
  refine z_iconst ee_D_init_5 (v := -1) (by decide) ?_
  refine z_putI ee_D_init_6 ff_D_init_9 (by first | assumption | (rw [zz_K_n (by omega)]; assumption) | (rw [zz_K_n (by omega), zz_K_n (by omega)]; assumption)) (by assumption) tl_3_0 fl_3_0 ?_
  refine z_aload_n ee_D_init_9 rfl ?_
  refine z_iconst ee_D_init_10 (v := nI 0) (by decide) ?_
  refine z_putI ee_D_init_11 ff_D_init_15 (by first | assumption | (rw [zz_K_n (by omega)]; assumption) | (rw [zz_K_n (by omega), zz_K_n (by omega)]; assumption)) (by assumption) tl_3_1 fl_3_1 ?_
  refine z_aload_n ee_D_init_14 rfl ?_
  refine z_iconst ee_D_init_15 (v := -1) (by decide) ?_
  refine z_putI ee_D_init_16 ff_D_init_18 (by first | assumption | (rw [zz_K_n (by omega)]; assumption) | (rw [zz_K_n (by omega), zz_K_n (by omega)]; assumption)) (by assumption) tl_3_2 fl_3_2 ?_
  refine z_vret ee_D_init_19 rfl (by omega) (by omega) ?_
  -- at 19
  refine ⟨_, rfl, rfl, ⟨?_, ?_, zz_up_s⟩, ((zz_kt.rf.u0 (by omega)).u0 (by omega)).u0 (by omega)⟩
  · rw [zz_up_k (by decide), zz_up_k (by decide), zz_up_s]
  · rw [zz_up_k (by decide), zz_up_s]; rfl
end Init3
