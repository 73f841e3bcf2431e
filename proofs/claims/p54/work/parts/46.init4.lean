/-! CONSTRUCTORS: the object -/
def zz_mv (lo hi : Nat) (K K' : Nat → Nat × Nat) (R R' : Nat → Nat → Option Nat) (I I' : Nat → Nat → Int32) : Prop := zz_kt lo hi K K' ∧ zz_kt lo hi R R' ∧ zz_kt lo hi I I'
def zz_lay (B n : Nat) : Nat := B + [1, 3, 5, 7, 8, 143, 274, 1455, 1459].getD n 0
def zz_fl (R : Nat → Nat → Option Nat) (B n : Nat) : Prop := ∀ k, k < n → R B k = some (zz_lay B k)
section Init4
variable {g : zz_G} {l : Launch} {K K' K2 : Nat → Nat × Nat} {R R' R2 : Nat → Nat → Option Nat} {I I' I2 : Nat → Nat → Int32} {L : Nat → Nat → Int64} {S t n m H C Q D B lo hi f : Nat}
theorem zz_mv.trans (h : zz_mv lo hi K K' R R' I I') (h' : zz_mv lo hi K' K2 R' R2 I' I2) : zz_mv lo hi K K2 R R2 I I2 := ⟨h.1.trans h'.1, h.2.1.trans h'.2.1, h.2.2.trans h'.2.2⟩
theorem zz_mv.wid {lo' hi' : Nat} (h : zz_mv lo hi K K' R R' I I') (h1 : lo ≤ lo') (h2 : hi' ≤ hi) : zz_mv lo' hi' K K' R R' I I' := ⟨h.1.wid h1 h2, h.2.1.wid h1 h2, h.2.2.wid h1 h2⟩
theorem zz_lo.mv (h : zz_lo n K K' R R' I I') (hn : hi ≤ n) : zz_mv lo hi K K' R R' I I' := ⟨h.1.wid (by omega) hn, h.2.1.wid (by omega) hn, h.2.2.wid (by omega) hn⟩
theorem zz_mv.put {k : Nat} {x : Option Nat} (hB : B < lo) : zz_mv lo hi K K R (zz_up R B k x) I I := ⟨zz_kt.rf, fun b q1 q2 => zz_up_r (by omega), zz_kt.rf⟩
theorem zz_fl.put (h : zz_fl R B n) : zz_fl (zz_up R B n (some (zz_lay B n))) B (n + 1) := fun k hk => by
  by_cases q : k = n
  · subst q; exact zz_up_s
  · rw [zz_up_k q]; exact h k (by omega)
theorem zz_fl.low (h : zz_fl R B n) (hl : zz_lo m K K' R R' I I') (hm : B < m) : zz_fl R' B n := fun k hk => by rw [hl.2.1 B (by omega) hm]; exact h k hk
theorem zz_new {kd : Nat × Nat} {a : Nat} (h : zz_lo a (zz_K K a kd) K2 (zz_0 R a none) R2 (zz_0 I a 0) I2) : zz_lo a K K2 R R2 I I2 := ⟨(zz_kt.rf.k0 (by omega)).trans h.1, (zz_kt.rf.z0 (by omega)).trans h.2.1, (zz_kt.rf.z0 (by omega)).trans h.2.2⟩
theorem zz_Tx.mv (h : zz_Tx g K R t m) (hl : zz_mv lo hi K K' R R' I I') (h1 : lo ≤ t) (hn : t + 2 ≤ hi) : zz_Tx g K' R' t m := by
  obtain ⟨k1, k2, k3, k4, k5, k6⟩ := h
  exact ⟨by rw [hl.1 _ (by omega) (by omega)]; exact k1, by rw [hl.2.1 _ (by omega) (by omega)]; exact k2, by rw [hl.1 _ (by omega) (by omega)]; exact k3, k4, k5, k6⟩
theorem zz_Gx.mv (h : zz_Gx g K R t) (hl : zz_mv lo hi K K' R R' I I') (h1 : lo ≤ t) (hn : t + 4 ≤ hi) : zz_Gx g K' R' t := by
  obtain ⟨k1, k2, k3, k4, k5, k6, k7⟩ := h
  exact ⟨by rw [hl.1 _ (by omega) (by omega)]; exact k1, by rw [hl.2.1 _ (by omega) (by omega)]; exact k2, k3.mv hl (by omega) (by omega), by rw [hl.2.1 _ (by omega) (by omega)]; exact k4, by rw [hl.1 _ (by omega) (by omega)]; exact k5, k6, k7⟩
theorem zz_Sx.mv {σ : Nat → Nat} (h : zz_Sx g K R S σ) (hl : zz_mv lo hi K K' R R' I I') (h1 : lo ≤ S) (hn : S + 131 ≤ hi) : zz_Sx g K' R' S σ := by
  obtain ⟨⟨k1, k2, k3, k4, k5, k6, k7, k8⟩, hG, hr, hσ, hj⟩ := h
  exact ⟨⟨by rw [hl.1 _ (by omega) (by omega)]; exact k1, by rw [hl.2.1 _ (by omega) (by omega)]; exact k2, by rw [hl.2.1 _ (by omega) (by omega)]; exact k3, by rw [hl.1 _ (by omega) (by omega)]; exact k4, by rw [hl.1 _ (by omega) (by omega)]; exact k5, k6, k7, k8⟩, fun j hj => (hG j hj).mv hl (by omega) (by omega), fun i hi => by rw [hl.2.1 _ (by omega) (by omega)]; exact hr i hi, hσ, hj⟩
theorem zz_Ss.mv (h : zz_Ss g K R S) (hl : zz_mv lo hi K K' R R' I I') (h1 : lo ≤ S) (hn : S + 131 ≤ hi) : zz_Ss g K' R' S := by
  obtain ⟨σ, h⟩ := h
  exact ⟨σ, h.mv hl h1 hn⟩
theorem zz_So.mv {v : zz_SV} (h : zz_So g K R I S v) (hl : zz_mv lo hi K K' R R' I I') (h1 : lo ≤ S) (hn : S + 131 ≤ hi) : zz_So g K' R' I' S v := by
  obtain ⟨σ, h3, h2⟩ := h
  exact ⟨σ, h3.mv hl h1 hn, h2.in h3.2.2.2.1 (hl.2.2.wid h1 hn)⟩
theorem zz_Vx.mv (h : zz_Vx g K R C) (hl : zz_mv lo hi K K' R R' I I') (h1 : lo ≤ C) (hn : C + 136 ≤ hi) : zz_Vx g K' R' C := by
  obtain ⟨k1, k2, k3, k4, k5, k6, k7⟩ := h
  exact ⟨by rw [hl.1 _ (by omega) (by omega)]; exact k1, by rw [hl.2.1 _ (by omega) (by omega)]; exact k2, by rw [hl.2.1 _ (by omega) (by omega)]; exact k3, by rw [hl.2.1 _ (by omega) (by omega)]; exact k4, k5.mv hl (by omega) (by omega), k6.mv hl (by omega) (by omega), k7⟩
theorem zz_Hx.mv (h : zz_Hx g K R H) (hl : zz_mv lo hi K K' R R' I I') (h1 : lo ≤ H) (hn : H + 1181 ≤ hi) : zz_Hx g K' R' H := by
  obtain ⟨⟨k1, k2, k3, k4⟩, hr, hs⟩ := h
  exact ⟨⟨by rw [hl.1 _ (by omega) (by omega)]; exact k1, by rw [hl.2.1 _ (by omega) (by omega)]; exact k2, by rw [hl.1 _ (by omega) (by omega)]; exact k3, k4⟩, fun j hj => by rw [hl.2.1 _ (by omega) (by omega)]; exact hr j hj, fun j hj => (hs j hj).mv hl (by omega) (by omega)⟩
theorem zz_hx.mv {hs : List zz_SV} (h : zz_hx g K R I H f hs) (hl : zz_mv lo hi K K' R R' I I') (h1 : lo ≤ H) (hn : H + 1181 ≤ hi) : zz_hx g K' R' I' H f hs := by
  obtain ⟨k1, k2, k3, k4, k5⟩ := h
  have e : I' H = I H := hl.2.2 _ (by omega) (by omega)
  refine ⟨by rw [e]; exact k1, k2, by rw [e]; exact k3, k4, fun i v hi => ?_⟩
  have h6 := Nat.mod_lt (f + i) (show 0 < 9 by decide)
  exact (k5 i v hi).mv hl (by omega) (by omega)
theorem zz_Cx.mv (h : zz_Cx g K R Q) (hl : zz_mv lo hi K K' R R' I I') (h1 : lo ≤ Q) (hn : Q + 4 ≤ hi) : zz_Cx g K' R' Q := by
  obtain ⟨k1, k2, k3, k4, k5, k6, k7, k8⟩ := h
  have e : R' Q = R Q := hl.2.1 _ (by omega) (by omega)
  exact ⟨by rw [hl.1 _ (by omega) (by omega)]; exact k1, by rw [e]; exact k2, by rw [e]; exact k3, by rw [e]; exact k4, by rw [hl.1 _ (by omega) (by omega)]; exact k5, by rw [hl.1 _ (by omega) (by omega)]; exact k6, by rw [hl.1 _ (by omega) (by omega)]; exact k7, k8⟩
theorem sp_P_init (hf : l.stackTraces = false) (hK : K B = zz_o 0) (hA : zz_A g B) : zz_S g l mm_P_init 1459 42141 [.ref B] (K, R, I, L, B + 1) (fun v h' => ∃ K' R' I' L', h' = (K', R', I', L', B + 1460) ∧ v = none ∧ zz_Ob g K' R' I' B ov_0 ∧ zz_lo B K K' R R' I I') zz_no := by
  have f0 : zz_fl R B 0 := fun k hk => absurd hk (by omega)
  refine z_start hf rfl (by decide +kernel) (Nat.le_of_ble_eq_true rfl) ?_
  dsimp only [zz_lv0]
  refine z_aload_n ee_P_init_0 rfl ?_
  refine z_obj ee_P_init_1 oo_P_init_3 cw_oi cw_oc (Nat.le_of_ble_eq_true rfl) (Nat.le_of_ble_eq_true rfl) ?_
  refine z_aload_n ee_P_init_4 rfl ?_
  refine z_new ee_P_init_5 nn_P_init_9 (by omega) (by omega) (fun hz5 => ?_)
  refine z_dup ee_P_init_8 rfl ?_
  refine z_bipush ee_P_init_9 (v := nI 40) (by decide) ?_
  -- at 11
  refine z_callI (As := [_]) ee_P_init_11 kk_P_init_11 rfl rfl (Nat.le_of_ble_eq_true rfl) (by omega) (sp_T_init hf 40 (by omega) zz_K_s hz5) (fun E h1 hx => hx.elim) (fun v h1 hq => ?_)
  obtain ⟨K1, R1, I1, L1, rfl, rfl, hT1, hx1, hl1⟩ := hq
  have hl1 := zz_new hl1
  have e1 : K1 B = zz_o 0 := hl1.aK (by omega) hK
  have f1 := (f0.low hl1 (by omega)).put
  rw [show B + 1 + 2 = B + 3 by omega]
  refine z_putR ee_P_init_14 ff_P_init_14 (by first | assumption | (rw [zz_K_n (by omega)]; assumption) | (rw [zz_K_n (by omega), zz_K_n (by omega)]; assumption)) (by assumption) il_0_0 (Or.inr ⟨rfl, dl_0_0⟩) (nl_0_0 _) (pl_0_0 _) ?_
  refine z_aload_n ee_P_init_17 rfl ?_
  refine z_new ee_P_init_18 nn_P_init_9 (by omega) (by omega) (fun hz18 => ?_)
  refine z_dup ee_P_init_21 rfl ?_
  refine z_bipush ee_P_init_22 (v := nI 60) (by decide) ?_
  -- at 24
  refine z_callI (As := [_]) ee_P_init_24 kk_P_init_11 rfl rfl (Nat.le_of_ble_eq_true rfl) (by omega) (sp_T_init hf 60 (by omega) zz_K_s hz18) (fun E h1 hx => hx.elim) (fun v h1 hq => ?_)
  obtain ⟨K2, R2, I2, L2, rfl, rfl, hT2, hx2, hl2⟩ := hq
  have hl2 := zz_new hl2
  have e2 : K2 B = zz_o 0 := hl2.aK (by omega) e1
  have f2 := (f1.low hl2 (by omega)).put
  rw [show B + 3 + 2 = B + 5 by omega]
  refine z_putR ee_P_init_27 ff_P_init_18 (by first | assumption | (rw [zz_K_n (by omega)]; assumption) | (rw [zz_K_n (by omega), zz_K_n (by omega)]; assumption)) (by assumption) il_0_1 (Or.inr ⟨rfl, dl_0_1⟩) (nl_0_1 _) (pl_0_1 _) ?_
  refine z_aload_n ee_P_init_30 rfl ?_
  refine z_new ee_P_init_31 nn_P_init_9 (by omega) (by omega) (fun hz31 => ?_)
  refine z_dup ee_P_init_34 rfl ?_
  refine z_sipush ee_P_init_35 (v := nI 432) (by decide) ?_
  -- at 38
  refine z_callI (As := [_]) ee_P_init_38 kk_P_init_11 rfl rfl (Nat.le_of_ble_eq_true rfl) (by omega) (sp_T_init hf 432 (by omega) zz_K_s hz31) (fun E h1 hx => hx.elim) (fun v h1 hq => ?_)
  obtain ⟨K3, R3, I3, L3, rfl, rfl, hT3, hx3, hl3⟩ := hq
  have hl3 := zz_new hl3
  have e3 : K3 B = zz_o 0 := hl3.aK (by omega) e2
  have f3 := (f2.low hl3 (by omega)).put
  rw [show B + 5 + 2 = B + 7 by omega]
  refine z_putR ee_P_init_41 ff_P_init_21 (by first | assumption | (rw [zz_K_n (by omega)]; assumption) | (rw [zz_K_n (by omega), zz_K_n (by omega)]; assumption)) (by assumption) il_0_2 (Or.inr ⟨rfl, dl_0_2⟩) (nl_0_2 _) (pl_0_2 _) ?_
  refine z_aload_n ee_P_init_44 rfl ?_
  refine z_new ee_P_init_45 nn_P_init_24 (by omega) (by omega) (fun hz45 => ?_)
  refine z_dup ee_P_init_48 rfl ?_
  -- at 49
  refine z_callIN (As := []) ee_P_init_49 kk_P_init_26 rfl rfl (Nat.le_of_ble_eq_true rfl) (by omega) (sp_V_init hf zz_K_s hz45) (fun E h1 hx => hx.elim) (fun v h1 hq => ?_)
  obtain ⟨K4, R4, I4, L4, rfl, rfl, hV4, hS4, hl4⟩ := hq
  have hl4 := zz_new hl4
  have e4 : K4 B = zz_o 0 := hl4.aK (by omega) e3
  have f4 := (f3.low hl4 (by omega)).put
  have ek4 := hV4.1
  have er4 : zz_up R4 B 3 (some (B + 7)) (B + 7) 0 = some (B + 7 + 1) := by rw [zz_up_r (by omega)]; exact hV4.2.1
  have eb4 : zz_up R4 B 3 (some (B + 7)) B 3 = some (B + 7) := zz_up_s
  rw [show B + 7 + 136 = B + 143 by omega]
  refine z_putR ee_P_init_52 ff_P_init_27 (by first | assumption | (rw [zz_K_n (by omega)]; assumption) | (rw [zz_K_n (by omega), zz_K_n (by omega)]; assumption)) (by assumption) il_0_3 (Or.inr ⟨rfl, dl_0_3⟩) (nl_0_3 _) (pl_0_3 _) ?_
  refine z_aload_n ee_P_init_55 rfl ?_
  refine z_aload_n ee_P_init_56 rfl ?_
  refine z_getR ee_P_init_57 ff_P_init_27 (by assumption) il_0_3 (by assumption) ?_
  refine z_getR ee_P_init_60 ff_P_init_31 (by assumption) il_1_0 (by assumption) ?_
  refine z_putR ee_P_init_63 ff_P_init_35 (by first | assumption | (rw [zz_K_n (by omega)]; assumption) | (rw [zz_K_n (by omega), zz_K_n (by omega)]; assumption)) (by assumption) il_0_4 (Or.inr ⟨rfl, dl_0_4⟩) (nl_0_4 _) (pl_0_4 _) ?_
  refine z_aload_n ee_P_init_66 rfl ?_
  refine z_new ee_P_init_67 nn_P_init_36 (by omega) (by omega) (fun hz67 => ?_)
  refine z_dup ee_P_init_70 rfl ?_
  -- at 71
  have f5 : zz_fl (zz_up (zz_up R4 B 3 (some (B + 7))) B 4 (some (B + 7 + 1))) B 5 := f4.put
  refine z_callI (As := []) ee_P_init_71 kk_P_init_38 rfl rfl (Nat.le_of_ble_eq_true rfl) (by omega) (sp_S_init hf zz_K_s hz67) (fun E h1 hx => hx.elim) (fun v h1 hq => ?_)
  obtain ⟨K6, R6, I6, L6, rfl, rfl, hS6, hk6, hl6⟩ := hq
  have hl6 := zz_new hl6
  have e6 : K6 B = zz_o 0 := hl6.aK (by omega) e4
  have f6 := (f5.low hl6 (by omega)).put
  rw [show B + 143 + 131 = B + 274 by omega]
  refine z_putR ee_P_init_74 ff_P_init_39 (by first | assumption | (rw [zz_K_n (by omega)]; assumption) | (rw [zz_K_n (by omega), zz_K_n (by omega)]; assumption)) (by assumption) il_0_5 (Or.inr ⟨rfl, dl_0_5⟩) (nl_0_5 _) (pl_0_5 _) ?_
  refine z_aload_n ee_P_init_77 rfl ?_
  refine z_new ee_P_init_78 nn_P_init_42 (by omega) (by omega) (fun hz78 => ?_)
  refine z_dup ee_P_init_81 rfl ?_
  -- at 82
  refine z_callI (As := []) ee_P_init_82 kk_P_init_44 rfl rfl (Nat.le_of_ble_eq_true rfl) (by omega) (sp_H_init hf zz_K_s hz78) (fun E h1 hx => hx.elim) (fun v h1 hq => ?_)
  obtain ⟨K7, R7, I7, L7, rfl, rfl, hH7, hh7, hl7⟩ := hq
  have hl7 := zz_new hl7
  have e7 : K7 B = zz_o 0 := hl7.aK (by omega) e6
  have f7 := (f6.low hl7 (by omega)).put
  rw [show B + 274 + 1181 = B + 1455 by omega]
  refine z_putR ee_P_init_85 ff_P_init_45 (by first | assumption | (rw [zz_K_n (by omega)]; assumption) | (rw [zz_K_n (by omega), zz_K_n (by omega)]; assumption)) (by assumption) il_0_6 (Or.inr ⟨rfl, dl_0_6⟩) (nl_0_6 _) (pl_0_6 _) ?_
  refine z_aload_n ee_P_init_88 rfl ?_
  refine z_new ee_P_init_89 nn_P_init_49 (by omega) (by omega) (fun hz89 => ?_)
  refine z_dup ee_P_init_92 rfl ?_
  -- at 93
  refine z_callIN (As := []) ee_P_init_93 kk_P_init_51 rfl rfl (Nat.le_of_ble_eq_true rfl) (by omega) (sp_C_init hf zz_K_s hz89) (fun E h1 hx => hx.elim) (fun v h1 hq => ?_)
  obtain ⟨K8, R8, I8, L8, rfl, rfl, hC8, hl8⟩ := hq
  have hl8 := zz_new hl8
  have e8 : K8 B = zz_o 0 := hl8.aK (by omega) e7
  have f8 := (f7.low hl8 (by omega)).put
  rw [show B + 1455 + 4 = B + 1459 by omega]
  refine z_putR ee_P_init_96 ff_P_init_52 (by first | assumption | (rw [zz_K_n (by omega)]; assumption) | (rw [zz_K_n (by omega), zz_K_n (by omega)]; assumption)) (by assumption) il_0_7 (Or.inr ⟨rfl, dl_0_7⟩) (nl_0_7 _) (pl_0_7 _) ?_
  refine z_aload_n ee_P_init_99 rfl ?_
  refine z_new ee_P_init_100 nn_P_init_56 (by omega) (by omega) (fun hz100 => ?_)
  refine z_dup ee_P_init_103 rfl ?_
  -- at 104
  refine z_callIN (As := []) ee_P_init_104 kk_P_init_58 rfl rfl (Nat.le_of_ble_eq_true rfl) (by omega) (sp_D_init hf zz_K_s hz100) (fun E h1 hx => hx.elim) (fun v h1 hq => ?_)
  obtain ⟨I9, rfl, rfl, hd9, hi9⟩ := hq
  have hl9 : zz_lo (B + 1459) K8 (zz_K K8 (B + 1459) (zz_o 3)) (zz_up R8 B 7 (some (B + 1455))) (zz_0 (zz_up R8 B 7 (some (B + 1455))) (B + 1459) none) I8 I9 := ⟨zz_kt.rf.k0 (by omega), zz_kt.rf.z0 (by omega), (zz_kt.rf.z0 (by omega)).trans hi9⟩
  have e9 : zz_K K8 (B + 1459) (zz_o 3) B = zz_o 0 := hl9.aK (by omega) e8
  have f9 := (f8.low hl9 (by omega)).put
  refine z_putR ee_P_init_107 ff_P_init_59 (by first | assumption | (rw [zz_K_n (by omega)]; assumption) | (rw [zz_K_n (by omega), zz_K_n (by omega)]; assumption)) (by assumption) il_0_8 (Or.inr ⟨rfl, dl_0_8⟩) (nl_0_8 _) (pl_0_8 _) ?_
  refine z_aload_n ee_P_init_110 rfl ?_
  refine z_iconst ee_P_init_111 (v := nI 0) (by decide) ?_
  -- at 112
  refine z_putS ee_P_init_112 ff_P_init_63 e9 hA rfl rfl (Or.inl rfl) rfl rfl ?_
  refine z_aload_n ee_P_init_115 rfl ?_
  refine z_iconst ee_P_init_116 (v := -1) (by decide) ?_
  refine z_putI ee_P_init_117 ff_P_init_67 (by first | assumption | (rw [zz_K_n (by omega)]; assumption) | (rw [zz_K_n (by omega), zz_K_n (by omega)]; assumption)) (by assumption) tl_0_10 fl_0_10 ?_
  refine z_vret ee_P_init_120 rfl (by omega) (by omega) ?_
  -- at 120
  have t9 : zz_mv (B + 1) (B + 1460) (zz_K K8 (B + 1459) (zz_o 3)) (zz_K K8 (B + 1459) (zz_o 3)) (zz_0 (zz_up R8 B 7 (some (B + 1455))) (B + 1459) none) (zz_up (zz_0 (zz_up R8 B 7 (some (B + 1455))) (B + 1459) none) B 8 (some (B + 1459))) I9 (zz_up (zz_up I9 B 9 (nI 0)) B 10 (-1)) := ⟨zz_kt.rf, fun b q1 q2 => zz_up_r (by omega), fun b q1 q2 => by rw [zz_up_r (by omega), zz_up_r (by omega)]⟩
  have t8 := (zz_mv.put (k := 7) (x := some (B + 1455)) (K := K8) (R := R8) (I := I8) (lo := B + 1) (hi := B + 1459) (B := B) (by omega)).trans ((hl9.mv (by omega)).trans (t9.wid (by omega) (by omega)))
  have t7 := (zz_mv.put (k := 6) (x := some (B + 274)) (K := K7) (R := R7) (I := I7) (lo := B + 1) (hi := B + 1455) (B := B) (by omega)).trans ((hl8.mv (by omega)).trans (t8.wid (by omega) (by omega)))
  have t6 := (zz_mv.put (k := 5) (x := some (B + 143)) (K := K6) (R := R6) (I := I6) (lo := B + 1) (hi := B + 274) (B := B) (by omega)).trans ((hl7.mv (by omega)).trans (t7.wid (by omega) (by omega)))
  have t4 := ((zz_mv.put (k := 3) (x := some (B + 7)) (K := K4) (R := R4) (I := I4) (lo := B + 1) (hi := B + 143) (B := B) (by omega)).trans (zz_mv.put (k := 4) (x := some (B + 7 + 1)) (by omega))).trans ((hl6.mv (by omega)).trans (t6.wid (by omega) (by omega)))
  have t3 := (zz_mv.put (k := 2) (x := some (B + 5)) (K := K3) (R := R3) (I := I3) (lo := B + 1) (hi := B + 7) (B := B) (by omega)).trans ((hl4.mv (by omega)).trans (t4.wid (by omega) (by omega)))
  have t2 := (zz_mv.put (k := 1) (x := some (B + 3)) (K := K2) (R := R2) (I := I2) (lo := B + 1) (hi := B + 5) (B := B) (by omega)).trans ((hl3.mv (by omega)).trans (t3.wid (by omega) (by omega)))
  have t1 := (zz_mv.put (k := 0) (x := some (B + 1)) (K := K1) (R := R1) (I := I1) (lo := B + 1) (hi := B + 3) (B := B) (by omega)).trans ((hl2.mv (by omega)).trans (t2.wid (by omega) (by omega)))
  refine ⟨_, _, _, _, rfl, rfl, ⟨⟨⟨e9, hA, f9 0 (by omega), f9 1 (by omega), f9 2 (by omega), f9 3 (by omega), f9 4 (by omega), f9 5 (by omega), f9 6 (by omega), f9 7 (by omega), f9 8 (by omega)⟩, ⟨hT1.mv t1 (by omega) (by omega), hT2.mv t2 (by omega) (by omega), hT3.mv t3 (by omega) (by omega)⟩, hV4.mv t4 (by omega) (by omega), hH7.mv t7 (by omega) (by omega), hC8.mv t8 (by omega) (by omega), ⟨zz_K_s, hz100⟩, ?_⟩, 0, ⟨hx1.in (t1.2.2.wid (by omega) (by omega)), hx2.in (t2.2.2.wid (by omega) (by omega)), hx3.in (t3.2.2.wid (by omega) (by omega))⟩, hS4.mv t4 (by omega) (by omega), hS6.mv t6 (by omega) (by omega), hh7.mv t7 (by omega) (by omega), ⟨?_, zz_up_s⟩, ?_, ?_, ?_⟩, ?_⟩
  · rw [t6.1 _ (by omega) (by omega)]; exact hk6
  · rw [zz_up_k (by decide), zz_up_s]; rfl
  · rw [zz_up_r (by omega), zz_up_r (by omega)]; exact hd9.1
  · rw [zz_up_r (by omega), zz_up_r (by omega)]; exact hd9.2.1
  · rw [zz_up_r (by omega), zz_up_r (by omega)]; exact hd9.2.2
  · have p : ∀ {K' : Nat → Nat × Nat} {R' : Nat → Nat → Option Nat} {I' : Nat → Nat → Int32} {k : Nat} {x : Option Nat}, zz_lo B K' K' R' (zz_up R' B k x) I' I' := ⟨zz_kt.rf, zz_kt.rf.u0 (by omega), zz_kt.rf⟩
    have q : ∀ {K' : Nat → Nat × Nat} {R' : Nat → Nat → Option Nat} {I' : Nat → Nat → Int32} {k : Nat} {x : Int32}, zz_lo B K' K' R' R' I' (zz_up I' B k x) := ⟨zz_kt.rf, zz_kt.rf, zz_kt.rf.u0 (by omega)⟩
    exact (hl1.wid (by omega)).trans (p.trans ((hl2.wid (by omega)).trans (p.trans ((hl3.wid (by omega)).trans (p.trans ((hl4.wid (by omega)).trans (p.trans (p.trans ((hl6.wid (by omega)).trans (p.trans ((hl7.wid (by omega)).trans (p.trans ((hl8.wid (by omega)).trans (p.trans ((hl9.wid (by omega)).trans (p.trans (q.trans q)))))))))))))))))
end Init4
