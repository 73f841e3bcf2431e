/-! CONSTRUCTORS -/
/-- everything below n is kept -/
def zz_lo (n : Nat) (K K' : Nat → Nat × Nat) (R R' : Nat → Nat → Option Nat) (I I' : Nat → Nat → Int32) : Prop := zz_kt 0 n K K' ∧ zz_kt 0 n R R' ∧ zz_kt 0 n I I'
section Init
variable {g : zz_G} {l : Launch} {K K' K2 : Nat → Nat × Nat} {R R' R2 : Nat → Nat → Option Nat} {I I' I2 : Nat → Nat → Int32} {L : Nat → Nat → Int64} {t n m : Nat}
theorem zz_lo.trans (h : zz_lo n K K' R R' I I') (h' : zz_lo n K' K2 R' R2 I' I2) : zz_lo n K K2 R R2 I I2 := ⟨h.1.trans h'.1, h.2.1.trans h'.2.1, h.2.2.trans h'.2.2⟩
theorem zz_lo.wid (h : zz_lo n K K' R R' I I') (hm : m ≤ n) : zz_lo m K K' R R' I I' := ⟨h.1.wid (by omega) hm, h.2.1.wid (by omega) hm, h.2.2.wid (by omega) hm⟩
theorem zz_kt.k0 {a lo hi : Nat} {kd : Nat × Nat} (h : zz_kt lo hi K K') (ha : hi ≤ a) : zz_kt lo hi K (zz_K K' a kd) := fun b h1 h2 => (zz_K_n (by omega)).trans (h b h1 h2)
theorem zz_kt.z0 {α : Type} {a lo hi : Nat} {x : α} {f f' : Nat → Nat → α} (h : zz_kt lo hi f f') (ha : hi ≤ a) : zz_kt lo hi f (zz_0 f' a x) := fun b h1 h2 => (zz_0_n (by omega)).trans (h b h1 h2)
theorem zz_kt.u0 {α : Type} {a k lo hi : Nat} {x : α} {f f' : Nat → Nat → α} (h : zz_kt lo hi f f') (ha : hi ≤ a) : zz_kt lo hi f (zz_up f' a k x) := fun b h1 h2 => (zz_up_r (by omega)).trans (h b h1 h2)
theorem sp_T_init (hf : l.stackTraces = false) (n : Nat) (hn : n < 2 ^ 20) (hK : K t = zz_o 7) (hA : zz_A g t) : zz_S g l mm_T_init 1 n [.ref t, .int (nI n)] (K, R, I, L, t + 1) (fun v h' => ∃ K' R' I' L', h' = (K', R', I', L', t + 2) ∧ v = none ∧ zz_Tx g K' R' t n ∧ zz_tx I' t n [] ∧ zz_lo t K K' R R' I I') zz_no := by
  refine z_start hf rfl (by decide +kernel) (Nat.le_of_ble_eq_true rfl) ?_
  dsimp only [zz_lv0]
  refine z_aload_n ee_T_init_0 rfl ?_
  refine z_obj ee_T_init_1 oo_T_init_3 cw_oi cw_oc (Nat.le_of_ble_eq_true rfl) (Nat.le_of_ble_eq_true rfl) ?_
  refine z_aload_n ee_T_init_4 rfl ?_
  refine z_iconst ee_T_init_5 (v := nI 0) (by decide) ?_
  refine z_putI ee_T_init_6 ff_T_init_9 (by first | assumption | (rw [zz_K_n (by omega)]; assumption) | (rw [zz_K_n (by omega), zz_K_n (by omega)]; assumption)) (by assumption) tl_7_1 fl_7_1 ?_
  refine z_aload_n ee_T_init_9 rfl ?_
  refine z_iload_n ee_T_init_10 rfl ?_
  refine z_iconst ee_T_init_11 (v := nI 0) (by decide) ?_
  -- at 12
  refine z_callS (As := [_, _]) ee_T_init_12 kk_T_init_15 rfl rfl (Nat.le_of_ble_eq_true rfl) (by omega) (sp_JM_max hf _ _) (fun E h1 hx => hx.elim) (fun v h1 hq => ?_)
  obtain ⟨rfl, rfl⟩ := hq
  rw [zz_max_n (by omega) (by omega), Nat.max_eq_left (Nat.zero_le _)]
  refine z_newa (t := 1) ee_T_init_15 (by omega) cw_char rfl (by omega) (by omega) (by omega) (fun hz15 => ?_)
  refine z_putR ee_T_init_17 ff_T_init_21 (by first | assumption | (rw [zz_K_n (by omega)]; assumption) | (rw [zz_K_n (by omega), zz_K_n (by omega)]; assumption)) (by assumption) il_7_0 (Or.inr ⟨rfl, dl_7_0⟩) (nl_7_0 _) (pl_7_0 _) ?_
  refine z_vret ee_T_init_20 rfl (by omega) (by omega) ?_
  -- at 20
  refine ⟨_, _, _, _, rfl, rfl, ⟨by rw [zz_K_n (by omega)]; exact hK, zz_up_s, zz_K_s, hA, hz15, hn⟩, ⟨?_, by simp, fun j hj => absurd hj (by simp)⟩, zz_kt.rf.k0 (by omega), zz_kt.rf.u0 (by omega), (zz_kt.rf.u0 (by omega)).z0 (by omega)⟩
  rw [zz_0_n (by omega), zz_up_s]
  rfl
theorem sp_G_init (hf : l.stackTraces = false) (hK : K t = zz_o 6) (hA : zz_A g t) : zz_S g l mm_G_init 3 106 [.ref t] (K, R, I, L, t + 1) (fun v h' => ∃ K' R' I' L', h' = (K', R', I', L', t + 4) ∧ v = none ∧ zz_Gx g K' R' t ∧ zz_lo t K K' R R' I I') zz_no := by
  refine z_start hf rfl (by decide +kernel) (Nat.le_of_ble_eq_true rfl) ?_
  dsimp only [zz_lv0]
  refine z_aload_n ee_G_init_0 rfl ?_
  refine z_obj ee_G_init_1 oo_G_init_3 cw_oi cw_oc (Nat.le_of_ble_eq_true rfl) (Nat.le_of_ble_eq_true rfl) ?_
  refine z_aload_n ee_G_init_4 rfl ?_
  refine z_new ee_G_init_5 nn_G_init_9 (by omega) (by omega) (fun hz5 => ?_)
  refine z_dup ee_G_init_8 rfl ?_
  refine z_bipush ee_G_init_9 (v := nI 96) (by decide) ?_
  -- at 11
  refine z_callI (As := [_]) ee_G_init_11 kk_G_init_11 rfl rfl (Nat.le_of_ble_eq_true rfl) (by omega) (sp_T_init hf 96 (by omega) zz_K_s hz5) (fun E h1 hx => hx.elim) (fun v h1 hq => ?_)
  obtain ⟨K2, R2, I2, L2, rfl, rfl, hT2, -, hl2⟩ := hq
  have e2 : K2 t = zz_o 6 := by rw [hl2.1 t (by omega) (by omega), zz_K_n (by omega)]; exact hK
  refine z_putR ee_G_init_14 ff_G_init_14 (by first | assumption | (rw [zz_K_n (by omega)]; assumption) | (rw [zz_K_n (by omega), zz_K_n (by omega)]; assumption)) (by assumption) il_6_0 (Or.inr ⟨rfl, dl_6_0⟩) (nl_6_0 _) (pl_6_0 _) ?_
  refine z_aload_n ee_G_init_17 rfl ?_
  refine z_bipush ee_G_init_18 (v := nI 8) (by decide) ?_
  refine z_newa (t := 0) ee_G_init_20 (by omega) cw_int rfl (by omega) (by omega) (by omega) (fun hz20 => ?_)
  refine z_putR ee_G_init_22 ff_G_init_20 (by first | assumption | (rw [zz_K_n (by omega)]; assumption) | (rw [zz_K_n (by omega), zz_K_n (by omega)]; assumption)) (by assumption) il_6_1 (Or.inr ⟨rfl, dl_6_1⟩) (nl_6_1 _) (pl_6_1 _) ?_
  refine z_aload_n ee_G_init_25 rfl ?_
  refine z_iconst ee_G_init_26 (v := nI 0) (by decide) ?_
  refine z_putI ee_G_init_27 ff_G_init_24 (by first | assumption | (rw [zz_K_n (by omega)]; assumption) | (rw [zz_K_n (by omega), zz_K_n (by omega)]; assumption)) (by assumption) tl_6_2 fl_6_2 ?_
  refine z_aload_n ee_G_init_30 rfl ?_
  refine z_iconst ee_G_init_31 (v := nI 0) (by decide) ?_
  refine z_putI ee_G_init_32 ff_G_init_28 (by first | assumption | (rw [zz_K_n (by omega)]; assumption) | (rw [zz_K_n (by omega), zz_K_n (by omega)]; assumption)) (by assumption) tl_6_3 fl_6_3 ?_
  refine z_aload_n ee_G_init_35 rfl ?_
  refine z_iconst ee_G_init_36 (v := nI 0) (by decide) ?_
  refine z_putI ee_G_init_37 ff_G_init_31 (by first | assumption | (rw [zz_K_n (by omega)]; assumption) | (rw [zz_K_n (by omega), zz_K_n (by omega)]; assumption)) (by assumption) tl_6_4 fl_6_4 ?_
  refine z_aload_n ee_G_init_40 rfl ?_
  refine z_iconst ee_G_init_41 (v := nI 0) (by decide) ?_
  refine z_putI ee_G_init_42 ff_G_init_34 (by first | assumption | (rw [zz_K_n (by omega)]; assumption) | (rw [zz_K_n (by omega), zz_K_n (by omega)]; assumption)) (by assumption) tl_6_5 fl_6_5 ?_
  refine z_aload_n ee_G_init_45 rfl ?_
  refine z_iconst ee_G_init_46 (v := nI 0) (by decide) ?_
  refine z_putI ee_G_init_47 ff_G_init_37 (by first | assumption | (rw [zz_K_n (by omega)]; assumption) | (rw [zz_K_n (by omega), zz_K_n (by omega)]; assumption)) (by assumption) tl_6_6 fl_6_6 ?_
  refine z_vret ee_G_init_50 rfl (by omega) (by omega) ?_
  -- at 50
  have hl := hl2.wid (m := t) (by omega)
  refine ⟨_, _, _, _, rfl, rfl, ⟨by rw [zz_K_n (by omega)]; exact e2, ?_, ?_, zz_up_s, zz_K_s, hA, hz20⟩, ((zz_kt.rf.k0 (by omega)).trans hl.1).k0 (by omega), ((((zz_kt.rf.z0 (by omega)).trans hl.2.1).u0 (by omega)).u0 (by omega)), ?_⟩
  · rw [zz_up_k (by decide), zz_up_s]
  · obtain ⟨q1, q2, q3, q4, q5, q6⟩ := hT2
    exact ⟨by rw [zz_K_n (by omega)]; exact q1, by rw [zz_up_r (by omega), zz_up_r (by omega)]; exact q2, by rw [zz_K_n (by omega)]; exact q3, q4, q5, q6⟩
  · exact ((((((((zz_kt.rf.z0 (by omega)).trans hl.2.2).z0 (by omega)).u0 (by omega)).u0 (by omega)).u0 (by omega)).u0 (by omega)).u0 (by omega))
end Init
