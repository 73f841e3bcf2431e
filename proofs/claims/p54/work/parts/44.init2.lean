/-! CONSTRUCTORS: stores -/
def sv_0 : zz_SV := ([], [], 0, 0, 0)
section Init2
variable {g : zz_G} {l : Launch} {K K' K2 : Nat → Nat × Nat} {R R' R2 : Nat → Nat → Option Nat} {I I' I2 : Nat → Nat → Int32} {L : Nat → Nat → Int64} {S t n m H : Nat}
theorem zz_Tx.lo (h : zz_Tx g K R t m) (hl : zz_lo n K K' R R' I I') (hn : t + 2 ≤ n) : zz_Tx g K' R' t m := by
  obtain ⟨k1, k2, k3, k4, k5, k6⟩ := h
  exact ⟨by rw [hl.1 _ (by omega) (by omega)]; exact k1, by rw [hl.2.1 _ (by omega) (by omega)]; exact k2, by rw [hl.1 _ (by omega) (by omega)]; exact k3, k4, k5, k6⟩
theorem zz_Gx.lo (h : zz_Gx g K R t) (hl : zz_lo n K K' R R' I I') (hn : t + 4 ≤ n) : zz_Gx g K' R' t := by
  obtain ⟨k1, k2, k3, k4, k5, k6, k7⟩ := h
  exact ⟨by rw [hl.1 _ (by omega) (by omega)]; exact k1, by rw [hl.2.1 _ (by omega) (by omega)]; exact k2, k3.lo hl (by omega), by rw [hl.2.1 _ (by omega) (by omega)]; exact k4, by rw [hl.1 _ (by omega) (by omega)]; exact k5, k6, k7⟩
theorem zz_Sx.lo {σ : Nat → Nat} (h : zz_Sx g K R S σ) (hl : zz_lo n K K' R R' I I') (hn : S + 131 ≤ n) : zz_Sx g K' R' S σ := by
  obtain ⟨⟨k1, k2, k3, k4, k5, k6, k7, k8⟩, hG, hr, hσ, hj⟩ := h
  exact ⟨⟨by rw [hl.1 _ (by omega) (by omega)]; exact k1, by rw [hl.2.1 _ (by omega) (by omega)]; exact k2, by rw [hl.2.1 _ (by omega) (by omega)]; exact k3, by rw [hl.1 _ (by omega) (by omega)]; exact k4, by rw [hl.1 _ (by omega) (by omega)]; exact k5, k6, k7, k8⟩, fun j hj => (hG j hj).lo hl (by omega), fun i hi => by rw [hl.2.1 _ (by omega) (by omega)]; exact hr i hi, hσ, hj⟩
theorem zz_S_loop (hf : l.stackTraces = false) {Q : Option Value → zz_H → Prop} {K0 : Nat → Nat × Nat} {R0 : Nat → Nat → Option Nat} {I0 : Nat → Nat → Int32} (hA : zz_A g S) (h0 : K0 S = zz_o 5) (h1 : R0 S 1 = some (S + 2)) (hQ : ∀ K R I L, zz_lo (S + 2) K0 K R0 R I0 I → K (S + 2) = zz_a 4 32 → (∀ j, j < 32 → zz_Gx g K R (S + 3 + 4 * j) ∧ R (S + 2) j = some (S + 3 + 4 * j)) → Q none (K, R, I, L, S + 131)) : ∀ (k i : Nat) (K : Nat → Nat × Nat) (R : Nat → Nat → Option Nat) (I : Nat → Nat → Int32) (L : Nat → Nat → Int64), i + k = 32 → zz_lo (S + 2) K0 K R0 R I0 I → K (S + 2) = zz_a 4 32 → (∀ j, j < i → zz_Gx g K R (S + 3 + 4 * j) ∧ R (S + 2) j = some (S + 3 + 4 * j)) →
    Zz g l mm_S_init 130 3652 Q zz_no (2 + 4 * i) (36 + 113 * i) 47 [some (.ref S), some (.int (nI i))] [] (K, R, I, L, S + 3 + 4 * i) := by
  intro k
  induction k with
  | zero =>
    intro i K R I L hi hl hK hj
    have e0 : K S = zz_o 5 := by rw [hl.1 _ (by omega) (by omega)]; exact h0
    have e1 : R S 1 = some (S + 2) := by rw [hl.2.1 _ (by omega) (by omega)]; exact h1
    refine z_iload_n ee_S_init_47 rfl ?_
    refine z_aload_n ee_S_init_48 rfl ?_
    refine z_getR ee_S_init_49 ff_S_init_17 (by assumption) il_5_1 (by assumption) ?_
    refine z_alen ee_S_init_52 (by assumption) ?_
    refine z_icmp_ge ee_S_init_53 (tgt := 75) (by decide) (fun c_53 => ?_) (fun c_53 => ?_)
    -- at 53
    · refine z_vret ee_S_init_75 rfl (by omega) (by omega) ?_
      -- at 75
      rw [show S + 3 + 4 * i = S + 131 by omega]
      exact hQ K R I L hl hK (fun j h => hj j (by omega))
    · simp (disch := omega) only [zi_lt, zi_le, zi_eq, zi_n, zi_0, zi_m1] at c_53
      omega
  | succ k ih =>
    intro i K R I L hi hl hK hj
    have e0 : K S = zz_o 5 := by rw [hl.1 _ (by omega) (by omega)]; exact h0
    have e1 : R S 1 = some (S + 2) := by rw [hl.2.1 _ (by omega) (by omega)]; exact h1
    refine z_iload_n ee_S_init_47 rfl ?_
    refine z_aload_n ee_S_init_48 rfl ?_
    refine z_getR ee_S_init_49 ff_S_init_17 (by assumption) il_5_1 (by assumption) ?_
    refine z_alen ee_S_init_52 (by assumption) ?_
    refine z_icmp_ge ee_S_init_53 (tgt := 75) (by decide) (fun c_53 => ?_) (fun c_53 => ?_)
    -- at 53
    · simp (disch := omega) only [zi_lt, zi_le, zi_eq, zi_n, zi_0, zi_m1] at c_53
      omega
    · refine z_aload_n ee_S_init_56 rfl ?_
      refine z_getR ee_S_init_57 ff_S_init_17 (by assumption) il_5_1 (by assumption) ?_
      refine z_iload_n ee_S_init_60 rfl ?_
      refine z_new ee_S_init_61 nn_S_init_15 (by omega) (by omega) (fun hz61 => ?_)
      refine z_dup ee_S_init_64 rfl ?_
      -- at 65
      refine z_callIN (As := []) ee_S_init_65 kk_S_init_37 rfl rfl (Nat.le_of_ble_eq_true rfl) (by omega) (sp_G_init hf zz_K_s hz61) (fun E h1 hx => hx.elim) (fun v h1 hq => ?_)
      obtain ⟨K2, R2, I2, L2, rfl, rfl, hG2, hl2⟩ := hq
      have hl3 : zz_lo (S + 3 + 4 * i) K K2 R R2 I I2 := ⟨(zz_kt.rf.k0 (by omega)).trans hl2.1, (zz_kt.rf.z0 (by omega)).trans hl2.2.1, (zz_kt.rf.z0 (by omega)).trans hl2.2.2⟩
      have e2 : K2 (S + 2) = zz_a 4 32 := by rw [hl3.1 _ (by omega) (by omega)]; exact hK
      refine z_aast ee_S_init_68 e2 (by unfold zz_A at hA ⊢; omega) (Or.inl ⟨rfl, hG2.1⟩) hz61 rfl (by omega) (by omega) ?_
      refine z_iinc ee_S_init_69 rfl rfl (by decide) ?_
      refine z_goto ee_S_init_72 (tgt := 47) (by decide) ?_
      -- at 47
      rw [zz_iinc1, show S + 3 + 4 * i + 4 = S + 3 + 4 * (i + 1) by omega]
      have hup : zz_lo (S + 2) K2 K2 R2 (zz_up R2 (S + 2) i (some (S + 3 + 4 * i))) I2 I2 := ⟨zz_kt.rf, zz_kt.rf.u0 (by omega), zz_kt.rf⟩
      refine z_wid (ce' := 2 + 4 * (i + 1)) (sl' := 36 + 113 * (i + 1)) (by omega) (by omega) (ih (i + 1) K2 _ I2 L2 (by omega) ((hl.trans (hl3.wid (by omega))).trans hup) e2 (fun j hj2 => ?_))
      have frg : ∀ x, zz_Gx g K2 R2 (S + 3 + 4 * x) → zz_Gx g K2 (zz_up R2 (S + 2) i (some (S + 3 + 4 * i))) (S + 3 + 4 * x) := fun x hx => hx.in (fun b q1 q2 => zz_up_r (by omega))
      by_cases q : j = i
      · subst q
        exact ⟨frg _ hG2, zz_up_s⟩
      · obtain ⟨q1, q2⟩ := hj j (by omega)
        exact ⟨frg _ (q1.lo hl3 (by omega)), by rw [zz_up_k q, hl3.2.1 _ (by omega) (by omega)]; exact q2⟩
theorem sp_S_init (hf : l.stackTraces = false) (hK : K S = zz_o 5) (hA : zz_A g S) : zz_S g l mm_S_init 130 3652 [.ref S] (K, R, I, L, S + 1) (fun v h' => ∃ K' R' I' L', h' = (K', R', I', L', S + 131) ∧ v = none ∧ zz_So g K' R' I' S sv_0 ∧ K' S = zz_o 5 ∧ zz_lo S K K' R R' I I') zz_no := by
  refine z_start hf rfl (by decide +kernel) (Nat.le_of_ble_eq_true rfl) ?_
  dsimp only [zz_lv0]
  refine z_aload_n ee_S_init_0 rfl ?_
  refine z_obj ee_S_init_1 oo_S_init_3 cw_oi cw_oc (Nat.le_of_ble_eq_true rfl) (Nat.le_of_ble_eq_true rfl) ?_
  refine z_aload_n ee_S_init_4 rfl ?_
  refine z_iconst ee_S_init_5 (v := nI 4) (by decide) ?_
  refine z_newa (t := 0) ee_S_init_6 (by omega) cw_int rfl (by omega) (by omega) (by omega) (fun hz6 => ?_)
  refine z_putR ee_S_init_8 ff_S_init_9 (by first | assumption | (rw [zz_K_n (by omega)]; assumption) | (rw [zz_K_n (by omega), zz_K_n (by omega)]; assumption)) (by assumption) il_5_0 (Or.inr ⟨rfl, dl_5_0⟩) (nl_5_0 _) (pl_5_0 _) ?_
  refine z_aload_n ee_S_init_11 rfl ?_
  refine z_bipush ee_S_init_12 (v := nI 32) (by decide) ?_
  -- at 14
  refine z_anew (t := 4) (c := 6) ee_S_init_14 (Or.inl ⟨rfl, rfl⟩) nn_S_init_15.1 rfl (by omega) (by omega) (by omega) (fun hz14 => ?_)
  refine z_putR ee_S_init_17 ff_S_init_17 (by first | assumption | (rw [zz_K_n (by omega)]; assumption) | (rw [zz_K_n (by omega), zz_K_n (by omega)]; assumption)) (by assumption) il_5_1 (Or.inr ⟨rfl, dl_5_1⟩) (nl_5_1 _) (pl_5_1 _) ?_
  refine z_aload_n ee_S_init_20 rfl ?_
  refine z_iconst ee_S_init_21 (v := nI 0) (by decide) ?_
  refine z_putI ee_S_init_22 ff_S_init_21 (by first | assumption | (rw [zz_K_n (by omega)]; assumption) | (rw [zz_K_n (by omega), zz_K_n (by omega)]; assumption)) (by assumption) tl_5_2 fl_5_2 ?_
  refine z_aload_n ee_S_init_25 rfl ?_
  refine z_iconst ee_S_init_26 (v := nI 0) (by decide) ?_
  refine z_putI ee_S_init_27 ff_S_init_25 (by first | assumption | (rw [zz_K_n (by omega)]; assumption) | (rw [zz_K_n (by omega), zz_K_n (by omega)]; assumption)) (by assumption) tl_5_3 fl_5_3 ?_
  refine z_aload_n ee_S_init_30 rfl ?_
  refine z_iconst ee_S_init_31 (v := nI 0) (by decide) ?_
  refine z_putI ee_S_init_32 ff_S_init_28 (by first | assumption | (rw [zz_K_n (by omega)]; assumption) | (rw [zz_K_n (by omega), zz_K_n (by omega)]; assumption)) (by assumption) tl_5_4 fl_5_4 ?_
  refine z_aload_n ee_S_init_35 rfl ?_
  refine z_iconst ee_S_init_36 (v := nI 0) (by decide) ?_
  refine z_putI ee_S_init_37 ff_S_init_31 (by first | assumption | (rw [zz_K_n (by omega)]; assumption) | (rw [zz_K_n (by omega), zz_K_n (by omega)]; assumption)) (by assumption) tl_5_5 fl_5_5 ?_
  refine z_aload_n ee_S_init_40 rfl ?_
  refine z_iconst ee_S_init_41 (v := nI 0) (by decide) ?_
  refine z_putI ee_S_init_42 ff_S_init_34 (by first | assumption | (rw [zz_K_n (by omega)]; assumption) | (rw [zz_K_n (by omega), zz_K_n (by omega)]; assumption)) (by assumption) tl_5_6 fl_5_6 ?_
  refine z_iconst ee_S_init_45 (v := nI 0) (by decide) ?_
  refine z_istore_m ee_S_init_46 (j := 1) rfl (by decide) ?_
  -- at 47
  refine zz_S_loop (K0 := _) (R0 := _) (I0 := _) hf hA ?_ ?_ (fun K2 R2 I2 L2 hl hk hg => ?_) 32 0 _ _ _ _ (by omega) ⟨zz_kt.rf, zz_kt.rf, zz_kt.rf⟩ ?_ (fun j hj => absurd hj (by omega))
  · rw [zz_K_n (by omega), zz_K_n (by omega)]; exact hK
  · rw [zz_up_s]
  · have hlo : zz_lo S K K2 R R2 I I2 := ⟨((zz_kt.rf.k0 (by omega)).k0 (by omega)).trans (hl.1.wid (by omega) (by omega)), ((((zz_kt.rf).u0 (by omega)).z0 (by omega)).u0 (by omega)).trans (hl.2.1.wid (by omega) (by omega)), ((((((zz_kt.rf.z0 (by omega)).u0 (by omega)).u0 (by omega)).u0 (by omega)).u0 (by omega)).u0 (by omega)).trans (hl.2.2.wid (by omega) (by omega))⟩
    have eK : K2 S = zz_o 5 := by rw [hl.1 _ (by omega) (by omega), zz_K_n (by omega), zz_K_n (by omega)]; exact hK
    have eI : ∀ k, I2 S k = _ := fun k => congrFun (hl.2.2 S (by omega) (by omega)) k
    refine ⟨K2, R2, I2, L2, rfl, rfl, ⟨fun i => i, ⟨⟨eK, ?_, ?_, ?_, hk, hA, ?_, ?_⟩, fun j hj => (hg j hj).1, fun i hi => (hg i hi).2, fun i hi => hi, fun i j _ _ e => e⟩, ⟨⟨?_, Nat.zero_le 4, fun j hj => absurd hj (Nat.not_lt_zero j)⟩, ⟨?_, Nat.zero_le 32, fun i x hx => absurd (zz_lt_of hx) (Nat.not_lt_zero i)⟩, ?_, ?_, ?_⟩⟩, eK, hlo⟩
    · rw [hl.2.1 _ (by omega) (by omega), zz_up_k (by decide), zz_0_n (by omega), zz_up_s]
    · rw [hl.2.1 _ (by omega) (by omega), zz_up_s]
    · rw [hl.1 _ (by omega) (by omega), zz_K_n (by omega), zz_K_s]
    · unfold zz_A at hA ⊢; omega
    · unfold zz_A at hA ⊢; omega
    · rw [eI, zz_up_k (by decide), zz_up_k (by decide), zz_up_k (by decide), zz_up_k (by decide), zz_up_s]; rfl
    · rw [eI, zz_up_k (by decide), zz_up_k (by decide), zz_up_k (by decide), zz_up_s]; rfl
    · rw [eI, zz_up_k (by decide), zz_up_k (by decide), zz_up_s]; rfl
    · rw [eI, zz_up_k (by decide), zz_up_s]; rfl
    · rw [eI, zz_up_s]; rfl
  · exact zz_K_s
end Init2
