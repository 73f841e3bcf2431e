/-! STORE: a copy -/
section Store4
variable {g : zz_G} {l : Launch} {K : Nat → Nat × Nat} {R : Nat → Nat → Option Nat} {I : Nat → Nat → Int32} {L : Nat → Nat → Int64} {z : Nat} {S U : Nat} {v w : zz_SV} {σ τ : Nat → Nat}
theorem zz_dmp_n {v : zz_SV} {j : Nat} (h : j < (sv_r v).length) (h4 : (sv_r v).length ≤ 4) : zz_dmp v (nI j) = (sv_r v).getD j 0 := by
  unfold zz_dmp
  rw [zi_n (by omega), if_pos (by omega)]
  simp
theorem zz_scp2_loop (hf : l.stackTraces = false) (hS : zz_Sx g K R S σ) (hU : zz_Sx g K R U τ) (hd : S + 131 ≤ U ∨ U + 131 ≤ S) {I0 : Nat → Nat → Int32} (hw : zz_sx I0 τ U w) : ∀ (k i : Nat) (I : Nat → Nat → Int32), i + k = 32 → (∀ j, j < 4 → I (S + 1) j = zz_dmp w (nI j)) → (∀ j x, j < i → (sv_t w)[j]? = some x → zz_gx I (S + 3 + 4 * σ j) x) → zz_fr S (S + 131) I0 I →
    Zz g l mm_S_copyFrom 0 0 (fun a h' => ∃ I', h' = (K, R, I', L, z) ∧ a = none ∧ zz_sx I' σ S w ∧ zz_fr S (S + 131) I0 I') zz_no 0 0 30 [some (.ref S), some (.ref U), some (.int (nI i))] [] (K, R, I, L, z) := by
  intro k
  have hS' := hS
  have hU' := hU
  obtain ⟨⟨k1, k2, k3, k4, k5, k6, k7, k8⟩, hG, hr, hσ, hj⟩ := hS
  obtain ⟨⟨u1, u2, u3, u4, u5, u6, u7, u8⟩, uG, ur, uσ, uj⟩ := hU
  induction k with
  | zero =>
    intro i I hi hdm htl hfr
    have hw1 := hw.fr uσ hfr (by omega)
    obtain ⟨⟨a1, a2, a3⟩, ⟨b1, b2, b3⟩, c1, c2, c3⟩ := hw1
    refine z_iload_n ee_S_copyFrom_30 rfl ?_
    refine z_aload_n ee_S_copyFrom_31 rfl ?_
    refine z_getR ee_S_copyFrom_32 ff_S_copyFrom_17 (by assumption) il_5_1 (by assumption) ?_
    refine z_alen ee_S_copyFrom_35 (by assumption) ?_
    refine z_icmp_ge ee_S_copyFrom_36 (tgt := 65) (by decide) (fun c_36 => ?_) (fun c_36 => ?_)
    -- at 36
    · refine z_aload_n ee_S_copyFrom_65 rfl ?_
      refine z_aload_n ee_S_copyFrom_66 rfl ?_
      refine z_getI ee_S_copyFrom_67 ff_S_copyFrom_21 (by assumption) il_5_2 ?_
      refine z_putI ee_S_copyFrom_70 ff_S_copyFrom_21 (by assumption) (by assumption) tl_5_2 fl_5_2 ?_
      refine z_aload_n ee_S_copyFrom_73 rfl ?_
      refine z_aload_n ee_S_copyFrom_74 rfl ?_
      refine z_getI ee_S_copyFrom_75 ff_S_copyFrom_25 (by assumption) il_5_3 ?_
      refine z_putI ee_S_copyFrom_78 ff_S_copyFrom_25 (by assumption) (by assumption) tl_5_3 fl_5_3 ?_
      refine z_aload_n ee_S_copyFrom_81 rfl ?_
      refine z_aload_n ee_S_copyFrom_82 rfl ?_
      refine z_getI ee_S_copyFrom_83 ff_S_copyFrom_28 (by assumption) il_5_4 ?_
      refine z_putI ee_S_copyFrom_86 ff_S_copyFrom_28 (by assumption) (by assumption) tl_5_4 fl_5_4 ?_
      refine z_aload_n ee_S_copyFrom_89 rfl ?_
      refine z_aload_n ee_S_copyFrom_90 rfl ?_
      refine z_getI ee_S_copyFrom_91 ff_S_copyFrom_31 (by assumption) il_5_5 ?_
      refine z_putI ee_S_copyFrom_94 ff_S_copyFrom_31 (by assumption) (by assumption) tl_5_5 fl_5_5 ?_
      refine z_aload_n ee_S_copyFrom_97 rfl ?_
      refine z_aload_n ee_S_copyFrom_98 rfl ?_
      refine z_getI ee_S_copyFrom_99 ff_S_copyFrom_34 (by assumption) il_5_6 ?_
      refine z_putI ee_S_copyFrom_102 ff_S_copyFrom_34 (by assumption) (by assumption) tl_5_6 fl_5_6 ?_
      refine z_vret ee_S_copyFrom_105 rfl (by omega) (by omega) ?_
      -- at 105
      simp only [zz_up_r (show U ≠ S by omega)]
      refine ⟨_, rfl, trivial, ⟨⟨?_, a2, fun j hj2 => ?_⟩, ⟨?_, b2, fun j x hx => ?_⟩, ?_, ?_, ?_⟩, ((((hfr.up (by omega) (by omega)).up (by omega) (by omega)).up (by omega) (by omega)).up (by omega) (by omega)).up (by omega) (by omega)⟩
      · rw [zz_up_k (by decide), zz_up_k (by decide), zz_up_k (by decide), zz_up_k (by decide), zz_up_s]; exact a1
      · simp only [zz_up_r (show S + 1 ≠ S by omega)]
        rw [hdm j (by omega), zz_dmp_n hj2 a2]
      · rw [zz_up_k (by decide), zz_up_k (by decide), zz_up_k (by decide), zz_up_s]; exact b1
      · have h1 := zz_lt_of hx
        exact (htl j x (by omega) hx).fr ((((((zz_fr.rf (lo := S) (hi := S + 1)).up (by omega) (by omega)).up (by omega) (by omega)).up (by omega) (by omega)).up (by omega) (by omega)).up (by omega) (by omega)) (by omega)
      · rw [zz_up_k (by decide), zz_up_k (by decide), zz_up_s]; exact c1
      · rw [zz_up_k (by decide), zz_up_s]; exact c2
      · rw [zz_up_s]; exact c3
    · simp (disch := omega) only [zi_lt, zi_le, zi_eq, zi_n, zi_0, zi_m1] at c_36
      omega
  | succ k ih =>
    intro i I hi hdm htl hfr
    have hw1 := hw.fr uσ hfr (by omega)
    refine z_iload_n ee_S_copyFrom_30 rfl ?_
    refine z_aload_n ee_S_copyFrom_31 rfl ?_
    refine z_getR ee_S_copyFrom_32 ff_S_copyFrom_17 (by assumption) il_5_1 (by assumption) ?_
    refine z_alen ee_S_copyFrom_35 (by assumption) ?_
    refine z_icmp_ge ee_S_copyFrom_36 (tgt := 65) (by decide) (fun c_36 => ?_) (fun c_36 => ?_)
    -- at 36
    · simp (disch := omega) only [zi_lt, zi_le, zi_eq, zi_n, zi_0, zi_m1] at c_36
      omega
    · refine z_aload_n ee_S_copyFrom_39 rfl ?_
      refine z_iload_n ee_S_copyFrom_40 rfl ?_
      -- at 41
      refine z_callV (As := [_]) ee_S_copyFrom_41 kk_S_copyFrom_42 rfl (by assumption) rfl rfl (Nat.le_of_ble_eq_true rfl) (by omega) (sp_S_telegramIn hf hU' hw1 (nI i)) (fun E h1 hx => hx.elim) (fun v h1 hq => ?_)
      obtain ⟨rfl, rfl⟩ := hq
      rw [zi_n (by omega)]
      by_cases q : i < (sv_t w).length
      · rw [if_pos (by omega), Int.toNat_natCast]
        have hx : (sv_t w)[i]? = some ((sv_t w)[i]) := List.getElem?_eq_getElem q
        have hgx := hw1.2.1.2.2 _ _ hx
        have hs := hσ i (by omega)
        have hu := uσ i (by omega)
        have hGi := hG _ hs
        have hk := hGi.1
        refine z_astore_m ee_S_copyFrom_44 (j := 3) rfl (by decide) ?_
        refine z_aload_n ee_S_copyFrom_45 rfl ?_
        refine z_ifnull ee_S_copyFrom_46 ?_
        refine z_aload_n ee_S_copyFrom_49 rfl ?_
        refine z_getR ee_S_copyFrom_50 ff_S_copyFrom_17 (by assumption) il_5_1 (by assumption) ?_
        refine z_iload_n ee_S_copyFrom_53 rfl ?_
        -- at 54
        refine z_aald ee_S_copyFrom_54 (by assumption) (by decide) rfl (by omega) (by omega) (hr _ (by omega)) ?_
        refine z_aload_n ee_S_copyFrom_55 rfl ?_
        -- at 56
        refine z_callV (As := [_]) ee_S_copyFrom_56 kk_S_copyFrom_46 rfl (by assumption) rfl rfl (Nat.le_of_ble_eq_true rfl) (by omega) (sp_G_copyFrom hf hGi (uG _ hu) hgx (by omega)) (fun E h1 hx => hx.elim) (fun v h1 hq => ?_)
        obtain ⟨I2, rfl, rfl, hx2, hfr2⟩ := hq
        refine z_iinc ee_S_copyFrom_59 rfl rfl (by decide) ?_
        refine z_goto ee_S_copyFrom_62 (tgt := 30) (by decide) ?_
        -- at 30
        rw [zz_iinc1]
        refine z_lvk (ih (i + 1) I2 (by omega) (fun j hj2 => ?_) (fun j x hj2 hx3 => ?_) (hfr.trans (hfr2.wid (by omega) (by omega)))) ⟨rfl, rfl, rfl, trivial⟩
        · rw [hfr2 _ (by omega)]
          exact hdm j hj2
        · by_cases e : j = i
          · subst e
            rw [hx] at hx3
            cases hx3
            exact hx2
          · have h6 := hσ j (by omega)
            have h7 : σ j ≠ σ i := fun e2 => e (hj j i (by omega) (by omega) e2)
            exact (htl j x (by omega) hx3).fr hfr2 (by omega)
      · rw [if_neg (by omega)]
        refine z_astoreN_m ee_S_copyFrom_44 (j := 3) rfl (by decide) ?_
        refine z_aloadN_n ee_S_copyFrom_45 rfl ?_
        refine z_ifnullN ee_S_copyFrom_46 (tgt := 59) (by decide) ?_
        refine z_iinc ee_S_copyFrom_59 rfl rfl (by decide) ?_
        refine z_goto ee_S_copyFrom_62 (tgt := 30) (by decide) ?_
        -- at 30
        rw [zz_iinc1]
        refine z_lvk (ih (i + 1) I (by omega) hdm (fun j x hj2 hx3 => ?_) hfr) ⟨rfl, rfl, rfl, trivial⟩
        have h1 := zz_lt_of hx3
        exact htl j x (by omega) hx3
theorem zz_scp1_loop (hf : l.stackTraces = false) (hS : zz_Sx g K R S σ) (hU : zz_Sx g K R U τ) (hd : S + 131 ≤ U ∨ U + 131 ≤ S) {I0 : Nat → Nat → Int32} (hw : zz_sx I0 τ U w) : ∀ (k i : Nat) (I : Nat → Nat → Int32), i + k = 4 → (∀ j, j < i → I (S + 1) j = zz_dmp w (nI j)) → zz_fr S (S + 131) I0 I →
    Zz g l mm_S_copyFrom 0 0 (fun a h' => ∃ I', h' = (K, R, I', L, z) ∧ a = none ∧ zz_sx I' σ S w ∧ zz_fr S (S + 131) I0 I') zz_no 0 0 2 [some (.ref S), some (.ref U), some (.int (nI i))] [] (K, R, I, L, z) := by
  intro k
  have hS' := hS
  have hU' := hU
  obtain ⟨⟨k1, k2, k3, k4, k5, k6, k7, k8⟩, hG, hr, hσ, hj⟩ := hS
  obtain ⟨⟨u1, u2, u3, u4, u5, u6, u7, u8⟩, uG, ur, uσ, uj⟩ := hU
  induction k with
  | zero =>
    intro i I hi hdm hfr
    refine z_iload_n ee_S_copyFrom_2 rfl ?_
    refine z_aload_n ee_S_copyFrom_3 rfl ?_
    refine z_getR ee_S_copyFrom_4 ff_S_copyFrom_9 (by assumption) il_5_0 (by assumption) ?_
    refine z_alen ee_S_copyFrom_7 (by assumption) ?_
    refine z_icmp_ge ee_S_copyFrom_8 (tgt := 28) (by decide) (fun c_8 => ?_) (fun c_8 => ?_)
    -- at 8
    · refine z_iconst ee_S_copyFrom_28 (v := nI 0) (by decide) ?_
      refine z_istore_m ee_S_copyFrom_29 (j := 2) rfl (by decide) ?_
      -- at 30
      exact zz_scp2_loop hf hS' hU' hd hw 32 0 I (by omega) (fun j hj2 => hdm j (by omega)) (fun j x hj2 => absurd hj2 (by omega)) hfr
    · simp (disch := omega) only [zi_lt, zi_le, zi_eq, zi_n, zi_0, zi_m1] at c_8
      omega
  | succ k ih =>
    intro i I hi hdm hfr
    have hw1 := hw.fr uσ hfr (by omega)
    refine z_iload_n ee_S_copyFrom_2 rfl ?_
    refine z_aload_n ee_S_copyFrom_3 rfl ?_
    refine z_getR ee_S_copyFrom_4 ff_S_copyFrom_9 (by assumption) il_5_0 (by assumption) ?_
    refine z_alen ee_S_copyFrom_7 (by assumption) ?_
    refine z_icmp_ge ee_S_copyFrom_8 (tgt := 28) (by decide) (fun c_8 => ?_) (fun c_8 => ?_)
    -- at 8
    · simp (disch := omega) only [zi_lt, zi_le, zi_eq, zi_n, zi_0, zi_m1] at c_8
      omega
    · refine z_aload_n ee_S_copyFrom_11 rfl ?_
      refine z_getR ee_S_copyFrom_12 ff_S_copyFrom_9 (by assumption) il_5_0 (by assumption) ?_
      refine z_iload_n ee_S_copyFrom_15 rfl ?_
      refine z_aload_n ee_S_copyFrom_16 rfl ?_
      refine z_iload_n ee_S_copyFrom_17 rfl ?_
      -- at 18
      refine z_callV (As := [_]) ee_S_copyFrom_18 kk_S_copyFrom_38 rfl (by assumption) rfl rfl (Nat.le_of_ble_eq_true rfl) (by omega) (sp_S_dampnessAt hf hU' hw1 _) (fun E h1 hx => hx.elim) (fun v h1 hq => ?_)
      obtain ⟨rfl, rfl⟩ := hq
      refine z_iast ee_S_copyFrom_21 (by assumption) (by assumption) rfl (by omega) (by omega) ?_
      refine z_iinc ee_S_copyFrom_22 rfl rfl (by decide) ?_
      refine z_goto ee_S_copyFrom_25 (tgt := 2) (by decide) ?_
      -- at 2
      rw [zz_iinc1]
      refine ih (i + 1) _ (by omega) (fun j hj2 => ?_) (hfr.up (by omega) (by omega))
      by_cases q : j = i
      · subst q
        rw [zz_up_s]
      · rw [zz_up_k q]
        exact hdm j (by omega)
theorem sp_S_copyFrom (hf : l.stackTraces = false) (hS : zz_Sx g K R S σ) (hU : zz_Sx g K R U τ) (hd : S + 131 ≤ U ∨ U + 131 ≤ S) (hw : zz_sx I τ U w) : zz_S g l mm_S_copyFrom 0 0 [.ref S, .ref U] (K, R, I, L, z) (fun a h' => ∃ I', h' = (K, R, I', L, z) ∧ a = none ∧ zz_sx I' σ S w ∧ zz_fr S (S + 131) I I') zz_no := by
  refine z_start hf rfl (by decide +kernel) (Nat.le_of_ble_eq_true rfl) ?_
  dsimp only [zz_lv0]
  refine z_iconst ee_S_copyFrom_0 (v := nI 0) (by decide) ?_
  refine z_istore_m ee_S_copyFrom_1 (j := 2) rfl (by decide) ?_
  -- at 2
  exact zz_scp1_loop hf hS hU hd hw 4 0 I (by omega) (fun j hj2 => absurd hj2 (by omega)) zz_fr.rf
end Store4
