/-! CARVER: carving -/
def zv_carve (v : zz_SV) (r o : Int32) (ms : List Int32) : zz_RS × zz_SV :=
  if ¬ zz_hr v r then (.inr (-12), v) else if o < 0 ∨ nI 9 < o then (.inr (-13), v) else if ms.length = 0 then (.inl (nI 2, nI (sv_t v).length), v) else
  if ¬ (zz_cpi v r + nI (zz_pgs (zz_fold 864 0 ms []).length) ≤ nI 8 ∧ (sv_t v).length < 32) then (.inl (nI 1, nI 8), v) else
  (.inr (sv_n v), (sv_r v, sv_t v ++ [((zz_fold 864 0 ms []).take 96, List.replicate 8 0, zz_pgs ((zz_fold 864 0 ms []).take 96).length, sv_n v, r, o, zz_sum ms)], sv_n v + nI 1, sv_d v, sv_c v + nI ms.length))
def zv_out (v : zz_SV) (k a b : Int32) : zz_RS × zz_SV :=
  if k = nI 0 then zv_plant v a else if k = nI 1 then zv_dry v a else if k = nI 2 then zv_pass v a else if k = nI 3 then zv_anew v a else if k = nI 4 then zv_move v a b else if k = nI 5 then zv_drop v a else (.inr (-13), v)
section Carver3
variable {g : zz_G} {l : Launch} {K : Nat → Nat × Nat} {R : Nat → Nat → Option Nat} {I : Nat → Nat → Int32} {L : Nat → Nat → Int64} {z : Nat} {C T m : Nat} {v w : zz_SV} {x : zz_TG} {ms : List Int32}
theorem sp_V_carveAnew (hf : l.stackTraces = false) (hV : zz_Vx g K R C) (hS : zz_So g K R I (C + 1) v) (n : Int32) : zz_S g l mm_V_carveAnew 0 0 [.ref C, .int n] (K, R, I, L, z) (zz_VQ g K R I L z C (zv_anew v n)) zz_no := by
  have hV' := hV
  obtain ⟨v1, v2, v3, v4, v5, v6, v7⟩ := hV
  obtain ⟨σ, hS, hv⟩ := hS
  have k1 := hS.1.1
  unfold zv_anew
  refine z_start hf rfl (by decide +kernel) (Nat.le_of_ble_eq_true rfl) ?_
  dsimp only [zz_lv0]
  refine z_aload_n ee_V_carveAnew_0 rfl ?_
  refine z_getR ee_V_carveAnew_1 ff_V_carveAnew_12 (by assumption) il_1_0 (by assumption) ?_
  refine z_iload_n ee_V_carveAnew_4 rfl ?_
  -- at 5
  refine z_callV (As := [_]) ee_V_carveAnew_5 kk_V_carveAnew_119 rfl (by assumption) rfl rfl (Nat.le_of_ble_eq_true rfl) (by omega) (sp_S_find hf hS hv n) (fun E h1 hx => hx.elim) (fun v h1 hq => ?_)
  obtain ⟨rfl, rfl⟩ := hq
  cases hp : zz_pos n 0 (sv_t v) with
  | none =>
    rw [zv_tel_n hp]
    refine z_astoreN_m ee_V_carveAnew_8 (j := 2) rfl (by decide) ?_
    refine z_aloadN_n ee_V_carveAnew_9 rfl ?_
    refine z_ifnonnullN ee_V_carveAnew_10 ?_
    refine z_bipush ee_V_carveAnew_13 (v := -11) (by decide) ?_
    refine z_iret ee_V_carveAnew_15 rfl (by omega) (by omega) ?_
    -- at 15
    exact zz_VQ.same hS hv rfl rfl
  | some p =>
    obtain ⟨hp1, x, hx, -⟩ := zz_pos_at hp
    rw [zv_tel_s hp hx]
    have hp2 : p < 32 := by have := hv.2.1.2.1; omega
    have hs := hS.2.2.2.1 p hp2
    have hG := hS.2.1 _ hs
    have hG' := hG
    obtain ⟨g1, g2, g3, g4, g5, g6, g7⟩ := hG
    have hgx := hv.2.1.2.2 p x hx
    have vk := v6.1
    refine z_astore_m ee_V_carveAnew_8 (j := 2) rfl (by decide) ?_
    refine z_aload_n ee_V_carveAnew_9 rfl ?_
    refine z_ifnonnull ee_V_carveAnew_10 (tgt := 16) (by decide) ?_
    refine z_aload_n ee_V_carveAnew_16 rfl ?_
    refine z_aload_n ee_V_carveAnew_17 rfl ?_
    -- at 18
    refine z_callV (As := [_]) ee_V_carveAnew_18 kk_V_carveAnew_141 rfl (by assumption) rfl rfl (Nat.le_of_ble_eq_true rfl) (by omega) (sp_V_unfoldIfReadable hf hV' hG' hgx (by omega)) (fun E h1 hx => hx.elim) (fun v h1 hq => ?_)
    obtain ⟨I2, rfl, rfl, h3, h4, h5, h6⟩ := hq
    have hv2 := hv.in hS.2.2.2.1 (h5.wid (by omega) (by omega))
    unfold zv_anew1
    refine z_istore_m ee_V_carveAnew_21 (j := 3) rfl (by decide) ?_
    refine z_iload_n ee_V_carveAnew_22 rfl ?_
    refine z_if_ge ee_V_carveAnew_23 (tgt := 28) (by decide) (fun c_23 => ?_) (fun c_23 => ?_)
    -- at 23
    · rw [if_neg (Int32.not_lt.mpr c_23)]
      have hdec : zz_tx I2 (C + 132) 432 (zz_dec x) := by
        cases hu : zz_uir x with
        | inr o => exact h4 o hu
        | inl q =>
          rw [hu] at c_23
          unfold zz_uir at hu
          split at hu
          · cases hu; exact absurd (show (0 : Int32) ≤ -nI 3 from c_23) (by decide)
          · split at hu
            · cases hu; exact absurd (show (0 : Int32) ≤ -nI 5 from c_23) (by decide)
            · split at hu
              · cases hu
              · cases hu; exact absurd (show (0 : Int32) ≤ -nI 6 from c_23) (by decide)
      refine z_aload_n ee_V_carveAnew_28 rfl ?_
      refine z_getR ee_V_carveAnew_29 ff_V_carveAnew_23 (by assumption) il_1_1 (by assumption) ?_
      refine z_aload_n ee_V_carveAnew_32 rfl ?_
      refine z_getR ee_V_carveAnew_33 ff_V_carveAnew_27 (by assumption) il_1_2 (by assumption) ?_
      -- at 36
      refine z_callS (As := [_, _]) ee_V_carveAnew_36 kk_V_carveAnew_77 rfl rfl (Nat.le_of_ble_eq_true rfl) (by omega) (sp_O_fold hf v5 v6 (by omega) hdec) (fun E h1 hx => hx.elim) (fun v h1 hq => ?_)
      obtain ⟨I3, rfl, rfl, hy3, hfr3⟩ := hq
      have hl3 := hy3.2.1
      have hv3 := hv2.fr hS.2.2.2.1 hfr3 (by omega)
      have hgx3 := hv3.2.1.2.2 p x hx
      have hgx3' := hgx3
      obtain ⟨x1, x2, x3, x4, x5, x6, x7, x8, x9⟩ := hgx3
      refine z_aload_n ee_V_carveAnew_39 rfl ?_
      refine z_getR ee_V_carveAnew_40 ff_V_carveAnew_27 (by assumption) il_1_2 (by assumption) ?_
      refine z_getI ee_V_carveAnew_43 ff_V_carveAnew_71 (by assumption) il_7_1 ?_
      -- at 46
      rw [hy3.1]
      refine z_callS (As := [_]) ee_V_carveAnew_46 kk_V_carveAnew_83 rfl rfl (Nat.le_of_ble_eq_true rfl) (by omega) (sp_G_pagesFor hf _ (by omega)) (fun E h1 hx => hx.elim) (fun v h1 hq => ?_)
      obtain ⟨rfl, rfl⟩ := hq
      refine z_istore ee_V_carveAnew_49 (by decide) ?_
      refine z_aload_n ee_V_carveAnew_51 rfl ?_
      refine z_getR ee_V_carveAnew_52 ff_V_carveAnew_12 (by assumption) il_1_0 (by assumption) ?_
      refine z_aload_n ee_V_carveAnew_55 rfl ?_
      refine z_getI ee_V_carveAnew_56 ff_V_carveAnew_96 (by assumption) il_6_4 ?_
      refine z_iload ee_V_carveAnew_59 rfl ?_
      refine z_aload_n ee_V_carveAnew_61 rfl ?_
      refine z_getI ee_V_carveAnew_62 ff_V_carveAnew_145 (by assumption) il_6_2 ?_
      refine z_isub ee_V_carveAnew_65 ?_
      -- at 66
      rw [x7, x4]
      refine z_callV (As := [_, _]) ee_V_carveAnew_66 kk_V_carveAnew_88 rfl (by assumption) rfl rfl (Nat.le_of_ble_eq_true rfl) (by omega) (sp_S_hasRoomFor hf hS hv3 _ _) (fun E h1 hx => hx.elim) (fun v h1 hq => ?_)
      obtain ⟨rfl, rfl⟩ := hq
      have hcp : zz_kt (C + 1) (C + 132) I I3 := h5.trans (hfr3.in (by omega))
      have hfrr : zz_fr C (C + 136) I I3 := h6.trans (hfr3.wid (by omega) (by omega))
      refine z_if_ne ee_V_carveAnew_69 (tgt := 80) (by decide) (fun c_69 => ?_) (fun c_69 => ?_)
      -- at 69
      · rw [zz_tf_n0] at c_69
        rw [if_neg (fun q => q c_69)]
        refine z_aload_n ee_V_carveAnew_80 rfl ?_
        refine z_aload_n ee_V_carveAnew_81 rfl ?_
        refine z_getR ee_V_carveAnew_82 ff_V_carveAnew_27 (by assumption) il_1_2 (by assumption) ?_
        -- at 85
        refine z_callV (As := [_]) ee_V_carveAnew_85 kk_V_carveAnew_109 rfl (by assumption) rfl rfl (Nat.le_of_ble_eq_true rfl) (by omega) (sp_G_inscribe hf hG' v6 hy3 (by omega)) (fun E h1 hx => hx.elim) (fun v h1 hq => ?_)
        obtain ⟨I4, rfl, rfl, hx4, hfr4⟩ := hq
        rw [x6, x7, x8, x9] at hx4
        refine z_iload ee_V_carveAnew_88 rfl ?_
        refine z_iret ee_V_carveAnew_90 rfl (by omega) (by omega) ?_
        -- at 90
        refine ⟨R, I4, rfl, rfl, fun q hq => (by cases hq), ⟨σ, hS, ?_⟩, zz_fq.rf, hfrr.trans (hfr4.wid (by omega) (by omega))⟩
        exact hv3.tel hS.2.2.2.1 hS.2.2.2.2 hp1 hfr4 hx4
      · rw [zz_tf_0] at c_69
        rw [if_pos c_69]
        refine z_aload_n ee_V_carveAnew_72 rfl ?_
        refine z_iconst ee_V_carveAnew_73 (v := nI 1) (by decide) ?_
        refine z_bipush ee_V_carveAnew_74 (v := nI 8) (by decide) ?_
        -- at 76
        refine z_callV (As := [_, _]) ee_V_carveAnew_76 kk_V_carveAnew_57 rfl (by assumption) rfl rfl (Nat.le_of_ble_eq_true rfl) (by omega) (sp_V_denied hf v1 v7 _ _) (fun E h1 hx => hx.elim) (fun v h1 hq => ?_)
        obtain ⟨rfl, rfl⟩ := hq
        refine z_iret ee_V_carveAnew_79 rfl (by omega) (by omega) ?_
        -- at 79
        exact ⟨R, _, rfl, rfl, fun q hq => (by cases hq; exact zz_up_s), ⟨σ, hS, hv3.fr hS.2.2.2.1 (lo := C) (hi := C + 1) (zz_fr.rf.up (by omega) (by omega)) (by omega)⟩, zz_fq.rf, hfrr.up (by omega) (by omega)⟩
    · rw [if_pos (Int32.not_le.mp c_23)]
      refine z_iload_n ee_V_carveAnew_26 rfl ?_
      refine z_iret ee_V_carveAnew_27 rfl (by omega) (by omega) ?_
      -- at 27
      exact ⟨R, I2, rfl, rfl, h3, ⟨σ, hS, hv2⟩, zz_fq.rf, h6⟩
theorem sp_V_carveText (hf : l.stackTraces = false) (hV : zz_Vx g K R C) (hS : zz_So g K R I (C + 1) v) (hT : zz_Tx g K R T m) (hm : zz_tx I T m ms) (hd : T + 2 ≤ C ∨ C + 136 ≤ T) (r o : Int32) : zz_S g l mm_V_carveText 0 0 [.ref C, .int r, .int o, .ref T] (K, R, I, L, z) (zz_VQ g K R I L z C (zv_carve v r o ms)) zz_no := by
  have hV' := hV
  obtain ⟨v1, v2, v3, v4, v5, v6, v7⟩ := hV
  obtain ⟨σ, hS, hv⟩ := hS
  have hS' := hS
  obtain ⟨⟨k1, k2, k3, k4, k5, k6, k7, k8⟩, hG, hr, hσ, hj⟩ := hS
  have t1 := hT.1
  have t6 := hT.2.2.2.2.2
  have hml := hm.2.1
  have vk := v6.1
  unfold zv_carve
  refine z_start hf rfl (by decide +kernel) (Nat.le_of_ble_eq_true rfl) ?_
  dsimp only [zz_lv0]
  refine z_aload_n ee_V_carveText_0 rfl ?_
  refine z_getR ee_V_carveText_1 ff_V_carveText_12 (by assumption) il_1_0 (by assumption) ?_
  refine z_iload_n ee_V_carveText_4 rfl ?_
  -- at 5
  refine z_callV (As := [_]) ee_V_carveText_5 kk_V_carveText_64 rfl (by assumption) rfl rfl (Nat.le_of_ble_eq_true rfl) (by omega) (sp_S_hasRoot hf hS' hv r) (fun E h1 hx => hx.elim) (fun v h1 hq => ?_)
  obtain ⟨rfl, rfl⟩ := hq
  refine z_if_ne ee_V_carveText_8 (tgt := 14) (by decide) (fun c_8 => ?_) (fun c_8 => ?_)
  -- at 8
  · rw [zz_tf_n0] at c_8
    rw [if_neg (fun q => q c_8)]
    have bad : o < 0 ∨ nI 9 < o → Zz g l mm_V_carveText 0 0 (zz_VQ g K R I L z C (if o < 0 ∨ nI 9 < o then (.inr (-13), v) else if ms.length = 0 then (.inl (nI 2, nI (sv_t v).length), v) else if ¬ (zz_cpi v r + nI (zz_pgs (zz_fold 864 0 ms []).length) ≤ nI 8 ∧ (sv_t v).length < 32) then (.inl (nI 1, nI 8), v) else (.inr (sv_n v), (sv_r v, sv_t v ++ [((zz_fold 864 0 ms []).take 96, List.replicate 8 0, zz_pgs ((zz_fold 864 0 ms []).take 96).length, sv_n v, r, o, zz_sum ms)], sv_n v + nI 1, sv_d v, sv_c v + nI ms.length)))) zz_no 0 0 24 [some (.ref C), some (.int r), some (.int o), some (.ref T)] [] (K, R, I, L, z) := by
      intro h
      rw [if_pos h]
      refine z_bipush ee_V_carveText_24 (v := -13) (by decide) ?_
      refine z_iret ee_V_carveText_26 rfl (by omega) (by omega) ?_
      -- at 26
      exact zz_VQ.same hS' hv rfl rfl
    refine z_iload_n ee_V_carveText_14 rfl ?_
    refine z_if_lt ee_V_carveText_15 (tgt := 24) (by decide) (fun c_15 => ?_) (fun c_15 => ?_)
    -- at 15
    · exact bad (Or.inl c_15)
    · refine z_iload_n ee_V_carveText_18 rfl ?_
      refine z_bipush ee_V_carveText_19 (v := nI 9) (by decide) ?_
      refine z_icmp_le ee_V_carveText_21 (tgt := 27) (by decide) (fun c_21 => ?_) (fun c_21 => ?_)
      -- at 21
      · rw [if_neg (fun q => q.elim c_15 (Int32.not_lt.mpr c_21))]
        refine z_aload_n ee_V_carveText_27 rfl ?_
        refine z_getI ee_V_carveText_28 ff_V_carveText_71 (by assumption) il_7_1 ?_
        refine z_if_ne ee_V_carveText_31 (tgt := 47) (by decide) (fun c_31 => ?_) (fun c_31 => ?_)
        -- at 31
        · rw [hm.1] at c_31
          rw [if_neg (fun q => c_31 (by rw [q]; rfl))]
          refine z_aload_n ee_V_carveText_47 rfl ?_
          refine z_aload_n ee_V_carveText_48 rfl ?_
          refine z_getR ee_V_carveText_49 ff_V_carveText_27 (by assumption) il_1_2 (by assumption) ?_
          -- at 52
          refine z_callS (As := [_, _]) ee_V_carveText_52 kk_V_carveText_77 rfl rfl (Nat.le_of_ble_eq_true rfl) (by omega) (sp_O_fold hf hT v6 (by omega) hm) (fun E h1 hx => hx.elim) (fun v h1 hq => ?_)
          obtain ⟨I2, rfl, rfl, hy2, hfr2⟩ := hq
          have hl2 := hy2.2.1
          have hv2 := hv.fr hσ hfr2 (by omega)
          have hm2 := hm.fr hfr2 (by omega)
          refine z_aload_n ee_V_carveText_55 rfl ?_
          refine z_getR ee_V_carveText_56 ff_V_carveText_12 (by assumption) il_1_0 (by assumption) ?_
          refine z_iload_n ee_V_carveText_59 rfl ?_
          refine z_aload_n ee_V_carveText_60 rfl ?_
          refine z_getR ee_V_carveText_61 ff_V_carveText_27 (by assumption) il_1_2 (by assumption) ?_
          refine z_getI ee_V_carveText_64 ff_V_carveText_71 (by assumption) il_7_1 ?_
          -- at 67
          rw [hy2.1]
          refine z_callS (As := [_]) ee_V_carveText_67 kk_V_carveText_83 rfl rfl (Nat.le_of_ble_eq_true rfl) (by omega) (sp_G_pagesFor hf _ (by omega)) (fun E h1 hx => hx.elim) (fun v h1 hq => ?_)
          obtain ⟨rfl, rfl⟩ := hq
          refine z_callV (As := [_, _]) ee_V_carveText_70 kk_V_carveText_88 rfl (by assumption) rfl rfl (Nat.le_of_ble_eq_true rfl) (by omega) (sp_S_hasRoomFor hf hS' hv2 _ _) (fun E h1 hx => hx.elim) (fun v h1 hq => ?_)
          obtain ⟨rfl, rfl⟩ := hq
          have hfrr : zz_fr C (C + 136) I I2 := hfr2.wid (by omega) (by omega)
          have full : ∀ F : Int32, ¬ (zz_cpi v r + nI (zz_pgs (zz_fold 864 0 ms []).length) ≤ nI 8 ∧ (sv_t v).length < 32) → Zz g l mm_V_carveText 0 0 (zz_VQ g K R I L z C (if ¬ (zz_cpi v r + nI (zz_pgs (zz_fold 864 0 ms []).length) ≤ nI 8 ∧ (sv_t v).length < 32) then (.inl (nI 1, nI 8), v) else (.inr (sv_n v), (sv_r v, sv_t v ++ [((zz_fold 864 0 ms []).take 96, List.replicate 8 0, zz_pgs ((zz_fold 864 0 ms []).take 96).length, sv_n v, r, o, zz_sum ms)], sv_n v + nI 1, sv_d v, sv_c v + nI ms.length)))) zz_no 0 0 91 [some (.ref C), some (.int r), some (.int o), some (.ref T), some (.int F)] [.null] (K, R, I2, L, z) := by
            intro F h
            rw [if_pos h]
            refine z_astoreN ee_V_carveText_91 (by decide) ?_
            refine z_aloadN ee_V_carveText_93 rfl ?_
            refine z_ifnonnullN ee_V_carveText_95 ?_
            refine z_aload_n ee_V_carveText_98 rfl ?_
            refine z_iconst ee_V_carveText_99 (v := nI 1) (by decide) ?_
            refine z_bipush ee_V_carveText_100 (v := nI 8) (by decide) ?_
            -- at 102
            refine z_callV (As := [_, _]) ee_V_carveText_102 kk_V_carveText_57 rfl (by assumption) rfl rfl (Nat.le_of_ble_eq_true rfl) (by omega) (sp_V_denied hf v1 v7 _ _) (fun E h1 hx => hx.elim) (fun v h1 hq => ?_)
            obtain ⟨rfl, rfl⟩ := hq
            refine z_iret ee_V_carveText_105 rfl (by omega) (by omega) ?_
            -- at 105
            exact ⟨R, _, rfl, rfl, fun q hq => (by cases hq; exact zz_up_s), ⟨σ, hS', hv2.fr hσ (lo := C) (hi := C + 1) (zz_fr.rf.up (by omega) (by omega)) (by omega)⟩, zz_fq.rf, hfrr.up (by omega) (by omega)⟩
          refine z_istore ee_V_carveText_73 (by decide) ?_
          refine z_iload ee_V_carveText_75 rfl ?_
          refine z_if_eq ee_V_carveText_77 (tgt := 90) (by decide) (fun c_77 => ?_) (fun c_77 => ?_)
          -- at 77
          · rw [zz_tf_0] at c_77
            refine z_null ee_V_carveText_90 ?_
            -- at 91
            exact full _ (fun q => c_77 q.1)
          · rw [zz_tf_n0] at c_77
            refine z_aload_n ee_V_carveText_80 rfl ?_
            refine z_getR ee_V_carveText_81 ff_V_carveText_12 (by assumption) il_1_0 (by assumption) ?_
            -- at 84
            refine z_callV (As := []) ee_V_carveText_84 kk_V_carveText_92 rfl (by assumption) rfl rfl (Nat.le_of_ble_eq_true rfl) (by omega) (sp_S_addTelegram hf hS' hv2) (fun E h1 hx => hx.elim) (fun v h1 hq => ?_)
            rcases hq with ⟨hn, rfl, rfl⟩ | ⟨hn, rfl, rfl⟩
            · refine z_goto ee_V_carveText_87 (tgt := 91) (by decide) ?_
              -- at 91
              exact full _ (fun q => by omega)
            · rw [if_neg (fun q => q ⟨c_77, hn⟩)]
              have hs := hσ (sv_t v).length (by omega)
              have hGt := hG _ hs
              have hGt' := hGt
              obtain ⟨g1, g2, g3, g4, g5, g6, g7⟩ := hGt
              have hv2' := hv2
              obtain ⟨⟨a1, a2, a3⟩, ⟨b1, b2, b3⟩, c1, c2, c3⟩ := hv2
              generalize ht : C + 1 + 3 + 4 * σ (sv_t v).length = t at *
              refine z_goto ee_V_carveText_87 (tgt := 91) (by decide) ?_
              -- at 91
              refine z_astore ee_V_carveText_91 (by decide) ?_
              refine z_aload ee_V_carveText_93 rfl ?_
              refine z_ifnonnull ee_V_carveText_95 (tgt := 106) (by decide) ?_
              refine z_aload ee_V_carveText_106 rfl ?_
              refine z_iload_n ee_V_carveText_108 rfl ?_
              refine z_putI ee_V_carveText_109 ff_V_carveText_96 (by assumption) (by assumption) tl_6_4 fl_6_4 ?_
              refine z_aload ee_V_carveText_112 rfl ?_
              refine z_iload_n ee_V_carveText_114 rfl ?_
              refine z_putI ee_V_carveText_115 ff_V_carveText_99 (by assumption) (by assumption) tl_6_5 fl_6_5 ?_
              refine z_aload ee_V_carveText_118 rfl ?_
              refine z_aload_n ee_V_carveText_120 rfl ?_
              -- at 121
              have hfr3 : zz_fr C (C + 132) I2 (zz_up (zz_up (zz_up (zz_up (zz_up I2 t 3 (sv_n v)) (C + 1) 3 (nI ((sv_t v).length + 1))) (C + 1) 4 (sv_n v + nI 1)) t 4 r) t 5 o) := ((((zz_fr.rf.up (by omega) (by omega)).up (by omega) (by omega)).up (by omega) (by omega)).up (by omega) (by omega)).up (by omega) (by omega)
              have hm3 := hm2.fr hfr3 (by omega)
              refine z_callS (As := [_]) ee_V_carveText_121 kk_V_carveText_102 rfl rfl (Nat.le_of_ble_eq_true rfl) (by omega) (sp_O_sumOf hf hT hm3) (fun E h1 hx => hx.elim) (fun v h1 hq => ?_)
              obtain ⟨rfl, rfl⟩ := hq
              refine z_putI ee_V_carveText_124 ff_V_carveText_106 (by assumption) (by assumption) tl_6_6 fl_6_6 ?_
              refine z_aload ee_V_carveText_127 rfl ?_
              refine z_aload_n ee_V_carveText_129 rfl ?_
              refine z_getR ee_V_carveText_130 ff_V_carveText_27 (by assumption) il_1_2 (by assumption) ?_
              -- at 133
              have hfr4 := hfr3.up (a := t) (k := 6) (x := zz_sum ms) (by omega) (by omega)
              have hy4 := hy2.fr hfr4 (by omega)
              refine z_callV (As := [_]) ee_V_carveText_133 kk_V_carveText_109 rfl (by assumption) rfl rfl (Nat.le_of_ble_eq_true rfl) (by omega) (sp_G_inscribe hf hGt' v6 hy4 (by omega)) (fun E h1 hx => hx.elim) (fun v h1 hq => ?_)
              obtain ⟨I5, rfl, rfl, hx5, hfr5⟩ := hq
              have n1 : t ≠ C + 1 := by omega
              have n2 : C + 1 ≠ t := by omega
              have f1 : I5 (C + 1) = _ := hfr5 (C + 1) (by omega)
              have f2 : I5 (C + 1 + 1) = _ := hfr5 (C + 1 + 1) (by omega)
              have hm5 := (hm2.fr hfr4 (by omega)).fr hfr5 (by omega)
              simp only [zz_up_s, zz_up_r n1, zz_up_r n2, zz_up_k (show (5 : Nat) ≠ 6 by decide), zz_up_k (show (4 : Nat) ≠ 6 by decide), zz_up_k (show (4 : Nat) ≠ 5 by decide), zz_up_k (show (3 : Nat) ≠ 6 by decide), zz_up_k (show (3 : Nat) ≠ 5 by decide), zz_up_k (show (3 : Nat) ≠ 4 by decide), zz_up_a n1] at hx5
              refine z_aload_n ee_V_carveText_136 rfl ?_
              refine z_getR ee_V_carveText_137 ff_V_carveText_12 (by assumption) il_1_0 (by assumption) ?_
              refine z_dup ee_V_carveText_140 rfl ?_
              refine z_getI ee_V_carveText_141 ff_V_carveText_113 (by assumption) il_5_6 ?_
              refine z_aload_n ee_V_carveText_144 rfl ?_
              refine z_getI ee_V_carveText_145 ff_V_carveText_71 (by assumption) il_7_1 ?_
              refine z_iadd ee_V_carveText_148 ?_
              refine z_putI ee_V_carveText_149 ff_V_carveText_113 (by assumption) (by assumption) tl_5_6 fl_5_6 ?_
              refine z_aload ee_V_carveText_152 rfl ?_
              refine z_getI ee_V_carveText_154 ff_V_carveText_116 (by assumption) il_6_3 ?_
              refine z_iret ee_V_carveText_157 rfl (by omega) (by omega) ?_
              -- at 157
              have ev : ∀ k, k ≠ 3 → k ≠ 4 → I5 (C + 1) k = I2 (C + 1) k := fun k q3 q4 => by
                rw [f1, zz_up_a n2, zz_up_a n2, zz_up_a n2, zz_up_k q4, zz_up_k q3, zz_up_a n2]
              have e3 : I5 (C + 1) 3 = nI ((sv_t v).length + 1) := by rw [f1, zz_up_a n2, zz_up_a n2, zz_up_a n2, zz_up_k (by decide), zz_up_s]
              have e4 : I5 (C + 1) 4 = sv_n v + nI 1 := by rw [f1, zz_up_a n2, zz_up_a n2, zz_up_a n2, zz_up_s]
              have hf6 : zz_fr (C + 1) (C + 2) I5 (zz_up I5 (C + 1) 6 (I5 (C + 1) 6 + I5 T 1)) := zz_fr.rf.up (by omega) (by omega)
              have htot : zz_fr C (C + 136) I (zz_up I5 (C + 1) 6 (I5 (C + 1) 6 + I5 T 1)) := (((hfrr.trans (hfr4.wid (by omega) (by omega))).trans (hfr5.wid (by omega) (by omega))).trans (hf6.wid (by omega) (by omega)))
              refine ⟨R, _, rfl, ?_, fun q hq => (by cases hq), ⟨σ, hS', ⟨⟨?_, a2, fun j hj2 => ?_⟩, ⟨?_, ?_, fun i x hx => ?_⟩, ?_, ?_, ?_⟩⟩, zz_fq.rf, htot⟩
              · rw [zz_up_a n1]
                exact congrArg (fun q => some (Value.int q)) hx5.2.2.2.2.2.1
              · rw [zz_up_k (by decide), ev 2 (by decide) (by decide)]; exact a1
              · rw [hf6 _ (by omega), f2]
                have n3 : C + 1 + 1 ≠ t := by omega
                rw [zz_up_a n3, zz_up_a n3, zz_up_a n3, zz_up_a (by omega), zz_up_a (by omega), zz_up_a n3]
                exact a3 j hj2
              · rw [zz_up_k (by decide), e3]
                show _ = nI (sv_t v ++ [_]).length
                rw [List.length_append]; rfl
              · show (sv_t v ++ [_]).length ≤ 32
                rw [List.length_append, List.length_singleton]; omega
              · have hx : (sv_t v ++ [((zz_fold 864 0 ms []).take 96, List.replicate 8 0, zz_pgs ((zz_fold 864 0 ms []).take 96).length, sv_n v, r, o, zz_sum ms)])[i]? = some x := hx
                have hil := zz_lt_of hx
                rw [List.length_append, List.length_singleton] at hil
                by_cases q : i < (sv_t v).length
                · rw [List.getElem?_append_left q] at hx
                  have h6 := hσ i (by omega)
                  have h7 : σ i ≠ σ (sv_t v).length := fun e => absurd (hj i _ (by omega) (by omega) e) (by omega)
                  have hin : zz_kt (C + 1 + 3 + 4 * σ i) (C + 1 + 3 + 4 * σ i + 4) I2 (zz_up I5 (C + 1) 6 (I5 (C + 1) 6 + I5 T 1)) := by
                    refine zz_kt.up ?_ (by omega)
                    refine zz_kt.trans ?_ (hfr5.in (by omega))
                    exact (((((zz_kt.rf.up (by omega)).up (by omega)).up (by omega)).up (by omega)).up (by omega)).up (by omega)
                  exact (b3 i x hx).in hin
                · have q2 : i = (sv_t v).length := by omega
                  rw [q2, List.getElem?_concat_length] at hx
                  cases hx
                  rw [q2, ht]
                  exact hx5.fr hf6 (by omega)
              · rw [zz_up_k (by decide), e4]
              · rw [zz_up_k (by decide), ev 5 (by decide) (by decide)]; exact c2
              · rw [zz_up_s, ev 6 (by decide) (by decide), c3, hm5.1]
        · rw [hm.1] at c_31
          rw [if_pos (by have c_32 : nI ms.length = nI 0 := c_31; exact (nI_eq (by omega) (by omega)).mp c_32)]
          refine z_aload_n ee_V_carveText_34 rfl ?_
          refine z_iconst ee_V_carveText_35 (v := nI 2) (by decide) ?_
          refine z_aload_n ee_V_carveText_36 rfl ?_
          refine z_getR ee_V_carveText_37 ff_V_carveText_12 (by assumption) il_1_0 (by assumption) ?_
          refine z_getI ee_V_carveText_40 ff_V_carveText_74 (by assumption) il_5_3 ?_
          -- at 43
          rw [hv.2.1.1]
          refine z_callV (As := [_, _]) ee_V_carveText_43 kk_V_carveText_57 rfl (by assumption) rfl rfl (Nat.le_of_ble_eq_true rfl) (by omega) (sp_V_denied hf v1 v7 _ _) (fun E h1 hx => hx.elim) (fun v h1 hq => ?_)
          obtain ⟨rfl, rfl⟩ := hq
          refine z_iret ee_V_carveText_46 rfl (by omega) (by omega) ?_
          -- at 46
          exact zz_VQ.deny hS' hv
      · exact bad (Or.inr (Int32.not_le.mp c_21))
  · rw [zz_tf_0] at c_8
    rw [if_pos c_8]
    refine z_bipush ee_V_carveText_11 (v := -12) (by decide) ?_
    refine z_iret ee_V_carveText_13 rfl (by omega) (by omega) ?_
    -- at 13
    exact zz_VQ.same hS' hv rfl rfl
theorem sp_V_carryOut (hf : l.stackTraces = false) (hV : zz_Vx g K R C) (hS : zz_So g K R I (C + 1) v) (k : Nat) (hk : k < 6) (a b : Int32) : zz_S g l mm_V_carryOut 0 0 [.ref C, .int (nI k), .int a, .int b] (K, R, I, L, z) (zz_VQ g K R I L z C (zv_out v (nI k) a b)) zz_no := by
  have v1 := hV.1
  unfold zv_out
  refine z_start hf rfl (by decide +kernel) (Nat.le_of_ble_eq_true rfl) ?_
  dsimp only [zz_lv0]
  refine z_iload_n ee_V_carryOut_0 rfl ?_
  -- at 1
  have hc : k = 0 ∨ k = 1 ∨ k = 2 ∨ k = 3 ∨ k = 4 ∨ k = 5 := by omega
  rcases hc with rfl | rfl | rfl | rfl | rfl | rfl
  · rw [if_pos rfl]
    refine z_tin ee_V_carryOut_1 (off := 39) (tgt := 40) (by decide) (by decide) (by decide) (by decide) ?_
    refine z_aload_n ee_V_carryOut_40 rfl ?_
    refine z_iload_n ee_V_carryOut_41 rfl ?_
    -- at 42
    refine z_callV (As := [_]) ee_V_carryOut_42 kk_V_carryOut_34 rfl (by assumption) rfl rfl (Nat.le_of_ble_eq_true rfl) (by omega) (sp_V_plantRoot hf hV hS a) (fun E h1 hx => hx.elim) (fun v h1 hq => ?_)
    obtain ⟨R', I', rfl, rfl, h3, h4, h5, h6⟩ := hq
    refine z_iret ee_V_carryOut_45 rfl (by omega) (by omega) ?_
    -- at 45
    exact ⟨R', I', rfl, rfl, h3, h4, h5, h6⟩
  · rw [if_neg (by decide), if_pos rfl]
    refine z_tin ee_V_carryOut_1 (off := 45) (tgt := 46) (by decide) (by decide) (by decide) (by decide) ?_
    refine z_aload_n ee_V_carryOut_46 rfl ?_
    refine z_iload_n ee_V_carryOut_47 rfl ?_
    -- at 48
    refine z_callV (As := [_]) ee_V_carryOut_48 kk_V_carryOut_38 rfl (by assumption) rfl rfl (Nat.le_of_ble_eq_true rfl) (by omega) (sp_V_dryRoot hf hV hS a) (fun E h1 hx => hx.elim) (fun v h1 hq => ?_)
    obtain ⟨R', I', rfl, rfl, h3, h4, h5, h6⟩ := hq
    refine z_iret ee_V_carryOut_51 rfl (by omega) (by omega) ?_
    -- at 51
    exact ⟨R', I', rfl, rfl, h3, h4, h5, h6⟩
  · rw [if_neg (by decide), if_neg (by decide), if_pos rfl]
    refine z_tin ee_V_carryOut_1 (off := 51) (tgt := 52) (by decide) (by decide) (by decide) (by decide) ?_
    refine z_aload_n ee_V_carryOut_52 rfl ?_
    refine z_iload_n ee_V_carryOut_53 rfl ?_
    -- at 54
    refine z_callV (As := [_]) ee_V_carryOut_54 kk_V_carryOut_41 rfl (by assumption) rfl rfl (Nat.le_of_ble_eq_true rfl) (by omega) (sp_V_passDays hf hV hS a) (fun E h1 hx => hx.elim) (fun v h1 hq => ?_)
    obtain ⟨R', I', rfl, rfl, h3, h4, h5, h6⟩ := hq
    refine z_iret ee_V_carryOut_57 rfl (by omega) (by omega) ?_
    -- at 57
    exact ⟨R', I', rfl, rfl, h3, h4, h5, h6⟩
  · rw [if_neg (by decide), if_neg (by decide), if_neg (by decide), if_pos rfl]
    refine z_tin ee_V_carryOut_1 (off := 57) (tgt := 58) (by decide) (by decide) (by decide) (by decide) ?_
    refine z_aload_n ee_V_carryOut_58 rfl ?_
    refine z_iload_n ee_V_carryOut_59 rfl ?_
    -- at 60
    refine z_callV (As := [_]) ee_V_carryOut_60 kk_V_carryOut_44 rfl (by assumption) rfl rfl (Nat.le_of_ble_eq_true rfl) (by omega) (sp_V_carveAnew hf hV hS a) (fun E h1 hx => hx.elim) (fun v h1 hq => ?_)
    obtain ⟨R', I', rfl, rfl, h3, h4, h5, h6⟩ := hq
    refine z_iret ee_V_carryOut_63 rfl (by omega) (by omega) ?_
    -- at 63
    exact ⟨R', I', rfl, rfl, h3, h4, h5, h6⟩
  · rw [if_neg (by decide), if_neg (by decide), if_neg (by decide), if_neg (by decide), if_pos rfl]
    refine z_tin ee_V_carryOut_1 (off := 63) (tgt := 64) (by decide) (by decide) (by decide) (by decide) ?_
    refine z_aload_n ee_V_carryOut_64 rfl ?_
    refine z_iload_n ee_V_carryOut_65 rfl ?_
    refine z_iload_n ee_V_carryOut_66 rfl ?_
    -- at 67
    refine z_callV (As := [_, _]) ee_V_carryOut_67 kk_V_carryOut_47 rfl (by assumption) rfl rfl (Nat.le_of_ble_eq_true rfl) (by omega) (sp_V_moveTelegram hf hV hS a b) (fun E h1 hx => hx.elim) (fun v h1 hq => ?_)
    obtain ⟨R', I', rfl, rfl, h3, h4, h5, h6⟩ := hq
    refine z_iret ee_V_carryOut_70 rfl (by omega) (by omega) ?_
    -- at 70
    exact ⟨R', I', rfl, rfl, h3, h4, h5, h6⟩
  · rw [if_neg (by decide), if_neg (by decide), if_neg (by decide), if_neg (by decide), if_neg (by decide), if_pos rfl]
    refine z_tin ee_V_carryOut_1 (off := 70) (tgt := 71) (by decide) (by decide) (by decide) (by decide) ?_
    refine z_aload_n ee_V_carryOut_71 rfl ?_
    refine z_iload_n ee_V_carryOut_72 rfl ?_
    -- at 73
    refine z_callV (As := [_]) ee_V_carryOut_73 kk_V_carryOut_51 rfl (by assumption) rfl rfl (Nat.le_of_ble_eq_true rfl) (by omega) (sp_V_dropTelegram hf hV hS a) (fun E h1 hx => hx.elim) (fun v h1 hq => ?_)
    obtain ⟨R', I', rfl, rfl, h3, h4, h5, h6⟩ := hq
    refine z_iret ee_V_carryOut_76 rfl (by omega) (by omega) ?_
    -- at 76
    exact ⟨R', I', rfl, rfl, h3, h4, h5, h6⟩
end Carver3
