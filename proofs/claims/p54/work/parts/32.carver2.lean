/-! CARVER: telegrams -/
def zz_tat (ts : List zz_TG) (p : Nat) : zz_TG := ts.getD p ([], [], 0, 0, 0, 0, 0)
theorem zz_tat_of {ts : List zz_TG} {p : Nat} {x : zz_TG} (h : ts[p]? = some x) : zz_tat ts p = x := by
  unfold zz_tat
  rw [List.getD_eq_getElem?_getD, h]
  rfl
def zv_set (v : zz_SV) (p : Nat) (x : zz_TG) : zz_SV := (sv_r v, (sv_t v).set p x, sv_n v, sv_d v, sv_c v)
def zz_dec (x : zz_TG) : List Int32 := zz_unf 432 1 false (tg_c x) []
/-- is it readable? -/
def zz_uir (x : zz_TG) : zz_RS :=
  if zz_frp 0 (tg_s x) ≠ -1 then .inl (nI 3, zz_frp 0 (tg_s x)) else if zz_flt 0 false false (tg_c x) ≠ -1 then .inl (nI 5, zz_flt 0 false false (tg_c x)) else if zz_sum (zz_dec x) = tg_k x then .inr (nI 0) else .inl (nI 6, zz_sum (zz_dec x))
def zv_move1 (v : zz_SV) (p : Nat) (x : zz_TG) (r : Int32) : zz_RS × zz_SV :=
  if ¬ zz_hr v r then (.inr (-12), v) else if tg_o x = r then (.inl (nI 4, r), v) else if ¬ zz_cpi v r + nI (tg_p x) ≤ nI 8 then (.inl (nI 1, nI 8), v) else (.inr (tg_o x), zv_set v p (tg_c x, tg_r x, tg_p x, tg_n x, r, tg_i x, tg_k x))
def zv_dmg1 (v : zz_SV) (p : Nat) (x : zz_TG) (i c : Int32) : zz_RS × zz_SV :=
  if ¬ (0 ≤ i.toInt ∧ i.toInt < (tg_c x).length) then (.inr (-12), v) else if ¬ zz_typ c then (.inr (-13), v) else if zz_at0 (tg_c x) i = c then (.inl (nI 4, c), v) else (.inr (zz_at0 (tg_c x) i), zv_set v p ((tg_c x).set i.toInt.toNat c, tg_r x, tg_p x, tg_n x, tg_o x, tg_i x, tg_k x))
def zv_anew1 (v : zz_SV) (p : Nat) (x : zz_TG) : zz_RS × zz_SV :=
  if zz_oc (zz_uir x) < 0 then (zz_uir x, v) else if ¬ zz_cpi v (tg_o x) + (nI (zz_pgs (zz_fold 864 0 (zz_dec x) []).length) - nI (tg_p x)) ≤ nI 8 then (.inl (nI 1, nI 8), v) else (.inr (nI (zz_pgs (zz_fold 864 0 (zz_dec x) []).length)), zv_set v p (zz_insc (zz_fold 864 0 (zz_dec x) []) x))
def zv_tel (v : zz_SV) (n : Int32) (F : Nat → zz_TG → zz_RS × zz_SV) : zz_RS × zz_SV :=
  match zz_pos n 0 (sv_t v) with
  | none => (.inr (-11), v)
  | some p => F p (zz_tat (sv_t v) p)
def zv_move (v : zz_SV) (n r : Int32) : zz_RS × zz_SV := zv_tel v n (fun p x => zv_move1 v p x r)
def zv_dmg (v : zz_SV) (n i c : Int32) : zz_RS × zz_SV := zv_tel v n (fun p x => zv_dmg1 v p x i c)
def zv_anew (v : zz_SV) (n : Int32) : zz_RS × zz_SV := zv_tel v n (fun p x => zv_anew1 v p x)
def zv_read (v : zz_SV) (n : Int32) : zz_RS × zz_SV := zv_tel v n (fun _ x => (zz_uir x, v))
theorem zv_tel_n {v : zz_SV} {n : Int32} {F : Nat → zz_TG → zz_RS × zz_SV} (h : zz_pos n 0 (sv_t v) = none) : zv_tel v n F = (.inr (-11), v) := by
  unfold zv_tel
  rw [h]
theorem zv_tel_s {v : zz_SV} {n : Int32} {F : Nat → zz_TG → zz_RS × zz_SV} {p : Nat} {x : zz_TG} (h : zz_pos n 0 (sv_t v) = some p) (hx : (sv_t v)[p]? = some x) : zv_tel v n F = F p x := by
  unfold zv_tel
  rw [h]
  show F p (zz_tat (sv_t v) p) = F p x
  rw [zz_tat_of hx]
section Carver2
variable {g : zz_G} {l : Launch} {K : Nat → Nat × Nat} {R : Nat → Nat → Option Nat} {I : Nat → Nat → Int32} {L : Nat → Nat → Int64} {z : Nat} {C t : Nat} {v w : zz_SV} {x : zz_TG}
theorem sp_V_unfoldIfReadable (hf : l.stackTraces = false) (hV : zz_Vx g K R C) (hG : zz_Gx g K R t) (hx : zz_gx I t x) (hd : C < t ∧ t + 4 ≤ C + 132) : zz_S g l mm_V_unfoldIfReadable 0 0 [.ref C, .ref t] (K, R, I, L, z) (fun a h' => ∃ I', h' = (K, R, I', L, z) ∧ a = some (.int (zz_oc (zz_uir x))) ∧ (∀ q, zz_uir x = .inl q → I' C 3 = q.2) ∧ (∀ o, zz_uir x = .inr o → zz_tx I' (C + 132) 432 (zz_dec x)) ∧ zz_kt (C + 1) (C + 132) I I' ∧ zz_fr C (C + 136) I I') zz_no := by
  have hG' := hG
  obtain ⟨v1, v2, v3, v4, v5, v6, v7⟩ := hV
  obtain ⟨k1, k2, k3, k4, k5, k6, k7⟩ := hG
  have hc := hx.1
  unfold zz_uir
  refine z_start hf rfl (by decide +kernel) (Nat.le_of_ble_eq_true rfl) ?_
  dsimp only [zz_lv0]
  refine z_aload_n ee_V_unfoldIfReadable_0 rfl ?_
  -- at 1
  refine z_callV (As := []) ee_V_unfoldIfReadable_1 kk_V_unfoldIfReadable_157 rfl (by assumption) rfl rfl (Nat.le_of_ble_eq_true rfl) (by omega) (sp_G_findRottenPage hf hG' hx) (fun E h1 hx => hx.elim) (fun v h1 hq => ?_)
  obtain ⟨rfl, rfl⟩ := hq
  refine z_istore_m ee_V_unfoldIfReadable_4 (j := 2) rfl (by decide) ?_
  refine z_iload_n ee_V_unfoldIfReadable_5 rfl ?_
  refine z_iconst ee_V_unfoldIfReadable_6 (v := -1) (by decide) ?_
  refine z_icmp_eq ee_V_unfoldIfReadable_7 (tgt := 17) (by decide) (fun c_7 => ?_) (fun c_7 => ?_)
  -- at 7
  · rw [if_neg (fun q => q c_7)]
    refine z_aload_n ee_V_unfoldIfReadable_17 rfl ?_
    refine z_getR ee_V_unfoldIfReadable_18 ff_V_unfoldIfReadable_123 (by assumption) il_6_0 (by assumption) ?_
    -- at 21
    refine z_callS (As := [_]) ee_V_unfoldIfReadable_21 kk_V_unfoldIfReadable_161 rfl rfl (Nat.le_of_ble_eq_true rfl) (by omega) (sp_O_faultIn hf k3 hc) (fun E h1 hx => hx.elim) (fun v h1 hq => ?_)
    obtain ⟨rfl, rfl⟩ := hq
    refine z_istore_m ee_V_unfoldIfReadable_24 (j := 3) rfl (by decide) ?_
    refine z_iload_n ee_V_unfoldIfReadable_25 rfl ?_
    refine z_iconst ee_V_unfoldIfReadable_26 (v := -1) (by decide) ?_
    refine z_icmp_eq ee_V_unfoldIfReadable_27 (tgt := 37) (by decide) (fun c_27 => ?_) (fun c_27 => ?_)
    -- at 27
    · rw [if_neg (fun q => q c_27)]
      refine z_aload_n ee_V_unfoldIfReadable_37 rfl ?_
      refine z_getR ee_V_unfoldIfReadable_38 ff_V_unfoldIfReadable_123 (by assumption) il_6_0 (by assumption) ?_
      refine z_aload_n ee_V_unfoldIfReadable_41 rfl ?_
      refine z_getR ee_V_unfoldIfReadable_42 ff_V_unfoldIfReadable_23 (by assumption) il_1_1 (by assumption) ?_
      -- at 45
      refine z_callS (As := [_, _]) ee_V_unfoldIfReadable_45 kk_V_unfoldIfReadable_164 rfl rfl (Nat.le_of_ble_eq_true rfl) (by omega) (sp_O_unfold hf k3 v5 (by omega) hc) (fun E h1 hx => hx.elim) (fun v h1 hq => ?_)
      obtain ⟨I2, rfl, rfl, hy2, hfr2⟩ := hq
      have hy2 : zz_tx I2 (C + 132) 432 (zz_dec x) := hy2
      refine z_aload_n ee_V_unfoldIfReadable_48 rfl ?_
      refine z_getR ee_V_unfoldIfReadable_49 ff_V_unfoldIfReadable_23 (by assumption) il_1_1 (by assumption) ?_
      -- at 52
      refine z_callS (As := [_]) ee_V_unfoldIfReadable_52 kk_V_unfoldIfReadable_102 rfl rfl (Nat.le_of_ble_eq_true rfl) (by omega) (sp_O_sumOf hf v5 hy2) (fun E h1 hx => hx.elim) (fun v h1 hq => ?_)
      obtain ⟨rfl, rfl⟩ := hq
      have ek : I2 t 6 = tg_k x := by rw [hfr2 t (by omega)]; exact hx.2.2.2.2.2.2.2.2
      refine z_istore ee_V_unfoldIfReadable_55 (by decide) ?_
      refine z_iload ee_V_unfoldIfReadable_57 rfl ?_
      refine z_aload_n ee_V_unfoldIfReadable_59 rfl ?_
      refine z_getI ee_V_unfoldIfReadable_60 ff_V_unfoldIfReadable_106 (by assumption) il_6_6 ?_
      refine z_icmp_ne ee_V_unfoldIfReadable_63 (tgt := 70) (by decide) (fun c_63 => ?_) (fun c_63 => ?_)
      -- at 63
      · rw [ek] at c_63
        rw [if_neg c_63]
        refine z_aload_n ee_V_unfoldIfReadable_70 rfl ?_
        refine z_bipush ee_V_unfoldIfReadable_71 (v := nI 6) (by decide) ?_
        refine z_iload ee_V_unfoldIfReadable_73 rfl ?_
        -- at 75
        refine z_callV (As := [_, _]) ee_V_unfoldIfReadable_75 kk_V_unfoldIfReadable_57 rfl (by assumption) rfl rfl (Nat.le_of_ble_eq_true rfl) (by omega) (sp_V_denied hf v1 v7 _ _) (fun E h1 hx => hx.elim) (fun v h1 hq => ?_)
        obtain ⟨rfl, rfl⟩ := hq
        refine z_iret ee_V_unfoldIfReadable_78 rfl (by omega) (by omega) ?_
        -- at 78
        exact ⟨_, rfl, rfl, fun q hq => (by cases hq; exact zz_up_s), fun o ho => (by cases ho), (hfr2.in (by omega)).up (by omega), (hfr2.wid (by omega) (by omega)).up (by omega) (by omega)⟩
      · rw [ek] at c_63
        rw [if_pos c_63]
        refine z_iconst ee_V_unfoldIfReadable_66 (v := nI 0) (by decide) ?_
        refine z_goto ee_V_unfoldIfReadable_67 (tgt := 78) (by decide) ?_
        refine z_iret ee_V_unfoldIfReadable_78 rfl (by omega) (by omega) ?_
        -- at 78
        exact ⟨_, rfl, rfl, fun q hq => (by cases hq), fun o ho => hy2, hfr2.in (by omega), hfr2.wid (by omega) (by omega)⟩
    · rw [if_pos c_27]
      refine z_aload_n ee_V_unfoldIfReadable_30 rfl ?_
      refine z_iconst ee_V_unfoldIfReadable_31 (v := nI 5) (by decide) ?_
      refine z_iload_n ee_V_unfoldIfReadable_32 rfl ?_
      -- at 33
      refine z_callV (As := [_, _]) ee_V_unfoldIfReadable_33 kk_V_unfoldIfReadable_57 rfl (by assumption) rfl rfl (Nat.le_of_ble_eq_true rfl) (by omega) (sp_V_denied hf v1 v7 _ _) (fun E h1 hx => hx.elim) (fun v h1 hq => ?_)
      obtain ⟨rfl, rfl⟩ := hq
      refine z_iret ee_V_unfoldIfReadable_36 rfl (by omega) (by omega) ?_
      -- at 36
      exact ⟨_, rfl, rfl, fun q hq => (by cases hq; exact zz_up_s), fun o ho => (by cases ho), zz_kt.rf.up (by omega), zz_fr.rf.up (by omega) (by omega)⟩
  · rw [if_pos c_7]
    refine z_aload_n ee_V_unfoldIfReadable_10 rfl ?_
    refine z_iconst ee_V_unfoldIfReadable_11 (v := nI 3) (by decide) ?_
    refine z_iload_n ee_V_unfoldIfReadable_12 rfl ?_
    -- at 13
    refine z_callV (As := [_, _]) ee_V_unfoldIfReadable_13 kk_V_unfoldIfReadable_57 rfl (by assumption) rfl rfl (Nat.le_of_ble_eq_true rfl) (by omega) (sp_V_denied hf v1 v7 _ _) (fun E h1 hx => hx.elim) (fun v h1 hq => ?_)
    obtain ⟨rfl, rfl⟩ := hq
    refine z_iret ee_V_unfoldIfReadable_16 rfl (by omega) (by omega) ?_
    -- at 16
    exact ⟨_, rfl, rfl, fun q hq => (by cases hq; exact zz_up_s), fun o ho => (by cases ho), zz_kt.rf.up (by omega), zz_fr.rf.up (by omega) (by omega)⟩
theorem sp_V_readTelegram (hf : l.stackTraces = false) (hV : zz_Vx g K R C) (hS : zz_So g K R I (C + 1) v) (n : Int32) : zz_S g l mm_V_readTelegram 0 0 [.ref C, .int n] (K, R, I, L, z) (fun a h' => ∃ I', h' = (K, R, I', L, z) ∧ a = some (.int (zz_oc (zv_read v n).1)) ∧ (∀ q, (zv_read v n).1 = .inl q → I' C 3 = q.2) ∧ (∀ p x, zz_pos n 0 (sv_t v) = some p → (sv_t v)[p]? = some x → ∀ o, zz_uir x = .inr o → zz_tx I' (C + 132) 432 (zz_dec x)) ∧ zz_kt (C + 1) (C + 132) I I' ∧ zz_fr C (C + 136) I I') zz_no := by
  have hV' := hV
  obtain ⟨v1, v2, v3, v4, v5, v6, v7⟩ := hV
  obtain ⟨σ, hS, hv⟩ := hS
  have k1 := hS.1.1
  unfold zv_read
  refine z_start hf rfl (by decide +kernel) (Nat.le_of_ble_eq_true rfl) ?_
  dsimp only [zz_lv0]
  refine z_aload_n ee_V_readTelegram_0 rfl ?_
  refine z_getR ee_V_readTelegram_1 ff_V_readTelegram_12 (by assumption) il_1_0 (by assumption) ?_
  refine z_iload_n ee_V_readTelegram_4 rfl ?_
  -- at 5
  refine z_callV (As := [_]) ee_V_readTelegram_5 kk_V_readTelegram_119 rfl (by assumption) rfl rfl (Nat.le_of_ble_eq_true rfl) (by omega) (sp_S_find hf hS hv n) (fun E h1 hx => hx.elim) (fun v h1 hq => ?_)
  obtain ⟨rfl, rfl⟩ := hq
  cases hp : zz_pos n 0 (sv_t v) with
  | none =>
    rw [zv_tel_n hp]
    refine z_astoreN_m ee_V_readTelegram_8 (j := 2) rfl (by decide) ?_
    refine z_aloadN_n ee_V_readTelegram_9 rfl ?_
    refine z_ifnonnullN ee_V_readTelegram_10 ?_
    refine z_bipush ee_V_readTelegram_13 (v := -11) (by decide) ?_
    refine z_goto ee_V_readTelegram_15 (tgt := 23) (by decide) ?_
    refine z_iret ee_V_readTelegram_23 rfl (by omega) (by omega) ?_
    -- at 23
    exact ⟨I, rfl, rfl, fun q hq => (by cases hq), fun p x h1 => (by cases h1), zz_kt.rf, zz_fr.rf⟩
  | some p =>
    obtain ⟨hp1, x, hx, -⟩ := zz_pos_at hp
    rw [zv_tel_s hp hx]
    have hs := hS.2.2.2.1 p (by have := hv.2.1.2.1; omega)
    refine z_astore_m ee_V_readTelegram_8 (j := 2) rfl (by decide) ?_
    refine z_aload_n ee_V_readTelegram_9 rfl ?_
    refine z_ifnonnull ee_V_readTelegram_10 (tgt := 18) (by decide) ?_
    refine z_aload_n ee_V_readTelegram_18 rfl ?_
    refine z_aload_n ee_V_readTelegram_19 rfl ?_
    -- at 20
    refine z_callV (As := [_]) ee_V_readTelegram_20 kk_V_readTelegram_141 rfl (by assumption) rfl rfl (Nat.le_of_ble_eq_true rfl) (by omega) (sp_V_unfoldIfReadable hf hV' (hS.2.1 _ hs) (hv.2.1.2.2 p x hx) (by omega)) (fun E h1 hx => hx.elim) (fun v h1 hq => ?_)
    obtain ⟨I2, rfl, rfl, h3, h4, h5, h6⟩ := hq
    refine z_iret ee_V_readTelegram_23 rfl (by omega) (by omega) ?_
    -- at 23
    exact ⟨I2, rfl, rfl, h3, fun p' x' e1 e2 => (by cases e1; rw [hx] at e2; cases e2; exact h4), h5, h6⟩
theorem sp_V_moveTelegram (hf : l.stackTraces = false) (hV : zz_Vx g K R C) (hS : zz_So g K R I (C + 1) v) (n r : Int32) : zz_S g l mm_V_moveTelegram 0 0 [.ref C, .int n, .int r] (K, R, I, L, z) (zz_VQ g K R I L z C (zv_move v n r)) zz_no := by
  have hV' := hV
  obtain ⟨v1, v2, v3, v4, v5, v6, v7⟩ := hV
  obtain ⟨σ, hS, hv⟩ := hS
  have k1 := hS.1.1
  unfold zv_move
  refine z_start hf rfl (by decide +kernel) (Nat.le_of_ble_eq_true rfl) ?_
  dsimp only [zz_lv0]
  refine z_aload_n ee_V_moveTelegram_0 rfl ?_
  refine z_getR ee_V_moveTelegram_1 ff_V_moveTelegram_12 (by assumption) il_1_0 (by assumption) ?_
  refine z_iload_n ee_V_moveTelegram_4 rfl ?_
  -- at 5
  refine z_callV (As := [_]) ee_V_moveTelegram_5 kk_V_moveTelegram_119 rfl (by assumption) rfl rfl (Nat.le_of_ble_eq_true rfl) (by omega) (sp_S_find hf hS hv n) (fun E h1 hx => hx.elim) (fun v h1 hq => ?_)
  obtain ⟨rfl, rfl⟩ := hq
  cases hp : zz_pos n 0 (sv_t v) with
  | none =>
    rw [zv_tel_n hp]
    refine z_astoreN_m ee_V_moveTelegram_8 (j := 3) rfl (by decide) ?_
    refine z_aloadN_n ee_V_moveTelegram_9 rfl ?_
    refine z_ifnonnullN ee_V_moveTelegram_10 ?_
    refine z_bipush ee_V_moveTelegram_13 (v := -11) (by decide) ?_
    refine z_iret ee_V_moveTelegram_15 rfl (by omega) (by omega) ?_
    -- at 15
    exact zz_VQ.same hS hv rfl rfl
  | some p =>
    obtain ⟨hp1, x, hx, -⟩ := zz_pos_at hp
    rw [zv_tel_s hp hx]
    have hp2 : p < 32 := by have := hv.2.1.2.1; omega
    have hs := hS.2.2.2.1 p hp2
    obtain ⟨g1, g2, g3, g4, g5, g6, g7⟩ := hS.2.1 _ hs
    have hgx := hv.2.1.2.2 p x hx
    have hgx' := hgx
    obtain ⟨x1, x2, x3, x4, x5, x6, x7, x8, x9⟩ := hgx
    unfold zv_move1
    refine z_astore_m ee_V_moveTelegram_8 (j := 3) rfl (by decide) ?_
    refine z_aload_n ee_V_moveTelegram_9 rfl ?_
    refine z_ifnonnull ee_V_moveTelegram_10 (tgt := 16) (by decide) ?_
    refine z_aload_n ee_V_moveTelegram_16 rfl ?_
    refine z_getR ee_V_moveTelegram_17 ff_V_moveTelegram_12 (by assumption) il_1_0 (by assumption) ?_
    refine z_iload_n ee_V_moveTelegram_20 rfl ?_
    -- at 21
    refine z_callV (As := [_]) ee_V_moveTelegram_21 kk_V_moveTelegram_64 rfl (by assumption) rfl rfl (Nat.le_of_ble_eq_true rfl) (by omega) (sp_S_hasRoot hf hS hv r) (fun E h1 hx => hx.elim) (fun v h1 hq => ?_)
    obtain ⟨rfl, rfl⟩ := hq
    refine z_if_ne ee_V_moveTelegram_24 (tgt := 30) (by decide) (fun c_24 => ?_) (fun c_24 => ?_)
    -- at 24
    · rw [zz_tf_n0] at c_24
      rw [if_neg (fun q => q c_24)]
      refine z_aload_n ee_V_moveTelegram_30 rfl ?_
      refine z_getI ee_V_moveTelegram_31 ff_V_moveTelegram_96 (by assumption) il_6_4 ?_
      refine z_istore ee_V_moveTelegram_34 (by decide) ?_
      refine z_iload ee_V_moveTelegram_36 rfl ?_
      refine z_iload_n ee_V_moveTelegram_38 rfl ?_
      refine z_icmp_ne ee_V_moveTelegram_39 (tgt := 49) (by decide) (fun c_39 => ?_) (fun c_39 => ?_)
      -- at 39
      · rw [x7] at c_39
        rw [if_neg c_39]
        refine z_aload_n ee_V_moveTelegram_49 rfl ?_
        refine z_getR ee_V_moveTelegram_50 ff_V_moveTelegram_12 (by assumption) il_1_0 (by assumption) ?_
        refine z_iload_n ee_V_moveTelegram_53 rfl ?_
        refine z_aload_n ee_V_moveTelegram_54 rfl ?_
        refine z_getI ee_V_moveTelegram_55 ff_V_moveTelegram_145 (by assumption) il_6_2 ?_
        -- at 58
        rw [x4]
        refine z_callV (As := [_, _]) ee_V_moveTelegram_58 kk_V_moveTelegram_88 rfl (by assumption) rfl rfl (Nat.le_of_ble_eq_true rfl) (by omega) (sp_S_hasRoomFor hf hS hv r (nI (tg_p x))) (fun E h1 hx => hx.elim) (fun v h1 hq => ?_)
        obtain ⟨rfl, rfl⟩ := hq
        refine z_if_ne ee_V_moveTelegram_61 (tgt := 72) (by decide) (fun c_61 => ?_) (fun c_61 => ?_)
        -- at 61
        · rw [zz_tf_n0] at c_61
          rw [if_neg (fun q => q c_61)]
          refine z_aload_n ee_V_moveTelegram_72 rfl ?_
          refine z_iload_n ee_V_moveTelegram_73 rfl ?_
          refine z_putI ee_V_moveTelegram_74 ff_V_moveTelegram_96 (by assumption) (by assumption) tl_6_4 fl_6_4 ?_
          refine z_iload ee_V_moveTelegram_77 rfl ?_
          refine z_iret ee_V_moveTelegram_79 rfl (by omega) (by omega) ?_
          -- at 79
          refine ⟨R, _, rfl, by rw [x7]; rfl, fun q hq => (by cases hq), ⟨σ, hS, ?_⟩, zz_fq.rf, zz_fr.rf.up (by omega) (by omega)⟩
          refine hv.tel hS.2.2.2.1 hS.2.2.2.2 hp1 (zz_fr.rf.up (by omega) (by omega)) ⟨x1.kept (zz_up_r (by omega)) (zz_up_r (by omega)), x2, fun j hj => ?_, ?_, x5, ?_, zz_up_s, ?_, ?_⟩
          · rw [zz_up_r (by omega)]; exact x3 j hj
          all_goals rw [zz_up_k (by decide)]; assumption
        · rw [zz_tf_0] at c_61
          rw [if_pos c_61]
          refine z_aload_n ee_V_moveTelegram_64 rfl ?_
          refine z_iconst ee_V_moveTelegram_65 (v := nI 1) (by decide) ?_
          refine z_bipush ee_V_moveTelegram_66 (v := nI 8) (by decide) ?_
          -- at 68
          refine z_callV (As := [_, _]) ee_V_moveTelegram_68 kk_V_moveTelegram_57 rfl (by assumption) rfl rfl (Nat.le_of_ble_eq_true rfl) (by omega) (sp_V_denied hf v1 v7 _ _) (fun E h1 hx => hx.elim) (fun v h1 hq => ?_)
          obtain ⟨rfl, rfl⟩ := hq
          refine z_iret ee_V_moveTelegram_71 rfl (by omega) (by omega) ?_
          -- at 71
          exact zz_VQ.deny hS hv
      · rw [x7] at c_39
        rw [if_pos c_39]
        refine z_aload_n ee_V_moveTelegram_42 rfl ?_
        refine z_iconst ee_V_moveTelegram_43 (v := nI 4) (by decide) ?_
        refine z_iload_n ee_V_moveTelegram_44 rfl ?_
        -- at 45
        refine z_callV (As := [_, _]) ee_V_moveTelegram_45 kk_V_moveTelegram_57 rfl (by assumption) rfl rfl (Nat.le_of_ble_eq_true rfl) (by omega) (sp_V_denied hf v1 v7 _ _) (fun E h1 hx => hx.elim) (fun v h1 hq => ?_)
        obtain ⟨rfl, rfl⟩ := hq
        refine z_iret ee_V_moveTelegram_48 rfl (by omega) (by omega) ?_
        -- at 48
        exact zz_VQ.deny hS hv
    · rw [zz_tf_0] at c_24
      rw [if_pos c_24]
      refine z_bipush ee_V_moveTelegram_27 (v := -12) (by decide) ?_
      refine z_iret ee_V_moveTelegram_29 rfl (by omega) (by omega) ?_
      -- at 29
      exact zz_VQ.same hS hv rfl rfl
theorem sp_V_damageCode (hf : l.stackTraces = false) (hV : zz_Vx g K R C) (hS : zz_So g K R I (C + 1) v) (n i c : Int32) (hc : zz_ch c) : zz_S g l mm_V_damageCode 0 0 [.ref C, .int n, .int i, .int c] (K, R, I, L, z) (zz_VQ g K R I L z C (zv_dmg v n i c)) zz_no := by
  have hV' := hV
  obtain ⟨v1, v2, v3, v4, v5, v6, v7⟩ := hV
  obtain ⟨σ, hS, hv⟩ := hS
  have k1 := hS.1.1
  unfold zv_dmg
  refine z_start hf rfl (by decide +kernel) (Nat.le_of_ble_eq_true rfl) ?_
  dsimp only [zz_lv0]
  refine z_aload_n ee_V_damageCode_0 rfl ?_
  refine z_getR ee_V_damageCode_1 ff_V_damageCode_12 (by assumption) il_1_0 (by assumption) ?_
  refine z_iload_n ee_V_damageCode_4 rfl ?_
  -- at 5
  refine z_callV (As := [_]) ee_V_damageCode_5 kk_V_damageCode_119 rfl (by assumption) rfl rfl (Nat.le_of_ble_eq_true rfl) (by omega) (sp_S_find hf hS hv n) (fun E h1 hx => hx.elim) (fun v h1 hq => ?_)
  obtain ⟨rfl, rfl⟩ := hq
  cases hp : zz_pos n 0 (sv_t v) with
  | none =>
    rw [zv_tel_n hp]
    refine z_astoreN ee_V_damageCode_8 (by decide) ?_
    refine z_aloadN ee_V_damageCode_10 rfl ?_
    refine z_ifnonnullN ee_V_damageCode_12 ?_
    refine z_bipush ee_V_damageCode_15 (v := -11) (by decide) ?_
    refine z_iret ee_V_damageCode_17 rfl (by omega) (by omega) ?_
    -- at 17
    exact zz_VQ.same hS hv rfl rfl
  | some p =>
    obtain ⟨hp1, x, hx, -⟩ := zz_pos_at hp
    rw [zv_tel_s hp hx]
    have hp2 : p < 32 := by have := hv.2.1.2.1; omega
    have hs := hS.2.2.2.1 p hp2
    obtain ⟨g1, g2, g3, g4, g5, g6, g7⟩ := hS.2.1 _ hs
    have g8 := g3.1
    have hgx := hv.2.1.2.2 p x hx
    obtain ⟨x1, x2, x3, x4, x5, x6, x7, x8, x9⟩ := hgx
    have hl := x1.2.1
    unfold zv_dmg1
    refine z_astore ee_V_damageCode_8 (by decide) ?_
    refine z_aload ee_V_damageCode_10 rfl ?_
    refine z_ifnonnull ee_V_damageCode_12 (tgt := 18) (by decide) ?_
    refine z_aload ee_V_damageCode_18 rfl ?_
    refine z_getR ee_V_damageCode_20 ff_V_damageCode_123 (by assumption) il_6_0 (by assumption) ?_
    refine z_iload_n ee_V_damageCode_23 rfl ?_
    -- at 24
    refine z_callV (As := [_]) ee_V_damageCode_24 kk_V_damageCode_126 rfl (by assumption) rfl rfl (Nat.le_of_ble_eq_true rfl) (by omega) (sp_T_has hf g3 x1 i) (fun E h1 hx => hx.elim) (fun v h1 hq => ?_)
    obtain ⟨rfl, rfl⟩ := hq
    refine z_if_ne ee_V_damageCode_27 (tgt := 33) (by decide) (fun c_27 => ?_) (fun c_27 => ?_)
    -- at 27
    · rw [zz_tf_n0] at c_27
      rw [if_neg (fun q => q c_27)]
      refine z_iload_n ee_V_damageCode_33 rfl ?_
      -- at 34
      refine z_callSN (As := [_]) ee_V_damageCode_34 kk_V_damageCode_129 rfl rfl (Nat.le_of_ble_eq_true rfl) (by omega) (sp_P_isTypeable hf c) (fun E h1 hx => hx.elim) (fun v h1 hq => ?_)
      obtain ⟨rfl, rfl⟩ := hq
      refine z_if_ne ee_V_damageCode_37 (tgt := 43) (by decide) (fun c_37 => ?_) (fun c_37 => ?_)
      -- at 37
      · rw [zz_tf_n0] at c_37
        rw [if_neg (fun q => q c_37)]
        refine z_aload ee_V_damageCode_43 rfl ?_
        refine z_getR ee_V_damageCode_45 ff_V_damageCode_123 (by assumption) il_6_0 (by assumption) ?_
        refine z_iload_n ee_V_damageCode_48 rfl ?_
        -- at 49
        refine z_callV (As := [_]) ee_V_damageCode_49 kk_V_damageCode_133 rfl (by assumption) rfl rfl (Nat.le_of_ble_eq_true rfl) (by omega) (sp_T_at hf g3 x1 i) (fun E h1 hx => hx.elim) (fun v h1 hq => ?_)
        obtain ⟨rfl, rfl, hch⟩ := hq
        refine z_istore ee_V_damageCode_52 (by decide) ?_
        refine z_iload ee_V_damageCode_54 rfl ?_
        refine z_iload_n ee_V_damageCode_56 rfl ?_
        refine z_icmp_ne ee_V_damageCode_57 (tgt := 67) (by decide) (fun c_57 => ?_) (fun c_57 => ?_)
        -- at 57
        · rw [if_neg c_57]
          refine z_aload ee_V_damageCode_67 rfl ?_
          refine z_getR ee_V_damageCode_69 ff_V_damageCode_123 (by assumption) il_6_0 (by assumption) ?_
          refine z_iload_n ee_V_damageCode_72 rfl ?_
          refine z_iload_n ee_V_damageCode_73 rfl ?_
          -- at 74
          have e := zi_of c_27.1
          have h9 := sp_T_put (z := z) (L := L) hf g3 x1 i.toInt.toNat (by omega) c hc
          rw [← e] at h9
          refine z_callV (As := [_, _]) ee_V_damageCode_74 kk_V_damageCode_137 rfl (by assumption) rfl rfl (Nat.le_of_ble_eq_true rfl) (by omega) h9 (fun E h1 hx => hx.elim) (fun v h1 hq => ?_)
          obtain ⟨I2, rfl, rfl, hx2, hfr2⟩ := hq
          refine z_iload ee_V_damageCode_77 rfl ?_
          refine z_iret ee_V_damageCode_79 rfl (by omega) (by omega) ?_
          -- at 79
          refine ⟨R, I2, rfl, rfl, fun q hq => (by cases hq), ⟨σ, hS, ?_⟩, zz_fq.rf, hfr2.wid (by omega) (by omega)⟩
          have e2 : I2 (C + 1 + 3 + 4 * σ p) = I (C + 1 + 3 + 4 * σ p) := hfr2 _ (by omega)
          refine hv.tel hS.2.2.2.1 hS.2.2.2.2 hp1 (hfr2.wid (by omega) (by omega)) ⟨hx2, x2, fun j hj => ?_, ?_, x5, ?_, ?_, ?_, ?_⟩
          · rw [hfr2 _ (by omega)]; exact x3 j hj
          all_goals rw [e2]; assumption
        · rw [if_pos c_57]
          refine z_aload_n ee_V_damageCode_60 rfl ?_
          refine z_iconst ee_V_damageCode_61 (v := nI 4) (by decide) ?_
          refine z_iload_n ee_V_damageCode_62 rfl ?_
          -- at 63
          refine z_callV (As := [_, _]) ee_V_damageCode_63 kk_V_damageCode_57 rfl (by assumption) rfl rfl (Nat.le_of_ble_eq_true rfl) (by omega) (sp_V_denied hf v1 v7 _ _) (fun E h1 hx => hx.elim) (fun v h1 hq => ?_)
          obtain ⟨rfl, rfl⟩ := hq
          refine z_iret ee_V_damageCode_66 rfl (by omega) (by omega) ?_
          -- at 66
          exact zz_VQ.deny hS hv
      · rw [zz_tf_0] at c_37
        rw [if_pos c_37]
        refine z_bipush ee_V_damageCode_40 (v := -13) (by decide) ?_
        refine z_iret ee_V_damageCode_42 rfl (by omega) (by omega) ?_
        -- at 42
        exact zz_VQ.same hS hv rfl rfl
    · rw [zz_tf_0] at c_27
      rw [if_pos c_27]
      refine z_bipush ee_V_damageCode_30 (v := -12) (by decide) ?_
      refine z_iret ee_V_damageCode_32 rfl (by omega) (by omega) ?_
      -- at 32
      exact zz_VQ.same hS hv rfl rfl
end Carver2
