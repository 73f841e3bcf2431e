/-! HISTORY -/
def zz_fq (lo hi : Nat) (R R' : Nat → Nat → Option Nat) : Prop := ∀ b, (b < lo ∨ hi ≤ b) → R' b = R b
theorem zz_fq.rf {lo hi : Nat} {R : Nat → Nat → Option Nat} : zz_fq lo hi R R := fun _ _ => rfl
theorem zz_fq.wid {lo hi lo' hi' : Nat} {R R' : Nat → Nat → Option Nat} (h : zz_fq lo hi R R') (h1 : lo' ≤ lo) (h2 : hi ≤ hi') : zz_fq lo' hi' R R' := fun b hb => h b (by omega)
theorem zz_fq.trans {lo hi : Nat} {R R1 R2 : Nat → Nat → Option Nat} (h : zz_fq lo hi R R1) (h' : zz_fq lo hi R1 R2) : zz_fq lo hi R R2 := fun b hb => (h' b hb).trans (h b hb)
theorem zz_Tx.fq {g : zz_G} {K : Nat → Nat × Nat} {R R' : Nat → Nat → Option Nat} {t n lo hi : Nat} (h : zz_Tx g K R t n) (hR : zz_fq lo hi R R') (hd : t + 2 ≤ lo ∨ hi ≤ t) : zz_Tx g K R' t n := by
  obtain ⟨k1, k2, k3, k4, k5, k6⟩ := h
  exact ⟨k1, by rw [hR _ (by omega)]; exact k2, k3, k4, k5, k6⟩
theorem zz_Gx.fq {g : zz_G} {K : Nat → Nat × Nat} {R R' : Nat → Nat → Option Nat} {t lo hi : Nat} (h : zz_Gx g K R t) (hR : zz_fq lo hi R R') (hd : t + 4 ≤ lo ∨ hi ≤ t) : zz_Gx g K R' t := by
  obtain ⟨k1, k2, k3, k4, k5, k6, k7⟩ := h
  exact ⟨k1, by rw [hR _ (by omega)]; exact k2, k3.fq hR (by omega), by rw [hR _ (by omega)]; exact k4, k5, k6, k7⟩
theorem zz_Sx.fq {g : zz_G} {K : Nat → Nat × Nat} {R R' : Nat → Nat → Option Nat} {S lo hi : Nat} {σ : Nat → Nat} (h : zz_Sx g K R S σ) (hR : zz_fq lo hi R R') (hd : S + 131 ≤ lo ∨ hi ≤ S) : zz_Sx g K R' S σ := by
  obtain ⟨⟨k1, k2, k3, k4, k5, k6, k7, k8⟩, hG, hr, hσ, hj⟩ := h
  exact ⟨⟨k1, by rw [hR _ (by omega)]; exact k2, by rw [hR _ (by omega)]; exact k3, k4, k5, k6, k7, k8⟩, fun j hj => (hG j hj).fq hR (by omega), fun i hi => by rw [hR _ (by omega)]; exact hr i hi, hσ, hj⟩
/-- a store's shape, and a store that holds v -/
def zz_Ss (g : zz_G) (K : Nat → Nat × Nat) (R : Nat → Nat → Option Nat) (S : Nat) : Prop := ∃ σ, zz_Sx g K R S σ
def zz_So (g : zz_G) (K : Nat → Nat × Nat) (R : Nat → Nat → Option Nat) (I : Nat → Nat → Int32) (S : Nat) (v : zz_SV) : Prop := ∃ σ, zz_Sx g K R S σ ∧ zz_sx I σ S v
theorem zz_So.ss {g : zz_G} {K : Nat → Nat × Nat} {R : Nat → Nat → Option Nat} {I : Nat → Nat → Int32} {S : Nat} {v : zz_SV} (h : zz_So g K R I S v) : zz_Ss g K R S := by
  obtain ⟨σ, h, -⟩ := h
  exact ⟨σ, h⟩
theorem zz_Ss.fq {g : zz_G} {K : Nat → Nat × Nat} {R R' : Nat → Nat → Option Nat} {S lo hi : Nat} (h : zz_Ss g K R S) (hR : zz_fq lo hi R R') (hd : S + 131 ≤ lo ∨ hi ≤ S) : zz_Ss g K R' S := by
  obtain ⟨σ, h⟩ := h
  exact ⟨σ, h.fq hR hd⟩
theorem zz_So.fr {g : zz_G} {K : Nat → Nat × Nat} {R R' : Nat → Nat → Option Nat} {I I' : Nat → Nat → Int32} {S lo hi : Nat} {v : zz_SV} (h : zz_So g K R I S v) (hR : zz_fq lo hi R R') (hI : zz_fr lo hi I I') (hd : S + 131 ≤ lo ∨ hi ≤ S) : zz_So g K R' I' S v := by
  obtain ⟨σ, h1, h2⟩ := h
  exact ⟨σ, h1.fq hR hd, h2.fr h1.2.2.2.1 hI hd⟩
def zz_Hx (g : zz_G) (K : Nat → Nat × Nat) (R : Nat → Nat → Option Nat) (H : Nat) : Prop :=
  (K H = zz_o 4 ∧ R H 0 = some (H + 1) ∧ K (H + 1) = zz_a 5 9 ∧ zz_A g H) ∧ (∀ j, j < 9 → R (H + 1) j = some (H + 2 + 131 * j)) ∧ ∀ j, j < 9 → zz_Ss g K R (H + 2 + 131 * j)
/-- the stores before the latest changes, the oldest first; f is the first one's place -/
def zz_hx (g : zz_G) (K : Nat → Nat × Nat) (R : Nat → Nat → Option Nat) (I : Nat → Nat → Int32) (H f : Nat) (hs : List zz_SV) : Prop :=
  I H 1 = nI f ∧ f < 9 ∧ I H 2 = nI hs.length ∧ hs.length ≤ 8 ∧ ∀ i v, hs[i]? = some v → zz_So g K R I (H + 2 + 131 * ((f + i) % 9)) v
theorem zz_Hx.fq {g : zz_G} {K : Nat → Nat × Nat} {R R' : Nat → Nat → Option Nat} {H lo hi : Nat} (h : zz_Hx g K R H) (hR : zz_fq lo hi R R') (hd : H + 1181 ≤ lo ∨ hi ≤ H) : zz_Hx g K R' H := by
  obtain ⟨⟨k1, k2, k3, k4⟩, hr, hs⟩ := h
  exact ⟨⟨k1, by rw [hR _ (by omega)]; exact k2, k3, k4⟩, fun j hj => by rw [hR _ (by omega)]; exact hr j hj, fun j hj => (hs j hj).fq hR (by omega)⟩
theorem zz_hx.fr {g : zz_G} {K : Nat → Nat × Nat} {R R' : Nat → Nat → Option Nat} {I I' : Nat → Nat → Int32} {H f lo hi : Nat} {hs : List zz_SV} (h : zz_hx g K R I H f hs) (hR : zz_fq lo hi R R') (hI : zz_fr lo hi I I') (hd : H + 1181 ≤ lo ∨ hi ≤ H) : zz_hx g K R' I' H f hs := by
  obtain ⟨h1, h2, h3, h4, h5⟩ := h
  have e : I' H = I H := hI _ (by omega)
  refine ⟨by rw [e]; exact h1, h2, by rw [e]; exact h3, h4, fun i v hi => ?_⟩
  have h6 := Nat.mod_lt (f + i) (show 0 < 9 by decide)
  exact (h5 i v hi).fr hR hI (by omega)
/-- .. one more, at most eight -/
def zz_kp (hs : List zz_SV) (v : zz_SV) : List zz_SV := if hs.length < 8 then hs ++ [v] else hs.drop 1 ++ [v]
section Hist
variable {g : zz_G} {l : Launch} {K : Nat → Nat × Nat} {R : Nat → Nat → Option Nat} {I : Nat → Nat → Int32} {L : Nat → Nat → Int64} {z : Nat} {S H f : Nat} {v w : zz_SV} {hs : List zz_SV}
theorem sp_H_spare (hf : l.stackTraces = false) (hH : zz_Hx g K R H) (hv : zz_hx g K R I H f hs) : zz_S g l mm_H_spare 0 0 [.ref H] (K, R, I, L, z) (zz_is (K, R, I, L, z) (.ref (H + 2 + 131 * ((f + hs.length) % 9)))) zz_no := by
  obtain ⟨⟨k1, k2, k3, k4⟩, hr, -⟩ := hH
  obtain ⟨h1, h2, h3, h4, h5⟩ := hv
  refine z_start hf rfl (by decide +kernel) (Nat.le_of_ble_eq_true rfl) ?_
  dsimp only [zz_lv0]
  refine z_aload_n ee_H_spare_0 rfl ?_
  refine z_getR ee_H_spare_1 ff_H_spare_13 (by assumption) il_4_0 (by assumption) ?_
  refine z_aload_n ee_H_spare_4 rfl ?_
  refine z_getI ee_H_spare_5 ff_H_spare_17 (by assumption) il_4_1 ?_
  refine z_aload_n ee_H_spare_8 rfl ?_
  refine z_getI ee_H_spare_9 ff_H_spare_21 (by assumption) il_4_2 ?_
  refine z_iadd ee_H_spare_12 ?_
  refine z_bipush ee_H_spare_13 (v := nI 9) (by decide) ?_
  -- at 15
  rw [h1, h3, nI_add]
  refine z_callS (As := [_, _]) ee_H_spare_15 kk_H_spare_25 rfl rfl (Nat.le_of_ble_eq_true rfl) (by omega) (sp_JM_floorMod hf _ (by omega)) (fun E h1 hx => hx.elim) (fun v h1 hq => ?_)
  obtain ⟨rfl, rfl⟩ := hq
  have h6 := Nat.mod_lt (f + hs.length) (show 0 < 9 by decide)
  refine z_aald ee_H_spare_18 (by assumption) (by decide) rfl h6 (by omega) (hr _ h6) ?_
  refine z_aret ee_H_spare_19 rfl (Or.inl ⟨_, rfl⟩) (by omega) (by omega) ?_
  -- at 19
  exact ⟨rfl, rfl⟩
/-- the store now is copied into the spare place -/
theorem sp_H_prepare (hf : l.stackTraces = false) (hH : zz_Hx g K R H) (hv : zz_hx g K R I H f hs) (hS : zz_So g K R I S v) (hd : S + 131 ≤ H ∨ H + 1181 ≤ S) : zz_S g l mm_H_prepare 0 0 [.ref H, .ref S] (K, R, I, L, z) (fun a h' => ∃ I', h' = (K, R, I', L, z) ∧ a = none ∧ zz_hx g K R I' H f hs ∧ zz_So g K R I' (H + 2 + 131 * ((f + hs.length) % 9)) v ∧ zz_fr (H + 2) (H + 1181) I I') zz_no := by
  have hH' := hH
  obtain ⟨⟨k1, k2, k3, k4⟩, hr, hss⟩ := hH
  have hv' := hv
  obtain ⟨h1, h2, h3, h4, h5⟩ := hv
  refine z_start hf rfl (by decide +kernel) (Nat.le_of_ble_eq_true rfl) ?_
  dsimp only [zz_lv0]
  refine z_aload_n ee_H_prepare_0 rfl ?_
  -- at 1
  refine z_callV (As := []) ee_H_prepare_1 kk_H_prepare_31 rfl (by assumption) rfl rfl (Nat.le_of_ble_eq_true rfl) (by omega) (sp_H_spare hf hH' hv') (fun E h1 hx => hx.elim) (fun v h1 hq => ?_)
  obtain ⟨rfl, rfl⟩ := hq
  have h6 := Nat.mod_lt (f + hs.length) (show 0 < 9 by decide)
  obtain ⟨τ, hT⟩ := hss _ h6
  obtain ⟨σ, s1, s2⟩ := hS
  have hk := hT.1.1
  refine z_aload_n ee_H_prepare_4 rfl ?_
  -- at 5
  refine z_callV (As := [_]) ee_H_prepare_5 kk_H_prepare_35 rfl (by assumption) rfl rfl (Nat.le_of_ble_eq_true rfl) (by omega) (sp_S_copyFrom hf hT s1 (by omega) s2) (fun E h1 hx => hx.elim) (fun v h1 hq => ?_)
  obtain ⟨I2, rfl, rfl, hx2, hfr2⟩ := hq
  refine z_vret ee_H_prepare_8 rfl (by omega) (by omega) ?_
  -- at 8
  have e : I2 H = I H := hfr2 _ (by omega)
  refine ⟨_, rfl, rfl, ⟨by rw [e]; exact h1, h2, by rw [e]; exact h3, h4, fun i x hi => ?_⟩, ⟨τ, hT, hx2⟩, hfr2.wid (by omega) (by omega)⟩
  have h7 := zz_lt_of hi
  exact (h5 i x hi).fr (zz_fq.rf) hfr2 (by omega)
theorem sp_H_keep (hf : l.stackTraces = false) (hH : zz_Hx g K R H) (hv : zz_hx g K R I H f hs) (hw : zz_So g K R I (H + 2 + 131 * ((f + hs.length) % 9)) v) : zz_S g l mm_H_keep 0 0 [.ref H] (K, R, I, L, z) (fun a h' => ∃ I' f', h' = (K, R, I', L, z) ∧ a = none ∧ zz_hx g K R I' H f' (zz_kp hs v) ∧ zz_fr H (H + 1) I I') zz_no := by
  have hH' := hH
  obtain ⟨⟨k1, k2, k3, k4⟩, hr, hss⟩ := hH
  have hv' := hv
  obtain ⟨h1, h2, h3, h4, h5⟩ := hv
  unfold zz_kp
  refine z_start hf rfl (by decide +kernel) (Nat.le_of_ble_eq_true rfl) ?_
  dsimp only [zz_lv0]
  refine z_aload_n ee_H_keep_0 rfl ?_
  refine z_getI ee_H_keep_1 ff_H_keep_21 (by assumption) il_4_2 ?_
  refine z_bipush ee_H_keep_4 (v := nI 8) (by decide) ?_
  refine z_icmp_ge ee_H_keep_6 (tgt := 22) (by decide) (fun c_6 => ?_) (fun c_6 => ?_)
  -- at 6
  · rw [h3] at c_6
    simp (disch := omega) only [zi_lt, zi_le, zi_eq, zi_n, zi_0, zi_m1] at c_6
    rw [if_neg (by omega)]
    refine z_aload_n ee_H_keep_22 rfl ?_
    refine z_aload_n ee_H_keep_23 rfl ?_
    refine z_getI ee_H_keep_24 ff_H_keep_17 (by assumption) il_4_1 ?_
    refine z_iconst ee_H_keep_27 (v := nI 1) (by decide) ?_
    refine z_iadd ee_H_keep_28 ?_
    refine z_bipush ee_H_keep_29 (v := nI 9) (by decide) ?_
    -- at 31
    rw [h1, nI_add]
    refine z_callS (As := [_, _]) ee_H_keep_31 kk_H_keep_25 rfl rfl (Nat.le_of_ble_eq_true rfl) (by omega) (sp_JM_floorMod hf _ (by omega)) (fun E h1 hx => hx.elim) (fun v h1 hq => ?_)
    obtain ⟨rfl, rfl⟩ := hq
    refine z_putI ee_H_keep_34 ff_H_keep_17 (by assumption) (by assumption) tl_4_1 fl_4_1 ?_
    refine z_vret ee_H_keep_37 rfl (by omega) (by omega) ?_
    -- at 37
    have hfr : zz_fr H (H + 1) I (zz_up I H 1 (nI ((f + 1) % 9))) := zz_fr.rf.up (by omega) (by omega)
    refine ⟨_, (f + 1) % 9, rfl, rfl, ⟨zz_up_s, Nat.mod_lt _ (by decide), ?_, ?_, fun i x hi => ?_⟩, hfr⟩
    · rw [zz_up_k (by decide), h3]
      congr 1
      simp
      omega
    · simp
      omega
    · have e : ((f + 1) % 9 + i) % 9 = (f + (i + 1)) % 9 := by omega
      rw [e]
      by_cases q : i < 7
      · rw [List.getElem?_append_left (by simp; omega), List.getElem?_drop] at hi
        rw [show 1 + i = i + 1 by omega] at hi
        exact (h5 _ x hi).fr zz_fq.rf hfr (by omega)
      · have h7 := zz_lt_of hi
        have e2 : i = (hs.drop 1).length := by simp at h7 ⊢; omega
        rw [e2, List.getElem?_concat_length] at hi
        cases hi
        have e3 : i + 1 = hs.length := by simp at e2; omega
        rw [e3]
        exact hw.fr zz_fq.rf hfr (by omega)
  · rw [h3] at c_6
    simp (disch := omega) only [zi_lt, zi_le, zi_eq, zi_n, zi_0, zi_m1] at c_6
    rw [if_pos (by omega)]
    refine z_aload_n ee_H_keep_9 rfl ?_
    refine z_dup ee_H_keep_10 rfl ?_
    refine z_getI ee_H_keep_11 ff_H_keep_21 (by assumption) il_4_2 ?_
    refine z_iconst ee_H_keep_14 (v := nI 1) (by decide) ?_
    refine z_iadd ee_H_keep_15 ?_
    refine z_putI ee_H_keep_16 ff_H_keep_21 (by assumption) (by assumption) tl_4_2 fl_4_2 ?_
    refine z_goto ee_H_keep_19 (tgt := 37) (by decide) ?_
    refine z_vret ee_H_keep_37 rfl (by omega) (by omega) ?_
    -- at 37
    have hfr : zz_fr H (H + 1) I (zz_up I H 2 (I H 2 + nI 1)) := zz_fr.rf.up (by omega) (by omega)
    refine ⟨_, f, rfl, rfl, ⟨?_, h2, ?_, ?_, fun i x hi => ?_⟩, hfr⟩
    · rw [zz_up_k (by decide)]; exact h1
    · rw [zz_up_s, h3, nI_add]; simp
    · simp; omega
    · by_cases q : i < hs.length
      · rw [List.getElem?_append_left q] at hi
        exact (h5 _ x hi).fr zz_fq.rf hfr (by omega)
      · have h7 := zz_lt_of hi
        have e2 : i = hs.length := by simp at h7; omega
        rw [e2, List.getElem?_concat_length] at hi
        cases hi
        rw [e2]
        exact hw.fr zz_fq.rf hfr (by omega)
theorem sp_H_takeBack (hf : l.stackTraces = false) (hH : zz_Hx g K R H) (hv : zz_hx g K R I H f (hs ++ [v])) (hS : zz_Ss g K R S) (hk0 : K S = zz_o 5) (hd : S + 131 ≤ H ∨ H + 1181 ≤ S) : zz_S g l mm_H_takeBack 0 0 [.ref H, .ref S] (K, R, I, L, z) (fun a h' => ∃ I', h' = (K, R, I', L, z) ∧ a = none ∧ zz_hx g K R I' H f hs ∧ zz_So g K R I' S v ∧ (∀ b, (b ≠ H ∧ (b < S ∨ S + 131 ≤ b)) → I' b = I b)) zz_no := by
  have hH' := hH
  obtain ⟨⟨k1, k2, k3, k4⟩, hr, hss⟩ := hH
  obtain ⟨h1, h2, h3, h4, h5⟩ := hv
  have e0 : (hs ++ [v]).length = hs.length + 1 := by simp
  rw [e0] at h3 h4
  refine z_start hf rfl (by decide +kernel) (Nat.le_of_ble_eq_true rfl) ?_
  dsimp only [zz_lv0]
  refine z_aload_n ee_H_takeBack_0 rfl ?_
  refine z_getI ee_H_takeBack_1 ff_H_takeBack_21 (by assumption) il_4_2 ?_
  refine z_if_le ee_H_takeBack_4 (tgt := 25) (by decide) (fun c_4 => ?_) (fun c_4 => ?_)
  -- at 4
  · rw [h3] at c_4
    simp (disch := omega) only [zi_lt, zi_le, zi_eq, zi_n, zi_0, zi_m1] at c_4
    omega
  · refine z_aload_n ee_H_takeBack_7 rfl ?_
    refine z_dup ee_H_takeBack_8 rfl ?_
    refine z_getI ee_H_takeBack_9 ff_H_takeBack_21 (by assumption) il_4_2 ?_
    refine z_iconst ee_H_takeBack_12 (v := nI 1) (by decide) ?_
    refine z_isub ee_H_takeBack_13 ?_
    refine z_putI ee_H_takeBack_14 ff_H_takeBack_21 (by assumption) (by assumption) tl_4_2 fl_4_2 ?_
    refine z_aload_n ee_H_takeBack_17 rfl ?_
    refine z_aload_n ee_H_takeBack_18 rfl ?_
    -- at 19
    have hfr : zz_fr H (H + 1) I (zz_up I H 2 (I H 2 - nI 1)) := zz_fr.rf.up (by omega) (by omega)
    have hv2 : zz_hx g K R (zz_up I H 2 (I H 2 - nI 1)) H f hs := by
      refine ⟨by rw [zz_up_k (by decide)]; exact h1, h2, ?_, by omega, fun i x hi => ?_⟩
      · rw [zz_up_s, h3, pk_sub (by omega)]; simp
      · have h7 := zz_lt_of hi
        exact (h5 i x (by rw [List.getElem?_append_left h7]; exact hi)).fr zz_fq.rf hfr (by omega)
    have hw := (h5 hs.length v (by simp)).fr zz_fq.rf hfr (by omega)
    refine z_callV (As := []) ee_H_takeBack_19 kk_H_takeBack_31 rfl (by assumption) rfl rfl (Nat.le_of_ble_eq_true rfl) (by omega) (sp_H_spare hf hH' hv2) (fun E h1 hx => hx.elim) (fun v h1 hq => ?_)
    obtain ⟨rfl, rfl⟩ := hq
    obtain ⟨σ, hS⟩ := hS
    obtain ⟨τ, w1, w2⟩ := hw
    have h6 := Nat.mod_lt (f + hs.length) (show 0 < 9 by decide)
    refine z_callV (As := [_]) ee_H_takeBack_22 kk_H_takeBack_35 rfl (by assumption) rfl rfl (Nat.le_of_ble_eq_true rfl) (by omega) (sp_S_copyFrom hf hS w1 (by omega) w2) (fun E h1 hx => hx.elim) (fun v h1 hq => ?_)
    obtain ⟨I2, rfl, rfl, hx2, hfr2⟩ := hq
    refine z_vret ee_H_takeBack_25 rfl (by omega) (by omega) ?_
    -- at 25
    refine ⟨_, rfl, rfl, hv2.fr zz_fq.rf hfr2 (by omega), ⟨σ, hS, hx2⟩, fun b hb => ?_⟩
    rw [hfr2 b (by omega), zz_up_r (by omega)]
theorem sp_H_forget (hf : l.stackTraces = false) (hH : zz_Hx g K R H) (hv : zz_hx g K R I H f hs) : zz_S g l mm_H_forget 0 0 [.ref H] (K, R, I, L, z) (fun a h' => ∃ I', h' = (K, R, I', L, z) ∧ a = none ∧ zz_hx g K R I' H f [] ∧ zz_fr H (H + 1) I I') zz_no := by
  obtain ⟨⟨k1, k2, k3, k4⟩, hr, hss⟩ := hH
  obtain ⟨h1, h2, h3, h4, h5⟩ := hv
  refine z_start hf rfl (by decide +kernel) (Nat.le_of_ble_eq_true rfl) ?_
  dsimp only [zz_lv0]
  refine z_aload_n ee_H_forget_0 rfl ?_
  refine z_iconst ee_H_forget_1 (v := nI 0) (by decide) ?_
  refine z_putI ee_H_forget_2 ff_H_forget_21 (by assumption) (by assumption) tl_4_2 fl_4_2 ?_
  refine z_vret ee_H_forget_5 rfl (by omega) (by omega) ?_
  -- at 5
  refine ⟨_, rfl, rfl, ⟨?_, h2, ?_, by simp, fun i x hi => by simp at hi⟩, zz_fr.rf.up (by omega) (by omega)⟩
  · rw [zz_up_k (by decide)]; exact h1
  · rw [zz_up_s]; rfl
theorem sp_D_note (hf : l.stackTraces = false) {D : Nat} (hK : K D = zz_o 3) (hA : zz_A g D) (a b c : Int32) : zz_S g l mm_D_note 0 0 [.ref D, .int a, .int b, .int c] (K, R, I, L, z) (fun a' h' => ∃ I', h' = (K, R, I', L, z) ∧ a' = none ∧ (I' D 0 = a ∧ I' D 1 = b ∧ I' D 2 = c) ∧ zz_fr D (D + 1) I I') zz_no := by
  refine z_start hf rfl (by decide +kernel) (Nat.le_of_ble_eq_true rfl) ?_
  dsimp only [zz_lv0]
  refine z_aload_n ee_D_note_0 rfl ?_
  refine z_iload_n ee_D_note_1 rfl ?_
  refine z_putI ee_D_note_2 ff_D_note_9 (by assumption) (by assumption) tl_3_0 fl_3_0 ?_
  refine z_aload_n ee_D_note_5 rfl ?_
  refine z_iload_n ee_D_note_6 rfl ?_
  refine z_putI ee_D_note_7 ff_D_note_15 (by assumption) (by assumption) tl_3_1 fl_3_1 ?_
  refine z_aload_n ee_D_note_10 rfl ?_
  refine z_iload_n ee_D_note_11 rfl ?_
  refine z_putI ee_D_note_12 ff_D_note_18 (by assumption) (by assumption) tl_3_2 fl_3_2 ?_
  refine z_vret ee_D_note_15 rfl (by omega) (by omega) ?_
  -- at 15
  refine ⟨_, rfl, rfl, ⟨?_, ?_, ?_⟩, ((zz_fr.rf.up (by omega) (by omega)).up (by omega) (by omega)).up (by omega) (by omega)⟩
  · rw [zz_up_k (by decide), zz_up_k (by decide), zz_up_s]
  · rw [zz_up_k (by decide), zz_up_s]
  · rw [zz_up_s]
end Hist
