/-! STORE: the ranks, rot, copies -/
/-- how many are ahead of y -/
def zz_ahc (f : zz_TG → zz_TG → Bool) (ts : List zz_TG) (y : zz_TG) : Int32 := zz_fs (fun x => if f x y = true then nI 1 else nI 0) (nI 0) ts
def zz_fbr (f : zz_TG → zz_TG → Bool) (ts : List zz_TG) (r : Int32) : List zz_TG → Int32
  | [] => -1
  | y :: t => if zz_ahc f ts y = r then tg_n y else zz_fbr f ts r t
/-- days until a page is rotten -/
def zz_dur (v : zz_SV) (x : zz_TG) : Int32 := if 0 < nI 20 - zz_gr (nI 0) (tg_s x) then (if 0 < zz_dmp v (tg_o x) then (nI 20 - zz_gr (nI 0) (tg_s x) + zz_dmp v (tg_o x) - nI 1) / zz_dmp v (tg_o x) else -1) else nI 0
theorem zz_Tx.fr {g : zz_G} {K : Nat → Nat × Nat} {R R' : Nat → Nat → Option Nat} {t n q : Nat} (h : zz_Tx g K R t n) (hR : ∀ b, b ≠ q → R' b = R b) (hd : t ≠ q) : zz_Tx g K R' t n := by
  obtain ⟨k1, k2, k3, k4, k5, k6⟩ := h
  exact ⟨k1, by rw [hR _ hd]; exact k2, k3, k4, k5, k6⟩
theorem zz_Gx.fr {g : zz_G} {K : Nat → Nat × Nat} {R R' : Nat → Nat → Option Nat} {t q : Nat} (h : zz_Gx g K R t) (hR : ∀ b, b ≠ q → R' b = R b) (hd : q < t) : zz_Gx g K R' t := by
  obtain ⟨k1, k2, k3, k4, k5, k6, k7⟩ := h
  exact ⟨k1, by rw [hR _ (by omega)]; exact k2, k3.fr hR (by omega), by rw [hR _ (by omega)]; exact k4, k5, k6, k7⟩
section Store2
variable {g : zz_G} {l : Launch} {K : Nat → Nat × Nat} {R : Nat → Nat → Option Nat} {I : Nat → Nat → Int32} {L : Nat → Nat → Int64} {z : Nat} {S U : Nat} {v w : zz_SV} {σ τ : Nat → Nat}
theorem zz_fbp_in (hf : l.stackTraces = false) (hS : zz_Sx g K R S σ) (hv : zz_sx I σ S v) (r : Int32) {i : Nat} {y : zz_TG} (hy : (sv_t v)[i]? = some y) : ∀ (ys : List zz_TG) (k : Nat) (s : Int32), (sv_t v).drop k = ys → k ≤ (sv_t v).length →
    Zz g l mm_S_findByPriority 0 0 (zz_is (K, R, I, L, z) (.int (zz_fbr zz_ahp (sv_t v) r ((sv_t v).drop i)))) zz_no 0 0 76 [some (.ref S), some (.int r), some (.int (nI i)), some (.int (zz_fs (fun x => if zz_ahp x y = true then nI 1 else nI 0) s ys))] [] (K, R, I, L, z) →
    Zz g l mm_S_findByPriority 0 0 (zz_is (K, R, I, L, z) (.int (zz_fbr zz_ahp (sv_t v) r ((sv_t v).drop i)))) zz_no 0 0 24 [some (.ref S), some (.int r), some (.int (nI i)), some (.int s), some (.int (nI k))] [] (K, R, I, L, z) := by
  intro ys
  obtain ⟨⟨k1, k2, k3, k4, k5, k6, k7, k8⟩, hG, hr, hσ, -⟩ := hS
  obtain ⟨-, ⟨b1, b2, b3⟩, -⟩ := hv
  have hil := zz_lt_of hy
  induction ys with
  | nil =>
    intro k s hi hkl hk
    have h1 := zz_drop_nilG hi
    refine z_iload ee_S_findByPriority_24 rfl ?_
    refine z_aload_n ee_S_findByPriority_26 rfl ?_
    refine z_getI ee_S_findByPriority_27 ff_S_findByPriority_25 (by assumption) il_5_3 ?_
    refine z_icmp_ge ee_S_findByPriority_30 (tgt := 76) (by decide) (fun c_30 => ?_) (fun c_30 => ?_)
    -- at 30
    · exact z_lvk hk ⟨rfl, rfl, rfl, rfl, trivial⟩
    · rw [b1] at c_30
      simp (disch := omega) only [zi_lt, zi_le, zi_eq, zi_n, zi_0, zi_m1] at c_30
      omega
  | cons x ys ih =>
    intro k s hi hkl hk
    obtain ⟨h1, h2, h3⟩ := zz_drop_consG hi
    refine z_iload ee_S_findByPriority_24 rfl ?_
    refine z_aload_n ee_S_findByPriority_26 rfl ?_
    refine z_getI ee_S_findByPriority_27 ff_S_findByPriority_25 (by assumption) il_5_3 ?_
    refine z_icmp_ge ee_S_findByPriority_30 (tgt := 76) (by decide) (fun c_30 => ?_) (fun c_30 => ?_)
    -- at 30
    · rw [b1] at c_30
      simp (disch := omega) only [zi_lt, zi_le, zi_eq, zi_n, zi_0, zi_m1] at c_30
      omega
    · refine z_iload ee_S_findByPriority_33 rfl ?_
      refine z_aload_n ee_S_findByPriority_35 rfl ?_
      refine z_getR ee_S_findByPriority_36 ff_S_findByPriority_17 (by assumption) il_5_1 (by assumption) ?_
      refine z_alen ee_S_findByPriority_39 (by assumption) ?_
      refine z_icmp_ge ee_S_findByPriority_40 (tgt := 76) (by decide) (fun c_40 => ?_) (fun c_40 => ?_)
      -- at 40
      · simp (disch := omega) only [zi_lt, zi_le, zi_eq, zi_n, zi_0, zi_m1] at c_40
        omega
      · refine z_iload_n ee_S_findByPriority_43 rfl ?_
        refine z_aload_n ee_S_findByPriority_44 rfl ?_
        refine z_getR ee_S_findByPriority_45 ff_S_findByPriority_17 (by assumption) il_5_1 (by assumption) ?_
        refine z_iload ee_S_findByPriority_48 rfl ?_
        -- at 50
        have hg := hG (σ k) (hσ k (by omega))
        have hk1 := hg.1
        have hgi := hG (σ i) (hσ i (by omega))
        refine z_aald ee_S_findByPriority_50 (by assumption) (by decide) rfl (by omega) (by omega) (hr _ (by omega)) ?_
        refine z_aload_n ee_S_findByPriority_51 rfl ?_
        refine z_getR ee_S_findByPriority_52 ff_S_findByPriority_17 (by assumption) il_5_1 (by assumption) ?_
        refine z_iload_n ee_S_findByPriority_55 rfl ?_
        -- at 56
        refine z_aald ee_S_findByPriority_56 (by assumption) (by decide) rfl (by omega) (by omega) (hr _ (by omega)) ?_
        refine z_callV (As := [_]) ee_S_findByPriority_57 kk_S_findByPriority_63 rfl (by assumption) rfl rfl (Nat.le_of_ble_eq_true rfl) (by omega) (sp_G_isAheadByPriority hf hg (b3 k x h2) hgi (b3 i y hy)) (fun E h1 hx => hx.elim) (fun v h1 hq => ?_)
        obtain ⟨rfl, rfl⟩ := hq
        simp only [zz_fs] at hk
        refine z_if_eq ee_S_findByPriority_60 (tgt := 67) (by decide) (fun c_60 => ?_) (fun c_60 => ?_)
        -- at 60
        · rw [zz_tf_0] at c_60
          rw [if_neg c_60] at hk
          refine z_iconst ee_S_findByPriority_67 (v := nI 0) (by decide) ?_
          refine z_iadd ee_S_findByPriority_68 ?_
          refine z_istore_m ee_S_findByPriority_69 (j := 3) rfl (by decide) ?_
          refine z_iinc ee_S_findByPriority_70 rfl rfl (by decide) ?_
          refine z_goto ee_S_findByPriority_73 (tgt := 24) (by decide) ?_
          -- at 24
          rw [zz_iinc1]
          exact ih (k + 1) (s + nI 0) h3 (by omega) hk
        · rw [zz_tf_n0] at c_60
          rw [if_pos c_60] at hk
          refine z_iconst ee_S_findByPriority_63 (v := nI 1) (by decide) ?_
          refine z_goto ee_S_findByPriority_64 (tgt := 68) (by decide) ?_
          refine z_iadd ee_S_findByPriority_68 ?_
          refine z_istore_m ee_S_findByPriority_69 (j := 3) rfl (by decide) ?_
          refine z_iinc ee_S_findByPriority_70 rfl rfl (by decide) ?_
          refine z_goto ee_S_findByPriority_73 (tgt := 24) (by decide) ?_
          -- at 24
          rw [zz_iinc1]
          exact ih (k + 1) (s + nI 1) h3 (by omega) hk
theorem zz_fbp_loop (hf : l.stackTraces = false) (hS : zz_Sx g K R S σ) (hv : zz_sx I σ S v) (r : Int32) : ∀ (ys : List zz_TG) (i : Nat), (sv_t v).drop i = ys → i ≤ (sv_t v).length →
    Zz g l mm_S_findByPriority 0 0 (zz_is (K, R, I, L, z) (.int (zz_fbr zz_ahp (sv_t v) r ys))) zz_no 0 0 2 [some (.ref S), some (.int r), some (.int (nI i))] [] (K, R, I, L, z) := by
  intro ys
  have hS' := hS
  have hv' := hv
  obtain ⟨⟨k1, k2, k3, k4, k5, k6, k7, k8⟩, hG, hr, hσ, -⟩ := hS
  obtain ⟨-, ⟨b1, b2, b3⟩, -⟩ := hv
  induction ys with
  | nil =>
    intro i hi hil
    have h1 := zz_drop_nilG hi
    refine z_iload_n ee_S_findByPriority_2 rfl ?_
    refine z_aload_n ee_S_findByPriority_3 rfl ?_
    refine z_getI ee_S_findByPriority_4 ff_S_findByPriority_25 (by assumption) il_5_3 ?_
    refine z_icmp_ge ee_S_findByPriority_7 (tgt := 97) (by decide) (fun c_7 => ?_) (fun c_7 => ?_)
    -- at 7
    · refine z_iconst ee_S_findByPriority_97 (v := -1) (by decide) ?_
      refine z_iret ee_S_findByPriority_98 rfl (by omega) (by omega) ?_
      -- at 98
      exact ⟨rfl, rfl⟩
    · rw [b1] at c_7
      simp (disch := omega) only [zi_lt, zi_le, zi_eq, zi_n, zi_0, zi_m1] at c_7
      omega
  | cons x ys ih =>
    intro i hi hil
    obtain ⟨h1, h2, h3⟩ := zz_drop_consG hi
    refine z_iload_n ee_S_findByPriority_2 rfl ?_
    refine z_aload_n ee_S_findByPriority_3 rfl ?_
    refine z_getI ee_S_findByPriority_4 ff_S_findByPriority_25 (by assumption) il_5_3 ?_
    refine z_icmp_ge ee_S_findByPriority_7 (tgt := 97) (by decide) (fun c_7 => ?_) (fun c_7 => ?_)
    -- at 7
    · rw [b1] at c_7
      simp (disch := omega) only [zi_lt, zi_le, zi_eq, zi_n, zi_0, zi_m1] at c_7
      omega
    · refine z_iload_n ee_S_findByPriority_10 rfl ?_
      refine z_aload_n ee_S_findByPriority_11 rfl ?_
      refine z_getR ee_S_findByPriority_12 ff_S_findByPriority_17 (by assumption) il_5_1 (by assumption) ?_
      refine z_alen ee_S_findByPriority_15 (by assumption) ?_
      refine z_icmp_ge ee_S_findByPriority_16 (tgt := 97) (by decide) (fun c_16 => ?_) (fun c_16 => ?_)
      -- at 16
      · simp (disch := omega) only [zi_lt, zi_le, zi_eq, zi_n, zi_0, zi_m1] at c_16
        omega
      · refine z_iconst ee_S_findByPriority_19 (v := nI 0) (by decide) ?_
        refine z_istore_m ee_S_findByPriority_20 (j := 3) rfl (by decide) ?_
        refine z_iconst ee_S_findByPriority_21 (v := nI 0) (by decide) ?_
        refine z_istore ee_S_findByPriority_22 (by decide) ?_
        -- at 24
        have hk := (hG (σ i) (hσ i (by omega))).1
        have hx := (b3 i x h2).2.2.2.2.2.1
        have h9 := zz_fbp_in (z := z) (L := L) hf hS' hv' r h2 (sv_t v) 0 (nI 0) rfl (Nat.zero_le _)
        rw [hi] at h9
        refine h9 ?_
        refine z_iload_n ee_S_findByPriority_76 rfl ?_
        refine z_iload_n ee_S_findByPriority_77 rfl ?_
        refine z_icmp_ne ee_S_findByPriority_78 (tgt := 91) (by decide) (fun c_78 => ?_) (fun c_78 => ?_)
        -- at 78
        · refine z_iinc ee_S_findByPriority_91 rfl rfl (by decide) ?_
          refine z_goto ee_S_findByPriority_94 (tgt := 2) (by decide) ?_
          -- at 2
          rw [zz_iinc1]
          simp only [zz_fbr]
          rw [if_neg (show ¬ zz_ahc zz_ahp (sv_t v) x = r from c_78)]
          exact z_lvk (ih (i + 1) h3 (by omega)) ⟨rfl, rfl, rfl, trivial⟩
        · refine z_aload_n ee_S_findByPriority_81 rfl ?_
          refine z_getR ee_S_findByPriority_82 ff_S_findByPriority_17 (by assumption) il_5_1 (by assumption) ?_
          refine z_iload_n ee_S_findByPriority_85 rfl ?_
          -- at 86
          refine z_aald ee_S_findByPriority_86 (by assumption) (by decide) rfl (by omega) (by omega) (hr _ (by omega)) ?_
          refine z_getI ee_S_findByPriority_87 ff_S_findByPriority_54 (by assumption) il_6_3 ?_
          refine z_iret ee_S_findByPriority_90 rfl (by omega) (by omega) ?_
          -- at 90
          refine ⟨rfl, ?_⟩
          simp only [zz_fbr]
          rw [if_pos (show zz_ahc zz_ahp (sv_t v) x = r from c_78), hx]
theorem sp_S_findByPriority (hf : l.stackTraces = false) (hS : zz_Sx g K R S σ) (hv : zz_sx I σ S v) (r : Int32) : zz_S g l mm_S_findByPriority 0 0 [.ref S, .int r] (K, R, I, L, z) (zz_is (K, R, I, L, z) (.int (zz_fbr zz_ahp (sv_t v) r (sv_t v)))) zz_no := by
  refine z_start hf rfl (by decide +kernel) (Nat.le_of_ble_eq_true rfl) ?_
  dsimp only [zz_lv0]
  refine z_iconst ee_S_findByPriority_0 (v := nI 0) (by decide) ?_
  refine z_istore_m ee_S_findByPriority_1 (j := 2) rfl (by decide) ?_
  -- at 2
  exact zz_fbp_loop hf hS hv r (sv_t v) 0 rfl (Nat.zero_le _)
theorem zz_fbt_in (hf : l.stackTraces = false) (hS : zz_Sx g K R S σ) (hv : zz_sx I σ S v) (r : Int32) {i : Nat} {y : zz_TG} (hy : (sv_t v)[i]? = some y) : ∀ (ys : List zz_TG) (k : Nat) (s : Int32), (sv_t v).drop k = ys → k ≤ (sv_t v).length →
    Zz g l mm_S_findByRot 0 0 (zz_is (K, R, I, L, z) (.int (zz_fbr zz_ahr (sv_t v) r ((sv_t v).drop i)))) zz_no 0 0 76 [some (.ref S), some (.int r), some (.int (nI i)), some (.int (zz_fs (fun x => if zz_ahr x y = true then nI 1 else nI 0) s ys))] [] (K, R, I, L, z) →
    Zz g l mm_S_findByRot 0 0 (zz_is (K, R, I, L, z) (.int (zz_fbr zz_ahr (sv_t v) r ((sv_t v).drop i)))) zz_no 0 0 24 [some (.ref S), some (.int r), some (.int (nI i)), some (.int s), some (.int (nI k))] [] (K, R, I, L, z) := by
  intro ys
  obtain ⟨⟨k1, k2, k3, k4, k5, k6, k7, k8⟩, hG, hr, hσ, -⟩ := hS
  obtain ⟨-, ⟨b1, b2, b3⟩, -⟩ := hv
  have hil := zz_lt_of hy
  induction ys with
  | nil =>
    intro k s hi hkl hk
    have h1 := zz_drop_nilG hi
    refine z_iload ee_S_findByRot_24 rfl ?_
    refine z_aload_n ee_S_findByRot_26 rfl ?_
    refine z_getI ee_S_findByRot_27 ff_S_findByRot_25 (by assumption) il_5_3 ?_
    refine z_icmp_ge ee_S_findByRot_30 (tgt := 76) (by decide) (fun c_30 => ?_) (fun c_30 => ?_)
    -- at 30
    · exact z_lvk hk ⟨rfl, rfl, rfl, rfl, trivial⟩
    · rw [b1] at c_30
      simp (disch := omega) only [zi_lt, zi_le, zi_eq, zi_n, zi_0, zi_m1] at c_30
      omega
  | cons x ys ih =>
    intro k s hi hkl hk
    obtain ⟨h1, h2, h3⟩ := zz_drop_consG hi
    refine z_iload ee_S_findByRot_24 rfl ?_
    refine z_aload_n ee_S_findByRot_26 rfl ?_
    refine z_getI ee_S_findByRot_27 ff_S_findByRot_25 (by assumption) il_5_3 ?_
    refine z_icmp_ge ee_S_findByRot_30 (tgt := 76) (by decide) (fun c_30 => ?_) (fun c_30 => ?_)
    -- at 30
    · rw [b1] at c_30
      simp (disch := omega) only [zi_lt, zi_le, zi_eq, zi_n, zi_0, zi_m1] at c_30
      omega
    · refine z_iload ee_S_findByRot_33 rfl ?_
      refine z_aload_n ee_S_findByRot_35 rfl ?_
      refine z_getR ee_S_findByRot_36 ff_S_findByRot_17 (by assumption) il_5_1 (by assumption) ?_
      refine z_alen ee_S_findByRot_39 (by assumption) ?_
      refine z_icmp_ge ee_S_findByRot_40 (tgt := 76) (by decide) (fun c_40 => ?_) (fun c_40 => ?_)
      -- at 40
      · simp (disch := omega) only [zi_lt, zi_le, zi_eq, zi_n, zi_0, zi_m1] at c_40
        omega
      · refine z_iload_n ee_S_findByRot_43 rfl ?_
        refine z_aload_n ee_S_findByRot_44 rfl ?_
        refine z_getR ee_S_findByRot_45 ff_S_findByRot_17 (by assumption) il_5_1 (by assumption) ?_
        refine z_iload ee_S_findByRot_48 rfl ?_
        -- at 50
        have hg := hG (σ k) (hσ k (by omega))
        have hk1 := hg.1
        have hgi := hG (σ i) (hσ i (by omega))
        refine z_aald ee_S_findByRot_50 (by assumption) (by decide) rfl (by omega) (by omega) (hr _ (by omega)) ?_
        refine z_aload_n ee_S_findByRot_51 rfl ?_
        refine z_getR ee_S_findByRot_52 ff_S_findByRot_17 (by assumption) il_5_1 (by assumption) ?_
        refine z_iload_n ee_S_findByRot_55 rfl ?_
        -- at 56
        refine z_aald ee_S_findByRot_56 (by assumption) (by decide) rfl (by omega) (by omega) (hr _ (by omega)) ?_
        refine z_callV (As := [_]) ee_S_findByRot_57 kk_S_findByRot_67 rfl (by assumption) rfl rfl (Nat.le_of_ble_eq_true rfl) (by omega) (sp_G_isAheadByRot hf hg (b3 k x h2) hgi (b3 i y hy)) (fun E h1 hx => hx.elim) (fun v h1 hq => ?_)
        obtain ⟨rfl, rfl⟩ := hq
        simp only [zz_fs] at hk
        refine z_if_eq ee_S_findByRot_60 (tgt := 67) (by decide) (fun c_60 => ?_) (fun c_60 => ?_)
        -- at 60
        · rw [zz_tf_0] at c_60
          rw [if_neg c_60] at hk
          refine z_iconst ee_S_findByRot_67 (v := nI 0) (by decide) ?_
          refine z_iadd ee_S_findByRot_68 ?_
          refine z_istore_m ee_S_findByRot_69 (j := 3) rfl (by decide) ?_
          refine z_iinc ee_S_findByRot_70 rfl rfl (by decide) ?_
          refine z_goto ee_S_findByRot_73 (tgt := 24) (by decide) ?_
          -- at 24
          rw [zz_iinc1]
          exact ih (k + 1) (s + nI 0) h3 (by omega) hk
        · rw [zz_tf_n0] at c_60
          rw [if_pos c_60] at hk
          refine z_iconst ee_S_findByRot_63 (v := nI 1) (by decide) ?_
          refine z_goto ee_S_findByRot_64 (tgt := 68) (by decide) ?_
          refine z_iadd ee_S_findByRot_68 ?_
          refine z_istore_m ee_S_findByRot_69 (j := 3) rfl (by decide) ?_
          refine z_iinc ee_S_findByRot_70 rfl rfl (by decide) ?_
          refine z_goto ee_S_findByRot_73 (tgt := 24) (by decide) ?_
          -- at 24
          rw [zz_iinc1]
          exact ih (k + 1) (s + nI 1) h3 (by omega) hk
theorem zz_fbt_loop (hf : l.stackTraces = false) (hS : zz_Sx g K R S σ) (hv : zz_sx I σ S v) (r : Int32) : ∀ (ys : List zz_TG) (i : Nat), (sv_t v).drop i = ys → i ≤ (sv_t v).length →
    Zz g l mm_S_findByRot 0 0 (zz_is (K, R, I, L, z) (.int (zz_fbr zz_ahr (sv_t v) r ys))) zz_no 0 0 2 [some (.ref S), some (.int r), some (.int (nI i))] [] (K, R, I, L, z) := by
  intro ys
  have hS' := hS
  have hv' := hv
  obtain ⟨⟨k1, k2, k3, k4, k5, k6, k7, k8⟩, hG, hr, hσ, -⟩ := hS
  obtain ⟨-, ⟨b1, b2, b3⟩, -⟩ := hv
  induction ys with
  | nil =>
    intro i hi hil
    have h1 := zz_drop_nilG hi
    refine z_iload_n ee_S_findByRot_2 rfl ?_
    refine z_aload_n ee_S_findByRot_3 rfl ?_
    refine z_getI ee_S_findByRot_4 ff_S_findByRot_25 (by assumption) il_5_3 ?_
    refine z_icmp_ge ee_S_findByRot_7 (tgt := 97) (by decide) (fun c_7 => ?_) (fun c_7 => ?_)
    -- at 7
    · refine z_iconst ee_S_findByRot_97 (v := -1) (by decide) ?_
      refine z_iret ee_S_findByRot_98 rfl (by omega) (by omega) ?_
      -- at 98
      exact ⟨rfl, rfl⟩
    · rw [b1] at c_7
      simp (disch := omega) only [zi_lt, zi_le, zi_eq, zi_n, zi_0, zi_m1] at c_7
      omega
  | cons x ys ih =>
    intro i hi hil
    obtain ⟨h1, h2, h3⟩ := zz_drop_consG hi
    refine z_iload_n ee_S_findByRot_2 rfl ?_
    refine z_aload_n ee_S_findByRot_3 rfl ?_
    refine z_getI ee_S_findByRot_4 ff_S_findByRot_25 (by assumption) il_5_3 ?_
    refine z_icmp_ge ee_S_findByRot_7 (tgt := 97) (by decide) (fun c_7 => ?_) (fun c_7 => ?_)
    -- at 7
    · rw [b1] at c_7
      simp (disch := omega) only [zi_lt, zi_le, zi_eq, zi_n, zi_0, zi_m1] at c_7
      omega
    · refine z_iload_n ee_S_findByRot_10 rfl ?_
      refine z_aload_n ee_S_findByRot_11 rfl ?_
      refine z_getR ee_S_findByRot_12 ff_S_findByRot_17 (by assumption) il_5_1 (by assumption) ?_
      refine z_alen ee_S_findByRot_15 (by assumption) ?_
      refine z_icmp_ge ee_S_findByRot_16 (tgt := 97) (by decide) (fun c_16 => ?_) (fun c_16 => ?_)
      -- at 16
      · simp (disch := omega) only [zi_lt, zi_le, zi_eq, zi_n, zi_0, zi_m1] at c_16
        omega
      · refine z_iconst ee_S_findByRot_19 (v := nI 0) (by decide) ?_
        refine z_istore_m ee_S_findByRot_20 (j := 3) rfl (by decide) ?_
        refine z_iconst ee_S_findByRot_21 (v := nI 0) (by decide) ?_
        refine z_istore ee_S_findByRot_22 (by decide) ?_
        -- at 24
        have hk := (hG (σ i) (hσ i (by omega))).1
        have hx := (b3 i x h2).2.2.2.2.2.1
        have h9 := zz_fbt_in (z := z) (L := L) hf hS' hv' r h2 (sv_t v) 0 (nI 0) rfl (Nat.zero_le _)
        rw [hi] at h9
        refine h9 ?_
        refine z_iload_n ee_S_findByRot_76 rfl ?_
        refine z_iload_n ee_S_findByRot_77 rfl ?_
        refine z_icmp_ne ee_S_findByRot_78 (tgt := 91) (by decide) (fun c_78 => ?_) (fun c_78 => ?_)
        -- at 78
        · refine z_iinc ee_S_findByRot_91 rfl rfl (by decide) ?_
          refine z_goto ee_S_findByRot_94 (tgt := 2) (by decide) ?_
          -- at 2
          rw [zz_iinc1]
          simp only [zz_fbr]
          rw [if_neg (show ¬ zz_ahc zz_ahr (sv_t v) x = r from c_78)]
          exact z_lvk (ih (i + 1) h3 (by omega)) ⟨rfl, rfl, rfl, trivial⟩
        · refine z_aload_n ee_S_findByRot_81 rfl ?_
          refine z_getR ee_S_findByRot_82 ff_S_findByRot_17 (by assumption) il_5_1 (by assumption) ?_
          refine z_iload_n ee_S_findByRot_85 rfl ?_
          -- at 86
          refine z_aald ee_S_findByRot_86 (by assumption) (by decide) rfl (by omega) (by omega) (hr _ (by omega)) ?_
          refine z_getI ee_S_findByRot_87 ff_S_findByRot_54 (by assumption) il_6_3 ?_
          refine z_iret ee_S_findByRot_90 rfl (by omega) (by omega) ?_
          -- at 90
          refine ⟨rfl, ?_⟩
          simp only [zz_fbr]
          rw [if_pos (show zz_ahc zz_ahr (sv_t v) x = r from c_78), hx]
theorem sp_S_findByRot (hf : l.stackTraces = false) (hS : zz_Sx g K R S σ) (hv : zz_sx I σ S v) (r : Int32) : zz_S g l mm_S_findByRot 0 0 [.ref S, .int r] (K, R, I, L, z) (zz_is (K, R, I, L, z) (.int (zz_fbr zz_ahr (sv_t v) r (sv_t v)))) zz_no := by
  refine z_start hf rfl (by decide +kernel) (Nat.le_of_ble_eq_true rfl) ?_
  dsimp only [zz_lv0]
  refine z_iconst ee_S_findByRot_0 (v := nI 0) (by decide) ?_
  refine z_istore_m ee_S_findByRot_1 (j := 2) rfl (by decide) ?_
  -- at 2
  exact zz_fbt_loop hf hS hv r (sv_t v) 0 rfl (Nat.zero_le _)
theorem sp_S_countDaysUntilRotten (hf : l.stackTraces = false) (hS : zz_Sx g K R S σ) (hv : zz_sx I σ S v) {t : Nat} {x : zz_TG} (hG : zz_Gx g K R t) (hx : zz_gx I t x) : zz_S g l mm_S_countDaysUntilRotten 0 0 [.ref S, .ref t] (K, R, I, L, z) (zz_is (K, R, I, L, z) (.int (zz_dur v x))) zz_no := by
  have k1 := hS.1.1
  have g1 := hG.1
  unfold zz_dur
  refine z_start hf rfl (by decide +kernel) (Nat.le_of_ble_eq_true rfl) ?_
  dsimp only [zz_lv0]
  refine z_bipush ee_S_countDaysUntilRotten_0 (v := nI 20) (by decide) ?_
  refine z_aload_n ee_S_countDaysUntilRotten_2 rfl ?_
  -- at 3
  refine z_callV (As := []) ee_S_countDaysUntilRotten_3 kk_S_countDaysUntilRotten_92 rfl (by assumption) rfl rfl (Nat.le_of_ble_eq_true rfl) (by omega) (sp_G_greatestRot hf hG hx) (fun E h1 hx => hx.elim) (fun v h1 hq => ?_)
  obtain ⟨rfl, rfl⟩ := hq
  refine z_isub ee_S_countDaysUntilRotten_6 ?_
  refine z_istore_m ee_S_countDaysUntilRotten_7 (j := 2) rfl (by decide) ?_
  refine z_aload_n ee_S_countDaysUntilRotten_8 rfl ?_
  refine z_aload_n ee_S_countDaysUntilRotten_9 rfl ?_
  refine z_getI ee_S_countDaysUntilRotten_10 ff_S_countDaysUntilRotten_70 (by assumption) il_6_4 ?_
  -- at 13
  rw [hx.2.2.2.2.2.2.1]
  refine z_callV (As := [_]) ee_S_countDaysUntilRotten_13 kk_S_countDaysUntilRotten_38 rfl (by assumption) rfl rfl (Nat.le_of_ble_eq_true rfl) (by omega) (sp_S_dampnessAt hf hS hv _) (fun E h1 hx => hx.elim) (fun v h1 hq => ?_)
  obtain ⟨rfl, rfl⟩ := hq
  refine z_istore_m ee_S_countDaysUntilRotten_16 (j := 3) rfl (by decide) ?_
  refine z_iload_n ee_S_countDaysUntilRotten_17 rfl ?_
  refine z_if_gt ee_S_countDaysUntilRotten_18 (tgt := 23) (by decide) (fun c_18 => ?_) (fun c_18 => ?_)
  -- at 18
  · rw [if_pos c_18]
    refine z_iload_n ee_S_countDaysUntilRotten_23 rfl ?_
    refine z_if_le ee_S_countDaysUntilRotten_24 (tgt := 37) (by decide) (fun c_24 => ?_) (fun c_24 => ?_)
    -- at 24
    · rw [if_neg (Int32.not_lt.mpr c_24)]
      refine z_iconst ee_S_countDaysUntilRotten_37 (v := -1) (by decide) ?_
      refine z_iret ee_S_countDaysUntilRotten_38 rfl (by omega) (by omega) ?_
      -- at 38
      exact ⟨rfl, rfl⟩
    · have c_25 := Int32.not_le.mp c_24
      rw [if_pos c_25]
      refine z_iload_n ee_S_countDaysUntilRotten_27 rfl ?_
      refine z_iload_n ee_S_countDaysUntilRotten_28 rfl ?_
      refine z_iadd ee_S_countDaysUntilRotten_29 ?_
      refine z_iconst ee_S_countDaysUntilRotten_30 (v := nI 1) (by decide) ?_
      refine z_isub ee_S_countDaysUntilRotten_31 ?_
      refine z_iload_n ee_S_countDaysUntilRotten_32 rfl ?_
      -- at 33
      refine z_idiv ee_S_countDaysUntilRotten_33 (fun e => ?_) ?_
      · rw [e] at c_25
        exact absurd c_25 (by decide)
      · refine z_goto ee_S_countDaysUntilRotten_34 (tgt := 38) (by decide) ?_
        refine z_iret ee_S_countDaysUntilRotten_38 rfl (by omega) (by omega) ?_
        -- at 38
        exact ⟨rfl, rfl⟩
  · rw [if_neg c_18]
    refine z_iconst ee_S_countDaysUntilRotten_21 (v := nI 0) (by decide) ?_
    refine z_iret ee_S_countDaysUntilRotten_22 rfl (by omega) (by omega) ?_
    -- at 22
    exact ⟨rfl, rfl⟩
end Store2
