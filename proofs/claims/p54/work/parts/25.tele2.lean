/-! TELEGRAM: writes -/
/-- a rot after so much more -/
def zz_more (a r : Int32) : Int32 := if nI 20 < r + a then nI 20 else r + a
/-- one more day's rot, page by page -/
def zz_rotl (a : Int32) (x : zz_TG) : zz_TG := (tg_c x, (tg_s x).map (zz_more a) ++ (tg_r x).drop (tg_p x), tg_p x, tg_n x, tg_o x, tg_i x, tg_k x)
def zz_insc (xs : List Int32) (x : zz_TG) : zz_TG := (xs.take 96, List.replicate 8 0, zz_pgs (xs.take 96).length, tg_n x, tg_o x, tg_i x, tg_k x)
def zz_bdy (m : Nat) (rot : Int32) : List Int32 → List Int32 → List Int32
  | [], out => out
  | c :: t, out => zz_bdy m rot t (zz_add m out (if nI 20 ≤ rot then nI 126 else c))
def zz_page (m : Nat) (x : zz_TG) (p : Nat) (out : List Int32) : List Int32 :=
  zz_num m (zz_rotj x (nI p)) 10 (zz_add m (zz_bdy m (zz_rotj x (nI p)) (((tg_c x).take (p * 12 + 12)).drop (p * 12)) (zz_add m (zz_add m out (nI 32)) (nI 91))) (nI 93))
def zz_pages (m : Nat) (x : zz_TG) : Nat → Nat → List Int32 → List Int32
  | 0, _, out => out
  | k + 1, p, out => zz_pages m x k (p + 1) (zz_page m x p out)
def zz_wto (m : Nat) (x : zz_TG) : List Int32 :=
  zz_pages m x (tg_p x) 0 (zz_num m (tg_i x) 10 (zz_add m (zz_num m (tg_o x) 10 (zz_add m (zz_num m (tg_n x) 10 (zz_add m [] (nI 35))) (nI 64))) (nI 33)))
section Tele2
variable {g : zz_G} {l : Launch} {K : Nat → Nat × Nat} {R : Nat → Nat → Option Nat} {I : Nat → Nat → Int32} {L : Nat → Nat → Int64} {z : Nat} {t u m : Nat} {x y : zz_TG} {xs : List Int32} {h : zz_H}
theorem zz_gcopy_loop (hf : l.stackTraces = false) (hG : zz_Gx g K R t) (hU : zz_Gx g K R u) (hd : t + 4 ≤ u ∨ u + 4 ≤ t) {I0 : Nat → Nat → Int32} (hy : zz_gx I0 u y) : ∀ (k i : Nat) (I : Nat → Nat → Int32), i + k = 8 → zz_tx I (t + 1) 96 (tg_c y) → (∀ j, j < i → I (t + 3) j = (tg_r y).getD j 0) → zz_fr t (t + 4) I0 I →
    Zz g l mm_G_copyFrom 0 0 (fun v h' => ∃ I', h' = (K, R, I', L, z) ∧ v = none ∧ zz_gx I' t y ∧ zz_fr t (t + 4) I0 I') zz_no 0 0 13 [some (.ref t), some (.ref u), some (.int (nI i))] [] (K, R, I, L, z) := by
  intro k
  obtain ⟨k1, k2, k3, k4, k5, k6, k7⟩ := hG
  obtain ⟨u1, u2, u3, u4, u5, u6, u7⟩ := hU
  induction k with
  | zero =>
    intro i I hi hx hr hfr
    have hy1 := hy.fr hfr (by omega)
    obtain ⟨h1, h2, h3, h4, h5, h6, h7, h8, h9⟩ := hy1
    refine z_iload_n ee_G_copyFrom_13 rfl ?_
    refine z_aload_n ee_G_copyFrom_14 rfl ?_
    refine z_getR ee_G_copyFrom_15 ff_G_copyFrom_20 (by assumption) il_6_1 (by assumption) ?_
    refine z_alen ee_G_copyFrom_18 (by assumption) ?_
    refine z_icmp_ge ee_G_copyFrom_19 (tgt := 49) (by decide) (fun c_19 => ?_) (fun c_19 => ?_)
    -- at 19
    · refine z_aload_n ee_G_copyFrom_49 rfl ?_
      refine z_aload_n ee_G_copyFrom_50 rfl ?_
      refine z_getI ee_G_copyFrom_51 ff_G_copyFrom_24 (by assumption) il_6_2 ?_
      refine z_putI ee_G_copyFrom_54 ff_G_copyFrom_24 (by assumption) (by assumption) tl_6_2 fl_6_2 ?_
      refine z_aload_n ee_G_copyFrom_57 rfl ?_
      refine z_aload_n ee_G_copyFrom_58 rfl ?_
      refine z_getI ee_G_copyFrom_59 ff_G_copyFrom_28 (by assumption) il_6_3 ?_
      refine z_putI ee_G_copyFrom_62 ff_G_copyFrom_28 (by assumption) (by assumption) tl_6_3 fl_6_3 ?_
      refine z_aload_n ee_G_copyFrom_65 rfl ?_
      refine z_aload_n ee_G_copyFrom_66 rfl ?_
      refine z_getI ee_G_copyFrom_67 ff_G_copyFrom_31 (by assumption) il_6_4 ?_
      refine z_putI ee_G_copyFrom_70 ff_G_copyFrom_31 (by assumption) (by assumption) tl_6_4 fl_6_4 ?_
      refine z_aload_n ee_G_copyFrom_73 rfl ?_
      refine z_aload_n ee_G_copyFrom_74 rfl ?_
      refine z_getI ee_G_copyFrom_75 ff_G_copyFrom_34 (by assumption) il_6_5 ?_
      refine z_putI ee_G_copyFrom_78 ff_G_copyFrom_34 (by assumption) (by assumption) tl_6_5 fl_6_5 ?_
      refine z_aload_n ee_G_copyFrom_81 rfl ?_
      refine z_aload_n ee_G_copyFrom_82 rfl ?_
      refine z_getI ee_G_copyFrom_83 ff_G_copyFrom_37 (by assumption) il_6_6 ?_
      refine z_putI ee_G_copyFrom_86 ff_G_copyFrom_37 (by assumption) (by assumption) tl_6_6 fl_6_6 ?_
      refine z_vret ee_G_copyFrom_89 rfl (by omega) (by omega) ?_
      -- at 89
      refine ⟨_, rfl, rfl, ?_, ((((hfr.up (by omega) (by omega)).up (by omega) (by omega)).up (by omega) (by omega)).up (by omega) (by omega)).up (by omega) (by omega)⟩
      have ht : t ≠ t + 1 := by omega
      refine ⟨hx.kept ?_ ?_, h2, fun j hj => ?_, ?_, h5, ?_, ?_, ?_, ?_⟩
      · simp only [zz_up_r (show t + 1 ≠ t by omega)]
      · simp only [zz_up_r (show t + 1 + 1 ≠ t by omega)]
      · simp only [zz_up_r (show t + 3 ≠ t by omega)]
        exact hr j (by omega)
      all_goals simp only [zz_up_s, zz_up_k (show (2 : Nat) ≠ 6 by decide), zz_up_k (show (2 : Nat) ≠ 5 by decide), zz_up_k (show (2 : Nat) ≠ 4 by decide), zz_up_k (show (2 : Nat) ≠ 3 by decide), zz_up_k (show (3 : Nat) ≠ 6 by decide), zz_up_k (show (3 : Nat) ≠ 5 by decide), zz_up_k (show (3 : Nat) ≠ 4 by decide), zz_up_k (show (4 : Nat) ≠ 6 by decide), zz_up_k (show (4 : Nat) ≠ 5 by decide), zz_up_k (show (5 : Nat) ≠ 6 by decide), zz_up_r (show u ≠ t by omega)]
      all_goals assumption
    · simp (disch := omega) only [zi_lt, zi_le, zi_eq, zi_n, zi_0, zi_m1] at c_19
      omega
  | succ k ih =>
    intro i I hi hx hr hfr
    have hy1 := hy.fr hfr (by omega)
    refine z_iload_n ee_G_copyFrom_13 rfl ?_
    refine z_aload_n ee_G_copyFrom_14 rfl ?_
    refine z_getR ee_G_copyFrom_15 ff_G_copyFrom_20 (by assumption) il_6_1 (by assumption) ?_
    refine z_alen ee_G_copyFrom_18 (by assumption) ?_
    refine z_icmp_ge ee_G_copyFrom_19 (tgt := 49) (by decide) (fun c_19 => ?_) (fun c_19 => ?_)
    -- at 19
    · simp (disch := omega) only [zi_lt, zi_le, zi_eq, zi_n, zi_0, zi_m1] at c_19
      omega
    · refine z_iload_n ee_G_copyFrom_22 rfl ?_
      refine z_aload_n ee_G_copyFrom_23 rfl ?_
      refine z_getR ee_G_copyFrom_24 ff_G_copyFrom_20 (by assumption) il_6_1 (by assumption) ?_
      refine z_alen ee_G_copyFrom_27 (by assumption) ?_
      refine z_icmp_ge ee_G_copyFrom_28 (tgt := 49) (by decide) (fun c_28 => ?_) (fun c_28 => ?_)
      -- at 28
      · simp (disch := omega) only [zi_lt, zi_le, zi_eq, zi_n, zi_0, zi_m1] at c_28
        omega
      · refine z_aload_n ee_G_copyFrom_31 rfl ?_
        refine z_getR ee_G_copyFrom_32 ff_G_copyFrom_20 (by assumption) il_6_1 (by assumption) ?_
        refine z_iload_n ee_G_copyFrom_35 rfl ?_
        refine z_aload_n ee_G_copyFrom_36 rfl ?_
        refine z_getR ee_G_copyFrom_37 ff_G_copyFrom_20 (by assumption) il_6_1 (by assumption) ?_
        refine z_iload_n ee_G_copyFrom_40 rfl ?_
        -- at 41
        refine z_iald ee_G_copyFrom_41 (by assumption) rfl (by omega) (by omega) ?_
        refine z_iast ee_G_copyFrom_42 (by assumption) (by assumption) rfl (by omega) (by omega) ?_
        refine z_iinc ee_G_copyFrom_43 rfl rfl (by decide) ?_
        refine z_goto ee_G_copyFrom_46 (tgt := 13) (by decide) ?_
        -- at 13
        rw [zz_iinc1]
        refine ih (i + 1) _ (by omega) (hx.kept (zz_up_r (by omega)) (zz_up_r (by omega))) (fun j hj => ?_) (hfr.up (by omega) (by omega))
        by_cases q : j = i
        · subst q
          rw [zz_up_s]
          exact hy1.2.2.1 j (by omega)
        · rw [zz_up_k q]
          exact hr j (by omega)
theorem sp_G_copyFrom (hf : l.stackTraces = false) (hG : zz_Gx g K R t) (hU : zz_Gx g K R u) (hy : zz_gx I u y) (hd : t + 4 ≤ u ∨ u + 4 ≤ t) : zz_S g l mm_G_copyFrom 0 0 [.ref t, .ref u] (K, R, I, L, z) (fun v h' => ∃ I', h' = (K, R, I', L, z) ∧ v = none ∧ zz_gx I' t y ∧ zz_fr t (t + 4) I I') zz_no := by
  have hG' := hG
  have hU' := hU
  obtain ⟨k1, k2, k3, k4, k5, k6, k7⟩ := hG
  obtain ⟨u1, u2, u3, u4, u5, u6, u7⟩ := hU
  have k8 := k3.1
  refine z_start hf rfl (by decide +kernel) (Nat.le_of_ble_eq_true rfl) ?_
  dsimp only [zz_lv0]
  refine z_aload_n ee_G_copyFrom_0 rfl ?_
  refine z_getR ee_G_copyFrom_1 ff_G_copyFrom_14 (by assumption) il_6_0 (by assumption) ?_
  refine z_aload_n ee_G_copyFrom_4 rfl ?_
  refine z_getR ee_G_copyFrom_5 ff_G_copyFrom_14 (by assumption) il_6_0 (by assumption) ?_
  -- at 8
  refine z_callV (As := [_]) ee_G_copyFrom_8 kk_G_copyFrom_40 rfl (by assumption) rfl rfl (Nat.le_of_ble_eq_true rfl) (by omega) (sp_T_copyFrom hf k3 u3 hy.1 (by omega)) (fun E h1 hx => hx.elim) (fun v h1 hq => ?_)
  obtain ⟨I2, rfl, rfl, hx2, hfr2⟩ := hq
  rw [List.take_of_length_le hy.1.2.1] at hx2
  refine z_iconst ee_G_copyFrom_11 (v := nI 0) (by decide) ?_
  refine z_istore_m ee_G_copyFrom_12 (j := 2) rfl (by decide) ?_
  -- at 13
  exact zz_gcopy_loop hf hG' hU' hd hy 8 0 I2 (by omega) hx2 (fun j hj => absurd hj (by omega)) (hfr2.wid (by omega) (by omega))
theorem zz_insc_loop (hf : l.stackTraces = false) (hG : zz_Gx g K R t) {I0 : Nat → Nat → Int32} (u : Nat) (hx : ∀ j, j ≠ 2 → I0 t j = I t j) (xs : List Int32) (hp : I t 2 = nI (zz_pgs (xs.take 96).length)) (hc : zz_tx I (t + 1) 96 (xs.take 96)) (hfr0 : zz_fr t (t + 4) I0 I) : ∀ (k i : Nat) (I1 : Nat → Nat → Int32), i + k = 8 → (∀ j, j < i → I1 (t + 3) j = 0) → (∀ b, b ≠ t + 3 → I1 b = I b) →
    Zz g l mm_G_inscribe 0 0 (fun v h' => ∃ I', h' = (K, R, I', L, z) ∧ v = none ∧ zz_gx I' t (xs.take 96, List.replicate 8 0, zz_pgs (xs.take 96).length, I0 t 3, I0 t 4, I0 t 5, I0 t 6) ∧ zz_fr t (t + 4) I0 I') zz_no 0 0 24 [some (.ref t), some (.ref u), some (.int (nI i))] [] (K, R, I1, L, z) := by
  intro k
  obtain ⟨k1, k2, k3, k4, k5, k6, k7⟩ := hG
  have hlen : (xs.take 96).length ≤ 96 := hc.2.1
  induction k with
  | zero =>
    intro i I1 hi hz hfr
    refine z_iload_n ee_G_inscribe_24 rfl ?_
    refine z_aload_n ee_G_inscribe_25 rfl ?_
    refine z_getR ee_G_inscribe_26 ff_G_inscribe_20 (by assumption) il_6_1 (by assumption) ?_
    refine z_alen ee_G_inscribe_29 (by assumption) ?_
    refine z_icmp_ge ee_G_inscribe_30 (tgt := 46) (by decide) (fun c_30 => ?_) (fun c_30 => ?_)
    -- at 30
    · refine z_vret ee_G_inscribe_46 rfl (by omega) (by omega) ?_
      -- at 46
      have e : I1 t = I t := hfr t (by omega)
      refine ⟨_, rfl, rfl, ⟨hc.kept (hfr _ (by omega)) (hfr _ (by omega)), List.length_replicate, fun j hj => ?_, by rw [e]; exact hp, ?_, (congrFun e 3).trans (hx 3 (by decide)).symm, (congrFun e 4).trans (hx 4 (by decide)).symm, (congrFun e 5).trans (hx 5 (by decide)).symm, (congrFun e 6).trans (hx 6 (by decide)).symm⟩, fun b hb => (hfr b (by omega)).trans (hfr0 b hb)⟩
      · rw [hz j (by omega)]
        have : (List.replicate 8 (0 : Int32)).getD j 0 = 0 := by
          rw [List.getD_eq_getElem?_getD, List.getElem?_replicate]
          split <;> rfl
        exact this.symm
      · show zz_pgs _ ≤ 8
        unfold zz_pgs
        omega
    · simp (disch := omega) only [zi_lt, zi_le, zi_eq, zi_n, zi_0, zi_m1] at c_30
      omega
  | succ k ih =>
    intro i I1 hi hz hfr
    refine z_iload_n ee_G_inscribe_24 rfl ?_
    refine z_aload_n ee_G_inscribe_25 rfl ?_
    refine z_getR ee_G_inscribe_26 ff_G_inscribe_20 (by assumption) il_6_1 (by assumption) ?_
    refine z_alen ee_G_inscribe_29 (by assumption) ?_
    refine z_icmp_ge ee_G_inscribe_30 (tgt := 46) (by decide) (fun c_30 => ?_) (fun c_30 => ?_)
    -- at 30
    · simp (disch := omega) only [zi_lt, zi_le, zi_eq, zi_n, zi_0, zi_m1] at c_30
      omega
    · refine z_aload_n ee_G_inscribe_33 rfl ?_
      refine z_getR ee_G_inscribe_34 ff_G_inscribe_20 (by assumption) il_6_1 (by assumption) ?_
      refine z_iload_n ee_G_inscribe_37 rfl ?_
      refine z_iconst ee_G_inscribe_38 (v := nI 0) (by decide) ?_
      -- at 39
      refine z_iast ee_G_inscribe_39 (by assumption) (by assumption) rfl (by omega) (by omega) ?_
      refine z_iinc ee_G_inscribe_40 rfl rfl (by decide) ?_
      refine z_goto ee_G_inscribe_43 (tgt := 24) (by decide) ?_
      -- at 24
      rw [zz_iinc1]
      refine ih (i + 1) (zz_up I1 (t + 3) i (nI 0)) (by omega) (fun j hj => ?_) (fun b hb => (zz_up_r hb).trans (hfr b hb))
      by_cases q : j = i
      · subst q
        rw [zz_up_s]; rfl
      · rw [zz_up_k q]
        exact hz j (by omega)
theorem sp_G_inscribe (hf : l.stackTraces = false) (hG : zz_Gx g K R t) (hU : zz_Tx g K R u m) (hy : zz_tx I u m xs) (hd : t + 4 ≤ u ∨ u + 2 ≤ t) : zz_S g l mm_G_inscribe 0 0 [.ref t, .ref u] (K, R, I, L, z) (fun v h' => ∃ I', h' = (K, R, I', L, z) ∧ v = none ∧ zz_gx I' t (xs.take 96, List.replicate 8 0, zz_pgs (xs.take 96).length, I t 3, I t 4, I t 5, I t 6) ∧ zz_fr t (t + 4) I I') zz_no := by
  have hG' := hG
  obtain ⟨k1, k2, k3, k4, k5, k6, k7⟩ := hG
  have k8 := k3.1
  refine z_start hf rfl (by decide +kernel) (Nat.le_of_ble_eq_true rfl) ?_
  dsimp only [zz_lv0]
  refine z_aload_n ee_G_inscribe_0 rfl ?_
  refine z_getR ee_G_inscribe_1 ff_G_inscribe_14 (by assumption) il_6_0 (by assumption) ?_
  refine z_aload_n ee_G_inscribe_4 rfl ?_
  -- at 5
  refine z_callV (As := [_]) ee_G_inscribe_5 kk_G_inscribe_40 rfl (by assumption) rfl rfl (Nat.le_of_ble_eq_true rfl) (by omega) (sp_T_copyFrom hf k3 hU hy (by omega)) (fun E h1 hx => hx.elim) (fun v h1 hq => ?_)
  obtain ⟨I2, rfl, rfl, hx2, hfr2⟩ := hq
  have hlen : (xs.take 96).length ≤ 96 := hx2.2.1
  refine z_aload_n ee_G_inscribe_8 rfl ?_
  refine z_aload_n ee_G_inscribe_9 rfl ?_
  refine z_getR ee_G_inscribe_10 ff_G_inscribe_14 (by assumption) il_6_0 (by assumption) ?_
  refine z_getI ee_G_inscribe_13 ff_G_inscribe_44 k8 il_7_1 ?_
  rw [hx2.1]
  refine z_callS (As := [_]) ee_G_inscribe_16 kk_G_inscribe_47 rfl rfl (Nat.le_of_ble_eq_true rfl) (by omega) (sp_G_pagesFor hf _ (by omega)) (fun E h1 hx => hx.elim) (fun v h1 hq => ?_)
  obtain ⟨rfl, rfl⟩ := hq
  refine z_putI ee_G_inscribe_19 ff_G_inscribe_24 (by assumption) (by assumption) tl_6_2 fl_6_2 ?_
  refine z_iconst ee_G_inscribe_22 (v := nI 0) (by decide) ?_
  refine z_istore_m ee_G_inscribe_23 (j := 2) rfl (by decide) ?_
  -- at 24
  refine zz_insc_loop hf hG' u (I := zz_up I2 t 2 (nI (zz_pgs (xs.take 96).length))) (I0 := I) (fun j hj => ?_) xs zz_up_s (hx2.kept (zz_up_r (by omega)) (zz_up_r (by omega))) ((hfr2.wid (by omega) (by omega)).up (by omega) (by omega)) 8 0 _ (by omega) (fun j hj => absurd hj (by omega)) (fun b _ => rfl)
  rw [zz_up_k hj, hfr2 t (by omega)]
theorem zz_getD_map {f : Int32 → Int32} {xs ys : List Int32} {j : Nat} : (xs.map f ++ ys).getD j 0 = if j < xs.length then f (xs.getD j 0) else ys.getD (j - xs.length) 0 := by
  simp only [List.getD_eq_getElem?_getD]
  by_cases q : j < xs.length
  · rw [if_pos q, List.getElem?_append_left (by simpa using q), List.getElem?_map, List.getElem?_eq_getElem q]
    rfl
  · rw [if_neg q, List.getElem?_append_right (by simpa using Nat.not_lt.mp q), List.length_map]
theorem zz_getD_drop {xs : List Int32} {n j : Nat} : (xs.drop n).getD j 0 = xs.getD (n + j) 0 := by
  simp only [List.getD_eq_getElem?_getD, List.getElem?_drop]
theorem zz_rotl_s (a : Int32) (x : zz_TG) (h : tg_p x ≤ (tg_r x).length) : tg_s (zz_rotl a x) = (tg_s x).map (zz_more a) := by
  have hl : ((tg_s x).map (zz_more a)).length = tg_p x := by
    rw [List.length_map]
    unfold tg_s
    rw [List.length_take]
    omega
  show ((tg_s x).map (zz_more a) ++ (tg_r x).drop (tg_p x)).take (tg_p x) = _
  exact List.take_left' hl
theorem zz_rot_loop (hf : l.stackTraces = false) (hG : zz_Gx g K R t) {I0 : Nat → Nat → Int32} (hx : zz_gx I0 t x) (a : Int32) : ∀ (k i : Nat) (I : Nat → Nat → Int32), i + k = tg_p x → (∀ j, j < i → I (t + 3) j = zz_more a ((tg_s x).getD j 0)) → (∀ j, i ≤ j → I (t + 3) j = I0 (t + 3) j) → (∀ b, b ≠ t + 3 → I b = I0 b) →
    Zz g l mm_G_rotBy 0 0 (fun v h' => ∃ I', h' = (K, R, I', L, z) ∧ v = some (.int (nI (zz_cnt (tg_s (zz_rotl a x))) - nI (zz_cnt (tg_s x)))) ∧ zz_gx I' t (zz_rotl a x) ∧ zz_fr t (t + 4) I0 I') zz_no 0 0 7 [some (.ref t), some (.int a), some (.int (nI (zz_cnt (tg_s x)))), some (.int (nI i))] [] (K, R, I, L, z) := by
  intro k
  have hG' := hG
  obtain ⟨k1, k2, k3, k4, k5, k6, k7⟩ := hG
  have hl := tg_s_len hx
  have h5 := hx.2.2.2.2.1
  induction k with
  | zero =>
    intro i I hi hr hk hfr
    have e : I t = I0 t := hfr t (by omega)
    have hx' : zz_gx I t (zz_rotl a x) := by
      obtain ⟨h1, h2, h3, h4, h5, h6, h7, h8, h9⟩ := hx
      refine ⟨h1.kept (hfr _ (by omega)) (hfr _ (by omega)), ?_, fun j hj => ?_, by rw [e]; exact h4, h5, by rw [e]; exact h6, by rw [e]; exact h7, by rw [e]; exact h8, by rw [e]; exact h9⟩
      · simp only [zz_rotl, tg_r, List.length_append, List.length_map, List.length_drop]
        rw [hl]
        have : x.2.1.length = 8 := h2
        omega
      · show _ = ((tg_s x).map (zz_more a) ++ (tg_r x).drop (tg_p x)).getD j 0
        rw [zz_getD_map, hl]
        by_cases q : j < tg_p x
        · rw [if_pos q]
          exact hr j (by omega)
        · rw [if_neg q, zz_getD_drop, hk j (by omega), h3 j hj]
          congr 1
          omega
    refine z_iload_n ee_G_rotBy_7 rfl ?_
    refine z_aload_n ee_G_rotBy_8 rfl ?_
    refine z_getI ee_G_rotBy_9 ff_G_rotBy_24 (by assumption) il_6_2 ?_
    refine z_icmp_ge ee_G_rotBy_12 (tgt := 49) (by decide) (fun c_12 => ?_) (fun c_12 => ?_)
    -- at 12
    · refine z_aload_n ee_G_rotBy_49 rfl ?_
      -- at 50
      refine z_callV (As := []) ee_G_rotBy_50 kk_G_rotBy_55 rfl (by assumption) rfl rfl (Nat.le_of_ble_eq_true rfl) (by omega) (sp_G_countRottenPages hf hG' hx') (fun E h1 hx => hx.elim) (fun v h1 hq => ?_)
      obtain ⟨rfl, rfl⟩ := hq
      refine z_iload_n ee_G_rotBy_53 rfl ?_
      refine z_isub ee_G_rotBy_54 ?_
      refine z_iret ee_G_rotBy_55 rfl (by omega) (by omega) ?_
      -- at 55
      exact ⟨_, rfl, rfl, hx', fun b hb => hfr b (by omega)⟩
    · rw [hx'.2.2.2.1] at c_12
      have c_13 : ¬ nI (tg_p x) ≤ nI i := c_12
      simp (disch := omega) only [zi_lt, zi_le, zi_eq, zi_n, zi_0, zi_m1] at c_13
      omega
  | succ k ih =>
    intro i I hi hr hk hfr
    have e : I t = I0 t := hfr t (by omega)
    have e2 : I t 2 = nI (tg_p x) := by rw [e]; exact hx.2.2.2.1
    refine z_iload_n ee_G_rotBy_7 rfl ?_
    refine z_aload_n ee_G_rotBy_8 rfl ?_
    refine z_getI ee_G_rotBy_9 ff_G_rotBy_24 (by assumption) il_6_2 ?_
    refine z_icmp_ge ee_G_rotBy_12 (tgt := 49) (by decide) (fun c_12 => ?_) (fun c_12 => ?_)
    -- at 12
    · rw [e2] at c_12
      simp (disch := omega) only [zi_lt, zi_le, zi_eq, zi_n, zi_0, zi_m1] at c_12
      omega
    · refine z_iload_n ee_G_rotBy_15 rfl ?_
      refine z_aload_n ee_G_rotBy_16 rfl ?_
      refine z_getR ee_G_rotBy_17 ff_G_rotBy_20 (by assumption) il_6_1 (by assumption) ?_
      refine z_alen ee_G_rotBy_20 (by assumption) ?_
      refine z_icmp_ge ee_G_rotBy_21 (tgt := 49) (by decide) (fun c_21 => ?_) (fun c_21 => ?_)
      -- at 21
      · simp (disch := omega) only [zi_lt, zi_le, zi_eq, zi_n, zi_0, zi_m1] at c_21
        omega
      · refine z_aload_n ee_G_rotBy_24 rfl ?_
        refine z_getR ee_G_rotBy_25 ff_G_rotBy_20 (by assumption) il_6_1 (by assumption) ?_
        refine z_iload_n ee_G_rotBy_28 rfl ?_
        refine z_aload_n ee_G_rotBy_29 rfl ?_
        refine z_getR ee_G_rotBy_30 ff_G_rotBy_20 (by assumption) il_6_1 (by assumption) ?_
        refine z_iload_n ee_G_rotBy_33 rfl ?_
        -- at 34
        refine z_iald ee_G_rotBy_34 (by assumption) rfl (by omega) (by omega) ?_
        rw [hk i (by omega), tg_s_at hx (by omega)]
        refine z_iload_n ee_G_rotBy_35 rfl ?_
        refine z_iadd ee_G_rotBy_36 ?_
        refine z_bipush ee_G_rotBy_37 (v := nI 20) (by decide) ?_
        -- at 39
        refine z_callS (As := [_, _]) ee_G_rotBy_39 kk_G_rotBy_59 rfl rfl (Nat.le_of_ble_eq_true rfl) (by omega) (sp_JM_min hf _ _) (fun E h1 hx => hx.elim) (fun v h1 hq => ?_)
        obtain ⟨rfl, rfl⟩ := hq
        refine z_iast ee_G_rotBy_42 (by assumption) (by assumption) rfl (by omega) (by omega) ?_
        refine z_iinc ee_G_rotBy_43 rfl rfl (by decide) ?_
        refine z_goto ee_G_rotBy_46 (tgt := 7) (by decide) ?_
        -- at 7
        rw [zz_iinc1]
        refine ih (i + 1) _ (by omega) (fun j hj => ?_) (fun j hj => ?_) (fun b hb => (zz_up_r hb).trans (hfr b hb))
        · by_cases q : j = i
          · subst q
            rw [zz_up_s]; rfl
          · rw [zz_up_k q]
            exact hr j (by omega)
        · rw [zz_up_k (by omega)]
          exact hk j (by omega)
theorem sp_G_rotBy (hf : l.stackTraces = false) (hG : zz_Gx g K R t) (hx : zz_gx I t x) (a : Int32) : zz_S g l mm_G_rotBy 0 0 [.ref t, .int a] (K, R, I, L, z) (fun v h' => ∃ I', h' = (K, R, I', L, z) ∧ v = some (.int (nI (zz_cnt (tg_s (zz_rotl a x))) - nI (zz_cnt (tg_s x)))) ∧ zz_gx I' t (zz_rotl a x) ∧ zz_fr t (t + 4) I I') zz_no := by
  have k1 := hG.1
  refine z_start hf rfl (by decide +kernel) (Nat.le_of_ble_eq_true rfl) ?_
  dsimp only [zz_lv0]
  refine z_aload_n ee_G_rotBy_0 rfl ?_
  -- at 1
  refine z_callV (As := []) ee_G_rotBy_1 kk_G_rotBy_55 rfl (by assumption) rfl rfl (Nat.le_of_ble_eq_true rfl) (by omega) (sp_G_countRottenPages hf hG hx) (fun E h1 hx => hx.elim) (fun v h1 hq => ?_)
  obtain ⟨rfl, rfl⟩ := hq
  refine z_istore_m ee_G_rotBy_4 (j := 2) rfl (by decide) ?_
  refine z_iconst ee_G_rotBy_5 (v := nI 0) (by decide) ?_
  refine z_istore_m ee_G_rotBy_6 (j := 3) rfl (by decide) ?_
  -- at 7
  exact zz_rot_loop hf hG hx a (tg_p x) 0 I (by omega) (fun j hj => absurd hj (by omega)) (fun j _ => rfl) (fun b _ => rfl)
end Tele2
section Tele3
variable {g : zz_G} {l : Launch} {K : Nat → Nat × Nat} {R : Nat → Nat → Option Nat} {I : Nat → Nat → Int32} {L : Nat → Nat → Int64} {z : Nat} {t u m : Nat} {x y : zz_TG} {xs out : List Int32} {h : zz_H}
theorem zz_bdy_loop (hf : l.stackTraces = false) (hG : zz_Gx g K R t) (hU : zz_Tx g K R u m) (hd : t + 4 ≤ u ∨ u + 2 ≤ t) {I0 : Nat → Nat → Int32} (hx : zz_gx I0 t x) (p : Nat) (hp : p < 8) {st : Int32} : ∀ (ys : List Int32) (i : Nat) (out : List Int32) (I : Nat → Nat → Int32), ((tg_c x).take (p * 12 + 12)).drop i = ys → i ≤ 96 → zz_tx I u m out → zz_fr u (u + 2) I0 I →
    Zz g l mm_G_writePage 0 0 (fun v h' => ∃ I', h' = (K, R, I', L, z) ∧ v = none ∧ zz_tx I' u m (zz_num m (zz_rotj x (nI p)) 10 (zz_add m (zz_bdy m (zz_rotj x (nI p)) ys out) (nI 93))) ∧ zz_fr u (u + 2) I0 I') zz_no 0 0 43 [some (.ref t), some (.int (nI p)), some (.ref u), some (.int st), some (.int (nI ((tg_c x).take (p * 12 + 12)).length)), some (.int (zz_rotj x (nI p))), some (.int (nI i))] [] (K, R, I, L, z) := by
  intro ys
  obtain ⟨k1, k2, k3, k4, k5, k6, k7⟩ := hG
  have k9 := k3.1
  have k8 := hU.1
  have hc := hx.1.2.1
  have hlen : ((tg_c x).take (p * 12 + 12)).length ≤ 96 := by rw [List.length_take]; omega
  induction ys with
  | nil =>
    intro i out I hi hil hy hfr
    have h1 := zz_drop_nil hi
    refine z_iload ee_G_writePage_43 rfl ?_
    refine z_iload ee_G_writePage_45 rfl ?_
    refine z_icmp_ge ee_G_writePage_47 (tgt := 81) (by decide) (fun c_47 => ?_) (fun c_47 => ?_)
    -- at 47
    · refine z_aload_n ee_G_writePage_81 rfl ?_
      refine z_bipush ee_G_writePage_82 (v := nI 93) (by decide) ?_
      -- at 84
      refine z_callV (As := [_]) ee_G_writePage_84 kk_G_writePage_74 rfl (by assumption) rfl rfl (Nat.le_of_ble_eq_true rfl) (by omega) (sp_T_add hf hU hy (nI 93) (zz_ch_n (by omega))) (fun E h1 hx => hx.elim) (fun v h1 hq => ?_)
      obtain ⟨I2, rfl, rfl, hy2, hfr2⟩ := hq
      refine z_aload_n ee_G_writePage_87 rfl ?_
      refine z_iload ee_G_writePage_88 rfl ?_
      -- at 90
      refine z_callV (As := [_]) ee_G_writePage_90 kk_G_writePage_78 rfl (by assumption) rfl rfl (Nat.le_of_ble_eq_true rfl) (by omega) (sp_T_addNumber hf hU hy2 (zz_rotj x (nI p))) (fun E h1 hx => hx.elim) (fun v h1 hq => ?_)
      obtain ⟨I3, rfl, rfl, hy3, hfr3⟩ := hq
      refine z_vret ee_G_writePage_93 rfl (by omega) (by omega) ?_
      -- at 93
      exact ⟨_, rfl, rfl, hy3, (hfr.trans hfr2).trans hfr3⟩
    · simp (disch := omega) only [zi_lt, zi_le, zi_eq, zi_n, zi_0, zi_m1] at c_47
      omega
  | cons c ys ih =>
    intro i out I hi hil hy hfr
    obtain ⟨h1, h2, h3⟩ := zz_drop_cons hi
    have hx1 := hx.1.fr hfr (by omega)
    have h4 : (tg_c x).getD i 0 = c := by rw [← h2]; exact (zz_getD_take h1).symm
    have back : ∀ (d : Int32), zz_ch d → d = (if nI 20 ≤ zz_rotj x (nI p) then nI 126 else c) → Zz g l mm_G_writePage 0 0 (fun v h' => ∃ I', h' = (K, R, I', L, z) ∧ v = none ∧ zz_tx I' u m (zz_num m (zz_rotj x (nI p)) 10 (zz_add m (zz_bdy m (zz_rotj x (nI p)) (c :: ys) out) (nI 93))) ∧ zz_fr u (u + 2) I0 I') zz_no 0 0 72 [some (.ref t), some (.int (nI p)), some (.ref u), some (.int st), some (.int (nI ((tg_c x).take (p * 12 + 12)).length)), some (.int (zz_rotj x (nI p))), some (.int (nI i))] [.int d, .ref u] (K, R, I, L, z) := by
      intro d hd e
      refine z_callV (As := [_]) ee_G_writePage_72 kk_G_writePage_74 rfl (by assumption) rfl rfl (Nat.le_of_ble_eq_true rfl) (by omega) (sp_T_add hf hU hy d hd) (fun E h1 hx => hx.elim) (fun v h1 hq => ?_)
      obtain ⟨I2, rfl, rfl, hy2, hfr2⟩ := hq
      refine z_iinc ee_G_writePage_75 rfl rfl (by decide) ?_
      refine z_goto ee_G_writePage_78 (tgt := 43) (by decide) ?_
      -- at 43
      rw [zz_iinc1]
      have h9 := ih (i + 1) _ I2 h3 (by omega) hy2 (hfr.trans hfr2)
      simp only [zz_bdy]
      rw [← e]
      exact h9
    refine z_iload ee_G_writePage_43 rfl ?_
    refine z_iload ee_G_writePage_45 rfl ?_
    refine z_icmp_ge ee_G_writePage_47 (tgt := 81) (by decide) (fun c_47 => ?_) (fun c_47 => ?_)
    -- at 47
    · simp (disch := omega) only [zi_lt, zi_le, zi_eq, zi_n, zi_0, zi_m1] at c_47
      omega
    · refine z_aload_n ee_G_writePage_50 rfl ?_
      refine z_iload ee_G_writePage_51 rfl ?_
      refine z_bipush ee_G_writePage_53 (v := nI 20) (by decide) ?_
      refine z_icmp_lt ee_G_writePage_55 (tgt := 63) (by decide) (fun c_55 => ?_) (fun c_55 => ?_)
      -- at 55
      · refine z_aload_n ee_G_writePage_63 rfl ?_
        refine z_getR ee_G_writePage_64 ff_G_writePage_14 (by assumption) il_6_0 (by assumption) ?_
        refine z_iload ee_G_writePage_67 rfl ?_
        -- at 69
        refine z_callV (As := [_]) ee_G_writePage_69 kk_G_writePage_88 rfl (by assumption) rfl rfl (Nat.le_of_ble_eq_true rfl) (by omega) (sp_T_at hf k3 hx1 _) (fun E h1 hx => hx.elim) (fun v h1 hq => ?_)
        obtain ⟨rfl, rfl, hch⟩ := hq
        rw [zz_at0_n (by omega), h4] at hch ⊢
        exact back c hch (by rw [if_neg (Int32.not_le.mpr c_55)])
      · refine z_bipush ee_G_writePage_58 (v := nI 126) (by decide) ?_
        refine z_goto ee_G_writePage_60 (tgt := 72) (by decide) ?_
        -- at 72
        exact back (nI 126) (zz_ch_n (by omega)) (by rw [if_pos (Int32.not_lt.mp c_55)])
theorem sp_G_writePage (hf : l.stackTraces = false) (hG : zz_Gx g K R t) (hU : zz_Tx g K R u m) (hd : t + 4 ≤ u ∨ u + 2 ≤ t) (hx : zz_gx I t x) (hy : zz_tx I u m out) (p : Nat) (hp : p < 8) : zz_S g l mm_G_writePage 0 0 [.ref t, .int (nI p), .ref u] (K, R, I, L, z) (fun v h' => ∃ I', h' = (K, R, I', L, z) ∧ v = none ∧ zz_tx I' u m (zz_page m x p out) ∧ zz_fr u (u + 2) I I') zz_no := by
  have hG' := hG
  obtain ⟨k1, k2, k3, k4, k5, k6, k7⟩ := hG
  have k8 := hU.1
  have k9 := k3.1
  have hc := hx.1.2.1
  refine z_start hf rfl (by decide +kernel) (Nat.le_of_ble_eq_true rfl) ?_
  dsimp only [zz_lv0]
  refine z_iload_n ee_G_writePage_0 rfl ?_
  refine z_bipush ee_G_writePage_1 (v := nI 12) (by decide) ?_
  refine z_imul ee_G_writePage_3 ?_
  refine z_istore_m ee_G_writePage_4 (j := 3) rfl (by decide) ?_
  refine z_iload_n ee_G_writePage_5 rfl ?_
  refine z_bipush ee_G_writePage_6 (v := nI 12) (by decide) ?_
  refine z_iadd ee_G_writePage_8 ?_
  refine z_aload_n ee_G_writePage_9 rfl ?_
  refine z_getR ee_G_writePage_10 ff_G_writePage_14 (by assumption) il_6_0 (by assumption) ?_
  -- at 13
  refine z_getI ee_G_writePage_13 ff_G_writePage_44 k9 il_7_1 ?_
  rw [hx.1.1, pk_mul, nI_add]
  refine z_callS (As := [_, _]) ee_G_writePage_16 kk_G_writePage_59 rfl rfl (Nat.le_of_ble_eq_true rfl) (by omega) (sp_JM_min hf _ _) (fun E h1 hx => hx.elim) (fun v h1 hq => ?_)
  obtain ⟨rfl, rfl⟩ := hq
  rw [zz_min_n (by omega) (by omega), show min (p * 12 + 12) (tg_c x).length = ((tg_c x).take (p * 12 + 12)).length by rw [List.length_take]]
  refine z_istore ee_G_writePage_19 (by decide) ?_
  refine z_aload_n ee_G_writePage_21 rfl ?_
  refine z_iload_n ee_G_writePage_22 rfl ?_
  -- at 23
  refine z_callV (As := [_]) ee_G_writePage_23 kk_G_writePage_85 rfl (by assumption) rfl rfl (Nat.le_of_ble_eq_true rfl) (by omega) (sp_G_rotAt hf hG' hx _) (fun E h1 hx => hx.elim) (fun v h1 hq => ?_)
  obtain ⟨rfl, rfl⟩ := hq
  refine z_istore ee_G_writePage_26 (by decide) ?_
  refine z_aload_n ee_G_writePage_28 rfl ?_
  refine z_bipush ee_G_writePage_29 (v := nI 32) (by decide) ?_
  -- at 31
  refine z_callV (As := [_]) ee_G_writePage_31 kk_G_writePage_74 rfl (by assumption) rfl rfl (Nat.le_of_ble_eq_true rfl) (by omega) (sp_T_add hf hU hy (nI 32) (zz_ch_n (by omega))) (fun E h1 hx => hx.elim) (fun v h1 hq => ?_)
  obtain ⟨I2, rfl, rfl, hy2, hfr2⟩ := hq
  refine z_aload_n ee_G_writePage_34 rfl ?_
  refine z_bipush ee_G_writePage_35 (v := nI 91) (by decide) ?_
  -- at 37
  refine z_callV (As := [_]) ee_G_writePage_37 kk_G_writePage_74 rfl (by assumption) rfl rfl (Nat.le_of_ble_eq_true rfl) (by omega) (sp_T_add hf hU hy2 (nI 91) (zz_ch_n (by omega))) (fun E h1 hx => hx.elim) (fun v h1 hq => ?_)
  obtain ⟨I3, rfl, rfl, hy3, hfr3⟩ := hq
  refine z_iload_n ee_G_writePage_40 rfl ?_
  refine z_istore ee_G_writePage_41 (by decide) ?_
  -- at 43
  exact zz_bdy_loop hf hG' hU hd hx p hp _ (p * 12) _ I3 rfl (by omega) hy3 (hfr2.trans hfr3)
theorem zz_pages_loop (hf : l.stackTraces = false) (hG : zz_Gx g K R t) (hU : zz_Tx g K R u m) (hd : t + 4 ≤ u ∨ u + 2 ≤ t) {I0 : Nat → Nat → Int32} (hx : zz_gx I0 t x) : ∀ (k p : Nat) (out : List Int32) (I : Nat → Nat → Int32), p + k = tg_p x → zz_tx I u m out → zz_fr u (u + 2) I0 I →
    Zz g l mm_G_writeTo 0 0 (fun v h' => ∃ I', h' = (K, R, I', L, z) ∧ v = none ∧ zz_tx I' u m (zz_pages m x k p out) ∧ zz_fr u (u + 2) I0 I') zz_no 0 0 48 [some (.ref t), some (.ref u), some (.int (nI p))] [] (K, R, I, L, z) := by
  intro k
  have hG' := hG
  obtain ⟨k1, k2, k3, k4, k5, k6, k7⟩ := hG
  have h5 := hx.2.2.2.2.1
  induction k with
  | zero =>
    intro p out I hp hy hfr
    have hx1 := hx.fr hfr (by omega)
    refine z_iload_n ee_G_writeTo_48 rfl ?_
    refine z_aload_n ee_G_writeTo_49 rfl ?_
    refine z_getI ee_G_writeTo_50 ff_G_writeTo_24 (by assumption) il_6_2 ?_
    refine z_icmp_ge ee_G_writeTo_53 (tgt := 77) (by decide) (fun c_53 => ?_) (fun c_53 => ?_)
    -- at 53
    · refine z_vret ee_G_writeTo_77 rfl (by omega) (by omega) ?_
      -- at 77
      exact ⟨_, rfl, rfl, hy, hfr⟩
    · rw [hx1.2.2.2.1] at c_53
      simp (disch := omega) only [zi_lt, zi_le, zi_eq, zi_n, zi_0, zi_m1] at c_53
      omega
  | succ k ih =>
    intro p out I hp hy hfr
    have hx1 := hx.fr hfr (by omega)
    refine z_iload_n ee_G_writeTo_48 rfl ?_
    refine z_aload_n ee_G_writeTo_49 rfl ?_
    refine z_getI ee_G_writeTo_50 ff_G_writeTo_24 (by assumption) il_6_2 ?_
    refine z_icmp_ge ee_G_writeTo_53 (tgt := 77) (by decide) (fun c_53 => ?_) (fun c_53 => ?_)
    -- at 53
    · rw [hx1.2.2.2.1] at c_53
      simp (disch := omega) only [zi_lt, zi_le, zi_eq, zi_n, zi_0, zi_m1] at c_53
      omega
    · refine z_iload_n ee_G_writeTo_56 rfl ?_
      refine z_aload_n ee_G_writeTo_57 rfl ?_
      refine z_getR ee_G_writeTo_58 ff_G_writeTo_20 (by assumption) il_6_1 (by assumption) ?_
      refine z_alen ee_G_writeTo_61 (by assumption) ?_
      refine z_icmp_ge ee_G_writeTo_62 (tgt := 77) (by decide) (fun c_62 => ?_) (fun c_62 => ?_)
      -- at 62
      · simp (disch := omega) only [zi_lt, zi_le, zi_eq, zi_n, zi_0, zi_m1] at c_62
        omega
      · refine z_aload_n ee_G_writeTo_65 rfl ?_
        refine z_iload_n ee_G_writeTo_66 rfl ?_
        refine z_aload_n ee_G_writeTo_67 rfl ?_
        -- at 68
        refine z_callV (As := [_, _]) ee_G_writeTo_68 kk_G_writeTo_81 rfl (by assumption) rfl rfl (Nat.le_of_ble_eq_true rfl) (by omega) (sp_G_writePage hf hG' hU hd hx1 hy p (by omega)) (fun E h1 hx => hx.elim) (fun v h1 hq => ?_)
        obtain ⟨I2, rfl, rfl, hy2, hfr2⟩ := hq
        refine z_iinc ee_G_writeTo_71 rfl rfl (by decide) ?_
        refine z_goto ee_G_writeTo_74 (tgt := 48) (by decide) ?_
        -- at 48
        rw [zz_iinc1]
        exact ih (p + 1) _ I2 (by omega) hy2 (hfr.trans hfr2)
theorem sp_G_writeTo (hf : l.stackTraces = false) (hG : zz_Gx g K R t) (hU : zz_Tx g K R u m) (hd : t + 4 ≤ u ∨ u + 2 ≤ t) (hx : zz_gx I t x) : zz_S g l mm_G_writeTo 0 0 [.ref t, .ref u] (K, R, I, L, z) (fun v h' => ∃ I', h' = (K, R, I', L, z) ∧ v = none ∧ zz_tx I' u m (zz_wto m x) ∧ zz_fr u (u + 2) I I') zz_no := by
  have k1 := hG.1
  have k8 := hU.1
  refine z_start hf rfl (by decide +kernel) (Nat.le_of_ble_eq_true rfl) ?_
  dsimp only [zz_lv0]
  refine z_aload_n ee_G_writeTo_0 rfl ?_
  -- at 1
  refine z_callV (As := []) ee_G_writeTo_1 kk_G_writeTo_71 rfl (by assumption) rfl rfl (Nat.le_of_ble_eq_true rfl) (by omega) (sp_T_clear hf hU) (fun E h1 hx => hx.elim) (fun v h1 hq => ?_)
  obtain ⟨I1, rfl, rfl, hy1, hfr1⟩ := hq
  refine z_aload_n ee_G_writeTo_4 rfl ?_
  refine z_bipush ee_G_writeTo_5 (v := nI 35) (by decide) ?_
  -- at 7
  refine z_callV (As := [_]) ee_G_writeTo_7 kk_G_writeTo_74 rfl (by assumption) rfl rfl (Nat.le_of_ble_eq_true rfl) (by omega) (sp_T_add hf hU hy1 (nI 35) (zz_ch_n (by omega))) (fun E h1 hx => hx.elim) (fun v h1 hq => ?_)
  obtain ⟨I2, rfl, rfl, hy2, hfr2⟩ := hq
  have f2 := hfr1.trans hfr2
  refine z_aload_n ee_G_writeTo_10 rfl ?_
  refine z_aload_n ee_G_writeTo_11 rfl ?_
  refine z_getI ee_G_writeTo_12 ff_G_writeTo_28 (by assumption) il_6_3 ?_
  -- at 15
  rw [(hx.fr f2 (by omega)).2.2.2.2.2.1]
  refine z_callV (As := [_]) ee_G_writeTo_15 kk_G_writeTo_78 rfl (by assumption) rfl rfl (Nat.le_of_ble_eq_true rfl) (by omega) (sp_T_addNumber hf hU hy2 (tg_n x)) (fun E h1 hx => hx.elim) (fun v h1 hq => ?_)
  obtain ⟨I3, rfl, rfl, hy3, hfr3⟩ := hq
  refine z_aload_n ee_G_writeTo_18 rfl ?_
  refine z_bipush ee_G_writeTo_19 (v := nI 64) (by decide) ?_
  -- at 21
  refine z_callV (As := [_]) ee_G_writeTo_21 kk_G_writeTo_74 rfl (by assumption) rfl rfl (Nat.le_of_ble_eq_true rfl) (by omega) (sp_T_add hf hU hy3 (nI 64) (zz_ch_n (by omega))) (fun E h1 hx => hx.elim) (fun v h1 hq => ?_)
  obtain ⟨I4, rfl, rfl, hy4, hfr4⟩ := hq
  have f4 := (f2.trans hfr3).trans hfr4
  refine z_aload_n ee_G_writeTo_24 rfl ?_
  refine z_aload_n ee_G_writeTo_25 rfl ?_
  refine z_getI ee_G_writeTo_26 ff_G_writeTo_31 (by assumption) il_6_4 ?_
  -- at 29
  rw [(hx.fr f4 (by omega)).2.2.2.2.2.2.1]
  refine z_callV (As := [_]) ee_G_writeTo_29 kk_G_writeTo_78 rfl (by assumption) rfl rfl (Nat.le_of_ble_eq_true rfl) (by omega) (sp_T_addNumber hf hU hy4 (tg_o x)) (fun E h1 hx => hx.elim) (fun v h1 hq => ?_)
  obtain ⟨I5, rfl, rfl, hy5, hfr5⟩ := hq
  refine z_aload_n ee_G_writeTo_32 rfl ?_
  refine z_bipush ee_G_writeTo_33 (v := nI 33) (by decide) ?_
  -- at 35
  refine z_callV (As := [_]) ee_G_writeTo_35 kk_G_writeTo_74 rfl (by assumption) rfl rfl (Nat.le_of_ble_eq_true rfl) (by omega) (sp_T_add hf hU hy5 (nI 33) (zz_ch_n (by omega))) (fun E h1 hx => hx.elim) (fun v h1 hq => ?_)
  obtain ⟨I6, rfl, rfl, hy6, hfr6⟩ := hq
  have f6 := (f4.trans hfr5).trans hfr6
  refine z_aload_n ee_G_writeTo_38 rfl ?_
  refine z_aload_n ee_G_writeTo_39 rfl ?_
  refine z_getI ee_G_writeTo_40 ff_G_writeTo_34 (by assumption) il_6_5 ?_
  -- at 43
  rw [(hx.fr f6 (by omega)).2.2.2.2.2.2.2.1]
  refine z_callV (As := [_]) ee_G_writeTo_43 kk_G_writeTo_78 rfl (by assumption) rfl rfl (Nat.le_of_ble_eq_true rfl) (by omega) (sp_T_addNumber hf hU hy6 (tg_i x)) (fun E h1 hx => hx.elim) (fun v h1 hq => ?_)
  obtain ⟨I7, rfl, rfl, hy7, hfr7⟩ := hq
  refine z_iconst ee_G_writeTo_46 (v := nI 0) (by decide) ?_
  refine z_istore_m ee_G_writeTo_47 (j := 2) rfl (by decide) ?_
  -- at 48
  exact zz_pages_loop hf hG hU hd hx (tg_p x) 0 _ I7 (by omega) hy7 (f6.trans hfr7)
end Tele3
