/-! TELEGRAM: code, rots (8), pages, number, root, priority, checksum -/
abbrev zz_TG : Type := List Int32 × List Int32 × Nat × Int32 × Int32 × Int32 × Int32
abbrev tg_c (x : zz_TG) : List Int32 := x.1
abbrev tg_r (x : zz_TG) : List Int32 := x.2.1
abbrev tg_p (x : zz_TG) : Nat := x.2.2.1
abbrev tg_n (x : zz_TG) : Int32 := x.2.2.2.1
abbrev tg_o (x : zz_TG) : Int32 := x.2.2.2.2.1
abbrev tg_i (x : zz_TG) : Int32 := x.2.2.2.2.2.1
abbrev tg_k (x : zz_TG) : Int32 := x.2.2.2.2.2.2
/-- the rots of its pages -/
def tg_s (x : zz_TG) : List Int32 := (tg_r x).take (tg_p x)
def zz_Gx (g : zz_G) (K : Nat → Nat × Nat) (R : Nat → Nat → Option Nat) (t : Nat) : Prop := K t = zz_o 6 ∧ R t 0 = some (t + 1) ∧ zz_Tx g K R (t + 1) 96 ∧ R t 1 = some (t + 3) ∧ K (t + 3) = zz_a 0 8 ∧ zz_A g t ∧ zz_A g (t + 3)
def zz_gx (I : Nat → Nat → Int32) (t : Nat) (x : zz_TG) : Prop := zz_tx I (t + 1) 96 (tg_c x) ∧ (tg_r x).length = 8 ∧ (∀ j, j < 8 → I (t + 3) j = (tg_r x).getD j 0) ∧ I t 2 = nI (tg_p x) ∧ tg_p x ≤ 8 ∧ I t 3 = tg_n x ∧ I t 4 = tg_o x ∧ I t 5 = tg_i x ∧ I t 6 = tg_k x
theorem zz_gx.fr {I I' : Nat → Nat → Int32} {t lo hi : Nat} {x : zz_TG} (h : zz_gx I t x) (hf : zz_fr lo hi I I') (hd : t + 4 ≤ lo ∨ hi ≤ t) : zz_gx I' t x := by
  obtain ⟨h1, h2, h3, h4, h5, h6, h7, h8, h9⟩ := h
  have e : I' t = I t := hf _ (by omega)
  exact ⟨h1.fr hf (by omega), h2, fun j hj => by rw [hf _ (by omega)]; exact h3 j hj, by rw [e]; exact h4, h5, by rw [e]; exact h6, by rw [e]; exact h7, by rw [e]; exact h8, by rw [e]; exact h9⟩
theorem tg_s_len {I : Nat → Nat → Int32} {t : Nat} {x : zz_TG} (h : zz_gx I t x) : (tg_s x).length = tg_p x := by
  obtain ⟨h1, h2, h3, h4, h5, -⟩ := h
  unfold tg_s
  rw [List.length_take, h2]
  omega
theorem tg_s_at {I : Nat → Nat → Int32} {t : Nat} {x : zz_TG} (h : zz_gx I t x) {j : Nat} (hj : j < tg_p x) : I (t + 3) j = (tg_s x).getD j 0 := by
  have hl := tg_s_len h
  obtain ⟨h1, h2, h3, h4, h5, -⟩ := h
  rw [h3 j (by omega)]
  unfold tg_s
  exact (zz_getD_take (by unfold tg_s at hl; omega)).symm
/-- how many are rotten -/
def zz_cnt : List Int32 → Nat
  | [] => 0
  | r :: t => (if nI 20 ≤ r then 1 else 0) + zz_cnt t
theorem zz_cnt_le : ∀ l : List Int32, zz_cnt l ≤ l.length
  | [] => Nat.le_refl _
  | r :: t => by
    have := zz_cnt_le t
    simp only [zz_cnt, List.length_cons]
    split <;> omega
/-- the first rotten one -/
def zz_frp : Nat → List Int32 → Int32
  | _, [] => -1
  | i, r :: t => if nI 20 ≤ r then nI i else zz_frp (i + 1) t
def zz_gr : Int32 → List Int32 → Int32
  | m, [] => m
  | m, r :: t => zz_gr (if m < r then r else m) t
def zz_rotj (x : zz_TG) (i : Int32) : Int32 := if 0 ≤ i.toInt ∧ i.toInt < tg_p x then (tg_s x).getD i.toInt.toNat 0 else nI 0
def zz_pgs (n : Nat) : Nat := (n + 11) / 12
def zz_ahp (x y : zz_TG) : Bool := if tg_i x ≠ tg_i y then decide (tg_i y < tg_i x) else if tg_p x ≠ tg_p y then decide (tg_p x < tg_p y) else decide (tg_n x < tg_n y)
def zz_ahr (x y : zz_TG) : Bool := if zz_gr (nI 0) (tg_s x) ≠ zz_gr (nI 0) (tg_s y) then decide (zz_gr (nI 0) (tg_s y) < zz_gr (nI 0) (tg_s x)) else decide (tg_n x < tg_n y)
section Tele
variable {g : zz_G} {l : Launch} {K : Nat → Nat × Nat} {R : Nat → Nat → Option Nat} {I : Nat → Nat → Int32} {L : Nat → Nat → Int64} {z : Nat} {t u : Nat} {x y : zz_TG} {h : zz_H}
theorem sp_G_pagesFor (hf : l.stackTraces = false) (n : Nat) (hn : n < 2 ^ 20) : zz_S g l mm_G_pagesFor 0 0 [.int (nI n)] h (zz_is h (.int (nI (zz_pgs n)))) zz_no := by
  refine z_start hf rfl (by decide +kernel) (Nat.le_of_ble_eq_true rfl) ?_
  dsimp only [zz_lv0]
  refine z_iload_n ee_G_pagesFor_0 rfl ?_
  refine z_bipush ee_G_pagesFor_1 (v := nI 12) (by decide) ?_
  refine z_iadd ee_G_pagesFor_3 ?_
  refine z_iconst ee_G_pagesFor_4 (v := nI 1) (by decide) ?_
  refine z_isub ee_G_pagesFor_5 ?_
  refine z_bipush ee_G_pagesFor_6 (v := nI 12) (by decide) ?_
  -- at 8
  refine z_idiv ee_G_pagesFor_8 (by decide) ?_
  have e : (nI n + nI 12 - nI 1) / nI 12 = nI (zz_pgs n) := by
    rw [nI_add, pk_sub (by omega), pk_div (by omega) (by omega) (by omega)]
    unfold zz_pgs
    congr 1
  rw [e]
  refine z_iret ee_G_pagesFor_9 rfl (by omega) (by omega) ?_
  -- at 9
  exact ⟨rfl, rfl⟩
theorem sp_G_hasPage (hf : l.stackTraces = false) (hG : zz_Gx g K R t) (hx : zz_gx I t x) (i : Int32) : zz_S g l mm_G_hasPage 0 0 [.ref t, .int i] (K, R, I, L, z) (zz_is (K, R, I, L, z) (.int (zz_tf (0 ≤ i.toInt ∧ i.toInt < tg_p x)))) zz_no := by
  obtain ⟨k1, k2, k3, k4, k5, k6, k7⟩ := hG
  obtain ⟨h1, h2, h3, h4, h5, h6, h7, h8, h9⟩ := hx
  refine z_start hf rfl (by decide +kernel) (Nat.le_of_ble_eq_true rfl) ?_
  dsimp only [zz_lv0]
  refine z_iload_n ee_G_hasPage_0 rfl ?_
  refine z_if_lt ee_G_hasPage_1 (tgt := 25) (by decide) (fun c_1 => ?_) (fun c_1 => ?_)
  -- at 1
  · simp (disch := omega) only [zi_lt, zi_le, zi_eq, zi_n, zi_0, zi_m1] at c_1
    refine z_iconst ee_G_hasPage_25 (v := nI 0) (by decide) ?_
    refine z_zret ee_G_hasPage_26 (ty := .boolean) rfl (by decide) (by omega) (by omega) ?_
    -- at 26
    exact ⟨rfl, by rw [zz_tf_f (by omega)]⟩
  · simp (disch := omega) only [zi_lt, zi_le, zi_eq, zi_n, zi_0, zi_m1] at c_1
    refine z_iload_n ee_G_hasPage_4 rfl ?_
    refine z_aload_n ee_G_hasPage_5 rfl ?_
    refine z_getI ee_G_hasPage_6 ff_G_hasPage_24 (by assumption) il_6_2 ?_
    refine z_icmp_ge ee_G_hasPage_9 (tgt := 25) (by decide) (fun c_9 => ?_) (fun c_9 => ?_)
    -- at 9
    · rw [h4] at c_9
      simp (disch := omega) only [zi_lt, zi_le, zi_eq, zi_n, zi_0, zi_m1] at c_9
      refine z_iconst ee_G_hasPage_25 (v := nI 0) (by decide) ?_
      refine z_zret ee_G_hasPage_26 (ty := .boolean) rfl (by decide) (by omega) (by omega) ?_
      -- at 26
      exact ⟨rfl, by rw [zz_tf_f (by omega)]⟩
    · rw [h4] at c_9
      simp (disch := omega) only [zi_lt, zi_le, zi_eq, zi_n, zi_0, zi_m1] at c_9
      refine z_iload_n ee_G_hasPage_12 rfl ?_
      refine z_aload_n ee_G_hasPage_13 rfl ?_
      refine z_getR ee_G_hasPage_14 ff_G_hasPage_20 (by assumption) il_6_1 (by assumption) ?_
      refine z_alen ee_G_hasPage_17 (by assumption) ?_
      refine z_icmp_ge ee_G_hasPage_18 (tgt := 25) (by decide) (fun c_18 => ?_) (fun c_18 => ?_)
      -- at 18
      · simp (disch := omega) only [zi_lt, zi_le, zi_eq, zi_n, zi_0, zi_m1] at c_18
        omega
      · refine z_iconst ee_G_hasPage_21 (v := nI 1) (by decide) ?_
        refine z_goto ee_G_hasPage_22 (tgt := 26) (by decide) ?_
        refine z_zret ee_G_hasPage_26 (ty := .boolean) rfl (by decide) (by omega) (by omega) ?_
        -- at 26
        exact ⟨rfl, by rw [zz_tf_t (by omega)]⟩
theorem sp_G_rotAt (hf : l.stackTraces = false) (hG : zz_Gx g K R t) (hx : zz_gx I t x) (i : Int32) : zz_S g l mm_G_rotAt 0 0 [.ref t, .int i] (K, R, I, L, z) (zz_is (K, R, I, L, z) (.int (zz_rotj x i))) zz_no := by
  have hG' := hG
  obtain ⟨k1, k2, k3, k4, k5, k6, k7⟩ := hG
  have h5 := hx.2.2.2.2.1
  refine z_start hf rfl (by decide +kernel) (Nat.le_of_ble_eq_true rfl) ?_
  dsimp only [zz_lv0]
  refine z_aload_n ee_G_rotAt_0 rfl ?_
  refine z_iload_n ee_G_rotAt_1 rfl ?_
  -- at 2
  refine z_callV (As := [_]) ee_G_rotAt_2 kk_G_rotAt_51 rfl (by assumption) rfl rfl (Nat.le_of_ble_eq_true rfl) (by omega) (sp_G_hasPage hf hG' hx i) (fun E h1 hx => hx.elim) (fun v h1 hq => ?_)
  obtain ⟨rfl, rfl⟩ := hq
  refine z_if_eq ee_G_rotAt_5 (tgt := 17) (by decide) (fun c_5 => ?_) (fun c_5 => ?_)
  -- at 5
  · rw [zz_tf_0] at c_5
    refine z_iconst ee_G_rotAt_17 (v := nI 0) (by decide) ?_
    refine z_iret ee_G_rotAt_18 rfl (by omega) (by omega) ?_
    -- at 18
    exact ⟨rfl, by unfold zz_rotj; rw [if_neg c_5]⟩
  · rw [zz_tf_n0] at c_5
    refine z_aload_n ee_G_rotAt_8 rfl ?_
    refine z_getR ee_G_rotAt_9 ff_G_rotAt_20 (by assumption) il_6_1 (by assumption) ?_
    refine z_iload_n ee_G_rotAt_12 rfl ?_
    -- at 13
    refine z_iald ee_G_rotAt_13 (by assumption) (zi_of c_5.1) (by omega) (by omega) ?_
    refine z_goto ee_G_rotAt_14 (tgt := 18) (by decide) ?_
    refine z_iret ee_G_rotAt_18 rfl (by omega) (by omega) ?_
    -- at 18
    refine ⟨rfl, ?_⟩
    unfold zz_rotj
    rw [if_pos c_5, tg_s_at hx (by omega)]
theorem zz_cnt_loop (hf : l.stackTraces = false) (hG : zz_Gx g K R t) (hx : zz_gx I t x) : ∀ (ys : List Int32) (i s : Nat), (tg_s x).drop i = ys → i ≤ tg_p x → s ≤ i →
    Zz g l mm_G_countRottenPages 0 0 (zz_is (K, R, I, L, z) (.int (nI (s + zz_cnt ys)))) zz_no 0 0 4 [some (.ref t), some (.int (nI s)), some (.int (nI i))] [] (K, R, I, L, z) := by
  intro ys
  obtain ⟨k1, k2, k3, k4, k5, k6, k7⟩ := hG
  have hl := tg_s_len hx
  have h4 := hx.2.2.2.1
  have h5 := hx.2.2.2.2.1
  induction ys with
  | nil =>
    intro i s hi hil hs
    have h1 := zz_drop_nil hi
    refine z_iload_n ee_G_countRottenPages_4 rfl ?_
    refine z_aload_n ee_G_countRottenPages_5 rfl ?_
    refine z_getI ee_G_countRottenPages_6 ff_G_countRottenPages_24 (by assumption) il_6_2 ?_
    refine z_icmp_ge ee_G_countRottenPages_9 (tgt := 46) (by decide) (fun c_9 => ?_) (fun c_9 => ?_)
    -- at 9
    · refine z_iload_n ee_G_countRottenPages_46 rfl ?_
      refine z_iret ee_G_countRottenPages_47 rfl (by omega) (by omega) ?_
      -- at 47
      exact ⟨rfl, rfl⟩
    · rw [h4] at c_9
      simp (disch := omega) only [zi_lt, zi_le, zi_eq, zi_n, zi_0, zi_m1] at c_9
      omega
  | cons r ys ih =>
    intro i s hi hil hs
    obtain ⟨h1, h2, h3⟩ := zz_drop_cons hi
    refine z_iload_n ee_G_countRottenPages_4 rfl ?_
    refine z_aload_n ee_G_countRottenPages_5 rfl ?_
    refine z_getI ee_G_countRottenPages_6 ff_G_countRottenPages_24 (by assumption) il_6_2 ?_
    refine z_icmp_ge ee_G_countRottenPages_9 (tgt := 46) (by decide) (fun c_9 => ?_) (fun c_9 => ?_)
    -- at 9
    · rw [h4] at c_9
      simp (disch := omega) only [zi_lt, zi_le, zi_eq, zi_n, zi_0, zi_m1] at c_9
      omega
    · refine z_iload_n ee_G_countRottenPages_12 rfl ?_
      refine z_aload_n ee_G_countRottenPages_13 rfl ?_
      refine z_getR ee_G_countRottenPages_14 ff_G_countRottenPages_20 (by assumption) il_6_1 (by assumption) ?_
      refine z_alen ee_G_countRottenPages_17 (by assumption) ?_
      refine z_icmp_ge ee_G_countRottenPages_18 (tgt := 46) (by decide) (fun c_18 => ?_) (fun c_18 => ?_)
      -- at 18
      · simp (disch := omega) only [zi_lt, zi_le, zi_eq, zi_n, zi_0, zi_m1] at c_18
        omega
      · refine z_iload_n ee_G_countRottenPages_21 rfl ?_
        refine z_aload_n ee_G_countRottenPages_22 rfl ?_
        refine z_getR ee_G_countRottenPages_23 ff_G_countRottenPages_20 (by assumption) il_6_1 (by assumption) ?_
        refine z_iload_n ee_G_countRottenPages_26 rfl ?_
        -- at 27
        refine z_iald ee_G_countRottenPages_27 (by assumption) rfl (by omega) (by omega) ?_
        rw [tg_s_at hx (by omega), h2]
        refine z_bipush ee_G_countRottenPages_28 (v := nI 20) (by decide) ?_
        refine z_icmp_lt ee_G_countRottenPages_30 (tgt := 37) (by decide) (fun c_30 => ?_) (fun c_30 => ?_)
        -- at 30
        · refine z_iconst ee_G_countRottenPages_37 (v := nI 0) (by decide) ?_
          refine z_iadd ee_G_countRottenPages_38 ?_
          refine z_istore_m ee_G_countRottenPages_39 (j := 1) rfl (by decide) ?_
          refine z_iinc ee_G_countRottenPages_40 rfl rfl (by decide) ?_
          refine z_goto ee_G_countRottenPages_43 (tgt := 4) (by decide) ?_
          -- at 4
          rw [zz_iinc1, nI_add]
          have h9 := ih (i + 1) (s + 0) h3 (by omega) (by omega)
          simp only [zz_cnt]
          rw [if_neg (Int32.not_le.mpr c_30)]
          rw [show s + (0 + zz_cnt ys) = s + 0 + zz_cnt ys by omega]
          exact h9
        · refine z_iconst ee_G_countRottenPages_33 (v := nI 1) (by decide) ?_
          refine z_goto ee_G_countRottenPages_34 (tgt := 38) (by decide) ?_
          refine z_iadd ee_G_countRottenPages_38 ?_
          refine z_istore_m ee_G_countRottenPages_39 (j := 1) rfl (by decide) ?_
          refine z_iinc ee_G_countRottenPages_40 rfl rfl (by decide) ?_
          refine z_goto ee_G_countRottenPages_43 (tgt := 4) (by decide) ?_
          -- at 4
          rw [zz_iinc1, nI_add]
          have h9 := ih (i + 1) (s + 1) h3 (by omega) (by omega)
          simp only [zz_cnt]
          rw [if_pos (Int32.not_lt.mp c_30)]
          rw [show s + (1 + zz_cnt ys) = s + 1 + zz_cnt ys by omega]
          exact h9
theorem sp_G_countRottenPages (hf : l.stackTraces = false) (hG : zz_Gx g K R t) (hx : zz_gx I t x) : zz_S g l mm_G_countRottenPages 0 0 [.ref t] (K, R, I, L, z) (zz_is (K, R, I, L, z) (.int (nI (zz_cnt (tg_s x))))) zz_no := by
  refine z_start hf rfl (by decide +kernel) (Nat.le_of_ble_eq_true rfl) ?_
  dsimp only [zz_lv0]
  refine z_iconst ee_G_countRottenPages_0 (v := nI 0) (by decide) ?_
  refine z_istore_m ee_G_countRottenPages_1 (j := 1) rfl (by decide) ?_
  refine z_iconst ee_G_countRottenPages_2 (v := nI 0) (by decide) ?_
  refine z_istore_m ee_G_countRottenPages_3 (j := 2) rfl (by decide) ?_
  -- at 4
  have h9 := zz_cnt_loop (z := z) (L := L) hf hG hx (tg_s x) 0 0 rfl (Nat.zero_le _) (Nat.zero_le _)
  rw [Nat.zero_add] at h9
  exact h9
theorem zz_frp_loop (hf : l.stackTraces = false) (hG : zz_Gx g K R t) (hx : zz_gx I t x) : ∀ (ys : List Int32) (i : Nat), (tg_s x).drop i = ys → i ≤ tg_p x →
    Zz g l mm_G_findRottenPage 0 0 (zz_is (K, R, I, L, z) (.int (zz_frp i ys))) zz_no 0 0 2 [some (.ref t), some (.int (nI i))] [] (K, R, I, L, z) := by
  intro ys
  obtain ⟨k1, k2, k3, k4, k5, k6, k7⟩ := hG
  have hl := tg_s_len hx
  have h4 := hx.2.2.2.1
  have h5 := hx.2.2.2.2.1
  induction ys with
  | nil =>
    intro i hi hil
    have h1 := zz_drop_nil hi
    refine z_iload_n ee_G_findRottenPage_2 rfl ?_
    refine z_aload_n ee_G_findRottenPage_3 rfl ?_
    refine z_getI ee_G_findRottenPage_4 ff_G_findRottenPage_24 (by assumption) il_6_2 ?_
    refine z_icmp_ge ee_G_findRottenPage_7 (tgt := 38) (by decide) (fun c_7 => ?_) (fun c_7 => ?_)
    -- at 7
    · refine z_iconst ee_G_findRottenPage_38 (v := -1) (by decide) ?_
      refine z_iret ee_G_findRottenPage_39 rfl (by omega) (by omega) ?_
      -- at 39
      exact ⟨rfl, rfl⟩
    · rw [h4] at c_7
      simp (disch := omega) only [zi_lt, zi_le, zi_eq, zi_n, zi_0, zi_m1] at c_7
      omega
  | cons r ys ih =>
    intro i hi hil
    obtain ⟨h1, h2, h3⟩ := zz_drop_cons hi
    refine z_iload_n ee_G_findRottenPage_2 rfl ?_
    refine z_aload_n ee_G_findRottenPage_3 rfl ?_
    refine z_getI ee_G_findRottenPage_4 ff_G_findRottenPage_24 (by assumption) il_6_2 ?_
    refine z_icmp_ge ee_G_findRottenPage_7 (tgt := 38) (by decide) (fun c_7 => ?_) (fun c_7 => ?_)
    -- at 7
    · rw [h4] at c_7
      simp (disch := omega) only [zi_lt, zi_le, zi_eq, zi_n, zi_0, zi_m1] at c_7
      omega
    · refine z_iload_n ee_G_findRottenPage_10 rfl ?_
      refine z_aload_n ee_G_findRottenPage_11 rfl ?_
      refine z_getR ee_G_findRottenPage_12 ff_G_findRottenPage_20 (by assumption) il_6_1 (by assumption) ?_
      refine z_alen ee_G_findRottenPage_15 (by assumption) ?_
      refine z_icmp_ge ee_G_findRottenPage_16 (tgt := 38) (by decide) (fun c_16 => ?_) (fun c_16 => ?_)
      -- at 16
      · simp (disch := omega) only [zi_lt, zi_le, zi_eq, zi_n, zi_0, zi_m1] at c_16
        omega
      · refine z_aload_n ee_G_findRottenPage_19 rfl ?_
        refine z_getR ee_G_findRottenPage_20 ff_G_findRottenPage_20 (by assumption) il_6_1 (by assumption) ?_
        refine z_iload_n ee_G_findRottenPage_23 rfl ?_
        -- at 24
        refine z_iald ee_G_findRottenPage_24 (by assumption) rfl (by omega) (by omega) ?_
        rw [tg_s_at hx (by omega), h2]
        refine z_bipush ee_G_findRottenPage_25 (v := nI 20) (by decide) ?_
        refine z_icmp_lt ee_G_findRottenPage_27 (tgt := 32) (by decide) (fun c_27 => ?_) (fun c_27 => ?_)
        -- at 27
        · refine z_iinc ee_G_findRottenPage_32 rfl rfl (by decide) ?_
          refine z_goto ee_G_findRottenPage_35 (tgt := 2) (by decide) ?_
          -- at 2
          rw [zz_iinc1]
          have h9 := ih (i + 1) h3 (by omega)
          simp only [zz_frp]
          rw [if_neg (Int32.not_le.mpr c_27)]
          exact h9
        · refine z_iload_n ee_G_findRottenPage_30 rfl ?_
          refine z_iret ee_G_findRottenPage_31 rfl (by omega) (by omega) ?_
          -- at 31
          refine ⟨rfl, ?_⟩
          simp only [zz_frp]
          rw [if_pos (Int32.not_lt.mp c_27)]
theorem sp_G_findRottenPage (hf : l.stackTraces = false) (hG : zz_Gx g K R t) (hx : zz_gx I t x) : zz_S g l mm_G_findRottenPage 0 0 [.ref t] (K, R, I, L, z) (zz_is (K, R, I, L, z) (.int (zz_frp 0 (tg_s x)))) zz_no := by
  refine z_start hf rfl (by decide +kernel) (Nat.le_of_ble_eq_true rfl) ?_
  dsimp only [zz_lv0]
  refine z_iconst ee_G_findRottenPage_0 (v := nI 0) (by decide) ?_
  refine z_istore_m ee_G_findRottenPage_1 (j := 1) rfl (by decide) ?_
  -- at 2
  exact zz_frp_loop hf hG hx (tg_s x) 0 rfl (Nat.zero_le _)
theorem zz_gr_loop (hf : l.stackTraces = false) (hG : zz_Gx g K R t) (hx : zz_gx I t x) : ∀ (ys : List Int32) (i : Nat) (m : Int32), (tg_s x).drop i = ys → i ≤ tg_p x →
    Zz g l mm_G_greatestRot 0 0 (zz_is (K, R, I, L, z) (.int (zz_gr m ys))) zz_no 0 0 4 [some (.ref t), some (.int m), some (.int (nI i))] [] (K, R, I, L, z) := by
  intro ys
  obtain ⟨k1, k2, k3, k4, k5, k6, k7⟩ := hG
  have hl := tg_s_len hx
  have h4 := hx.2.2.2.1
  have h5 := hx.2.2.2.2.1
  induction ys with
  | nil =>
    intro i m hi hil
    have h1 := zz_drop_nil hi
    refine z_iload_n ee_G_greatestRot_4 rfl ?_
    refine z_aload_n ee_G_greatestRot_5 rfl ?_
    refine z_getI ee_G_greatestRot_6 ff_G_greatestRot_24 (by assumption) il_6_2 ?_
    refine z_icmp_ge ee_G_greatestRot_9 (tgt := 38) (by decide) (fun c_9 => ?_) (fun c_9 => ?_)
    -- at 9
    · refine z_iload_n ee_G_greatestRot_38 rfl ?_
      refine z_iret ee_G_greatestRot_39 rfl (by omega) (by omega) ?_
      -- at 39
      exact ⟨rfl, rfl⟩
    · rw [h4] at c_9
      simp (disch := omega) only [zi_lt, zi_le, zi_eq, zi_n, zi_0, zi_m1] at c_9
      omega
  | cons r ys ih =>
    intro i m hi hil
    obtain ⟨h1, h2, h3⟩ := zz_drop_cons hi
    refine z_iload_n ee_G_greatestRot_4 rfl ?_
    refine z_aload_n ee_G_greatestRot_5 rfl ?_
    refine z_getI ee_G_greatestRot_6 ff_G_greatestRot_24 (by assumption) il_6_2 ?_
    refine z_icmp_ge ee_G_greatestRot_9 (tgt := 38) (by decide) (fun c_9 => ?_) (fun c_9 => ?_)
    -- at 9
    · rw [h4] at c_9
      simp (disch := omega) only [zi_lt, zi_le, zi_eq, zi_n, zi_0, zi_m1] at c_9
      omega
    · refine z_iload_n ee_G_greatestRot_12 rfl ?_
      refine z_aload_n ee_G_greatestRot_13 rfl ?_
      refine z_getR ee_G_greatestRot_14 ff_G_greatestRot_20 (by assumption) il_6_1 (by assumption) ?_
      refine z_alen ee_G_greatestRot_17 (by assumption) ?_
      refine z_icmp_ge ee_G_greatestRot_18 (tgt := 38) (by decide) (fun c_18 => ?_) (fun c_18 => ?_)
      -- at 18
      · simp (disch := omega) only [zi_lt, zi_le, zi_eq, zi_n, zi_0, zi_m1] at c_18
        omega
      · refine z_iload_n ee_G_greatestRot_21 rfl ?_
        refine z_aload_n ee_G_greatestRot_22 rfl ?_
        refine z_getR ee_G_greatestRot_23 ff_G_greatestRot_20 (by assumption) il_6_1 (by assumption) ?_
        refine z_iload_n ee_G_greatestRot_26 rfl ?_
        -- at 27
        refine z_iald ee_G_greatestRot_27 (by assumption) rfl (by omega) (by omega) ?_
        rw [tg_s_at hx (by omega), h2]
        refine z_callS (As := [_, _]) ee_G_greatestRot_28 kk_G_greatestRot_65 rfl rfl (Nat.le_of_ble_eq_true rfl) (by omega) (sp_JM_max hf _ _) (fun E h1 hx => hx.elim) (fun v h1 hq => ?_)
        obtain ⟨rfl, rfl⟩ := hq
        refine z_istore_m ee_G_greatestRot_31 (j := 1) rfl (by decide) ?_
        refine z_iinc ee_G_greatestRot_32 rfl rfl (by decide) ?_
        refine z_goto ee_G_greatestRot_35 (tgt := 4) (by decide) ?_
        -- at 4
        rw [zz_iinc1]
        exact ih (i + 1) _ h3 (by omega)
theorem sp_G_greatestRot (hf : l.stackTraces = false) (hG : zz_Gx g K R t) (hx : zz_gx I t x) : zz_S g l mm_G_greatestRot 0 0 [.ref t] (K, R, I, L, z) (zz_is (K, R, I, L, z) (.int (zz_gr (nI 0) (tg_s x)))) zz_no := by
  refine z_start hf rfl (by decide +kernel) (Nat.le_of_ble_eq_true rfl) ?_
  dsimp only [zz_lv0]
  refine z_iconst ee_G_greatestRot_0 (v := nI 0) (by decide) ?_
  refine z_istore_m ee_G_greatestRot_1 (j := 1) rfl (by decide) ?_
  refine z_iconst ee_G_greatestRot_2 (v := nI 0) (by decide) ?_
  refine z_istore_m ee_G_greatestRot_3 (j := 2) rfl (by decide) ?_
  -- at 4
  exact zz_gr_loop hf hG hx (tg_s x) 0 (nI 0) rfl (Nat.zero_le _)
theorem sp_G_isAheadByPriority (hf : l.stackTraces = false) (hG : zz_Gx g K R t) (hx : zz_gx I t x) (hU : zz_Gx g K R u) (hy : zz_gx I u y) : zz_S g l mm_G_isAheadByPriority 0 0 [.ref t, .ref u] (K, R, I, L, z) (zz_is (K, R, I, L, z) (.int (zz_tf (zz_ahp x y = true)))) zz_no := by
  obtain ⟨k1, -⟩ := hG
  obtain ⟨u1, -⟩ := hU
  obtain ⟨-, -, -, h4, h5, h6, h7, h8, h9⟩ := hx
  obtain ⟨-, -, -, y4, y5, y6, y7, y8, y9⟩ := hy
  unfold zz_ahp
  refine z_start hf rfl (by decide +kernel) (Nat.le_of_ble_eq_true rfl) ?_
  dsimp only [zz_lv0]
  refine z_aload_n ee_G_isAheadByPriority_0 rfl ?_
  refine z_getI ee_G_isAheadByPriority_1 ff_G_isAheadByPriority_34 (by assumption) il_6_5 ?_
  refine z_aload_n ee_G_isAheadByPriority_4 rfl ?_
  refine z_getI ee_G_isAheadByPriority_5 ff_G_isAheadByPriority_34 (by assumption) il_6_5 ?_
  refine z_icmp_eq ee_G_isAheadByPriority_8 (tgt := 28) (by decide) (fun c_8 => ?_) (fun c_8 => ?_)
  -- at 8
  · rw [h8, y8] at c_8
    rw [if_neg (fun q => q c_8)]
    refine z_aload_n ee_G_isAheadByPriority_28 rfl ?_
    refine z_getI ee_G_isAheadByPriority_29 ff_G_isAheadByPriority_24 (by assumption) il_6_2 ?_
    refine z_aload_n ee_G_isAheadByPriority_32 rfl ?_
    refine z_getI ee_G_isAheadByPriority_33 ff_G_isAheadByPriority_24 (by assumption) il_6_2 ?_
    refine z_icmp_eq ee_G_isAheadByPriority_36 (tgt := 56) (by decide) (fun c_36 => ?_) (fun c_36 => ?_)
    -- at 36
    · rw [h4, y4] at c_36
      have e := (nI_eq (by omega) (by omega)).mp c_36
      rw [if_neg (fun q => q e)]
      refine z_aload_n ee_G_isAheadByPriority_56 rfl ?_
      refine z_getI ee_G_isAheadByPriority_57 ff_G_isAheadByPriority_28 (by assumption) il_6_3 ?_
      refine z_aload_n ee_G_isAheadByPriority_60 rfl ?_
      refine z_getI ee_G_isAheadByPriority_61 ff_G_isAheadByPriority_28 (by assumption) il_6_3 ?_
      refine z_icmp_ge ee_G_isAheadByPriority_64 (tgt := 71) (by decide) (fun c_64 => ?_) (fun c_64 => ?_)
      -- at 64
      · rw [h6, y6] at c_64
        refine z_iconst ee_G_isAheadByPriority_71 (v := nI 0) (by decide) ?_
        refine z_zret ee_G_isAheadByPriority_72 (ty := .boolean) rfl (by decide) (by omega) (by omega) ?_
        -- at 72
        exact ⟨rfl, by rw [zz_tf_f (by simp [Int32.not_lt.mpr c_64])]⟩
      · rw [h6, y6] at c_64
        refine z_iconst ee_G_isAheadByPriority_67 (v := nI 1) (by decide) ?_
        refine z_goto ee_G_isAheadByPriority_68 (tgt := 72) (by decide) ?_
        refine z_zret ee_G_isAheadByPriority_72 (ty := .boolean) rfl (by decide) (by omega) (by omega) ?_
        -- at 72
        exact ⟨rfl, by rw [zz_tf_t (by simp [Int32.not_le.mp c_64])]⟩
    · rw [h4, y4] at c_36
      rw [if_pos (fun q => c_36 (by rw [q]))]
      refine z_aload_n ee_G_isAheadByPriority_39 rfl ?_
      refine z_getI ee_G_isAheadByPriority_40 ff_G_isAheadByPriority_24 (by assumption) il_6_2 ?_
      refine z_aload_n ee_G_isAheadByPriority_43 rfl ?_
      refine z_getI ee_G_isAheadByPriority_44 ff_G_isAheadByPriority_24 (by assumption) il_6_2 ?_
      refine z_icmp_ge ee_G_isAheadByPriority_47 (tgt := 54) (by decide) (fun c_47 => ?_) (fun c_47 => ?_)
      -- at 47
      · rw [h4, y4] at c_47
        simp (disch := omega) only [zi_lt, zi_le, zi_eq, zi_n, zi_0, zi_m1] at c_47
        refine z_iconst ee_G_isAheadByPriority_54 (v := nI 0) (by decide) ?_
        refine z_zret ee_G_isAheadByPriority_55 (ty := .boolean) rfl (by decide) (by omega) (by omega) ?_
        -- at 55
        exact ⟨rfl, by rw [zz_tf_f (by simp; omega)]⟩
      · rw [h4, y4] at c_47
        simp (disch := omega) only [zi_lt, zi_le, zi_eq, zi_n, zi_0, zi_m1] at c_47
        refine z_iconst ee_G_isAheadByPriority_50 (v := nI 1) (by decide) ?_
        refine z_goto ee_G_isAheadByPriority_51 (tgt := 55) (by decide) ?_
        refine z_zret ee_G_isAheadByPriority_55 (ty := .boolean) rfl (by decide) (by omega) (by omega) ?_
        -- at 55
        exact ⟨rfl, by rw [zz_tf_t (by simp; omega)]⟩
  · rw [h8, y8] at c_8
    rw [if_pos c_8]
    refine z_aload_n ee_G_isAheadByPriority_11 rfl ?_
    refine z_getI ee_G_isAheadByPriority_12 ff_G_isAheadByPriority_34 (by assumption) il_6_5 ?_
    refine z_aload_n ee_G_isAheadByPriority_15 rfl ?_
    refine z_getI ee_G_isAheadByPriority_16 ff_G_isAheadByPriority_34 (by assumption) il_6_5 ?_
    refine z_icmp_le ee_G_isAheadByPriority_19 (tgt := 26) (by decide) (fun c_19 => ?_) (fun c_19 => ?_)
    -- at 19
    · rw [h8, y8] at c_19
      refine z_iconst ee_G_isAheadByPriority_26 (v := nI 0) (by decide) ?_
      refine z_zret ee_G_isAheadByPriority_27 (ty := .boolean) rfl (by decide) (by omega) (by omega) ?_
      -- at 27
      exact ⟨rfl, by rw [zz_tf_f (by simp [Int32.not_lt.mpr c_19])]⟩
    · rw [h8, y8] at c_19
      refine z_iconst ee_G_isAheadByPriority_22 (v := nI 1) (by decide) ?_
      refine z_goto ee_G_isAheadByPriority_23 (tgt := 27) (by decide) ?_
      refine z_zret ee_G_isAheadByPriority_27 (ty := .boolean) rfl (by decide) (by omega) (by omega) ?_
      -- at 27
      exact ⟨rfl, by rw [zz_tf_t (by simp [Int32.not_le.mp c_19])]⟩
theorem sp_G_isAheadByRot (hf : l.stackTraces = false) (hG : zz_Gx g K R t) (hx : zz_gx I t x) (hU : zz_Gx g K R u) (hy : zz_gx I u y) : zz_S g l mm_G_isAheadByRot 0 0 [.ref t, .ref u] (K, R, I, L, z) (zz_is (K, R, I, L, z) (.int (zz_tf (zz_ahr x y = true)))) zz_no := by
  have k1 := hG.1
  have u1 := hU.1
  have h6 := hx.2.2.2.2.2.1
  have y6 := hy.2.2.2.2.2.1
  unfold zz_ahr
  refine z_start hf rfl (by decide +kernel) (Nat.le_of_ble_eq_true rfl) ?_
  dsimp only [zz_lv0]
  refine z_aload_n ee_G_isAheadByRot_0 rfl ?_
  -- at 1
  refine z_callV (As := []) ee_G_isAheadByRot_1 kk_G_isAheadByRot_68 rfl (by assumption) rfl rfl (Nat.le_of_ble_eq_true rfl) (by omega) (sp_G_greatestRot hf hG hx) (fun E h1 hx => hx.elim) (fun v h1 hq => ?_)
  obtain ⟨rfl, rfl⟩ := hq
  refine z_aload_n ee_G_isAheadByRot_4 rfl ?_
  -- at 5
  refine z_callV (As := []) ee_G_isAheadByRot_5 kk_G_isAheadByRot_68 rfl (by assumption) rfl rfl (Nat.le_of_ble_eq_true rfl) (by omega) (sp_G_greatestRot hf hU hy) (fun E h1 hx => hx.elim) (fun v h1 hq => ?_)
  obtain ⟨rfl, rfl⟩ := hq
  refine z_icmp_eq ee_G_isAheadByRot_8 (tgt := 28) (by decide) (fun c_8 => ?_) (fun c_8 => ?_)
  -- at 8
  · rw [if_neg (fun q => q c_8)]
    refine z_aload_n ee_G_isAheadByRot_28 rfl ?_
    refine z_getI ee_G_isAheadByRot_29 ff_G_isAheadByRot_28 (by assumption) il_6_3 ?_
    refine z_aload_n ee_G_isAheadByRot_32 rfl ?_
    refine z_getI ee_G_isAheadByRot_33 ff_G_isAheadByRot_28 (by assumption) il_6_3 ?_
    refine z_icmp_ge ee_G_isAheadByRot_36 (tgt := 43) (by decide) (fun c_36 => ?_) (fun c_36 => ?_)
    -- at 36
    · rw [h6, y6] at c_36
      refine z_iconst ee_G_isAheadByRot_43 (v := nI 0) (by decide) ?_
      refine z_zret ee_G_isAheadByRot_44 (ty := .boolean) rfl (by decide) (by omega) (by omega) ?_
      -- at 44
      exact ⟨rfl, by rw [zz_tf_f (by simp [Int32.not_lt.mpr c_36])]⟩
    · rw [h6, y6] at c_36
      refine z_iconst ee_G_isAheadByRot_39 (v := nI 1) (by decide) ?_
      refine z_goto ee_G_isAheadByRot_40 (tgt := 44) (by decide) ?_
      refine z_zret ee_G_isAheadByRot_44 (ty := .boolean) rfl (by decide) (by omega) (by omega) ?_
      -- at 44
      exact ⟨rfl, by rw [zz_tf_t (by simp [Int32.not_le.mp c_36])]⟩
  · rw [if_pos c_8]
    refine z_aload_n ee_G_isAheadByRot_11 rfl ?_
    -- at 12
    refine z_callV (As := []) ee_G_isAheadByRot_12 kk_G_isAheadByRot_68 rfl (by assumption) rfl rfl (Nat.le_of_ble_eq_true rfl) (by omega) (sp_G_greatestRot hf hG hx) (fun E h1 hx => hx.elim) (fun v h1 hq => ?_)
    obtain ⟨rfl, rfl⟩ := hq
    refine z_aload_n ee_G_isAheadByRot_15 rfl ?_
    -- at 16
    refine z_callV (As := []) ee_G_isAheadByRot_16 kk_G_isAheadByRot_68 rfl (by assumption) rfl rfl (Nat.le_of_ble_eq_true rfl) (by omega) (sp_G_greatestRot hf hU hy) (fun E h1 hx => hx.elim) (fun v h1 hq => ?_)
    obtain ⟨rfl, rfl⟩ := hq
    refine z_icmp_le ee_G_isAheadByRot_19 (tgt := 26) (by decide) (fun c_19 => ?_) (fun c_19 => ?_)
    -- at 19
    · refine z_iconst ee_G_isAheadByRot_26 (v := nI 0) (by decide) ?_
      refine z_zret ee_G_isAheadByRot_27 (ty := .boolean) rfl (by decide) (by omega) (by omega) ?_
      -- at 27
      exact ⟨rfl, by rw [zz_tf_f (by simp [Int32.not_lt.mpr c_19])]⟩
    · refine z_iconst ee_G_isAheadByRot_22 (v := nI 1) (by decide) ?_
      refine z_goto ee_G_isAheadByRot_23 (tgt := 27) (by decide) ?_
      refine z_zret ee_G_isAheadByRot_27 (ty := .boolean) rfl (by decide) (by omega) (by omega) ?_
      -- at 27
      exact ⟨rfl, by rw [zz_tf_t (by simp [Int32.not_le.mp c_19])]⟩
end Tele
