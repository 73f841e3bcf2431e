/-! TEXT -/
/-- the object t is a text that takes n characters -/
def zz_Tx (g : zz_G) (K : Nat → Nat × Nat) (R : Nat → Nat → Option Nat) (t n : Nat) : Prop := K t = zz_o 7 ∧ R t 0 = some (t + 1) ∧ K (t + 1) = zz_a 1 n ∧ zz_A g t ∧ zz_A g (t + 1) ∧ n < 2 ^ 20
/-- .. and holds xs -/
def zz_tx (I : Nat → Nat → Int32) (t n : Nat) (xs : List Int32) : Prop := I t 1 = nI xs.length ∧ xs.length ≤ n ∧ ∀ j, j < xs.length → I (t + 1) j = xs.getD j 0
theorem zz_tx.kept {I I' : Nat → Nat → Int32} {t n : Nat} {xs : List Int32} (h : zz_tx I t n xs) (h1 : I' t = I t) (h2 : I' (t + 1) = I (t + 1)) : zz_tx I' t n xs := by
  obtain ⟨q1, q2, q3⟩ := h
  exact ⟨by rw [h1]; exact q1, q2, fun j hj => by rw [h2]; exact q3 j hj⟩
theorem zz_tx.fr {I I' : Nat → Nat → Int32} {t n lo hi : Nat} {xs : List Int32} (h : zz_tx I t n xs) (hf : zz_fr lo hi I I') (hd : t + 2 ≤ lo ∨ hi ≤ t) : zz_tx I' t n xs := h.kept (hf _ (by omega)) (hf _ (by omega))
/-- the character at an index, 0 past the end -/
def zz_at0 (xs : List Int32) (i : Int32) : Int32 := if 0 ≤ i.toInt ∧ i.toInt < xs.length then xs.getD i.toInt.toNat 0 else nI 0
theorem zz_at0_n {xs : List Int32} {j : Nat} (h : j < 2 ^ 31) : zz_at0 xs (nI j) = xs.getD j 0 := by
  unfold zz_at0
  rw [zi_n h]
  by_cases q : j < xs.length
  · rw [if_pos (by omega)]; simp
  · rw [if_neg (by omega)]
    rw [List.getD_eq_getElem?_getD, List.getElem?_eq_none (by omega)]; rfl
/-- one more, where it fits -/
def zz_add (n : Nat) (xs : List Int32) (c : Int32) : List Int32 := if xs.length < n then xs ++ [c] else xs
theorem zz_getD_app {xs : List Int32} {c : Int32} {j : Nat} : (xs ++ [c]).getD j 0 = if j = xs.length then c else xs.getD j 0 := by
  by_cases h : j < xs.length
  · rw [if_neg (by omega)]
    simp [List.getD_eq_getElem?_getD, List.getElem?_append_left h]
  · by_cases q : j = xs.length
    · subst q; simp [List.getD_eq_getElem?_getD]
    · rw [if_neg q]
      simp only [List.getD_eq_getElem?_getD]
      rw [List.getElem?_eq_none (by simp; omega), List.getElem?_eq_none (by omega)]
section Text
variable {g : zz_G} {l : Launch} {K : Nat → Nat × Nat} {R : Nat → Nat → Option Nat} {I : Nat → Nat → Int32} {L : Nat → Nat → Int64} {z : Nat} {t n : Nat} {xs : List Int32}
theorem sp_T_clear (hf : l.stackTraces = false) (hT : zz_Tx g K R t n) : zz_S g l mm_T_clear 0 0 [.ref t] (K, R, I, L, z) (fun v h' => ∃ I', h' = (K, R, I', L, z) ∧ v = none ∧ zz_tx I' t n [] ∧ zz_fr t (t + 2) I I') zz_no := by
  obtain ⟨k1, k2, k3, k4, k5, k6⟩ := hT
  refine z_start hf rfl (by decide +kernel) (Nat.le_of_ble_eq_true rfl) ?_
  dsimp only [zz_lv0]
  refine z_aload_n ee_T_clear_0 rfl ?_
  refine z_iconst ee_T_clear_1 (v := nI 0) (by decide) ?_
  refine z_putI ee_T_clear_2 ff_T_clear_9 (by assumption) (by assumption) tl_7_1 fl_7_1 ?_
  refine z_vret ee_T_clear_5 rfl (by omega) (by omega) ?_
  -- at 5
  exact ⟨_, rfl, rfl, ⟨zz_up_s, Nat.zero_le _, fun j hj => absurd hj (by simp)⟩, zz_fr.rf.up (by omega) (by omega)⟩
theorem sp_T_isFull (hf : l.stackTraces = false) (hT : zz_Tx g K R t n) (hx : zz_tx I t n xs) : zz_S g l mm_T_isFull 0 0 [.ref t] (K, R, I, L, z) (zz_is (K, R, I, L, z) (.int (zz_tf (n ≤ xs.length)))) zz_no := by
  obtain ⟨k1, k2, k3, k4, k5, k6⟩ := hT
  have hl := hx.2.1
  refine z_start hf rfl (by decide +kernel) (Nat.le_of_ble_eq_true rfl) ?_
  dsimp only [zz_lv0]
  refine z_aload_n ee_T_isFull_0 rfl ?_
  refine z_getI ee_T_isFull_1 ff_T_isFull_9 (by assumption) il_7_1 ?_
  refine z_aload_n ee_T_isFull_4 rfl ?_
  refine z_getR ee_T_isFull_5 ff_T_isFull_21 (by assumption) il_7_0 (by assumption) ?_
  refine z_alen ee_T_isFull_8 (by assumption) ?_
  refine z_icmp_lt ee_T_isFull_9 (tgt := 16) (by decide) (fun c_9 => ?_) (fun c_9 => ?_)
  -- at 9
  · rw [hx.1] at c_9
    simp (disch := omega) only [zi_lt, zi_le, zi_eq, zi_n, zi_0, zi_m1] at c_9
    refine z_iconst ee_T_isFull_16 (v := nI 0) (by decide) ?_
    refine z_zret ee_T_isFull_17 (ty := .boolean) rfl (by decide) (by omega) (by omega) ?_
    -- at 17
    exact ⟨rfl, by rw [zz_tf_f (by omega)]⟩
  · rw [hx.1] at c_9
    simp (disch := omega) only [zi_lt, zi_le, zi_eq, zi_n, zi_0, zi_m1] at c_9
    refine z_iconst ee_T_isFull_12 (v := nI 1) (by decide) ?_
    refine z_goto ee_T_isFull_13 (tgt := 17) (by decide) ?_
    refine z_zret ee_T_isFull_17 (ty := .boolean) rfl (by decide) (by omega) (by omega) ?_
    -- at 17
    exact ⟨rfl, by rw [zz_tf_t (by omega)]⟩
/-- has(i) -/
theorem sp_T_has (hf : l.stackTraces = false) (hT : zz_Tx g K R t n) (hx : zz_tx I t n xs) (i : Int32) : zz_S g l mm_T_has 0 0 [.ref t, .int i] (K, R, I, L, z) (zz_is (K, R, I, L, z) (.int (zz_tf (0 ≤ i.toInt ∧ i.toInt < xs.length)))) zz_no := by
  obtain ⟨k1, k2, k3, k4, k5, k6⟩ := hT
  have hl := hx.2.1
  refine z_start hf rfl (by decide +kernel) (Nat.le_of_ble_eq_true rfl) ?_
  dsimp only [zz_lv0]
  refine z_iload_n ee_T_has_0 rfl ?_
  refine z_if_lt ee_T_has_1 (tgt := 25) (by decide) (fun c_1 => ?_) (fun c_1 => ?_)
  -- at 1
  · simp (disch := omega) only [zi_lt, zi_le, zi_eq, zi_n, zi_0, zi_m1] at c_1
    refine z_iconst ee_T_has_25 (v := nI 0) (by decide) ?_
    refine z_zret ee_T_has_26 (ty := .boolean) rfl (by decide) (by omega) (by omega) ?_
    -- at 26
    exact ⟨rfl, by rw [zz_tf_f (by omega)]⟩
  · simp (disch := omega) only [zi_lt, zi_le, zi_eq, zi_n, zi_0, zi_m1] at c_1
    refine z_iload_n ee_T_has_4 rfl ?_
    refine z_aload_n ee_T_has_5 rfl ?_
    refine z_getI ee_T_has_6 ff_T_has_9 (by assumption) il_7_1 ?_
    refine z_icmp_ge ee_T_has_9 (tgt := 25) (by decide) (fun c_9 => ?_) (fun c_9 => ?_)
    -- at 9
    · rw [hx.1] at c_9
      simp (disch := omega) only [zi_lt, zi_le, zi_eq, zi_n, zi_0, zi_m1] at c_9
      refine z_iconst ee_T_has_25 (v := nI 0) (by decide) ?_
      refine z_zret ee_T_has_26 (ty := .boolean) rfl (by decide) (by omega) (by omega) ?_
      -- at 26
      exact ⟨rfl, by rw [zz_tf_f (by omega)]⟩
    · rw [hx.1] at c_9
      simp (disch := omega) only [zi_lt, zi_le, zi_eq, zi_n, zi_0, zi_m1] at c_9
      refine z_iload_n ee_T_has_12 rfl ?_
      refine z_aload_n ee_T_has_13 rfl ?_
      refine z_getR ee_T_has_14 ff_T_has_21 (by assumption) il_7_0 (by assumption) ?_
      refine z_alen ee_T_has_17 (by assumption) ?_
      refine z_icmp_ge ee_T_has_18 (tgt := 25) (by decide) (fun c_18 => ?_) (fun c_18 => ?_)
      -- at 18
      · simp (disch := omega) only [zi_lt, zi_le, zi_eq, zi_n, zi_0, zi_m1] at c_18
        omega
      · refine z_iconst ee_T_has_21 (v := nI 1) (by decide) ?_
        refine z_goto ee_T_has_22 (tgt := 26) (by decide) ?_
        refine z_zret ee_T_has_26 (ty := .boolean) rfl (by decide) (by omega) (by omega) ?_
        -- at 26
        exact ⟨rfl, by rw [zz_tf_t (by omega)]⟩
theorem sp_T_at (hf : l.stackTraces = false) (hT : zz_Tx g K R t n) (hx : zz_tx I t n xs) (i : Int32) : zz_S g l mm_T_at 0 0 [.ref t, .int i] (K, R, I, L, z) (fun v h' => h' = (K, R, I, L, z) ∧ v = some (.int (zz_at0 xs i)) ∧ zz_ch (zz_at0 xs i)) zz_no := by
  have hT' := hT
  obtain ⟨k1, k2, k3, k4, k5, k6⟩ := hT
  have hl := hx.2.1
  refine z_start hf rfl (by decide +kernel) (Nat.le_of_ble_eq_true rfl) ?_
  dsimp only [zz_lv0]
  refine z_aload_n ee_T_at_0 rfl ?_
  refine z_iload_n ee_T_at_1 rfl ?_
  -- at 2
  refine z_callV (As := [_]) ee_T_at_2 kk_T_at_25 rfl (by assumption) rfl rfl (Nat.le_of_ble_eq_true rfl) (by omega) (sp_T_has hf hT' hx i) (fun E h1 hx => hx.elim) (fun v h1 hq => ?_)
  obtain ⟨rfl, rfl⟩ := hq
  refine z_if_eq ee_T_at_5 (tgt := 17) (by decide) (fun c_5 => ?_) (fun c_5 => ?_)
  -- at 5
  · rw [zz_tf_0] at c_5
    refine z_iconst ee_T_at_17 (v := nI 0) (by decide) ?_
    refine z_zret ee_T_at_18 (ty := .char) rfl rfl (by omega) (by omega) ?_
    -- at 18
    have e : zz_at0 xs i = nI 0 := if_neg c_5
    exact ⟨rfl, by rw [e], by rw [e]; exact zz_ch_n (by omega)⟩
  · have c_6 := zz_tf_n0.mp c_5
    refine z_aload_n ee_T_at_8 rfl ?_
    refine z_getR ee_T_at_9 ff_T_at_21 (by assumption) il_7_0 (by assumption) ?_
    refine z_iload_n ee_T_at_12 rfl ?_
    -- at 13
    refine z_cald ee_T_at_13 (by assumption) (zi_of c_6.1) (by omega) (by omega) (fun hc => ?_)
    have e : zz_at0 xs i = I (t + 1) i.toInt.toNat := by
      unfold zz_at0
      rw [if_pos c_6, hx.2.2 _ (by omega)]
    rw [← e] at hc ⊢
    refine z_goto ee_T_at_14 (tgt := 18) (by decide) ?_
    refine z_zret ee_T_at_18 (ty := .char) rfl (zz_ch.nar hc) (by omega) (by omega) ?_
    -- at 18
    exact ⟨rfl, rfl, hc⟩
theorem sp_T_put (hf : l.stackTraces = false) (hT : zz_Tx g K R t n) (hx : zz_tx I t n xs) (j : Nat) (hj : j < xs.length) (c : Int32) (hc : zz_ch c) : zz_S g l mm_T_put 0 0 [.ref t, .int (nI j), .int c] (K, R, I, L, z) (fun v h' => ∃ I', h' = (K, R, I', L, z) ∧ v = none ∧ zz_tx I' t n (xs.set j c) ∧ zz_fr t (t + 2) I I') zz_no := by
  have hT' := hT
  obtain ⟨k1, k2, k3, k4, k5, k6⟩ := hT
  have hl := hx.2.1
  refine z_start hf rfl (by decide +kernel) (Nat.le_of_ble_eq_true rfl) ?_
  dsimp only [zz_lv0]
  refine z_aload_n ee_T_put_0 rfl ?_
  refine z_iload_n ee_T_put_1 rfl ?_
  -- at 2
  refine z_callV (As := [_]) ee_T_put_2 kk_T_put_25 rfl (by assumption) rfl rfl (Nat.le_of_ble_eq_true rfl) (by omega) (sp_T_has hf hT' hx (nI j)) (fun E h1 hx => hx.elim) (fun v h1 hq => ?_)
  obtain ⟨rfl, rfl⟩ := hq
  refine z_if_eq ee_T_put_5 (tgt := 15) (by decide) (fun c_5 => ?_) (fun c_5 => ?_)
  -- at 5
  · rw [zz_tf_0, zi_n (by omega)] at c_5
    exact absurd ⟨by omega, by omega⟩ c_5
  · refine z_aload_n ee_T_put_8 rfl ?_
    refine z_getR ee_T_put_9 ff_T_put_21 (by assumption) il_7_0 (by assumption) ?_
    refine z_iload_n ee_T_put_12 rfl ?_
    refine z_iload_n ee_T_put_13 rfl ?_
    -- at 14
    refine z_castC ee_T_put_14 (by assumption) (by assumption) rfl (by omega) (by omega) hc ?_
    refine z_vret ee_T_put_15 rfl (by omega) (by omega) ?_
    -- at 15
    refine ⟨_, rfl, rfl, ⟨by rw [zz_up_a (by omega), List.length_set]; exact hx.1, by rw [List.length_set]; exact hl, fun i hi => ?_⟩, zz_fr.rf.up (by omega) (by omega)⟩
    rw [List.length_set] at hi
    by_cases q : i = j
    · subst q
      rw [zz_up_s]
      simp [List.getD_eq_getElem?_getD, hi]
    · rw [zz_up_k q, hx.2.2 i hi]
      simp [List.getD_eq_getElem?_getD, List.getElem?_set, Ne.symm q]
theorem sp_T_add (hf : l.stackTraces = false) (hT : zz_Tx g K R t n) (hx : zz_tx I t n xs) (c : Int32) (hc : zz_ch c) : zz_S g l mm_T_add 0 0 [.ref t, .int c] (K, R, I, L, z) (fun v h' => ∃ I', h' = (K, R, I', L, z) ∧ v = none ∧ zz_tx I' t n (zz_add n xs c) ∧ zz_fr t (t + 2) I I') zz_no := by
  have hT' := hT
  obtain ⟨k1, k2, k3, k4, k5, k6⟩ := hT
  have hl := hx.2.1
  refine z_start hf rfl (by decide +kernel) (Nat.le_of_ble_eq_true rfl) ?_
  dsimp only [zz_lv0]
  refine z_aload_n ee_T_add_0 rfl ?_
  -- at 1
  refine z_callV (As := []) ee_T_add_1 kk_T_add_29 rfl (by assumption) rfl rfl (Nat.le_of_ble_eq_true rfl) (by omega) (sp_T_isFull hf hT' hx) (fun E h1 hx => hx.elim) (fun v h1 hq => ?_)
  obtain ⟨rfl, rfl⟩ := hq
  refine z_if_ne ee_T_add_4 (tgt := 27) (by decide) (fun c_4 => ?_) (fun c_4 => ?_)
  -- at 4
  · rw [zz_tf_n0] at c_4
    refine z_vret ee_T_add_27 rfl (by omega) (by omega) ?_
    -- at 27
    unfold zz_add
    rw [if_neg (by omega)]
    exact ⟨_, rfl, rfl, hx, zz_fr.rf⟩
  · rw [zz_tf_0] at c_4
    refine z_aload_n ee_T_add_7 rfl ?_
    refine z_getR ee_T_add_8 ff_T_add_21 (by assumption) il_7_0 (by assumption) ?_
    refine z_aload_n ee_T_add_11 rfl ?_
    refine z_getI ee_T_add_12 ff_T_add_9 (by assumption) il_7_1 ?_
    refine z_iload_n ee_T_add_15 rfl ?_
    -- at 16
    refine z_castC ee_T_add_16 (by assumption) (by assumption) hx.1 (by omega) (by omega) hc ?_
    refine z_aload_n ee_T_add_17 rfl ?_
    refine z_dup ee_T_add_18 rfl ?_
    refine z_getI ee_T_add_19 ff_T_add_9 (by assumption) il_7_1 ?_
    refine z_iconst ee_T_add_22 (v := nI 1) (by decide) ?_
    refine z_iadd ee_T_add_23 ?_
    refine z_putI ee_T_add_24 ff_T_add_9 (by assumption) (by assumption) tl_7_1 fl_7_1 ?_
    refine z_vret ee_T_add_27 rfl (by omega) (by omega) ?_
    -- at 27
    unfold zz_add
    rw [if_pos (by omega)]
    refine ⟨_, rfl, rfl, ⟨?_, by simp; omega, fun j hj => ?_⟩, (zz_fr.rf.up (by omega) (by omega)).up (by omega) (by omega)⟩
    · rw [zz_up_s, zz_up_a (by omega), hx.1]
      show nI xs.length + nI 1 = _
      rw [nI_add]
      simp
    · rw [zz_up_a (by omega), zz_getD_app]
      by_cases q : j = xs.length
      · subst q
        rw [zz_up_s, if_pos rfl]
      · rw [zz_up_k q, if_neg q]
        simp at hj
        exact hx.2.2 j (by omega)
end Text
