/-! THE LAW: at, some, types, is, runs -/
theorem zz_rm_in (x : Int32) {m : Nat} (h0 : 0 < m) (hm : m < 2 ^ 31) : (x - x / nI m * nI m < 0 ∧ ∃ j, j < m ∧ x - x / nI m * nI m + nI m = nI j) ∨ (¬ x - x / nI m * nI m < 0 ∧ ∃ j, j < m ∧ x - x / nI m * nI m = nI j) := by
  have hX1 := Int32.le_toInt x
  have hX2 := Int32.toInt_lt x
  have hne : nI m ≠ -1 := fun e => by
    have := congrArg Int32.toInt e
    rw [zi_n hm, zi_m1] at this
    omega
  have e1 : (x / nI m).toInt = x.toInt.tdiv m := by rw [Int32.toInt_div_of_ne_right _ _ hne, zi_n hm]
  have hd := Int.tmod_add_mul_tdiv x.toInt m
  have hr1 : x.toInt.tmod m < m := Int.tmod_lt_of_pos _ (by omega)
  have hr2 : -(m : Int) < x.toInt.tmod m := by
    have := Int.tmod_lt_of_pos (-x.toInt) (show (0 : Int) < m by omega)
    rw [Int.neg_tmod] at this
    omega
  have hs1 : 0 ≤ x.toInt → 0 ≤ x.toInt.tmod m := fun h => Int.tmod_nonneg _ h
  have hs2 : x.toInt ≤ 0 → x.toInt.tmod m ≤ 0 := fun h => by
    have := Int.tmod_nonneg (a := -x.toInt) (m : Int) (by omega)
    rw [Int.neg_tmod] at this
    omega
  have e2 : (x / nI m * nI m).toInt = x.toInt.tdiv m * m := by
    rw [Int32.toInt_mul, e1, zi_n hm]
    apply Int.bmod_eq_of_le <;> (rw [Int.mul_comm]; omega)
  have e3 : (x - x / nI m * nI m).toInt = x.toInt.tmod m := by
    rw [Int32.toInt_sub, e2]
    have : x.toInt - x.toInt.tdiv m * m = x.toInt.tmod m := by rw [Int.mul_comm]; omega
    rw [this]
    apply Int.bmod_eq_of_le <;> omega
  generalize x - x / nI m * nI m = r at *
  by_cases q : x.toInt.tmod m < 0
  · left
    refine ⟨by rw [zi_lt, e3, zi_0]; exact q, (x.toInt.tmod m + m).toNat, by omega, ?_⟩
    apply Int32.toInt_inj.mp
    rw [Int32.toInt_add, e3, zi_n hm, zi_n (by omega)]
    rw [Int.bmod_eq_of_le (by omega) (by omega)]
    omega
  · right
    refine ⟨by rw [zi_lt, e3, zi_0]; exact q, (x.toInt.tmod m).toNat, by omega, ?_⟩
    apply Int32.toInt_inj.mp
    rw [e3, zi_n (by omega)]
    omega
def zz_ax (xs : List Int32) : Prop := ∀ x ∈ xs, zz_typ x
theorem zz_typ.ch {c : Int32} (h : zz_typ c) : zz_ch c ∧ ∃ k, k < 127 ∧ 32 ≤ k ∧ c = nI k := by
  obtain ⟨h1, h2⟩ := h
  rw [zi_le, zi_n (by omega)] at h1 h2
  have e : c = nI c.toInt.toNat := zi_of (by omega)
  exact ⟨by rw [e]; exact zz_ch_n (by omega), c.toInt.toNat, by omega, by omega, e⟩
theorem zz_typ_n {k : Nat} (h1 : 32 ≤ k) (h2 : k ≤ 126) : zz_typ (nI k) := ⟨nI_le h1 (by omega), nI_le h2 (by omega)⟩
theorem zz_ax.at {xs : List Int32} (h : zz_ax xs) {j : Nat} (hj : j < xs.length) : zz_typ (xs.getD j 0) := h _ (by rw [List.getD_eq_getElem?_getD, List.getElem?_eq_getElem hj]; exact List.getElem_mem hj)
theorem zz_ax.as {xs : List Int32} (h : zz_ax xs) : zz_as xs := fun x hx => by
  obtain ⟨-, k, h1, -, h2⟩ := (h x hx).ch
  exact ⟨k, by omega, h2⟩
theorem zz_take1 {xs : List Int32} {i : Nat} (h : i < xs.length) : xs.take (i + 1) = xs.take i ++ [xs.getD i 0] := by
  rw [List.take_succ_eq_append_getElem h, List.getD_eq_getElem?_getD, List.getElem?_eq_getElem h]
  rfl
section Lawt
variable {g : zz_G} {l : Launch} {K : Nat → Nat × Nat} {R R0 : Nat → Nat → Option Nat} {I I0 : Nat → Nat → Int32} {L L0 : Nat → Nat → Int64} {z z0 B q n s sa : Nat} {v w : zz_OV} {xs : List Int32} {h : zz_H}
/-- a new base -/
theorem zz_Lw.base (hW : zz_Lw g K B z0 R0 I0 L0 v R I L z) : zz_Lw g K B z R I L v R I L z := ⟨hW.1, fun _ _ _ => ⟨rfl, rfl⟩, fun _ _ => rfl, Nat.le_refl _, Nat.le_trans hW.2.2.2.2.1 hW.2.2.2.1, hW.2.2.2.2.2⟩
theorem zz_Lw.back {R1 : Nat → Nat → Option Nat} {I1 : Nat → Nat → Int32} {L1 : Nat → Nat → Int64} {z1 : Nat} (hW : zz_Lw g K B z0 R0 I0 L0 v R I L z) (h1 : zz_Lw g K B z R I L w R1 I1 L1 z1) : zz_Lw g K B z0 R0 I0 L0 w R1 I1 L1 z1 := by
  obtain ⟨a1, a2, a3, a4, a5, a6⟩ := hW
  obtain ⟨b1, b2, b3, b4, b5, b6⟩ := h1
  exact ⟨b1, fun b hb hq => ⟨((b2 b (by omega) hq).1).trans (a2 b hb hq).1, ((b2 b (by omega) hq).2).trans (a2 b hb hq).2⟩, fun b hb => (b3 b (by omega)).trans (a3 b hb), by omega, a5, a6⟩
/-- a String that lies beside the object -/
def zz_bs (B z0 s sa : Nat) : Prop := (s < z0 ∧ (s < B ∨ B + 1460 ≤ s)) ∧ sa < z0 ∧ (sa < B ∨ B + 1460 ≤ sa)
theorem zz_Lw.sg (hW : zz_Lw g K B z0 R0 I0 L0 v R I L z) (hb : zz_bs B z0 s sa) (h : zz_Sg K R0 I0 s sa xs) : zz_Sg K R I s sa xs := h.kept (hW.2.1 s hb.1.1 hb.1.2).1 (hW.2.1 s hb.1.1 hb.1.2).2 (hW.2.1 sa hb.2.1 hb.2.2).2
theorem zz_Ev.bs (h : zz_Ev g K R0 I0 q n) (hW : zz_Lw g K B z0 R0 I0 L0 v R I L z) {k : Nat} (hk : k < 22) : zz_Sg K R0 I0 (g.2.2.2.2 k) (g.2.2.2.2 (100 + k)) (zz_ct k) ∧ zz_bs B z0 (g.2.2.2.2 k) (g.2.2.2.2 (100 + k)) := by
  obtain ⟨h1, h2, h3⟩ := h.1 k hk
  have hA : (zz_hb g).size ≤ B := hW.2.2.2.2.2
  have hz := hW.2.2.2.2.1
  exact ⟨h1, ⟨by omega, Or.inl (by omega)⟩, by omega, Or.inl (by omega)⟩
theorem sp_L_at (hf : l.stackTraces = false) (hq : K q = zz_a 0 n) (hn : n ≤ 260) (i : Nat) (hi : i < 2 ^ 20) : zz_S g l mm_L_at 0 0 [.ref q, .int (nI i)] (K, R, I, L, z) (fun a h' => h' = (K, R, I, L, z) ∧ ∃ x, a = some (.int x)) zz_no := by
  refine z_start hf rfl (by decide +kernel) (Nat.le_of_ble_eq_true rfl) ?_
  dsimp only [zz_lv0]
  refine z_iload_n ee_L_at_0 rfl ?_
  refine z_aload_n ee_L_at_1 rfl ?_
  refine z_alen ee_L_at_2 (by assumption) ?_
  refine z_icmp_ge ee_L_at_3 (tgt := 12) (by decide) (fun c_3 => ?_) (fun c_3 => ?_)
  -- at 3
  · refine z_iconst ee_L_at_12 (v := nI 0) (by decide) ?_
    refine z_iret ee_L_at_13 rfl (by omega) (by omega) ?_
    -- at 13
    exact ⟨rfl, _, rfl⟩
  · simp (disch := omega) only [zi_lt, zi_le, zi_eq, zi_n, zi_0, zi_m1] at c_3
    refine z_aload_n ee_L_at_6 rfl ?_
    refine z_iload_n ee_L_at_7 rfl ?_
    -- at 8
    refine z_iald ee_L_at_8 hq rfl (by omega) (by omega) ?_
    refine z_goto ee_L_at_9 (tgt := 13) (by decide) ?_
    refine z_iret ee_L_at_13 rfl (by omega) (by omega) ?_
    -- at 13
    exact ⟨rfl, _, rfl⟩
theorem sp_L_some (hf : l.stackTraces = false) (x : Int32) (m : Nat) (h0 : 0 < m) (hm : m < 2 ^ 31) : zz_S g l mm_L_some 0 0 [.int x, .int (nI m)] h (fun a h' => h' = h ∧ ∃ j, j < m ∧ a = some (.int (nI j))) zz_no := by
  refine z_start hf rfl (by decide +kernel) (Nat.le_of_ble_eq_true rfl) ?_
  dsimp only [zz_lv0]
  refine z_iload_n ee_L_some_0 rfl ?_
  refine z_iload_n ee_L_some_1 rfl ?_
  -- at 2
  refine z_irem ee_L_some_2 (nI_ne0 h0 hm) ?_
  rcases zz_rm_in x h0 hm with ⟨h1, j, h2, h3⟩ | ⟨h1, j, h2, h3⟩
  · refine z_istore_m ee_L_some_3 (j := 2) rfl (by decide) ?_
    refine z_iload_n ee_L_some_4 rfl ?_
    refine z_if_ge ee_L_some_5 (tgt := 14) (by decide) (fun c_5 => ?_) (fun c_5 => ?_)
    -- at 5
    · exact absurd (Int32.not_le.mpr h1) (fun q => q c_5)
    · refine z_iload_n ee_L_some_8 rfl ?_
      refine z_iload_n ee_L_some_9 rfl ?_
      -- at 10
      refine z_iadd ee_L_some_10 ?_
      rw [h3]
      refine z_goto ee_L_some_11 (tgt := 15) (by decide) ?_
      refine z_iret ee_L_some_15 rfl (by omega) (by omega) ?_
      -- at 15
      exact ⟨rfl, j, h2, rfl⟩
  · rw [h3]
    refine z_istore_m ee_L_some_3 (j := 2) rfl (by decide) ?_
    refine z_iload_n ee_L_some_4 rfl ?_
    refine z_if_ge ee_L_some_5 (tgt := 14) (by decide) (fun c_5 => ?_) (fun c_5 => ?_)
    -- at 5
    · refine z_iload_n ee_L_some_14 rfl ?_
      refine z_iret ee_L_some_15 rfl (by omega) (by omega) ?_
      -- at 15
      exact ⟨rfl, j, h2, rfl⟩
    · simp (disch := omega) only [zi_lt, zi_le, zi_eq, zi_n, zi_0, zi_m1] at c_5
      omega
theorem sp_L_types (hf : l.stackTraces = false) (hW : zz_Lw g K B z0 R0 I0 L0 v R I L z) (hG : zz_Sg K R0 I0 s sa xs) (hb : zz_bs B z0 s sa) (hx : zz_ax xs) (hl : xs.length ≤ 40) : zz_S g l mm_L_types 40 240 [.ref B, .ref s] (K, R, I, L, z) (zz_LW g K B z0 R0 I0 L0 (some (.int (nI 1))) (ow_m v xs)) zz_no := by
  have hk := hW.1.1.1.1
  have hks := hG.1
  have loop : ∀ (k i : Nat) R I L z, k + i = xs.length → zz_Lw g K B z0 R0 I0 L0 (ow_m v (xs.take i)) R I L z → Zz g l mm_L_types 40 240 (zz_LW g K B z0 R0 I0 L0 (some (.int (nI 1))) (ow_m v xs)) zz_no i (6 * i) 11 [some (.ref B), some (.ref s), some (.int (nI i))] [] (K, R, I, L, z) := by
    intro k
    induction k with
    | zero =>
      intro i R I L z hi hW
      refine z_iload_n ee_L_types_11 rfl ?_
      refine z_aload_n ee_L_types_12 rfl ?_
      -- at 13
      refine z_callV (As := []) ee_L_types_13 kk_L_types_151 rfl (by assumption) rfl rfl (Nat.le_of_ble_eq_true rfl) (by omega) (sp_JS_length hf (hW.sg hb hG)) (fun E h1 hx => hx.elim) (fun v h1 hq => ?_)
      obtain ⟨rfl, rfl⟩ := hq
      refine z_icmp_ge ee_L_types_16 (tgt := 42) (by decide) (fun c_16 => ?_) (fun c_16 => ?_)
      -- at 16
      · refine z_iconst ee_L_types_42 (v := nI 1) (by decide) ?_
        refine z_zret ee_L_types_43 (ty := .boolean) rfl (by decide) (by omega) (by omega) ?_
        -- at 43
        rw [List.take_of_length_le (by omega)] at hW
        exact ⟨_, _, _, _, rfl, rfl, hW⟩
      · simp (disch := omega) only [zi_lt, zi_le, zi_eq, zi_n, zi_0, zi_m1] at c_16
        omega
    | succ k ih =>
      intro i R I L z hi hW
      refine z_iload_n ee_L_types_11 rfl ?_
      refine z_aload_n ee_L_types_12 rfl ?_
      -- at 13
      refine z_callV (As := []) ee_L_types_13 kk_L_types_151 rfl (by assumption) rfl rfl (Nat.le_of_ble_eq_true rfl) (by omega) (sp_JS_length hf (hW.sg hb hG)) (fun E h1 hx => hx.elim) (fun v h1 hq => ?_)
      obtain ⟨rfl, rfl⟩ := hq
      refine z_icmp_ge ee_L_types_16 (tgt := 42) (by decide) (fun c_16 => ?_) (fun c_16 => ?_)
      -- at 16
      · simp (disch := omega) only [zi_lt, zi_le, zi_eq, zi_n, zi_0, zi_m1] at c_16
        omega
      · refine z_aload_n ee_L_types_19 rfl ?_
        refine z_aload_n ee_L_types_20 rfl ?_
        refine z_iload_n ee_L_types_21 rfl ?_
        -- at 22
        refine z_callV (As := [_]) ee_L_types_22 kk_L_types_156 rfl (by assumption) rfl rfl (Nat.le_of_ble_eq_true rfl) (by omega) (sp_JS_charAt hf (hW.sg hb hG) i (by omega)) (fun E h1 hx => hx.elim) (fun v h1 hq => ?_)
        obtain ⟨rfl, rfl⟩ := hq
        have ht := hx.at (show i < xs.length by omega)
        have hlen : (xs.take i).length = i := by rw [List.length_take]; omega
        refine z_callX (As := [_, _]) ee_L_types_25 kk_L_types_170 rfl rfl (Nat.le_of_ble_eq_true rfl) (by omega) (sx_type hf hW (xs.getD i 0) ht.ch.1 (.inl (nI (i + 1)), ow_m v (xs.take (i + 1))) (by unfold po_type; rw [if_neg (by exact fun q => q ht), if_neg (by show ¬ 40 ≤ (xs.take i).length; omega)]; show (Sum.inl (nI ((xs.take i).length + 1)), ow_m v (xs.take i ++ [xs.getD i 0])) = _; rw [hlen, ← zz_take1 (by omega)]) _ rfl (fun E h => by cases h)) (fun E h1 hx => hx.elim) (fun v h1 hq => ?_)
        obtain ⟨R1, I1, L1, z1, rfl, rfl, hW⟩ := hq
        refine z_iload_n ee_L_types_28 rfl ?_
        refine z_iconst ee_L_types_29 (v := nI 1) (by decide) ?_
        -- at 30
        refine z_iadd ee_L_types_30 ?_
        rw [nI_add]
        refine z_icmp_eq ee_L_types_31 (tgt := 36) (by decide) (fun c_31 => ?_) (fun c_31 => ?_)
        -- at 31
        · refine z_iinc ee_L_types_36 rfl rfl (by decide) ?_
          refine z_goto ee_L_types_39 (tgt := 11) (by decide) ?_
          -- at 11
          rw [zz_iinc1]
          exact z_wid (by omega) (by omega) (ih (i + 1) _ _ _ _ (by omega) hW)
        · exact absurd rfl c_31
  have hm0 := hW.hist.2.1
  refine z_start hf rfl (by decide +kernel) (Nat.le_of_ble_eq_true rfl) ?_
  dsimp only [zz_lv0]
  refine z_aload_n ee_L_types_0 rfl ?_
  -- at 1
  refine z_callV (As := []) ee_L_types_1 kk_L_types_167 rfl (by assumption) rfl rfl (Nat.le_of_ble_eq_true rfl) (by omega) (sx_P_clearMessage hf hW) (fun E h1 hx => hx.elim) (fun v h1 hq => ?_)
  obtain ⟨R1, I1, L1, z1, rfl, rfl, hW⟩ := hq
  refine z_if_ge ee_L_types_4 (tgt := 9) (by decide) (fun c_4 => ?_) (fun c_4 => ?_)
  -- at 4
  · refine z_iconst ee_L_types_9 (v := nI 0) (by decide) ?_
    refine z_istore_m ee_L_types_10 (j := 2) rfl (by decide) ?_
    -- at 11
    exact z_wid (by omega) (by omega) (loop xs.length 0 _ _ _ _ rfl (by rw [List.take_zero]; exact hW))
  · simp (disch := omega) only [zi_lt, zi_le, zi_eq, zi_n, zi_0, zi_m1] at c_4
    omega
theorem sp_L_is (hf : l.stackTraces = false) (hW : zz_Lw g K B z0 R0 I0 L0 v R I L z) (a b : Int32) (ha : a ≠ -1) (hd : ov_d v = (a, b, -1)) : zz_S g l mm_L_is 3 18 [.ref B, .int a, .int b] (K, R, I, L, z) (zz_LW g K B z0 R0 I0 L0 (some (.int (nI 1))) v) zz_no := by
  refine z_start hf rfl (by decide +kernel) (Nat.le_of_ble_eq_true rfl) ?_
  dsimp only [zz_lv0]
  refine z_aload_n ee_L_is_0 rfl ?_
  -- at 1
  refine z_callX (As := [_]) ee_L_is_1 kk_L_is_172 rfl rfl (Nat.le_of_ble_eq_true rfl) (by omega) (sx_denial hf hW (.inl a, v) (by rw [hd, if_neg ha]) _ rfl (fun E h => by cases h)) (fun E h1 hx => hx.elim) (fun v h1 hq => ?_)
  obtain ⟨R1, I1, L1, z1, rfl, rfl, hW⟩ := hq
  refine z_iload_n ee_L_is_4 rfl ?_
  refine z_icmp_ne ee_L_is_5 (tgt := 30) (by decide) (fun c_5 => ?_) (fun c_5 => ?_)
  -- at 5
  · exact absurd rfl c_5
  · refine z_aload_n ee_L_is_8 rfl ?_
    -- at 9
    refine z_callX (As := [_]) ee_L_is_9 kk_L_is_174 rfl rfl (Nat.le_of_ble_eq_true rfl) (by omega) (sx_denialDetail hf hW (.inl b, v) (by rw [hd, if_neg ha]) _ rfl (fun E h => by cases h)) (fun E h1 hx => hx.elim) (fun v h1 hq => ?_)
    obtain ⟨R1, I1, L1, z1, rfl, rfl, hW⟩ := hq
    refine z_iload_n ee_L_is_12 rfl ?_
    refine z_icmp_ne ee_L_is_13 (tgt := 30) (by decide) (fun c_13 => ?_) (fun c_13 => ?_)
    -- at 13
    · exact absurd rfl c_13
    · refine z_aload_n ee_L_is_16 rfl ?_
      -- at 17
      refine z_callX (As := [_]) ee_L_is_17 kk_L_is_176 rfl rfl (Nat.le_of_ble_eq_true rfl) (by omega) (sx_denialCause hf hW (.inr eN, v) (by rw [hd, if_pos rfl]) _ rfl (fun E h => by cases h; rfl)) (fun E h1 hx => hx.elim) (fun v h1 hq => ?_)
      obtain ⟨R1, I1, L1, z1, rfl, rfl, hW⟩ := hq
      refine z_sipush ee_L_is_20 (v := -1001) (by decide) ?_
      refine z_icmp_ne ee_L_is_23 (tgt := 30) (by decide) (fun c_23 => ?_) (fun c_23 => ?_)
      -- at 23
      · exact absurd rfl c_23
      · refine z_iconst ee_L_is_26 (v := nI 1) (by decide) ?_
        refine z_goto ee_L_is_27 (tgt := 31) (by decide) ?_
        refine z_zret ee_L_is_31 (ty := .boolean) rfl (by decide) (by omega) (by omega) ?_
        -- at 31
        exact ⟨_, _, _, _, rfl, rfl, hW⟩
theorem sp_L_runs (hf : l.stackTraces = false) (hEv : zz_Ev g K R0 I0 q n) (hW : zz_Lw g K B z0 R0 I0 L0 v R I L z) (hb0 : ov_b v = []) (hG : zz_Sg K R0 I0 s sa xs) (hb : zz_bs B z0 s sa) (hl : xs.length ≤ 60) (rr : zz_PR) (hr : po_exec (ow_b v xs) = rr) (x : Int32) (hx : zw (zf2 eA) rr = x) (hE : ∀ E, rr.1 = .inr E → E = eA ∨ E = eU) : zz_S g l mm_L_runs 61 366 [.ref B, .ref s] (K, R, I, L, z) (zz_LW g K B z0 R0 I0 L0 (some (.int x)) rr.2) zz_no := by
  have hks := hG.1
  have loop : ∀ (k i : Nat) R I L z, k + i = xs.length → zz_Lw g K B z0 R0 I0 L0 (ow_b v (xs.take i)) R I L z → Zz g l mm_L_runs 61 366 (zz_LW g K B z0 R0 I0 L0 (some (.int x)) rr.2) zz_no i (6 * i) 2 [some (.ref B), some (.ref s), some (.int (nI i))] [] (K, R, I, L, z) := by
    intro k
    induction k with
    | zero =>
      intro i R I L z hi hW
      refine z_iload_n ee_L_runs_2 rfl ?_
      refine z_aload_n ee_L_runs_3 rfl ?_
      -- at 4
      refine z_callV (As := []) ee_L_runs_4 kk_L_runs_151 rfl (by assumption) rfl rfl (Nat.le_of_ble_eq_true rfl) (by omega) (sp_JS_length hf (hW.sg hb hG)) (fun E h1 hx => hx.elim) (fun v h1 hq => ?_)
      obtain ⟨rfl, rfl⟩ := hq
      refine z_icmp_ge ee_L_runs_7 (tgt := 35) (by decide) (fun c_7 => ?_) (fun c_7 => ?_)
      -- at 7
      · refine z_aload_n ee_L_runs_35 rfl ?_
        -- at 36
        rw [List.take_of_length_le (by omega)] at hW
        refine z_callX (As := [_]) ee_L_runs_36 kk_L_runs_164 rfl rfl (Nat.le_of_ble_eq_true rfl) (by omega) (sx_execute hf hW hEv rr hr x hx hE) (fun E h1 hx => hx.elim) (fun v h1 hq => ?_)
        obtain ⟨R1, I1, L1, z1, rfl, rfl, hW⟩ := hq
        refine z_iret ee_L_runs_39 rfl (by omega) (by omega) ?_
        -- at 39
        exact ⟨_, _, _, _, rfl, rfl, hW⟩
      · simp (disch := omega) only [zi_lt, zi_le, zi_eq, zi_n, zi_0, zi_m1] at c_7
        omega
    | succ k ih =>
      intro i R I L z hi hW
      refine z_iload_n ee_L_runs_2 rfl ?_
      refine z_aload_n ee_L_runs_3 rfl ?_
      -- at 4
      refine z_callV (As := []) ee_L_runs_4 kk_L_runs_151 rfl (by assumption) rfl rfl (Nat.le_of_ble_eq_true rfl) (by omega) (sp_JS_length hf (hW.sg hb hG)) (fun E h1 hx => hx.elim) (fun v h1 hq => ?_)
      obtain ⟨rfl, rfl⟩ := hq
      refine z_icmp_ge ee_L_runs_7 (tgt := 35) (by decide) (fun c_7 => ?_) (fun c_7 => ?_)
      -- at 7
      · simp (disch := omega) only [zi_lt, zi_le, zi_eq, zi_n, zi_0, zi_m1] at c_7
        omega
      · refine z_aload_n ee_L_runs_10 rfl ?_
        refine z_aload_n ee_L_runs_11 rfl ?_
        refine z_iload_n ee_L_runs_12 rfl ?_
        -- at 13
        refine z_callV (As := [_]) ee_L_runs_13 kk_L_runs_156 rfl (by assumption) rfl rfl (Nat.le_of_ble_eq_true rfl) (by omega) (sp_JS_charAt hf (hW.sg hb hG) i (by omega)) (fun E h1 hx => hx.elim) (fun v h1 hq => ?_)
        obtain ⟨rfl, rfl⟩ := hq
        obtain ⟨kc, hkc, ekc⟩ := hG.2.2.2.2.2.2 i (by omega)
        have hlen : (xs.take i).length = i := by rw [List.length_take]; omega
        refine z_callX (As := [_, _]) ee_L_runs_16 kk_L_runs_159 rfl rfl (Nat.le_of_ble_eq_true rfl) (by omega) (sx_feed hf hW (xs.getD i 0) (by rw [ekc]; exact zz_ch_n (by omega)) (.inl (nI (i + 1)), ow_b v (xs.take (i + 1))) (by unfold po_feed; rw [if_neg (by show ¬ 60 ≤ (xs.take i).length; omega)]; show (Sum.inl (nI ((xs.take i).length + 1)), ow_b v (xs.take i ++ [xs.getD i 0])) = _; rw [hlen, ← zz_take1 (by omega)]) _ rfl (fun E h => by cases h)) (fun E h1 hx => hx.elim) (fun v h1 hq => ?_)
        obtain ⟨R1, I1, L1, z1, rfl, rfl, hW⟩ := hq
        refine z_iload_n ee_L_runs_19 rfl ?_
        refine z_iconst ee_L_runs_20 (v := nI 1) (by decide) ?_
        -- at 21
        refine z_iadd ee_L_runs_21 ?_
        rw [nI_add]
        refine z_icmp_eq ee_L_runs_22 (tgt := 29) (by decide) (fun c_22 => ?_) (fun c_22 => ?_)
        -- at 22
        · refine z_iinc ee_L_runs_29 rfl rfl (by decide) ?_
          refine z_goto ee_L_runs_32 (tgt := 2) (by decide) ?_
          -- at 2
          rw [zz_iinc1]
          exact z_wid (by omega) (by omega) (ih (i + 1) _ _ _ _ (by omega) hW)
        · exact absurd rfl c_22
  refine z_start hf rfl (by decide +kernel) (Nat.le_of_ble_eq_true rfl) ?_
  dsimp only [zz_lv0]
  refine z_iconst ee_L_runs_0 (v := nI 0) (by decide) ?_
  refine z_istore_m ee_L_runs_1 (j := 2) rfl (by decide) ?_
  -- at 2
  refine z_wid (by omega) (by omega) (loop xs.length 0 _ _ _ _ rfl ?_)
  rw [List.take_zero, ← hb0]
  exact hW
end Lawt
