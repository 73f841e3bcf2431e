/-! COMMANDS: parsing -/
theorem zz_up_id {α : Type} {f : Nat → Nat → α} {a k : Nat} {x : α} (h : f a k = x) : zz_up f a k x = f := by
  funext b j
  unfold zz_up
  split
  · rename_i q
    rw [q.1, q.2, h]
  · rfl
theorem zz_up_up {α : Type} {f : Nat → Nat → α} {a k : Nat} {x y : α} : zz_up (zz_up f a k x) a k y = zz_up f a k y := by
  funext b j
  unfold zz_up
  split <;> rfl
theorem zc_word_le (xs : List Int32) (p : Nat) : ∀ (n k f : Nat), n + k = 6 → f ≤ 8 → (zc_word xs p n k f).2 ≤ p + 8 ∧ ∀ j, (zc_word xs p n k f).1 = some j → j < 6
  | 0, k, f, hk, hf => by
    simp only [zc_word]
    exact ⟨by omega, fun j h => by cases h⟩
  | n + 1, k, f, hk, hf => by
    simp only [zc_word]
    have h1 := zz_wd_len k (by omega)
    have h2 := zc_cm_le xs p (zz_wd k) 0
    split
    · exact ⟨by show p + _ ≤ _; omega, fun j h => by cases h; omega⟩
    · exact zc_word_le xs p n (k + 1) _ (by omega) (by omega)
theorem zc_digs_le (xs : List Int32) : ∀ (n : Nat) (v : Int32) (p : Nat), p ≤ (zc_digs xs n v p).2 ∧ (zc_digs xs n v p).2 ≤ p + n
  | 0, v, p => ⟨Nat.le_refl _, Nat.le_refl _⟩
  | n + 1, v, p => by
    simp only [zc_digs]
    split
    · have := zc_digs_le xs n ((if v < nI 0 then nI 0 else v) * nI 10 + xs.getD p 0 - nI 48) (p + 1)
      omega
    · exact ⟨Nat.le_refl _, by omega⟩
theorem zc_cmd2_le (xs : List Int32) (k : Nat) (d : Int32) (p : Nat) : (zc_cmd2 xs k d p).2 ≤ p + 2 ∧ ∀ c, (zc_cmd2 xs k d p).1 = some c → c.1 = k := by
  unfold zc_cmd2
  have h1 := zc_digs_le xs 1 (-1) (p + 1)
  split
  · split
    · split
      · exact ⟨by show (zc_digs xs 1 (-1) (p + 1)).2 ≤ _; omega, fun c h => by cases h⟩
      · exact ⟨by show (zc_digs xs 1 (-1) (p + 1)).2 ≤ _; omega, fun c h => by cases h; rfl⟩
    · exact ⟨by show p ≤ _; omega, fun c h => by cases h⟩
  · exact ⟨by show p ≤ _; omega, fun c h => by cases h; rfl⟩
theorem zc_cmd1_le (xs : List Int32) (k p : Nat) : (zc_cmd1 xs k p).2 ≤ p + 4 ∧ ∀ c, (zc_cmd1 xs k p).1 = some c → c.1 = k := by
  unfold zc_cmd1
  have h2 : (if k = 0 ∨ k = 1 then 1 else 2) ≤ 2 := by split <;> omega
  generalize (if k = 0 ∨ k = 1 then 1 else 2) = n at h2 ⊢
  have h1 := zc_digs_le xs n (-1) p
  split
  · exact ⟨by show (zc_digs xs _ (-1) p).2 ≤ _; omega, fun c h => by cases h⟩
  · obtain ⟨h3, h4⟩ := zc_cmd2_le xs k (zc_digs xs n (-1) p).1 (zc_digs xs n (-1) p).2
    exact ⟨by omega, h4⟩
theorem zc_cmd_le (xs : List Int32) (p : Nat) : (zc_cmd xs p).2 ≤ p + 12 ∧ ∀ c, (zc_cmd xs p).1 = some c → c.1 < 6 := by
  unfold zc_cmd
  obtain ⟨h1, h2⟩ := zc_word_le xs p 6 0 0 rfl (by omega)
  cases hw : zc_word xs p 6 0 0 with
  | mk o q =>
    rw [hw] at h1 h2
    have h1 : q ≤ p + 8 := h1
    cases o with
    | none => exact ⟨by show q ≤ _; omega, fun c h => by cases h⟩
    | some k =>
      obtain ⟨h3, h4⟩ := zc_cmd1_le xs k q
      exact ⟨by show (zc_cmd1 xs k q).2 ≤ _; omega, fun c h => by rw [h4 c h]; exact h2 k rfl⟩
theorem zc_parse_k (xs : List Int32) : ∀ (n p : Nat) (cs : List zz_CM), (∀ c ∈ cs, c.1 < 6) → ∀ c ∈ (zc_parse xs n p cs).2, c.1 < 6
  | 0, p, cs, h => h
  | n + 1, p, cs, h => by
    simp only [zc_parse]
    obtain ⟨h1, h2⟩ := zc_cmd_le xs p
    cases hw : zc_cmd xs p with
    | mk o q =>
      rw [hw] at h2
      cases o with
      | none => exact h
      | some c =>
        have h3 : ∀ d ∈ cs ++ [c], d.1 < 6 := by
          intro d hd
          rcases List.mem_append.mp hd with hd | hd
          · exact h d hd
          · rw [List.mem_singleton.mp hd]
            exact h2 c rfl
        show ∀ d ∈ (if q = xs.length then ((-1 : Int32), cs ++ [c]) else if xs.getD q 0 = nI 59 then zc_parse xs n (q + 1) (cs ++ [c]) else (nI q, cs ++ [c])).2, d.1 < 6
        split
        · exact h3
        · split
          · exact zc_parse_k xs n (q + 1) (cs ++ [c]) h3
          · exact h3
section Cmd2
variable {g : zz_G} {l : Launch} {K : Nat → Nat × Nat} {R : Nat → Nat → Option Nat} {I : Nat → Nat → Int32} {L : Nat → Nat → Int64} {z : Nat} {Q T m p : Nat} {xs : List Int32} {cs : List zz_CM} {h : zz_H}
theorem sp_C_parseSign (hf : l.stackTraces = false) (hK : K Q = zz_o 2) (hA : zz_A g Q) (hT : zz_Tx g K R T m) (hx : zz_tx I T m xs) (e : I Q 3 = nI p) (hp : p < 2 ^ 20) (c : Int32) : zz_S g l mm_C_parseSign 0 0 [.ref Q, .ref T, .int c] (K, R, I, L, z) (zz_is (K, R, zz_up I Q 3 (nI (if xs.getD p 0 = c then p + 1 else p)), L, z) (.int (zz_tf (xs.getD p 0 = c)))) zz_no := by
  have t1 := hT.1
  refine z_start hf rfl (by decide +kernel) (Nat.le_of_ble_eq_true rfl) ?_
  dsimp only [zz_lv0]
  refine z_aload_n ee_C_parseSign_0 rfl ?_
  refine z_aload_n ee_C_parseSign_1 rfl ?_
  refine z_getI ee_C_parseSign_2 ff_C_parseSign_21 (by assumption) il_2_3 ?_
  -- at 5
  rw [e]
  refine z_callV (As := [_]) ee_C_parseSign_5 kk_C_parseSign_76 rfl (by assumption) rfl rfl (Nat.le_of_ble_eq_true rfl) (by omega) (sp_T_at hf hT hx _) (fun E h1 hx => hx.elim) (fun v h1 hq => ?_)
  obtain ⟨rfl, rfl, hch⟩ := hq
  rw [zz_at0_n (by omega)]
  refine z_iload_n ee_C_parseSign_8 rfl ?_
  refine z_icmp_eq ee_C_parseSign_9 (tgt := 14) (by decide) (fun c_9 => ?_) (fun c_9 => ?_)
  -- at 9
  · rw [if_pos c_9, zz_tf_t c_9]
    refine z_aload_n ee_C_parseSign_14 rfl ?_
    refine z_dup ee_C_parseSign_15 rfl ?_
    refine z_getI ee_C_parseSign_16 ff_C_parseSign_21 (by assumption) il_2_3 ?_
    refine z_iconst ee_C_parseSign_19 (v := nI 1) (by decide) ?_
    refine z_iadd ee_C_parseSign_20 ?_
    refine z_putI ee_C_parseSign_21 ff_C_parseSign_21 (by assumption) (by assumption) tl_2_3 fl_2_3 ?_
    refine z_iconst ee_C_parseSign_24 (v := nI 1) (by decide) ?_
    refine z_zret ee_C_parseSign_25 (ty := .boolean) rfl (by decide) (by omega) (by omega) ?_
    -- at 25
    exact ⟨by rw [e, nI_add], rfl⟩
  · rw [if_neg c_9, zz_tf_f c_9, zz_up_id e]
    refine z_iconst ee_C_parseSign_12 (v := nI 0) (by decide) ?_
    refine z_zret ee_C_parseSign_13 (ty := .boolean) rfl (by decide) (by omega) (by omega) ?_
    -- at 13
    exact ⟨rfl, rfl⟩
theorem zc_digs_loop (hf : l.stackTraces = false) (hK : K Q = zz_o 2) (hA : zz_A g Q) (hT : zz_Tx g K R T m) (hx : zz_tx I T m xs) (hd : T + 2 ≤ Q ∨ Q < T) (n : Nat) (hn : n ≤ 2) : ∀ (k i p : Nat) (v : Int32), i + k = n → p + k < 2 ^ 20 →
    Zz g l mm_C_parseDigits 0 0 (zz_is (K, R, zz_up I Q 3 (nI (zc_digs xs k v p).2), L, z) (.int (zc_digs xs k v p).1)) zz_no 0 0 5 [some (.ref Q), some (.ref T), some (.int (nI n)), some (.int v), some (.int (nI i))] [] (K, R, zz_up I Q 3 (nI p), L, z) := by
  intro k
  have t1 := hT.1
  induction k with
  | zero =>
    intro i p v hi hp
    refine z_iload ee_C_parseDigits_5 rfl ?_
    refine z_iload_n ee_C_parseDigits_7 rfl ?_
    refine z_icmp_ge ee_C_parseDigits_8 (tgt := 62) (by decide) (fun c_8 => ?_) (fun c_8 => ?_)
    -- at 8
    · refine z_iload_n ee_C_parseDigits_62 rfl ?_
      refine z_iret ee_C_parseDigits_63 rfl (by omega) (by omega) ?_
      -- at 63
      exact ⟨rfl, rfl⟩
    · simp (disch := omega) only [zi_lt, zi_le, zi_eq, zi_n, zi_0, zi_m1] at c_8
      omega
  | succ k ih =>
    intro i p v hi hp
    have hx2 : zz_tx (zz_up I Q 3 (nI p)) T m xs := hx.kept (zz_up_r (by omega)) (zz_up_r (by omega))
    refine z_iload ee_C_parseDigits_5 rfl ?_
    refine z_iload_n ee_C_parseDigits_7 rfl ?_
    refine z_icmp_ge ee_C_parseDigits_8 (tgt := 62) (by decide) (fun c_8 => ?_) (fun c_8 => ?_)
    -- at 8
    · simp (disch := omega) only [zi_lt, zi_le, zi_eq, zi_n, zi_0, zi_m1] at c_8
      omega
    · refine z_aload_n ee_C_parseDigits_11 rfl ?_
      refine z_aload_n ee_C_parseDigits_12 rfl ?_
      refine z_getI ee_C_parseDigits_13 ff_C_parseDigits_21 (by assumption) il_2_3 ?_
      -- at 16
      rw [zz_up_s]
      refine z_callV (As := [_]) ee_C_parseDigits_16 kk_C_parseDigits_76 rfl (by assumption) rfl rfl (Nat.le_of_ble_eq_true rfl) (by omega) (sp_T_at hf hT hx2 _) (fun E h1 hx => hx.elim) (fun v h1 hq => ?_)
      obtain ⟨rfl, rfl, hch⟩ := hq
      rw [zz_at0_n (by omega)]
      refine z_callSN (As := [_]) ee_C_parseDigits_19 kk_C_parseDigits_95 rfl rfl (Nat.le_of_ble_eq_true rfl) (by omega) (sp_P_isDigit hf _) (fun E h1 hx => hx.elim) (fun v h1 hq => ?_)
      obtain ⟨rfl, rfl⟩ := hq
      simp only [zc_digs]
      refine z_if_eq ee_C_parseDigits_22 (tgt := 62) (by decide) (fun c_22 => ?_) (fun c_22 => ?_)
      -- at 22
      · rw [zz_tf_0] at c_22
        rw [if_neg c_22]
        refine z_iload_n ee_C_parseDigits_62 rfl ?_
        refine z_iret ee_C_parseDigits_63 rfl (by omega) (by omega) ?_
        -- at 63
        exact ⟨rfl, rfl⟩
      · rw [zz_tf_n0] at c_22
        rw [if_pos c_22]
        refine z_iload_n ee_C_parseDigits_25 rfl ?_
        refine z_iconst ee_C_parseDigits_26 (v := nI 0) (by decide) ?_
        -- at 27
        refine z_callS (As := [_, _]) ee_C_parseDigits_27 kk_C_parseDigits_70 rfl rfl (Nat.le_of_ble_eq_true rfl) (by omega) (sp_JM_max hf _ _) (fun E h1 hx => hx.elim) (fun v h1 hq => ?_)
        obtain ⟨rfl, rfl⟩ := hq
        refine z_bipush ee_C_parseDigits_30 (v := nI 10) (by decide) ?_
        refine z_imul ee_C_parseDigits_32 ?_
        refine z_aload_n ee_C_parseDigits_33 rfl ?_
        refine z_aload_n ee_C_parseDigits_34 rfl ?_
        refine z_getI ee_C_parseDigits_35 ff_C_parseDigits_21 (by assumption) il_2_3 ?_
        -- at 38
        rw [zz_up_s]
        refine z_callV (As := [_]) ee_C_parseDigits_38 kk_C_parseDigits_76 rfl (by assumption) rfl rfl (Nat.le_of_ble_eq_true rfl) (by omega) (sp_T_at hf hT hx2 _) (fun E h1 hx => hx.elim) (fun v h1 hq => ?_)
        obtain ⟨rfl, rfl, hch2⟩ := hq
        rw [zz_at0_n (by omega)]
        refine z_iadd ee_C_parseDigits_41 ?_
        refine z_bipush ee_C_parseDigits_42 (v := nI 48) (by decide) ?_
        refine z_isub ee_C_parseDigits_44 ?_
        refine z_istore_m ee_C_parseDigits_45 (j := 3) rfl (by decide) ?_
        refine z_aload_n ee_C_parseDigits_46 rfl ?_
        refine z_dup ee_C_parseDigits_47 rfl ?_
        refine z_getI ee_C_parseDigits_48 ff_C_parseDigits_21 (by assumption) il_2_3 ?_
        refine z_iconst ee_C_parseDigits_51 (v := nI 1) (by decide) ?_
        refine z_iadd ee_C_parseDigits_52 ?_
        refine z_putI ee_C_parseDigits_53 ff_C_parseDigits_21 (by assumption) (by assumption) tl_2_3 fl_2_3 ?_
        refine z_iinc ee_C_parseDigits_56 rfl rfl (by decide) ?_
        refine z_goto ee_C_parseDigits_59 (tgt := 5) (by decide) ?_
        -- at 5
        rw [zz_iinc1, zz_up_s, nI_add, zz_up_up]
        exact ih (i + 1) (p + 1) _ (by omega) (by omega)
theorem sp_C_parseDigits (hf : l.stackTraces = false) (hK : K Q = zz_o 2) (hA : zz_A g Q) (hT : zz_Tx g K R T m) (hx : zz_tx I T m xs) (hd : T + 2 ≤ Q ∨ Q < T) (e : I Q 3 = nI p) (hp : p < 2 ^ 18) (n : Nat) (hn : n ≤ 2) : zz_S g l mm_C_parseDigits 0 0 [.ref Q, .ref T, .int (nI n)] (K, R, I, L, z) (zz_is (K, R, zz_up I Q 3 (nI (zc_digs xs n (-1) p).2), L, z) (.int (zc_digs xs n (-1) p).1)) zz_no := by
  refine z_start hf rfl (by decide +kernel) (Nat.le_of_ble_eq_true rfl) ?_
  dsimp only [zz_lv0]
  refine z_iconst ee_C_parseDigits_0 (v := -1) (by decide) ?_
  refine z_istore_m ee_C_parseDigits_1 (j := 3) rfl (by decide) ?_
  refine z_iconst ee_C_parseDigits_2 (v := nI 0) (by decide) ?_
  refine z_istore ee_C_parseDigits_3 (by decide) ?_
  -- at 5
  have h9 := zc_digs_loop (z := z) (L := L) hf hK hA hT hx hd n hn n 0 p (-1) (by omega) (by omega)
  rw [zz_up_id e] at h9
  exact h9
theorem zc_word_loop (hf : l.stackTraces = false) (hK : K Q = zz_o 2) (hA : zz_A g Q) (hT : zz_Tx g K R T m) (hx : zz_tx I T m xs) (hW : zz_Wd g K R I) (e : I Q 3 = nI p) (hp : p < 2 ^ 18) : ∀ (n k f : Nat), n + k = 6 → f ≤ 8 →
    Zz g l mm_C_parseWord 0 0 (zz_is (K, R, zz_up I Q 3 (nI (zc_word xs p n k f).2), L, z) (.int (zz_oi (zc_word xs p n k f).1))) zz_no 0 0 4 [some (.ref Q), some (.ref T), some (.int (nI f)), some (.int (nI k))] [] (K, R, I, L, z) := by
  intro n
  induction n with
  | zero =>
    intro k f hk hf8
    refine z_iload_n ee_C_parseWord_4 rfl ?_
    refine z_bipush ee_C_parseWord_5 (v := nI 6) (by decide) ?_
    refine z_icmp_ge ee_C_parseWord_7 (tgt := 61) (by decide) (fun c_7 => ?_) (fun c_7 => ?_)
    -- at 7
    · refine z_aload_n ee_C_parseWord_61 rfl ?_
      refine z_dup ee_C_parseWord_62 rfl ?_
      refine z_getI ee_C_parseWord_63 ff_C_parseWord_21 (by assumption) il_2_3 ?_
      refine z_iload_n ee_C_parseWord_66 rfl ?_
      refine z_iadd ee_C_parseWord_67 ?_
      refine z_putI ee_C_parseWord_68 ff_C_parseWord_21 (by assumption) (by assumption) tl_2_3 fl_2_3 ?_
      refine z_iconst ee_C_parseWord_71 (v := -1) (by decide) ?_
      refine z_iret ee_C_parseWord_72 rfl (by omega) (by omega) ?_
      -- at 72
      exact ⟨by rw [e, nI_add]; rfl, rfl⟩
    · simp (disch := omega) only [zi_lt, zi_le, zi_eq, zi_n, zi_0, zi_m1] at c_7
      omega
  | succ n ih =>
    intro k f hk hf8
    obtain ⟨w1, w2, w3⟩ := hW k (by omega)
    have wk := w1.1
    have wl := zz_wd_len k (by omega)
    have cl := zc_cm_le xs p (zz_wd k) 0
    refine z_iload_n ee_C_parseWord_4 rfl ?_
    refine z_bipush ee_C_parseWord_5 (v := nI 6) (by decide) ?_
    refine z_icmp_ge ee_C_parseWord_7 (tgt := 61) (by decide) (fun c_7 => ?_) (fun c_7 => ?_)
    -- at 7
    · simp (disch := omega) only [zi_lt, zi_le, zi_eq, zi_n, zi_0, zi_m1] at c_7
      omega
    · refine z_iload_n ee_C_parseWord_10 rfl ?_
      -- at 11
      refine z_callS (As := [_]) ee_C_parseWord_11 kk_C_parseWord_57 rfl rfl (Nat.le_of_ble_eq_true rfl) (by omega) (sp_C_wordOf hf k (by omega)) (fun E h1 hx => hx.elim) (fun v h1 hq => ?_)
      obtain ⟨rfl, rfl⟩ := hq
      refine z_astore ee_C_parseWord_14 (by decide) ?_
      refine z_aload_n ee_C_parseWord_16 rfl ?_
      refine z_aload_n ee_C_parseWord_17 rfl ?_
      refine z_aload ee_C_parseWord_18 rfl ?_
      -- at 20
      refine z_callV (As := [_, _]) ee_C_parseWord_20 kk_C_parseWord_61 rfl (by assumption) rfl rfl (Nat.le_of_ble_eq_true rfl) (by omega) (sp_C_countMatching hf hK hT hx w1 e (by omega)) (fun E h1 hx => hx.elim) (fun v h1 hq => ?_)
      obtain ⟨rfl, rfl⟩ := hq
      refine z_istore ee_C_parseWord_23 (by decide) ?_
      refine z_iload ee_C_parseWord_25 rfl ?_
      refine z_aload ee_C_parseWord_27 rfl ?_
      -- at 29
      refine z_callV (As := []) ee_C_parseWord_29 kk_C_parseWord_65 rfl (by assumption) rfl rfl (Nat.le_of_ble_eq_true rfl) (by omega) (sp_JS_length hf w1) (fun E h1 hx => hx.elim) (fun v h1 hq => ?_)
      obtain ⟨rfl, rfl⟩ := hq
      simp only [zc_word]
      refine z_icmp_ne ee_C_parseWord_32 (tgt := 48) (by decide) (fun c_32 => ?_) (fun c_32 => ?_)
      -- at 32
      · rw [if_neg (fun q => c_32 (by rw [q]))]
        refine z_iload_n ee_C_parseWord_48 rfl ?_
        refine z_iload ee_C_parseWord_49 rfl ?_
        -- at 51
        refine z_callS (As := [_, _]) ee_C_parseWord_51 kk_C_parseWord_70 rfl rfl (Nat.le_of_ble_eq_true rfl) (by omega) (sp_JM_max hf _ _) (fun E h1 hx => hx.elim) (fun v h1 hq => ?_)
        obtain ⟨rfl, rfl⟩ := hq
        rw [zz_max_n (by omega) (by omega)]
        refine z_istore_m ee_C_parseWord_54 (j := 2) rfl (by decide) ?_
        refine z_iinc ee_C_parseWord_55 rfl rfl (by decide) ?_
        refine z_goto ee_C_parseWord_58 (tgt := 4) (by decide) ?_
        -- at 4
        rw [zz_iinc1]
        exact z_lvk (ih (k + 1) _ (by omega) (by omega)) ⟨rfl, rfl, rfl, rfl, trivial⟩
      · have c_33 := (nI_eq (by omega) (by omega)).mp c_32
        rw [if_pos c_33, c_33]
        refine z_aload_n ee_C_parseWord_35 rfl ?_
        refine z_dup ee_C_parseWord_36 rfl ?_
        refine z_getI ee_C_parseWord_37 ff_C_parseWord_21 (by assumption) il_2_3 ?_
        refine z_iload ee_C_parseWord_40 rfl ?_
        refine z_iadd ee_C_parseWord_42 ?_
        refine z_putI ee_C_parseWord_43 ff_C_parseWord_21 (by assumption) (by assumption) tl_2_3 fl_2_3 ?_
        refine z_iload_n ee_C_parseWord_46 rfl ?_
        refine z_iret ee_C_parseWord_47 rfl (by omega) (by omega) ?_
        -- at 47
        exact ⟨by rw [e, nI_add], rfl⟩
theorem sp_C_parseWord (hf : l.stackTraces = false) (hK : K Q = zz_o 2) (hA : zz_A g Q) (hT : zz_Tx g K R T m) (hx : zz_tx I T m xs) (hW : zz_Wd g K R I) (e : I Q 3 = nI p) (hp : p < 2 ^ 18) : zz_S g l mm_C_parseWord 0 0 [.ref Q, .ref T] (K, R, I, L, z) (zz_is (K, R, zz_up I Q 3 (nI (zc_word xs p 6 0 0).2), L, z) (.int (zz_oi (zc_word xs p 6 0 0).1))) zz_no := by
  refine z_start hf rfl (by decide +kernel) (Nat.le_of_ble_eq_true rfl) ?_
  dsimp only [zz_lv0]
  refine z_iconst ee_C_parseWord_0 (v := nI 0) (by decide) ?_
  refine z_istore_m ee_C_parseWord_1 (j := 2) rfl (by decide) ?_
  refine z_iconst ee_C_parseWord_2 (v := nI 0) (by decide) ?_
  refine z_istore_m ee_C_parseWord_3 (j := 3) rfl (by decide) ?_
  -- at 4
  exact zc_word_loop hf hK hA hT hx hW e hp 6 0 0 rfl (by omega)
end Cmd2
