/-! CODE: the loops over a text -/
section Code2
variable {g : zz_G} {l : Launch} {K : Nat → Nat × Nat} {R : Nat → Nat → Option Nat} {I : Nat → Nat → Int32} {L : Nat → Nat → Int64} {z : Nat} {t n u m : Nat} {xs : List Int32}
theorem zz_iinc1 (i : Nat) : nI i + Int32.ofInt 1 = nI (i + 1) := nI_1 i
/-- the characters of a text are chars: what T.at says -/
theorem zz_fold_loop (hf : l.stackTraces = false) (hT : zz_Tx g K R t n) (hU : zz_Tx g K R u m) (hd : t + 2 ≤ u ∨ u + 2 ≤ t) {I0 : Nat → Nat → Int32} (hx0 : zz_tx I0 t n xs) : ∀ (ys : List Int32) (i run : Nat) (out : List Int32) (I : Nat → Nat → Int32), xs.drop i = ys → i ≤ xs.length → run < 9 → zz_tx I u m out → zz_fr u (u + 2) I0 I →
    Zz g l mm_O_fold 0 0 (fun v h' => ∃ I', h' = (K, R, I', L, z) ∧ v = none ∧ zz_tx I' u m (zz_fold m run ys out) ∧ zz_fr u (u + 2) I0 I') zz_no 0 0 8 [some (.ref t), some (.ref u), some (.int (nI run)), some (.int (nI i))] [] (K, R, I, L, z) := by
  intro ys
  have k1 := hT.1
  have k6 := hT.2.2.2.2.2
  have kl := hx0.2.1
  induction ys with
  | nil =>
    intro i run out I hi hil hr hx hfr
    have hx1 := hx0.fr hfr hd
    have h1 := zz_drop_nil hi
    refine z_iload_n ee_O_fold_8 rfl ?_
    refine z_aload_n ee_O_fold_9 rfl ?_
    refine z_getI ee_O_fold_10 ff_O_fold_14 (by assumption) il_7_1 ?_
    refine z_icmp_ge ee_O_fold_13 (tgt := 46) (by decide) (fun c_13 => ?_) (fun c_13 => ?_)
    -- at 13
    · refine z_vret ee_O_fold_46 rfl (by omega) (by omega) ?_
      -- at 46
      exact ⟨_, rfl, rfl, hx, hfr⟩
    · rw [hx1.1] at c_13
      simp (disch := omega) only [zi_lt, zi_le, zi_eq, zi_n, zi_0, zi_m1] at c_13
      omega
  | cons c ys ih =>
    intro i run out I hi hil hr hx hfr
    have hx1 := hx0.fr hfr hd
    obtain ⟨h1, h2, h3⟩ := zz_drop_cons hi
    refine z_iload_n ee_O_fold_8 rfl ?_
    refine z_aload_n ee_O_fold_9 rfl ?_
    refine z_getI ee_O_fold_10 ff_O_fold_14 (by assumption) il_7_1 ?_
    refine z_icmp_ge ee_O_fold_13 (tgt := 46) (by decide) (fun c_13 => ?_) (fun c_13 => ?_)
    -- at 13
    · rw [hx1.1] at c_13
      simp (disch := omega) only [zi_lt, zi_le, zi_eq, zi_n, zi_0, zi_m1] at c_13
      omega
    · refine z_iinc ee_O_fold_16 rfl rfl (by decide) ?_
      refine z_aload_n ee_O_fold_19 rfl ?_
      refine z_iload_n ee_O_fold_20 rfl ?_
      refine z_iload_n ee_O_fold_21 rfl ?_
      -- at 22
      rw [zz_iinc1]
      refine z_callS (As := [_, _, _]) ee_O_fold_22 kk_O_fold_18 rfl rfl (Nat.le_of_ble_eq_true rfl) (by omega) (sp_O_endsRun hf hT hx1 i (run + 1) h1 (by omega)) (fun E h1 hx => hx.elim) (fun v h1 hq => ?_)
      obtain ⟨rfl, rfl⟩ := hq
      rw [h2, h3]
      refine z_if_eq ee_O_fold_25 (tgt := 40) (by decide) (fun c_25 => ?_) (fun c_25 => ?_)
      -- at 25
      · rw [zz_tf_0] at c_25
        refine z_iinc ee_O_fold_40 rfl rfl (by decide) ?_
        refine z_goto ee_O_fold_43 (tgt := 8) (by decide) ?_
        -- at 8
        rw [zz_iinc1]
        have h9 := ih (i + 1) (run + 1) out I h3 h1 (by omega) hx hfr
        unfold zz_fold
        rw [if_neg c_25]
        exact h9
      · rw [zz_tf_n0] at c_25
        refine z_aload_n ee_O_fold_28 rfl ?_
        refine z_iload_n ee_O_fold_29 rfl ?_
        -- at 30
        refine z_callV (As := [_]) ee_O_fold_30 kk_O_fold_24 rfl (by assumption) rfl rfl (Nat.le_of_ble_eq_true rfl) (by omega) (sp_T_at hf hT hx1 _) (fun E h1 hx => hx.elim) (fun v h1 hq => ?_)
        obtain ⟨rfl, rfl, hc⟩ := hq
        rw [zz_at0_n (by omega), h2] at hc ⊢
        refine z_iload_n ee_O_fold_33 rfl ?_
        refine z_aload_n ee_O_fold_34 rfl ?_
        -- at 35
        refine z_callS (As := [_, _, _]) ee_O_fold_35 kk_O_fold_28 rfl rfl (Nat.le_of_ble_eq_true rfl) (by omega) (sp_O_writeRun hf hU hx c hc (run + 1) (by omega)) (fun E h1 hx => hx.elim) (fun v h1 hq => ?_)
        obtain ⟨I2, rfl, rfl, hx2, hfr2⟩ := hq
        refine z_iconst ee_O_fold_38 (v := nI 0) (by decide) ?_
        refine z_istore_m ee_O_fold_39 (j := 2) rfl (by decide) ?_
        refine z_iinc ee_O_fold_40 rfl rfl (by decide) ?_
        refine z_goto ee_O_fold_43 (tgt := 8) (by decide) ?_
        -- at 8
        rw [zz_iinc1]
        have h9 := ih (i + 1) 0 _ I2 h3 h1 (by omega) hx2 (hfr.trans hfr2)
        unfold zz_fold
        rw [if_pos c_25]
        exact h9
theorem sp_O_fold (hf : l.stackTraces = false) (hT : zz_Tx g K R t n) (hU : zz_Tx g K R u m) (hd : t + 2 ≤ u ∨ u + 2 ≤ t) (hx : zz_tx I t n xs) : zz_S g l mm_O_fold 0 0 [.ref t, .ref u] (K, R, I, L, z) (fun v h' => ∃ I', h' = (K, R, I', L, z) ∧ v = none ∧ zz_tx I' u m (zz_fold m 0 xs []) ∧ zz_fr u (u + 2) I I') zz_no := by
  have k1 := hU.1
  refine z_start hf rfl (by decide +kernel) (Nat.le_of_ble_eq_true rfl) ?_
  dsimp only [zz_lv0]
  refine z_aload_n ee_O_fold_0 rfl ?_
  -- at 1
  refine z_callV (As := []) ee_O_fold_1 kk_O_fold_9 rfl (by assumption) rfl rfl (Nat.le_of_ble_eq_true rfl) (by omega) (sp_T_clear hf hU) (fun E h1 hx => hx.elim) (fun v h1 hq => ?_)
  obtain ⟨I2, rfl, rfl, hx2, hfr2⟩ := hq
  refine z_iconst ee_O_fold_4 (v := nI 0) (by decide) ?_
  refine z_istore_m ee_O_fold_5 (j := 2) rfl (by decide) ?_
  refine z_iconst ee_O_fold_6 (v := nI 0) (by decide) ?_
  refine z_istore_m ee_O_fold_7 (j := 3) rfl (by decide) ?_
  -- at 8
  exact zz_fold_loop hf hT hU hd hx xs 0 0 [] I2 rfl (Nat.zero_le _) (by omega) hx2 hfr2
theorem zz_sum_loop (hf : l.stackTraces = false) (hT : zz_Tx g K R t n) (hx : zz_tx I t n xs) : ∀ (ys : List Int32) (i : Nat) (s : Int32), xs.drop i = ys → i ≤ xs.length →
    Zz g l mm_O_sumOf 0 0 (zz_is (K, R, I, L, z) (.int (zz_sm i s ys - zz_sm i s ys / nI 97 * nI 97))) zz_no 0 0 4 [some (.ref t), some (.int s), some (.int (nI i))] [] (K, R, I, L, z) := by
  intro ys
  have k1 := hT.1
  have k6 := hT.2.2.2.2.2
  have kl := hx.2.1
  induction ys with
  | nil =>
    intro i s hi hil
    have h1 := zz_drop_nil hi
    refine z_iload_n ee_O_sumOf_4 rfl ?_
    refine z_aload_n ee_O_sumOf_5 rfl ?_
    refine z_getI ee_O_sumOf_6 ff_O_sumOf_14 (by assumption) il_7_1 ?_
    refine z_icmp_ge ee_O_sumOf_9 (tgt := 30) (by decide) (fun c_9 => ?_) (fun c_9 => ?_)
    -- at 9
    · refine z_iload_n ee_O_sumOf_30 rfl ?_
      refine z_bipush ee_O_sumOf_31 (v := nI 97) (by decide) ?_
      -- at 33
      refine z_irem ee_O_sumOf_33 (by decide) ?_
      refine z_iret ee_O_sumOf_34 rfl (by omega) (by omega) ?_
      -- at 34
      exact ⟨rfl, rfl⟩
    · rw [hx.1] at c_9
      simp (disch := omega) only [zi_lt, zi_le, zi_eq, zi_n, zi_0, zi_m1] at c_9
      omega
  | cons c ys ih =>
    intro i s hi hil
    obtain ⟨h1, h2, h3⟩ := zz_drop_cons hi
    refine z_iload_n ee_O_sumOf_4 rfl ?_
    refine z_aload_n ee_O_sumOf_5 rfl ?_
    refine z_getI ee_O_sumOf_6 ff_O_sumOf_14 (by assumption) il_7_1 ?_
    refine z_icmp_ge ee_O_sumOf_9 (tgt := 30) (by decide) (fun c_9 => ?_) (fun c_9 => ?_)
    -- at 9
    · rw [hx.1] at c_9
      simp (disch := omega) only [zi_lt, zi_le, zi_eq, zi_n, zi_0, zi_m1] at c_9
      omega
    · refine z_iload_n ee_O_sumOf_12 rfl ?_
      refine z_aload_n ee_O_sumOf_13 rfl ?_
      refine z_iload_n ee_O_sumOf_14 rfl ?_
      -- at 15
      refine z_callV (As := [_]) ee_O_sumOf_15 kk_O_sumOf_24 rfl (by assumption) rfl rfl (Nat.le_of_ble_eq_true rfl) (by omega) (sp_T_at hf hT hx _) (fun E h1 hx => hx.elim) (fun v h1 hq => ?_)
      obtain ⟨rfl, rfl, -⟩ := hq
      rw [zz_at0_n (by omega), h2]
      refine z_iload_n ee_O_sumOf_18 rfl ?_
      refine z_iconst ee_O_sumOf_19 (v := nI 1) (by decide) ?_
      refine z_iadd ee_O_sumOf_20 ?_
      refine z_imul ee_O_sumOf_21 ?_
      refine z_iadd ee_O_sumOf_22 ?_
      refine z_istore_m ee_O_sumOf_23 (j := 1) rfl (by decide) ?_
      refine z_iinc ee_O_sumOf_24 rfl rfl (by decide) ?_
      refine z_goto ee_O_sumOf_27 (tgt := 4) (by decide) ?_
      -- at 4
      rw [zz_iinc1, nI_add]
      exact ih (i + 1) _ h3 h1
theorem sp_O_sumOf (hf : l.stackTraces = false) (hT : zz_Tx g K R t n) (hx : zz_tx I t n xs) : zz_S g l mm_O_sumOf 0 0 [.ref t] (K, R, I, L, z) (zz_is (K, R, I, L, z) (.int (zz_sum xs))) zz_no := by
  refine z_start hf rfl (by decide +kernel) (Nat.le_of_ble_eq_true rfl) ?_
  dsimp only [zz_lv0]
  refine z_iconst ee_O_sumOf_0 (v := nI 0) (by decide) ?_
  refine z_istore_m ee_O_sumOf_1 (j := 1) rfl (by decide) ?_
  refine z_iconst ee_O_sumOf_2 (v := nI 0) (by decide) ?_
  refine z_istore_m ee_O_sumOf_3 (j := 2) rfl (by decide) ?_
  -- at 4
  exact zz_sum_loop hf hT hx xs 0 (nI 0) rfl (Nat.zero_le _)
theorem zz_flt_loop (hf : l.stackTraces = false) (hT : zz_Tx g K R t n) (hx : zz_tx I t n xs) : ∀ (ys : List Int32) (i : Nat) (cnt esc : Bool), xs.drop i = ys → i ≤ xs.length →
    Zz g l mm_O_faultIn 0 0 (zz_is (K, R, I, L, z) (.int (zz_flt i cnt esc ys))) zz_no 0 0 6 [some (.ref t), some (.int (zz_tf (cnt = true))), some (.int (zz_tf (esc = true))), some (.int (nI i))] [] (K, R, I, L, z) := by
  intro ys
  have k1 := hT.1
  have k6 := hT.2.2.2.2.2
  have kl := hx.2.1
  induction ys with
  | nil =>
    intro i cnt esc hi hil
    have h1 := zz_drop_nil hi
    have hi2 : i = xs.length := by omega
    have yes : (cnt = true ∨ esc = true) → Zz g l mm_O_faultIn 0 0 (zz_is (K, R, I, L, z) (.int (zz_flt i cnt esc []))) zz_no 0 0 96 [some (.ref t), some (.int (zz_tf (cnt = true))), some (.int (zz_tf (esc = true))), some (.int (nI i))] [] (K, R, I, L, z) := by
      intro q
      refine z_aload_n ee_O_faultIn_96 rfl ?_
      refine z_getI ee_O_faultIn_97 ff_O_faultIn_14 (by assumption) il_7_1 ?_
      refine z_goto ee_O_faultIn_100 (tgt := 104) (by decide) ?_
      refine z_iret ee_O_faultIn_104 rfl (by omega) (by omega) ?_
      -- at 104
      refine ⟨rfl, ?_⟩
      unfold zz_flt
      rw [if_pos q, hx.1, hi2]
    refine z_iload_n ee_O_faultIn_6 rfl ?_
    refine z_aload_n ee_O_faultIn_7 rfl ?_
    refine z_getI ee_O_faultIn_8 ff_O_faultIn_14 (by assumption) il_7_1 ?_
    refine z_icmp_ge ee_O_faultIn_11 (tgt := 88) (by decide) (fun c_11 => ?_) (fun c_11 => ?_)
    -- at 11
    · refine z_iload_n ee_O_faultIn_88 rfl ?_
      refine z_if_ne ee_O_faultIn_89 (tgt := 96) (by decide) (fun c_89 => ?_) (fun c_89 => ?_)
      -- at 89
      · rw [zz_tf_n0] at c_89
        exact yes (Or.inl c_89)
      · rw [zz_tf_0] at c_89
        refine z_iload_n ee_O_faultIn_92 rfl ?_
        refine z_if_eq ee_O_faultIn_93 (tgt := 103) (by decide) (fun c_93 => ?_) (fun c_93 => ?_)
        -- at 93
        · rw [zz_tf_0] at c_93
          refine z_iconst ee_O_faultIn_103 (v := -1) (by decide) ?_
          refine z_iret ee_O_faultIn_104 rfl (by omega) (by omega) ?_
          -- at 104
          refine ⟨rfl, ?_⟩
          unfold zz_flt
          rw [if_neg (fun q => q.elim c_89 c_93)]
        · rw [zz_tf_n0] at c_93
          exact yes (Or.inr c_93)
    · rw [hx.1] at c_11
      simp (disch := omega) only [zi_lt, zi_le, zi_eq, zi_n, zi_0, zi_m1] at c_11
      omega
  | cons c ys ih =>
    intro i cnt esc hi hil
    obtain ⟨h1, h2, h3⟩ := zz_drop_cons hi
    have back : ∀ (cnt' esc' : Bool), zz_flt i cnt esc (c :: ys) = zz_flt (i + 1) cnt' esc' ys → Zz g l mm_O_faultIn 0 0 (zz_is (K, R, I, L, z) (.int (zz_flt i cnt esc (c :: ys)))) zz_no 0 0 82 [some (.ref t), some (.int (zz_tf (cnt' = true))), some (.int (zz_tf (esc' = true))), some (.int (nI i))] [] (K, R, I, L, z) := by
      intro cnt' esc' e
      refine z_iinc ee_O_faultIn_82 rfl rfl (by decide) ?_
      refine z_goto ee_O_faultIn_85 (tgt := 6) (by decide) ?_
      -- at 6
      rw [zz_iinc1, e]
      exact ih (i + 1) cnt' esc' h3 h1
    refine z_iload_n ee_O_faultIn_6 rfl ?_
    refine z_aload_n ee_O_faultIn_7 rfl ?_
    refine z_getI ee_O_faultIn_8 ff_O_faultIn_14 (by assumption) il_7_1 ?_
    refine z_icmp_ge ee_O_faultIn_11 (tgt := 88) (by decide) (fun c_11 => ?_) (fun c_11 => ?_)
    -- at 11
    · rw [hx.1] at c_11
      simp (disch := omega) only [zi_lt, zi_le, zi_eq, zi_n, zi_0, zi_m1] at c_11
      omega
    · refine z_aload_n ee_O_faultIn_14 rfl ?_
      refine z_iload_n ee_O_faultIn_15 rfl ?_
      -- at 16
      refine z_callV (As := [_]) ee_O_faultIn_16 kk_O_faultIn_24 rfl (by assumption) rfl rfl (Nat.le_of_ble_eq_true rfl) (by omega) (sp_T_at hf hT hx _) (fun E h1 hx => hx.elim) (fun v h1 hq => ?_)
      obtain ⟨rfl, rfl, -⟩ := hq
      rw [zz_at0_n (by omega), h2]
      refine z_istore ee_O_faultIn_19 (by decide) ?_
      refine z_iload_n ee_O_faultIn_21 rfl ?_
      refine z_if_eq ee_O_faultIn_22 (tgt := 42) (by decide) (fun c_22 => ?_) (fun c_22 => ?_)
      -- at 22
      · -- not escaped
        rw [zz_tf_0] at c_22
        have he : esc = false := by simpa using c_22
        subst he
        refine z_iload ee_O_faultIn_42 rfl ?_
        refine z_bipush ee_O_faultIn_44 (v := nI 92) (by decide) ?_
        refine z_icmp_ne ee_O_faultIn_46 (tgt := 54) (by decide) (fun c_46 => ?_) (fun c_46 => ?_)
        -- at 46
        · -- not a backslash
          refine z_iload ee_O_faultIn_54 rfl ?_
          -- at 56
          refine z_callSN (As := [_]) ee_O_faultIn_56 kk_O_faultIn_40 rfl rfl (Nat.le_of_ble_eq_true rfl) (by omega) (sp_P_isDigit hf c) (fun E h1 hx => hx.elim) (fun v h1 hq => ?_)
          obtain ⟨rfl, rfl⟩ := hq
          refine z_if_eq ee_O_faultIn_59 (tgt := 80) (by decide) (fun c_59 => ?_) (fun c_59 => ?_)
          -- at 59
          · rw [zz_tf_0] at c_59
            refine z_iconst ee_O_faultIn_80 (v := nI 0) (by decide) ?_
            refine z_istore_m ee_O_faultIn_81 (j := 1) rfl (by decide) ?_
            -- at 82
            refine z_lvk (back false false ?_) ⟨rfl, rfl, rfl, rfl, trivial⟩
            simp only [zz_flt]
            rw [if_neg c_46, if_neg c_59]
          · rw [zz_tf_n0] at c_59
            refine z_iload_n ee_O_faultIn_62 rfl ?_
            refine z_if_ne ee_O_faultIn_63 (tgt := 73) (by decide) (fun c_63 => ?_) (fun c_63 => ?_)
            -- at 63
            · rw [zz_tf_n0] at c_63
              refine z_iload_n ee_O_faultIn_73 rfl ?_
              refine z_iret ee_O_faultIn_74 rfl (by omega) (by omega) ?_
              -- at 74
              refine ⟨rfl, ?_⟩
              simp only [zz_flt]
              rw [if_neg c_46, if_pos c_59, if_pos (Or.inl c_63)]
            · rw [zz_tf_0] at c_63
              refine z_iload ee_O_faultIn_66 rfl ?_
              refine z_bipush ee_O_faultIn_68 (v := nI 51) (by decide) ?_
              refine z_icmp_ge ee_O_faultIn_70 (tgt := 75) (by decide) (fun c_70 => ?_) (fun c_70 => ?_)
              -- at 70
              · refine z_iconst ee_O_faultIn_75 (v := nI 1) (by decide) ?_
                refine z_istore_m ee_O_faultIn_76 (j := 1) rfl (by decide) ?_
                refine z_goto ee_O_faultIn_77 (tgt := 82) (by decide) ?_
                -- at 82
                refine z_lvk (back true false ?_) ⟨rfl, rfl, rfl, rfl, trivial⟩
                simp only [zz_flt]
                rw [if_neg c_46, if_pos c_59, if_neg (fun q => q.elim c_63 (Int32.not_lt.mpr c_70))]
              · refine z_iload_n ee_O_faultIn_73 rfl ?_
                refine z_iret ee_O_faultIn_74 rfl (by omega) (by omega) ?_
                -- at 74
                refine ⟨rfl, ?_⟩
                simp only [zz_flt]
                rw [if_neg c_46, if_pos c_59, if_pos (Or.inr (Int32.not_le.mp c_70))]
        · refine z_iconst ee_O_faultIn_49 (v := nI 1) (by decide) ?_
          refine z_istore_m ee_O_faultIn_50 (j := 2) rfl (by decide) ?_
          refine z_goto ee_O_faultIn_51 (tgt := 82) (by decide) ?_
          -- at 82
          refine z_lvk (back cnt true ?_) ⟨rfl, rfl, rfl, rfl, trivial⟩
          simp only [zz_flt]
          rw [if_pos c_46]
      · rw [zz_tf_n0] at c_22
        subst c_22
        refine z_iload ee_O_faultIn_25 rfl ?_
        -- at 27
        refine z_callS (As := [_]) ee_O_faultIn_27 kk_O_faultIn_32 rfl rfl (Nat.le_of_ble_eq_true rfl) (by omega) (sp_O_needsEscape hf c) (fun E h1 hx => hx.elim) (fun v h1 hq => ?_)
        obtain ⟨rfl, rfl⟩ := hq
        refine z_if_ne ee_O_faultIn_30 (tgt := 35) (by decide) (fun c_30 => ?_) (fun c_30 => ?_)
        -- at 30
        · rw [zz_tf_n0] at c_30
          refine z_iconst ee_O_faultIn_35 (v := nI 0) (by decide) ?_
          refine z_istore_m ee_O_faultIn_36 (j := 2) rfl (by decide) ?_
          refine z_iconst ee_O_faultIn_37 (v := nI 0) (by decide) ?_
          refine z_istore_m ee_O_faultIn_38 (j := 1) rfl (by decide) ?_
          refine z_goto ee_O_faultIn_39 (tgt := 82) (by decide) ?_
          -- at 82
          refine z_lvk (back false false ?_) ⟨rfl, rfl, rfl, rfl, trivial⟩
          simp only [zz_flt]
          rw [if_pos c_30]
        · rw [zz_tf_0] at c_30
          refine z_iload_n ee_O_faultIn_33 rfl ?_
          refine z_iret ee_O_faultIn_34 rfl (by omega) (by omega) ?_
          -- at 34
          refine ⟨rfl, ?_⟩
          simp only [zz_flt]
          rw [if_neg c_30]
theorem sp_O_faultIn (hf : l.stackTraces = false) (hT : zz_Tx g K R t n) (hx : zz_tx I t n xs) : zz_S g l mm_O_faultIn 0 0 [.ref t] (K, R, I, L, z) (zz_is (K, R, I, L, z) (.int (zz_flt 0 false false xs))) zz_no := by
  refine z_start hf rfl (by decide +kernel) (Nat.le_of_ble_eq_true rfl) ?_
  dsimp only [zz_lv0]
  refine z_iconst ee_O_faultIn_0 (v := nI 0) (by decide) ?_
  refine z_istore_m ee_O_faultIn_1 (j := 1) rfl (by decide) ?_
  refine z_iconst ee_O_faultIn_2 (v := nI 0) (by decide) ?_
  refine z_istore_m ee_O_faultIn_3 (j := 2) rfl (by decide) ?_
  refine z_iconst ee_O_faultIn_4 (v := nI 0) (by decide) ?_
  refine z_istore_m ee_O_faultIn_5 (j := 3) rfl (by decide) ?_
  -- at 6
  exact zz_flt_loop hf hT hx xs 0 false false rfl (Nat.zero_le _)
theorem zz_unf_in (hf : l.stackTraces = false) (hU : zz_Tx g K R u m) (c : Int32) (hc : zz_ch c) (times : Nat) (ht : times < 100) {esc : Int32} {j : Nat} {I0 : Nat → Nat → Int32} {P : Option Value → zz_H → Prop}
    (fin : ∀ I', zz_tx I' u m (zz_repc m c times xs) → zz_fr u (u + 2) I0 I' → Zz g l mm_O_unfold 0 0 P zz_no 0 0 86 [some (.ref t), some (.ref u), some (.int (nI times)), some (.int esc), some (.int (nI j)), some (.int c)] [] (K, R, I', L, z)) :
    ∀ (k i : Nat) (out : List Int32) (I : Nat → Nat → Int32), i + k = times → zz_repc m c k out = zz_repc m c times xs → zz_tx I u m out → zz_fr u (u + 2) I0 I →
    Zz g l mm_O_unfold 0 0 P zz_no 0 0 68 [some (.ref t), some (.ref u), some (.int (nI times)), some (.int esc), some (.int (nI j)), some (.int c), some (.int (nI i))] [] (K, R, I, L, z) := by
  intro k
  have k1 := hU.1
  induction k with
  | zero =>
    intro i out I hi e hx hfr
    refine z_iload ee_O_unfold_68 rfl ?_
    refine z_iload_n ee_O_unfold_70 rfl ?_
    refine z_icmp_ge ee_O_unfold_71 (tgt := 86) (by decide) (fun c_71 => ?_) (fun c_71 => ?_)
    -- at 71
    · refine z_lvk (fin I ?_ hfr) ⟨rfl, rfl, rfl, rfl, rfl, rfl, trivial⟩
      rw [← e]; exact hx
    · simp (disch := omega) only [zi_lt, zi_le, zi_eq, zi_n, zi_0, zi_m1] at c_71
      omega
  | succ k ih =>
    intro i out I hi e hx hfr
    refine z_iload ee_O_unfold_68 rfl ?_
    refine z_iload_n ee_O_unfold_70 rfl ?_
    refine z_icmp_ge ee_O_unfold_71 (tgt := 86) (by decide) (fun c_71 => ?_) (fun c_71 => ?_)
    -- at 71
    · simp (disch := omega) only [zi_lt, zi_le, zi_eq, zi_n, zi_0, zi_m1] at c_71
      omega
    · refine z_aload_n ee_O_unfold_74 rfl ?_
      refine z_iload ee_O_unfold_75 rfl ?_
      -- at 77
      refine z_callV (As := [_]) ee_O_unfold_77 kk_O_unfold_36 rfl (by assumption) rfl rfl (Nat.le_of_ble_eq_true rfl) (by omega) (sp_T_add hf hU hx c hc) (fun E h1 hx => hx.elim) (fun v h1 hq => ?_)
      obtain ⟨I2, rfl, rfl, hx2, hfr2⟩ := hq
      refine z_iinc ee_O_unfold_80 rfl rfl (by decide) ?_
      refine z_goto ee_O_unfold_83 (tgt := 68) (by decide) ?_
      -- at 68
      rw [zz_iinc1]
      exact ih (i + 1) _ I2 (by omega) e hx2 (hfr.trans hfr2)
theorem zz_unf_loop (hf : l.stackTraces = false) (hT : zz_Tx g K R t n) (hU : zz_Tx g K R u m) (hd : t + 2 ≤ u ∨ u + 2 ≤ t) {I0 : Nat → Nat → Int32} (hx0 : zz_tx I0 t n xs) : ∀ (ys : List Int32) (i times : Nat) (esc : Bool) (out : List Int32) (I : Nat → Nat → Int32), xs.drop i = ys → i ≤ xs.length → times < 10 → zz_tx I u m out → zz_fr u (u + 2) I0 I →
    Zz g l mm_O_unfold 0 0 (fun v h' => ∃ I', h' = (K, R, I', L, z) ∧ v = none ∧ zz_tx I' u m (zz_unf m times esc ys out) ∧ zz_fr u (u + 2) I0 I') zz_no 0 0 11 [some (.ref t), some (.ref u), some (.int (nI times)), some (.int (zz_tf (esc = true))), some (.int (nI i))] [] (K, R, I, L, z) := by
  intro ys
  have k1 := hT.1
  have k6 := hT.2.2.2.2.2
  have kl := hx0.2.1
  induction ys with
  | nil =>
    intro i times esc out I hi hil ht hx hfr
    have hx1 := hx0.fr hfr hd
    have h1 := zz_drop_nil hi
    refine z_iload ee_O_unfold_11 rfl ?_
    refine z_aload_n ee_O_unfold_13 rfl ?_
    refine z_getI ee_O_unfold_14 ff_O_unfold_14 (by assumption) il_7_1 ?_
    refine z_icmp_ge ee_O_unfold_17 (tgt := 96) (by decide) (fun c_17 => ?_) (fun c_17 => ?_)
    -- at 17
    · refine z_vret ee_O_unfold_96 rfl (by omega) (by omega) ?_
      -- at 96
      exact ⟨_, rfl, rfl, hx, hfr⟩
    · rw [hx1.1] at c_17
      simp (disch := omega) only [zi_lt, zi_le, zi_eq, zi_n, zi_0, zi_m1] at c_17
      omega
  | cons c ys ih =>
    intro i times esc out I hi hil ht hx hfr
    have hx1 := hx0.fr hfr hd
    obtain ⟨h1, h2, h3⟩ := zz_drop_cons hi
    have back : ∀ (times' : Nat) (esc' : Bool) (out' : List Int32) (I' : Nat → Nat → Int32), times' < 10 → zz_tx I' u m out' → zz_fr u (u + 2) I0 I' → zz_unf m times esc (c :: ys) out = zz_unf m times' esc' ys out' → Zz g l mm_O_unfold 0 0 (fun v h' => ∃ I', h' = (K, R, I', L, z) ∧ v = none ∧ zz_tx I' u m (zz_unf m times esc (c :: ys) out) ∧ zz_fr u (u + 2) I0 I') zz_no 0 0 90 [some (.ref t), some (.ref u), some (.int (nI times')), some (.int (zz_tf (esc' = true))), some (.int (nI i))] [] (K, R, I', L, z) := by
      intro times' esc' out' I' ht' hx' hfr' e
      refine z_iinc ee_O_unfold_90 rfl rfl (by decide) ?_
      refine z_goto ee_O_unfold_93 (tgt := 11) (by decide) ?_
      -- at 11
      rw [zz_iinc1, e]
      exact ih (i + 1) times' esc' out' I' h3 h1 ht' hx' hfr'
    refine z_iload ee_O_unfold_11 rfl ?_
    refine z_aload_n ee_O_unfold_13 rfl ?_
    refine z_getI ee_O_unfold_14 ff_O_unfold_14 (by assumption) il_7_1 ?_
    refine z_icmp_ge ee_O_unfold_17 (tgt := 96) (by decide) (fun c_17 => ?_) (fun c_17 => ?_)
    -- at 17
    · rw [hx1.1] at c_17
      simp (disch := omega) only [zi_lt, zi_le, zi_eq, zi_n, zi_0, zi_m1] at c_17
      omega
    · refine z_aload_n ee_O_unfold_20 rfl ?_
      refine z_iload ee_O_unfold_21 rfl ?_
      -- at 23
      refine z_callV (As := [_]) ee_O_unfold_23 kk_O_unfold_24 rfl (by assumption) rfl rfl (Nat.le_of_ble_eq_true rfl) (by omega) (sp_T_at hf hT hx1 _) (fun E h1 hx => hx.elim) (fun v h1 hq => ?_)
      obtain ⟨rfl, rfl, hc⟩ := hq
      rw [zz_at0_n (by omega), h2] at hc ⊢
      have put : zz_unf m times esc (c :: ys) out = zz_unf m 1 false ys (zz_repc m c times out) → Zz g l mm_O_unfold 0 0 (fun v h' => ∃ I', h' = (K, R, I', L, z) ∧ v = none ∧ zz_tx I' u m (zz_unf m times esc (c :: ys) out) ∧ zz_fr u (u + 2) I0 I') zz_no 0 0 65 [some (.ref t), some (.ref u), some (.int (nI times)), some (.int (zz_tf (esc = true))), some (.int (nI i)), some (.int c)] [] (K, R, I, L, z) := by
        intro e
        refine z_iconst ee_O_unfold_65 (v := nI 0) (by decide) ?_
        refine z_istore ee_O_unfold_66 (by decide) ?_
        -- at 68
        refine zz_unf_in hf hU c hc times (by omega) (xs := out) (I0 := I0) (fun I' hx' hfr' => ?_) times 0 out I (by omega) rfl hx hfr
        refine z_iconst ee_O_unfold_86 (v := nI 1) (by decide) ?_
        refine z_istore_m ee_O_unfold_87 (j := 2) rfl (by decide) ?_
        refine z_iconst ee_O_unfold_88 (v := nI 0) (by decide) ?_
        refine z_istore_m ee_O_unfold_89 (j := 3) rfl (by decide) ?_
        -- at 90
        exact z_lvk (back 1 false _ I' (by omega) hx' hfr' e) ⟨rfl, rfl, rfl, rfl, rfl, trivial⟩
      refine z_istore ee_O_unfold_26 (by decide) ?_
      refine z_iload_n ee_O_unfold_28 rfl ?_
      refine z_if_ne ee_O_unfold_29 (tgt := 44) (by decide) (fun c_29 => ?_) (fun c_29 => ?_)
      -- at 29
      · rw [zz_tf_n0] at c_29
        subst c_29
        refine z_iload_n ee_O_unfold_44 rfl ?_
        refine z_if_ne ee_O_unfold_45 (tgt := 65) (by decide) (fun c_45 => ?_) (fun c_45 => ?_)
        -- at 45
        · exact put rfl
        · exact absurd c_45 (by decide)
      · rw [zz_tf_0] at c_29
        have he : esc = false := by simpa using c_29
        subst he
        refine z_iload ee_O_unfold_32 rfl ?_
        refine z_bipush ee_O_unfold_34 (v := nI 92) (by decide) ?_
        refine z_icmp_ne ee_O_unfold_36 (tgt := 44) (by decide) (fun c_36 => ?_) (fun c_36 => ?_)
        -- at 36
        · refine z_iload_n ee_O_unfold_44 rfl ?_
          refine z_if_ne ee_O_unfold_45 (tgt := 65) (by decide) (fun c_45 => ?_) (fun c_45 => ?_)
          -- at 45
          · exact absurd rfl c_45
          · refine z_iload ee_O_unfold_48 rfl ?_
            -- at 50
            refine z_callSN (As := [_]) ee_O_unfold_50 kk_O_unfold_40 rfl rfl (Nat.le_of_ble_eq_true rfl) (by omega) (sp_P_isDigit hf c) (fun E h1 hx => hx.elim) (fun v h1 hq => ?_)
            obtain ⟨rfl, rfl⟩ := hq
            refine z_if_eq ee_O_unfold_53 (tgt := 65) (by decide) (fun c_53 => ?_) (fun c_53 => ?_)
            -- at 53
            · rw [zz_tf_0] at c_53
              refine put ?_
              simp only [zz_unf]
              rw [if_neg c_36, if_neg c_53]
            · rw [zz_tf_n0] at c_53
              refine z_iload ee_O_unfold_56 rfl ?_
              refine z_bipush ee_O_unfold_58 (v := nI 48) (by decide) ?_
              refine z_isub ee_O_unfold_60 ?_
              refine z_istore_m ee_O_unfold_61 (j := 2) rfl (by decide) ?_
              refine z_goto ee_O_unfold_62 (tgt := 90) (by decide) ?_
              -- at 90
              have hcc := hc.le
              have c_54 : nI 48 ≤ c ∧ c ≤ nI 57 := c_53
              simp (disch := omega) only [zi_lt, zi_le, zi_eq, zi_n, zi_0, zi_m1] at c_54
              have e1 : c - nI 48 = nI (c.toInt - 48).toNat := by
                rw [zi_of hcc.1, pk_sub (by omega), zi_n (by omega)]
                congr 1
                omega
              rw [e1]
              refine z_lvk (back _ false out I (by omega) hx hfr ?_) ⟨rfl, rfl, rfl, rfl, rfl, trivial⟩
              simp only [zz_unf]
              rw [if_neg c_36, if_pos c_53]
        · refine z_iconst ee_O_unfold_39 (v := nI 1) (by decide) ?_
          refine z_istore_m ee_O_unfold_40 (j := 3) rfl (by decide) ?_
          refine z_goto ee_O_unfold_41 (tgt := 90) (by decide) ?_
          -- at 90
          refine z_lvk (back times true out I ht hx hfr ?_) ⟨rfl, rfl, rfl, rfl, rfl, trivial⟩
          simp only [zz_unf]
          rw [if_pos c_36]
theorem sp_O_unfold (hf : l.stackTraces = false) (hT : zz_Tx g K R t n) (hU : zz_Tx g K R u m) (hd : t + 2 ≤ u ∨ u + 2 ≤ t) (hx : zz_tx I t n xs) : zz_S g l mm_O_unfold 0 0 [.ref t, .ref u] (K, R, I, L, z) (fun v h' => ∃ I', h' = (K, R, I', L, z) ∧ v = none ∧ zz_tx I' u m (zz_unf m 1 false xs []) ∧ zz_fr u (u + 2) I I') zz_no := by
  have k1 := hU.1
  refine z_start hf rfl (by decide +kernel) (Nat.le_of_ble_eq_true rfl) ?_
  dsimp only [zz_lv0]
  refine z_aload_n ee_O_unfold_0 rfl ?_
  -- at 1
  refine z_callV (As := []) ee_O_unfold_1 kk_O_unfold_9 rfl (by assumption) rfl rfl (Nat.le_of_ble_eq_true rfl) (by omega) (sp_T_clear hf hU) (fun E h1 hx => hx.elim) (fun v h1 hq => ?_)
  obtain ⟨I2, rfl, rfl, hx2, hfr2⟩ := hq
  refine z_iconst ee_O_unfold_4 (v := nI 1) (by decide) ?_
  refine z_istore_m ee_O_unfold_5 (j := 2) rfl (by decide) ?_
  refine z_iconst ee_O_unfold_6 (v := nI 0) (by decide) ?_
  refine z_istore_m ee_O_unfold_7 (j := 3) rfl (by decide) ?_
  refine z_iconst ee_O_unfold_8 (v := nI 0) (by decide) ?_
  refine z_istore ee_O_unfold_9 (by decide) ?_
  -- at 11
  exact zz_unf_loop hf hT hU hd hx xs 0 1 false [] I2 rfl (Nat.zero_le _) (by omega) hx2 hfr2
end Code2
