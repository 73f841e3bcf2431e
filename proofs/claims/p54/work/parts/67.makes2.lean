/-! THE LAW: makes, walked -/
section Makes
variable {g : zz_G} {l : Launch} {K : Nat → Nat × Nat} {R R0 : Nat → Nat → Option Nat} {I I0 : Nat → Nat → Int32} {L L0 : Nat → Nat → Int64} {z z0 B q n : Nat} {v w : zz_OV}
/-- what makes leaves -/
def zk_W (v : zz_OV) : Prop := ∃ mk nr, zk_M mk nr v ∧ 0 < mk ∧ mk ≤ 7 ∧ 2 ≤ nr ∧ ov_m v = []
theorem sp_L_makes (hf : l.stackTraces = false) (hEv : zz_Ev g K R0 I0 q n) (hW : zz_Lw g K B z0 R0 I0 L0 v R I L z) (hM : zk_M 0 0 v) : zz_S g l mm_L_makes 1810 33600 [.ref B, .ref q] (K, R, I, L, z) (fun a h' => ∃ w, zk_W w ∧ zz_LW g K B z0 R0 I0 L0 (some (.int (nI 1))) w a h') zz_no := by
  have hk := hW.1.1.1.1
  have hq0 := hEv.2.2.1
  have hn0 := hEv.2.2.2.1
  have last : ∀ (ce sl mk nr : Nat) (v : zz_OV) R I L z (lv : List (Option Value)), zz_le [some (.ref B), some (.ref q), none, some (.int (nI mk))] lv → ce ≤ 1805 → sl ≤ 33570 → zk_M mk nr v → 0 < mk → mk ≤ 7 → 2 ≤ nr → zz_Lw g K B z0 R0 I0 L0 v R I L z →
      Zz g l mm_L_makes 1810 33600 (fun a h' => ∃ w, zk_W w ∧ zz_LW g K B z0 R0 I0 L0 (some (.int (nI 1))) w a h') zz_no ce sl 184 lv [] (K, R, I, L, z) := by
    intro ce sl mk nr v R I L z lv hlv hce hsl hM hmk hmk7 hnr hW
    refine z_lvk ?_ hlv
    have hm0 := hW.hist.2.1
    refine z_aload_n ee_L_makes_184 rfl ?_
    -- at 185
    refine z_callV (As := []) ee_L_makes_185 kk_L_makes_167 rfl (by assumption) rfl rfl (Nat.le_of_ble_eq_true rfl) (by omega) (sx_P_clearMessage hf hW) (fun E h1 hx => hx.elim) (fun v h1 hq => ?_)
    obtain ⟨R1, I1, L1, z1, rfl, rfl, hW⟩ := hq
    refine z_if_lt ee_L_makes_188 (tgt := 199) (by decide) (fun c_188 => ?_) (fun c_188 => ?_)
    -- at 188
    · simp (disch := omega) only [zi_lt, zi_le, zi_eq, zi_n, zi_0, zi_m1] at c_188
      omega
    · refine z_iload_n ee_L_makes_191 rfl ?_
      refine z_if_le ee_L_makes_192 (tgt := 199) (by decide) (fun c_192 => ?_) (fun c_192 => ?_)
      -- at 192
      · simp (disch := omega) only [zi_lt, zi_le, zi_eq, zi_n, zi_0, zi_m1] at c_192
        omega
      · refine z_iconst ee_L_makes_195 (v := nI 1) (by decide) ?_
        refine z_goto ee_L_makes_196 (tgt := 200) (by decide) ?_
        refine z_zret ee_L_makes_200 (ty := .boolean) rfl (by decide) (by omega) (by omega) ?_
        -- at 200
        exact ⟨ow_m v [], ⟨mk, nr, hM.m, hmk, hmk7, hnr, rfl⟩, _, _, _, _, rfl, rfl, hW⟩
  have loop2 : ∀ (k i ce sl mk nr : Nat) (v : zz_OV) R I L z, k + i = 7 → ce ≤ 4 + 257 * i → sl ≤ 24 + 4782 * i → mk ≤ i → (i = 0 ∨ 0 < mk) → zk_M mk nr v → 2 ≤ nr → nr ≤ 4 → zz_Lw g K B z0 R0 I0 L0 v R I L z →
      Zz g l mm_L_makes 1810 33600 (fun a h' => ∃ w, zk_W w ∧ zz_LW g K B z0 R0 I0 L0 (some (.int (nI 1))) w a h') zz_no ce sl 52 [some (.ref B), some (.ref q), some (.int (nI nr)), some (.int (nI mk)), some (.int (nI i))] [] (K, R, I, L, z) := by
    intro k
    induction k with
    | zero =>
      intro i ce sl mk nr v R I L z hi hce hsl hmk hmi hM hnr hnr4 hW
      have hk := hW.1.1.1.1
      refine z_iload ee_L_makes_52 rfl ?_
      refine z_bipush ee_L_makes_54 (v := nI 7) (by decide) ?_
      refine z_icmp_ge ee_L_makes_56 (tgt := 143) (by decide) (fun c_56 => ?_) (fun c_56 => ?_)
      -- at 56
      · refine z_aload_n ee_L_makes_143 rfl ?_
        -- at 144
        refine z_callV (As := []) ee_L_makes_144 kk_L_makes_220 rfl (by assumption) rfl rfl (Nat.le_of_ble_eq_true rfl) (by omega) (sx_P_telegramCount hf hW) (fun E h1 hx => hx.elim) (fun v h1 hq => ?_)
        obtain ⟨R1, I1, L1, z1, rfl, rfl, hW⟩ := hq
        refine z_if_le ee_L_makes_147 (tgt := 184) (by decide) (fun c_147 => ?_) (fun c_147 => ?_)
        -- at 147
        · exact last ce sl mk nr v _ _ _ _ _ (by repeat (first | exact trivial | refine ⟨rfl, ?_⟩)) (by omega) (by omega) hM (by omega) (by omega) hnr hW
        · refine z_aload_n ee_L_makes_150 rfl ?_
          refine z_bipush ee_L_makes_151 (v := nI 20) (by decide) ?_
          -- at 153
          refine z_callS (As := [_, _]) ee_L_makes_153 kk_L_makes_184 rfl rfl (Nat.le_of_ble_eq_true rfl) (by omega) (sp_L_at hf hq0 hn0 20 (by omega)) (fun E h1 hx => hx.elim) (fun v h1 hq => ?_)
          obtain ⟨rfl, xv, rfl⟩ := hq
          refine z_iconst ee_L_makes_156 (v := nI 1) (by decide) ?_
          refine z_iand ee_L_makes_157 ?_
          refine z_if_ne ee_L_makes_158 (tgt := 184) (by decide) (fun c_158 => ?_) (fun c_158 => ?_)
          -- at 158
          · exact last ce sl mk nr v _ _ _ _ _ (by repeat (first | exact trivial | refine ⟨rfl, ?_⟩)) (by omega) (by omega) hM (by omega) (by omega) hnr hW
          · refine z_aload_n ee_L_makes_161 rfl ?_
            refine z_iconst ee_L_makes_162 (v := nI 1) (by decide) ?_
            refine z_aload_n ee_L_makes_163 rfl ?_
            refine z_bipush ee_L_makes_164 (v := nI 20) (by decide) ?_
            -- at 166
            refine z_callS (As := [_, _]) ee_L_makes_166 kk_L_makes_184 rfl rfl (Nat.le_of_ble_eq_true rfl) (by omega) (sp_L_at hf hq0 hn0 20 (by omega)) (fun E h1 hx => hx.elim) (fun v h1 hq => ?_)
            obtain ⟨rfl, xw, rfl⟩ := hq
            refine z_iconst ee_L_makes_169 (v := nI 2) (by decide) ?_
            refine z_ishr ee_L_makes_170 ?_
            refine z_iconst ee_L_makes_171 (v := nI 5) (by decide) ?_
            -- at 172
            refine z_callS (As := [_, _]) ee_L_makes_172 kk_L_makes_190 rfl rfl (Nat.le_of_ble_eq_true rfl) (by omega) (sp_L_some hf _ 5 (by omega) (by omega)) (fun E h1 hx => hx.elim) (fun v h1 hq => ?_)
            obtain ⟨rfl, j, hj, rfl⟩ := hq
            refine z_iadd ee_L_makes_175 ?_
            rw [nI_add]
            obtain ⟨hrs, kv, w, hkv, e, hM⟩ := zk_M_age hM (by omega) (j := 1 + j) (by omega) (by omega)
            refine z_callX (As := [_, _]) ee_L_makes_176 kk_L_makes_223 rfl rfl (Nat.le_of_ble_eq_true rfl) (by omega) (sx_age hf hW (nI (1 + j)) hrs _ e kv rfl (fun E h => by cases h)) (fun E h1 hx => hx.elim) (fun v h1 hq => ?_)
            obtain ⟨R1, I1, L1, z1, rfl, rfl, hW⟩ := hq
            refine z_if_ge ee_L_makes_179 (tgt := 184) (by decide) (fun c_179 => ?_) (fun c_179 => ?_)
            -- at 179
            · exact last _ _ mk nr w _ _ _ _ _ (by repeat (first | exact trivial | refine ⟨rfl, ?_⟩)) (by omega) (by omega) hM (by omega) (by omega) hnr hW
            · exact absurd hkv c_179
      · simp (disch := omega) only [zi_lt, zi_le, zi_eq, zi_n, zi_0, zi_m1] at c_56
        omega
    | succ k ih =>
      intro i ce sl mk nr v R I L z hi hce hsl hmk hmi hM hnr hnr4 hW
      refine z_iload ee_L_makes_52 rfl ?_
      refine z_bipush ee_L_makes_54 (v := nI 7) (by decide) ?_
      refine z_icmp_ge ee_L_makes_56 (tgt := 143) (by decide) (fun c_56 => ?_) (fun c_56 => ?_)
      -- at 56
      · simp (disch := omega) only [zi_lt, zi_le, zi_eq, zi_n, zi_0, zi_m1] at c_56
        omega
      · refine z_aload_n ee_L_makes_59 rfl ?_
        refine z_aload_n ee_L_makes_60 rfl ?_
        refine z_iconst ee_L_makes_61 (v := nI 3) (by decide) ?_
        refine z_iload ee_L_makes_62 rfl ?_
        -- at 64
        refine z_imul ee_L_makes_64 ?_
        rw [pk_mul]
        refine z_iconst ee_L_makes_65 (v := nI 2) (by decide) ?_
        -- at 66
        refine z_iadd ee_L_makes_66 ?_
        rw [nI_add]
        refine z_nu (fun hAz hnu => ?_)
        have hEvz := hEv.lw hW
        refine z_callS (As := [_, _]) ee_L_makes_67 kk_L_makes_209 rfl rfl (Nat.le_of_ble_eq_true rfl) (by omega) (sp_L_text hf hEvz (3 * i + 2) (by omega)) (fun E h1 hx => hx.elim) (fun v h1 hq => ?_)
        obtain ⟨K1, R1, I1, L1, z1, s, sa, xs, rfl, rfl, hz1, hk1, hG, hx, hnw, hl31, hl0⟩ := hq
        refine z_ltO hG.1 (fun hsz => ?_)
        refine z_ltA hG.2.2.1 (fun hsaz => ?_)
        have hW1 := hW.lk hk1 hz1
        have hbs := hnw.bs hW hsz hsaz
        have hq1 : K1 q = zz_a 0 n := (hEv.lk hW hk1).2.2.1
        refine z_callS (As := [_, _]) ee_L_makes_70 kk_L_makes_213 rfl rfl (Nat.le_of_ble_eq_true rfl) (by omega) (sp_L_types hf hW1 hG hbs hx (by omega)) (fun E h1 hx => hx.elim) (fun v h1 hq => ?_)
        obtain ⟨R2, I2, L2, z2, rfl, rfl, hW2⟩ := hq
        refine z_if_ne ee_L_makes_73 (tgt := 78) (by decide) (fun c_73 => ?_) (fun c_73 => ?_)
        -- at 73
        · refine z_aload_n ee_L_makes_78 rfl ?_
          refine z_aload_n ee_L_makes_79 rfl ?_
          refine z_iload ee_L_makes_80 rfl ?_
          refine z_iconst ee_L_makes_82 (v := nI 5) (by decide) ?_
          -- at 83
          refine z_iadd ee_L_makes_83 ?_
          rw [nI_add]
          refine z_callS (As := [_, _]) ee_L_makes_84 kk_L_makes_184 rfl rfl (Nat.le_of_ble_eq_true rfl) (by omega) (sp_L_at hf hq1 hn0 (i + 5) (by omega)) (fun E h1 hx => hx.elim) (fun v h1 hq => ?_)
          obtain ⟨rfl, xv, rfl⟩ := hq
          refine z_iload_n ee_L_makes_87 rfl ?_
          -- at 88
          refine z_callS (As := [_, _]) ee_L_makes_88 kk_L_makes_190 rfl rfl (Nat.le_of_ble_eq_true rfl) (by omega) (sp_L_some hf xv nr (by omega) (by omega)) (fun E h1 hx => hx.elim) (fun v h1 hq => ?_)
          obtain ⟨rfl, j, hj, rfl⟩ := hq
          refine z_aload_n ee_L_makes_91 rfl ?_
          refine z_iload ee_L_makes_92 rfl ?_
          refine z_bipush ee_L_makes_94 (v := nI 9) (by decide) ?_
          -- at 96
          refine z_iadd ee_L_makes_96 ?_
          rw [nI_add]
          refine z_callS (As := [_, _]) ee_L_makes_97 kk_L_makes_184 rfl rfl (Nat.le_of_ble_eq_true rfl) (by omega) (sp_L_at hf hq1 hn0 (i + 9) (by omega)) (fun E h1 hx => hx.elim) (fun v h1 hq => ?_)
          obtain ⟨rfl, xw, rfl⟩ := hq
          refine z_bipush ee_L_makes_100 (v := nI 10) (by decide) ?_
          -- at 102
          refine z_callS (As := [_, _]) ee_L_makes_102 kk_L_makes_190 rfl rfl (Nat.le_of_ble_eq_true rfl) (by omega) (sp_L_some hf xw 10 (by omega) (by omega)) (fun E h1 hx => hx.elim) (fun v h1 hq => ?_)
          obtain ⟨rfl, jp, hjp, rfl⟩ := hq
          obtain ⟨hrs, r, w, er, hcase⟩ := zk_M_carve (hM.m (xs := xs)) (by omega) hj hjp hx hl0 hl31
          rcases hcase with ⟨rfl, hMw⟩ | ⟨rfl, hMw, hmk0⟩
          · refine z_callX (As := [_, _, _]) ee_L_makes_105 kk_L_makes_217 rfl rfl (Nat.le_of_ble_eq_true rfl) (by omega) (sx_carve hf hW2 (nI j) (nI jp) hrs _ er (nI mk) rfl (fun E h => by cases h)) (fun E h1 hx => hx.elim) (fun v h1 hq => ?_)
            obtain ⟨R3, I3, L3, z3, rfl, rfl, hW3⟩ := hq
            refine z_istore ee_L_makes_108 (by decide) ?_
            refine z_iload ee_L_makes_110 rfl ?_
            refine z_if_lt ee_L_makes_112 (tgt := 127) (by decide) (fun c_112 => ?_) (fun c_112 => ?_)
            -- at 112
            · simp (disch := omega) only [zi_lt, zi_le, zi_eq, zi_n, zi_0, zi_m1] at c_112
              omega
            · refine z_iload ee_L_makes_115 rfl ?_
              refine z_iload_n ee_L_makes_117 rfl ?_
              refine z_iinc ee_L_makes_118 rfl rfl (by decide) ?_
              refine z_icmp_eq ee_L_makes_121 (tgt := 137) (by decide) (fun c_121 => ?_) (fun c_121 => ?_)
              -- at 121
              · refine z_forget hk1.1 hnu ?_
                refine z_iinc ee_L_makes_137 rfl rfl (by decide) ?_
                refine z_goto ee_L_makes_140 (tgt := 52) (by decide) ?_
                -- at 52
                rw [zz_iinc1, zz_iinc1]
                exact z_lvk (ih (i + 1) _ _ (mk + 1) nr w _ _ _ _ (by omega) (by omega) (by omega) (by omega) (Or.inr (by omega)) hMw hnr hnr4 (hW.unlk hk1 hz1 hW3)) (by repeat (first | exact trivial | refine ⟨rfl, ?_⟩))
              · exact absurd rfl c_121
          · refine z_callX (As := [_, _, _]) ee_L_makes_105 kk_L_makes_217 rfl rfl (Nat.le_of_ble_eq_true rfl) (by omega) (sx_carve hf hW2 (nI j) (nI jp) hrs _ er (-1003) zfc3 (fun E h => by cases h; exact Or.inr (Or.inr rfl))) (fun E h1 hx => hx.elim) (fun v h1 hq => ?_)
            obtain ⟨R3, I3, L3, z3, rfl, rfl, hW3⟩ := hq
            refine z_istore ee_L_makes_108 (by decide) ?_
            refine z_iload ee_L_makes_110 rfl ?_
            refine z_if_lt ee_L_makes_112 (tgt := 127) (by decide) (fun c_112 => ?_) (fun c_112 => ?_)
            -- at 112
            · refine z_iload ee_L_makes_127 rfl ?_
              refine z_sipush ee_L_makes_129 (v := -1003) (by decide) ?_
              refine z_icmp_eq ee_L_makes_132 (tgt := 137) (by decide) (fun c_132 => ?_) (fun c_132 => ?_)
              -- at 132
              · refine z_forget hk1.1 hnu ?_
                refine z_iinc ee_L_makes_137 rfl rfl (by decide) ?_
                refine z_goto ee_L_makes_140 (tgt := 52) (by decide) ?_
                -- at 52
                rw [zz_iinc1]
                exact z_lvk (ih (i + 1) _ _ mk nr w _ _ _ _ (by omega) (by omega) (by omega) (by omega) (Or.inr hmk0) hMw hnr hnr4 (hW.unlk hk1 hz1 hW3)) (by repeat (first | exact trivial | refine ⟨rfl, ?_⟩))
              · exact absurd rfl c_132
            · exact absurd (by decide) c_112
        · exact absurd c_73 (by decide)
  have loop1 : ∀ (k i nr : Nat) (v : zz_OV) R I L z, k + i = nr → 2 ≤ nr → nr ≤ 4 → zk_M 0 i v → zz_Lw g K B z0 R0 I0 L0 v R I L z →
      Zz g l mm_L_makes 1810 33600 (fun a h' => ∃ w, zk_W w ∧ zz_LW g K B z0 R0 I0 L0 (some (.int (nI 1))) w a h') zz_no i (6 * i) 14 [some (.ref B), some (.ref q), some (.int (nI nr)), some (.int (nI i))] [] (K, R, I, L, z) := by
    intro k
    induction k with
    | zero =>
      intro i nr v R I L z hi h2 h4 hM hW
      refine z_iload_n ee_L_makes_14 rfl ?_
      refine z_iload_n ee_L_makes_15 rfl ?_
      refine z_icmp_ge ee_L_makes_16 (tgt := 47) (by decide) (fun c_16 => ?_) (fun c_16 => ?_)
      -- at 16
      · refine z_iconst ee_L_makes_47 (v := nI 0) (by decide) ?_
        refine z_istore_m ee_L_makes_48 (j := 3) rfl (by decide) ?_
        refine z_iconst ee_L_makes_49 (v := nI 0) (by decide) ?_
        refine z_istore ee_L_makes_50 (by decide) ?_
        -- at 52
        have e : i = nr := by omega
        subst e
        exact z_lvk (loop2 7 0 _ _ 0 i v _ _ _ _ rfl (by omega) (by omega) (by omega) (Or.inl rfl) hM h2 h4 hW) (by repeat (first | exact trivial | refine ⟨rfl, ?_⟩))
      · simp (disch := omega) only [zi_lt, zi_le, zi_eq, zi_n, zi_0, zi_m1] at c_16
        omega
    | succ k ih =>
      intro i nr v R I L z hi h2 h4 hM hW
      refine z_iload_n ee_L_makes_14 rfl ?_
      refine z_iload_n ee_L_makes_15 rfl ?_
      refine z_icmp_ge ee_L_makes_16 (tgt := 47) (by decide) (fun c_16 => ?_) (fun c_16 => ?_)
      -- at 16
      · simp (disch := omega) only [zi_lt, zi_le, zi_eq, zi_n, zi_0, zi_m1] at c_16
        omega
      · refine z_aload_n ee_L_makes_19 rfl ?_
        refine z_aload_n ee_L_makes_20 rfl ?_
        refine z_iconst ee_L_makes_21 (v := nI 1) (by decide) ?_
        refine z_iload_n ee_L_makes_22 rfl ?_
        -- at 23
        refine z_iadd ee_L_makes_23 ?_
        rw [nI_add]
        refine z_callS (As := [_, _]) ee_L_makes_24 kk_L_makes_184 rfl rfl (Nat.le_of_ble_eq_true rfl) (by omega) (sp_L_at hf hq0 hn0 (1 + i) (by omega)) (fun E h1 hx => hx.elim) (fun v h1 hq => ?_)
        obtain ⟨rfl, xv, rfl⟩ := hq
        refine z_bipush ee_L_makes_27 (v := nI 6) (by decide) ?_
        -- at 29
        refine z_callS (As := [_, _]) ee_L_makes_29 kk_L_makes_190 rfl rfl (Nat.le_of_ble_eq_true rfl) (by omega) (sp_L_some hf xv 6 (by omega) (by omega)) (fun E h1 hx => hx.elim) (fun v h1 hq => ?_)
        obtain ⟨rfl, j, hj, rfl⟩ := hq
        obtain ⟨hrs, w, e, hMw⟩ := zk_M_root hM (by omega) hj
        refine z_callX (As := [_, _]) ee_L_makes_32 kk_L_makes_207 rfl rfl (Nat.le_of_ble_eq_true rfl) (by omega) (sx_addRoot hf hW (nI j) hrs _ e (nI i) rfl (fun E h => by cases h)) (fun E h1 hx => hx.elim) (fun v h1 hq => ?_)
        obtain ⟨R3, I3, L3, z3, rfl, rfl, hW⟩ := hq
        refine z_iload_n ee_L_makes_35 rfl ?_
        refine z_icmp_eq ee_L_makes_36 (tgt := 41) (by decide) (fun c_36 => ?_) (fun c_36 => ?_)
        -- at 36
        · refine z_iinc ee_L_makes_41 rfl rfl (by decide) ?_
          refine z_goto ee_L_makes_44 (tgt := 14) (by decide) ?_
          -- at 14
          rw [zz_iinc1]
          exact z_wid (by omega) (by omega) (z_lvk (ih (i + 1) nr w _ _ _ _ (by omega) h2 h4 hMw hW) (by repeat (first | exact trivial | refine ⟨rfl, ?_⟩)))
        · exact absurd rfl c_36
  refine z_start hf rfl (by decide +kernel) (Nat.le_of_ble_eq_true rfl) ?_
  dsimp only [zz_lv0]
  refine z_iconst ee_L_makes_0 (v := nI 2) (by decide) ?_
  refine z_aload_n ee_L_makes_1 rfl ?_
  refine z_iconst ee_L_makes_2 (v := nI 0) (by decide) ?_
  -- at 3
  refine z_callS (As := [_, _]) ee_L_makes_3 kk_L_makes_184 rfl rfl (Nat.le_of_ble_eq_true rfl) (by omega) (sp_L_at hf hq0 hn0 0 (by omega)) (fun E h1 hx => hx.elim) (fun v h1 hq => ?_)
  obtain ⟨rfl, xv, rfl⟩ := hq
  refine z_iconst ee_L_makes_6 (v := nI 3) (by decide) ?_
  -- at 7
  refine z_callS (As := [_, _]) ee_L_makes_7 kk_L_makes_190 rfl rfl (Nat.le_of_ble_eq_true rfl) (by omega) (sp_L_some hf xv 3 (by omega) (by omega)) (fun E h1 hx => hx.elim) (fun v h1 hq => ?_)
  obtain ⟨rfl, j, hj, rfl⟩ := hq
  refine z_iadd ee_L_makes_10 ?_
  rw [nI_add]
  refine z_istore_m ee_L_makes_11 (j := 2) rfl (by decide) ?_
  refine z_iconst ee_L_makes_12 (v := nI 0) (by decide) ?_
  refine z_istore_m ee_L_makes_13 (j := 3) rfl (by decide) ?_
  -- at 14
  exact loop1 (2 + j) 0 (2 + j) v _ _ _ _ (by omega) (by omega) (by omega) hM hW
end Makes
