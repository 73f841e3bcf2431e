/-! THE LAW: its first object -/
section LawE
variable {g : zz_G} {l : Launch} {K : Nat → Nat × Nat} {R R0 : Nat → Nat → Option Nat} {I I0 : Nat → Nat → Int32} {L L0 : Nat → Nat → Int64} {z z0 B q n : Nat} {v w : zz_OV} {Q : Option Value → zz_H → Prop} {mc ms : Nat}
/-- feeding 60 characters -/
theorem zk_feed60 (hf : l.stackTraces = false) (ce sl : Nat) (hm : ce + 60 ≤ mc ∧ sl + 360 ≤ ms)
    (kk : ∀ R I L z (lv : List (Option Value)), zz_le [some (.ref q), some (.ref B)] lv → zz_Lw g K B z0 R0 I0 L0 ve3 R I L z → Zz g l mm_law mc ms Q zz_no (ce + 60) (sl + 360) 86 lv [] (K, R, I, L, z)) :
    ∀ (k i : Nat) R I L z, k + i = 60 → zz_Lw g K B z0 R0 I0 L0 (ow_b ve2 ((List.range i).map fun i => nI (65 + i))) R I L z → Zz g l mm_law mc ms Q zz_no (ce + i) (sl + 6 * i) 57 [some (.ref q), some (.ref B), some (.int (nI i))] [] (K, R, I, L, z) := by
  intro k
  induction k with
  | zero =>
    intro i R I L z hi hW
    have e : i = 60 := by omega
    subst e
    rw [te5] at hW
    refine z_iload_n ee_law_57 rfl ?_
    refine z_bipush ee_law_58 (v := nI 60) (by decide) ?_
    refine z_icmp_ge ee_law_60 (tgt := 86) (by decide) (fun c_60 => ?_) (fun c_60 => ?_)
    -- at 60
    · exact z_wid (by omega) (by omega) (kk R I L z _ (by repeat (first | exact trivial | refine ⟨rfl, ?_⟩)) hW)
    · simp (disch := omega) only [zi_lt, zi_le, zi_eq, zi_n, zi_0, zi_m1] at c_60
      omega
  | succ k ih =>
    intro i R I L z hi hW
    refine z_iload_n ee_law_57 rfl ?_
    refine z_bipush ee_law_58 (v := nI 60) (by decide) ?_
    refine z_icmp_ge ee_law_60 (tgt := 86) (by decide) (fun c_60 => ?_) (fun c_60 => ?_)
    -- at 60
    · simp (disch := omega) only [zi_lt, zi_le, zi_eq, zi_n, zi_0, zi_m1] at c_60
      omega
    · refine z_aload_n ee_law_63 rfl ?_
      refine z_bipush ee_law_64 (v := nI 65) (by decide) ?_
      refine z_iload_n ee_law_66 rfl ?_
      -- at 67
      refine z_iadd ee_law_67 ?_
      rw [nI_add]
      refine z_i2c ee_law_68 (zz_and255 (65 + i) (by omega)).2 ?_
      have hlen : ((List.range i).map fun i => nI (65 + i)).length = i := by simp
      refine z_callX (As := [_, _]) ee_law_69 kk_law_159 rfl rfl (Nat.le_of_ble_eq_true rfl) (by omega) (sx_feed hf hW (nI (65 + i)) (zz_ch_n (by omega)) (.inl (nI (i + 1)), ow_b ve2 ((List.range (i + 1)).map fun i => nI (65 + i))) (by unfold po_feed; rw [if_neg (by show ¬ 60 ≤ ((List.range i).map fun i => nI (65 + i)).length; omega)]; show (Sum.inl (nI (((List.range i).map fun i => nI (65 + i)).length + 1)), ow_b ve2 (((List.range i).map fun i => nI (65 + i)) ++ [nI (65 + i)])) = _; rw [hlen, List.range_succ, List.map_append]; rfl) _ rfl (fun E h => by cases h)) (fun E h1 hx => hx.elim) (fun v h1 hq => ?_)
      obtain ⟨R1, I1, L1, z1, rfl, rfl, hW⟩ := hq
      refine z_iload_n ee_law_72 rfl ?_
      refine z_iconst ee_law_73 (v := nI 1) (by decide) ?_
      -- at 74
      refine z_iadd ee_law_74 ?_
      rw [nI_add]
      refine z_icmp_eq ee_law_75 (tgt := 80) (by decide) (fun c_75 => ?_) (fun c_75 => ?_)
      -- at 75
      · refine z_iinc ee_law_80 rfl rfl (by decide) ?_
        refine z_goto ee_law_83 (tgt := 57) (by decide) ?_
        -- at 57
        rw [zz_iinc1]
        exact z_lvk (z_wid (by omega) (by omega) (ih (i + 1) _ _ _ _ (by omega) hW)) (by repeat (first | exact trivial | refine ⟨rfl, ?_⟩))
      · exact absurd rfl c_75
/-- typing 40 characters -/
theorem zk_type40 (hf : l.stackTraces = false) (ce sl : Nat) (hm : ce + 40 ≤ mc ∧ sl + 240 ≤ ms)
    (kk : ∀ R I L z (lv : List (Option Value)), zz_le [some (.ref q), some (.ref B)] lv → zz_Lw g K B z0 R0 I0 L0 ve7 R I L z → Zz g l mm_law mc ms Q zz_no (ce + 40) (sl + 240) 173 lv [] (K, R, I, L, z)) :
    ∀ (k i : Nat) R I L z, k + i = 40 → zz_Lw g K B z0 R0 I0 L0 (ow_m ve6 (List.replicate i (nI 120))) R I L z → Zz g l mm_law mc ms Q zz_no (ce + i) (sl + 6 * i) 147 [some (.ref q), some (.ref B), some (.int (nI i))] [] (K, R, I, L, z) := by
  intro k
  induction k with
  | zero =>
    intro i R I L z hi hW
    have e : i = 40 := by omega
    subst e
    rw [te10] at hW
    refine z_iload_n ee_law_147 rfl ?_
    refine z_bipush ee_law_148 (v := nI 40) (by decide) ?_
    refine z_icmp_ge ee_law_150 (tgt := 173) (by decide) (fun c_150 => ?_) (fun c_150 => ?_)
    -- at 150
    · exact z_wid (by omega) (by omega) (kk R I L z _ (by repeat (first | exact trivial | refine ⟨rfl, ?_⟩)) hW)
    · simp (disch := omega) only [zi_lt, zi_le, zi_eq, zi_n, zi_0, zi_m1] at c_150
      omega
  | succ k ih =>
    intro i R I L z hi hW
    refine z_iload_n ee_law_147 rfl ?_
    refine z_bipush ee_law_148 (v := nI 40) (by decide) ?_
    refine z_icmp_ge ee_law_150 (tgt := 173) (by decide) (fun c_150 => ?_) (fun c_150 => ?_)
    -- at 150
    · simp (disch := omega) only [zi_lt, zi_le, zi_eq, zi_n, zi_0, zi_m1] at c_150
      omega
    · refine z_aload_n ee_law_153 rfl ?_
      refine z_bipush ee_law_154 (v := nI 120) (by decide) ?_
      -- at 156
      have hlen : (List.replicate i (nI 120)).length = i := by simp
      refine z_callX (As := [_, _]) ee_law_156 kk_law_170 rfl rfl (Nat.le_of_ble_eq_true rfl) (by omega) (sx_type hf hW (nI 120) (zz_ch_n (by omega)) (.inl (nI (i + 1)), ow_m ve6 (List.replicate (i + 1) (nI 120))) (by unfold po_type; rw [if_neg (by decide), if_neg (by show ¬ 40 ≤ (List.replicate i (nI 120)).length; omega)]; show (Sum.inl (nI ((List.replicate i (nI 120)).length + 1)), ow_m ve6 (List.replicate i (nI 120) ++ [nI 120])) = _; rw [hlen, ← List.replicate_succ']) _ rfl (fun E h => by cases h)) (fun E h1 hx => hx.elim) (fun v h1 hq => ?_)
      obtain ⟨R1, I1, L1, z1, rfl, rfl, hW⟩ := hq
      refine z_iload_n ee_law_159 rfl ?_
      refine z_iconst ee_law_160 (v := nI 1) (by decide) ?_
      -- at 161
      refine z_iadd ee_law_161 ?_
      rw [nI_add]
      refine z_icmp_eq ee_law_162 (tgt := 167) (by decide) (fun c_162 => ?_) (fun c_162 => ?_)
      -- at 162
      · refine z_iinc ee_law_167 rfl rfl (by decide) ?_
        refine z_goto ee_law_170 (tgt := 147) (by decide) ?_
        -- at 147
        rw [zz_iinc1]
        exact z_lvk (z_wid (by omega) (by omega) (ih (i + 1) _ _ _ _ (by omega) hW)) (by repeat (first | exact trivial | refine ⟨rfl, ?_⟩))
      · exact absurd rfl c_162
/-- four roots -/
theorem zk_root4 (hf : l.stackTraces = false) (ce sl : Nat) (hm : ce + 4 ≤ mc ∧ sl + 24 ≤ ms)
    (kk : ∀ R I L z (lv : List (Option Value)), zz_le [some (.ref q), some (.ref B)] lv → zz_Lw g K B z0 R0 I0 L0 va4 R I L z → Zz g l mm_law mc ms Q zz_no (ce + 4) (sl + 24) 229 lv [] (K, R, I, L, z)) :
    ∀ (k i : Nat) R I L z, k + i = 4 → zz_Lw g K B z0 R0 I0 L0 (va i) R I L z → Zz g l mm_law mc ms Q zz_no (ce + i) (sl + 6 * i) 207 [some (.ref q), some (.ref B), some (.int (nI i))] [] (K, R, I, L, z) := by
  intro k
  induction k with
  | zero =>
    intro i R I L z hi hW
    have e : i = 4 := by omega
    subst e
    refine z_iload_n ee_law_207 rfl ?_
    refine z_iconst ee_law_208 (v := nI 4) (by decide) ?_
    refine z_icmp_ge ee_law_209 (tgt := 229) (by decide) (fun c_209 => ?_) (fun c_209 => ?_)
    -- at 209
    · exact z_wid (by omega) (by omega) (kk R I L z _ (by repeat (first | exact trivial | refine ⟨rfl, ?_⟩)) hW)
    · simp (disch := omega) only [zi_lt, zi_le, zi_eq, zi_n, zi_0, zi_m1] at c_209
      omega
  | succ k ih =>
    intro i R I L z hi hW
    refine z_iload_n ee_law_207 rfl ?_
    refine z_iconst ee_law_208 (v := nI 4) (by decide) ?_
    refine z_icmp_ge ee_law_209 (tgt := 229) (by decide) (fun c_209 => ?_) (fun c_209 => ?_)
    -- at 209
    · simp (disch := omega) only [zi_lt, zi_le, zi_eq, zi_n, zi_0, zi_m1] at c_209
      omega
    · refine z_aload_n ee_law_212 rfl ?_
      refine z_iconst ee_law_213 (v := nI 5) (by decide) ?_
      -- at 214
      refine z_callX (As := [_, _]) ee_law_214 kk_law_207 rfl rfl (Nat.le_of_ble_eq_true rfl) (by omega) (sx_addRoot hf hW (nI 5) (rs_okb (ta i (by omega)).1) _ (ta i (by omega)).2 _ rfl (fun E h => by cases h)) (fun E h1 hx => hx.elim) (fun v h1 hq => ?_)
      obtain ⟨R1, I1, L1, z1, rfl, rfl, hW⟩ := hq
      refine z_iload_n ee_law_217 rfl ?_
      refine z_icmp_eq ee_law_218 (tgt := 223) (by decide) (fun c_218 => ?_) (fun c_218 => ?_)
      -- at 218
      · refine z_iinc ee_law_223 rfl rfl (by decide) ?_
        refine z_goto ee_law_226 (tgt := 207) (by decide) ?_
        -- at 207
        rw [zz_iinc1]
        exact z_lvk (z_wid (by omega) (by omega) (ih (i + 1) _ _ _ _ (by omega) hW)) (by repeat (first | exact trivial | refine ⟨rfl, ?_⟩))
      · exact absurd rfl c_218
/-- nine telegrams, of which eight find room -/
theorem zk_carve9 (hf : l.stackTraces = false) (hEv : zz_Ev g K R0 I0 q n) (ce sl : Nat) (hm : ce + 369 ≤ mc ∧ sl + 2214 ≤ ms)
    (kk : ∀ R I L z (lv : List (Option Value)), zz_le [some (.ref q), some (.ref B)] lv → zz_Lw g K B z0 R0 I0 L0 vc9 R I L z → Zz g l mm_law mc ms Q zz_no (ce + 369) (sl + 2214) 277 lv [] (K, R, I, L, z)) :
    ∀ (k i : Nat) R I L z, k + i = 9 → zz_Lw g K B z0 R0 I0 L0 (vc i) R I L z → Zz g l mm_law mc ms Q zz_no (ce + 41 * i) (sl + 246 * i) 231 [some (.ref q), some (.ref B), some (.int (nI i))] [] (K, R, I, L, z) := by
  intro k
  induction k with
  | zero =>
    intro i R I L z hi hW
    have e : i = 9 := by omega
    subst e
    refine z_iload_n ee_law_231 rfl ?_
    refine z_bipush ee_law_232 (v := nI 9) (by decide) ?_
    refine z_icmp_ge ee_law_234 (tgt := 277) (by decide) (fun c_234 => ?_) (fun c_234 => ?_)
    -- at 234
    · exact z_wid (by omega) (by omega) (kk R I L z _ (by repeat (first | exact trivial | refine ⟨rfl, ?_⟩)) hW)
    · simp (disch := omega) only [zi_lt, zi_le, zi_eq, zi_n, zi_0, zi_m1] at c_234
      omega
  | succ k ih =>
    intro i R I L z hi hW
    obtain ⟨s21, b21⟩ := hEv.bs hW (k := 21) (by omega)
    refine z_iload_n ee_law_231 rfl ?_
    refine z_bipush ee_law_232 (v := nI 9) (by decide) ?_
    refine z_icmp_ge ee_law_234 (tgt := 277) (by decide) (fun c_234 => ?_) (fun c_234 => ?_)
    -- at 234
    · simp (disch := omega) only [zi_lt, zi_le, zi_eq, zi_n, zi_0, zi_m1] at c_234
      omega
    · refine z_aload_n ee_law_237 rfl ?_
      -- at 238
      refine z_ldcSW ee_law_238 ws_law_365 ?_
      refine z_callS (As := [_, _]) ee_law_241 kk_law_213 rfl rfl (Nat.le_of_ble_eq_true rfl) (by omega) (sp_L_types hf hW s21 b21 (by unfold zz_ax; decide +kernel) (by decide)) (fun E h1 hx => hx.elim) (fun v h1 hq => ?_)
      obtain ⟨R1, I1, L1, z1, rfl, rfl, hW⟩ := hq
      refine z_if_eq ee_law_244 (tgt := 269) (by decide) (fun c_244 => ?_) (fun c_244 => ?_)
      -- at 244
      · exact absurd c_244 (by decide)
      · refine z_aload_n ee_law_247 rfl ?_
        refine z_iconst ee_law_248 (v := nI 0) (by decide) ?_
        refine z_iload_n ee_law_249 rfl ?_
        -- at 250
        by_cases h8 : i < 8
        · refine z_callX (As := [_, _, _]) ee_law_250 kk_law_217 rfl rfl (Nat.le_of_ble_eq_true rfl) (by omega) (sx_carve hf hW (nI 0) (nI i) (rs_okb (tc i h8).1) _ (tc i h8).2 _ rfl (fun E h => by cases h)) (fun E h1 hx => hx.elim) (fun v h1 hq => ?_)
          obtain ⟨R1, I1, L1, z1, rfl, rfl, hW⟩ := hq
          refine z_iload_n ee_law_253 rfl ?_
          refine z_bipush ee_law_254 (v := nI 8) (by decide) ?_
          refine z_icmp_ge ee_law_256 (tgt := 263) (by decide) (fun c_256 => ?_) (fun c_256 => ?_)
          -- at 256
          · simp (disch := omega) only [zi_lt, zi_le, zi_eq, zi_n, zi_0, zi_m1] at c_256
            omega
          · refine z_iload_n ee_law_259 rfl ?_
            refine z_goto ee_law_260 (tgt := 266) (by decide) ?_
            refine z_icmp_eq ee_law_266 (tgt := 271) (by decide) (fun c_266 => ?_) (fun c_266 => ?_)
            -- at 266
            · refine z_iinc ee_law_271 rfl rfl (by decide) ?_
              refine z_goto ee_law_274 (tgt := 231) (by decide) ?_
              -- at 231
              rw [zz_iinc1]
              exact z_lvk (z_wid (by omega) (by omega) (ih (i + 1) _ _ _ _ (by omega) hW)) (by repeat (first | exact trivial | refine ⟨rfl, ?_⟩))
            · exact absurd rfl c_266
        · have e : i = 8 := by omega
          subst e
          refine z_callX (As := [_, _, _]) ee_law_250 kk_law_217 rfl rfl (Nat.le_of_ble_eq_true rfl) (by omega) (sx_carve hf hW (nI 0) (nI 8) (rs_okb tc8_r) _ tc8 (-1003) zfc3 (fun E h => by cases h; exact Or.inr (Or.inr rfl))) (fun E h1 hx => hx.elim) (fun v h1 hq => ?_)
          obtain ⟨R1, I1, L1, z1, rfl, rfl, hW⟩ := hq
          refine z_iload_n ee_law_253 rfl ?_
          refine z_bipush ee_law_254 (v := nI 8) (by decide) ?_
          refine z_icmp_ge ee_law_256 (tgt := 263) (by decide) (fun c_256 => ?_) (fun c_256 => ?_)
          -- at 256
          · refine z_sipush ee_law_263 (v := -1003) (by decide) ?_
            refine z_icmp_eq ee_law_266 (tgt := 271) (by decide) (fun c_266 => ?_) (fun c_266 => ?_)
            -- at 266
            · refine z_iinc ee_law_271 rfl rfl (by decide) ?_
              refine z_goto ee_law_274 (tgt := 231) (by decide) ?_
              -- at 231
              rw [zz_iinc1]
              exact z_lvk (z_wid (by omega) (by omega) (ih 9 _ _ _ _ (by omega) hW)) (by repeat (first | exact trivial | refine ⟨rfl, ?_⟩))
            · exact absurd rfl c_266
          · exact absurd (by decide) c_256
theorem zk_nI0 {k : Nat} (h : ¬ nI k = 0) : k ≠ 0 := fun e => h (by rw [e]; rfl)
/-- behind the nine -/
theorem zk_e3 (hf : l.stackTraces = false) (hEv : zz_Ev g K R0 I0 q n) (ce sl : Nat) (hm : ce + 70 ≤ mc ∧ sl + 420 ≤ ms)
    (kk : ∀ v R I L z (lv : List (Option Value)), zz_le [some (.ref q)] lv → zz_Lw g K B z0 R0 I0 L0 v R I L z → Zz g l mm_law mc ms Q zz_no (ce + 70) (sl + 420) 536 lv [] (K, R, I, L, z)) (hW : zz_Lw g K B z0 R0 I0 L0 vc9 R I L z) :
    Zz g l mm_law mc ms Q zz_no ce sl 277 [some (.ref q), some (.ref B)] [] (K, R, I, L, z) := by
  have hk := hW.1.1.1.1
  obtain ⟨s17, b17⟩ := hEv.bs hW (k := 17) (by omega)
  refine z_aload_n ee_law_277 rfl ?_
  refine z_iconst ee_law_278 (v := nI 1) (by decide) ?_
  refine z_bipush ee_law_279 (v := nI 8) (by decide) ?_
  -- at 281
  refine z_callS (As := [_, _, _]) ee_law_281 kk_law_328 rfl rfl (Nat.le_of_ble_eq_true rfl) (by omega) (sp_L_is hf hW (nI 1) (nI 8) (by decide) td0) (fun E h1 hx => hx.elim) (fun v h1 hq => ?_)
  obtain ⟨R1, I1, L1, z1, rfl, rfl, hW⟩ := hq
  refine z_if_eq ee_law_284 (tgt := 333) (by decide) (fun c_284 => ?_) (fun c_284 => ?_)
  -- at 284
  · exact absurd c_284 (by decide)
  · refine z_aload_n ee_law_287 rfl ?_
    -- at 288
    refine z_callV (As := []) ee_law_288 kk_law_167 rfl (by assumption) rfl rfl (Nat.le_of_ble_eq_true rfl) (by omega) (sx_P_clearMessage hf hW) (fun E h1 hx => hx.elim) (fun v h1 hq => ?_)
    obtain ⟨R1, I1, L1, z1, rfl, rfl, hW⟩ := hq
    rw [td2] at hW
    rw [td1]
    refine z_iconst ee_law_291 (v := nI 3) (by decide) ?_
    refine z_icmp_ne ee_law_292 (tgt := 333) (by decide) (fun c_292 => ?_) (fun c_292 => ?_)
    -- at 292
    · exact absurd rfl c_292
    · refine z_aload_n ee_law_295 rfl ?_
      refine z_iconst ee_law_296 (v := nI 0) (by decide) ?_
      -- at 297
      refine z_callX (As := [_, _]) ee_law_297 kk_law_260 rfl rfl (Nat.le_of_ble_eq_true rfl) (by omega) (sq_pagesIn hf hW (nI 0)) (fun E h1 hx => hx.elim) (fun v h1 hq => ?_)
      obtain ⟨R1, I1, L1, z1, rfl, rfl, hW⟩ := hq
      rw [td3]
      refine z_bipush ee_law_300 (v := nI 8) (by decide) ?_
      refine z_icmp_ne ee_law_302 (tgt := 333) (by decide) (fun c_302 => ?_) (fun c_302 => ?_)
      -- at 302
      · exact absurd rfl c_302
      · refine z_aload_n ee_law_305 rfl ?_
        refine z_iconst ee_law_306 (v := nI 3) (by decide) ?_
        -- at 307
        refine z_callX (As := [_, _]) ee_law_307 kk_law_223 rfl rfl (Nat.le_of_ble_eq_true rfl) (by omega) (sx_age hf hW (nI 3) (rs_okb td4_r) _ td4 _ rfl (fun E h => by cases h)) (fun E h1 hx => hx.elim) (fun v h1 hq => ?_)
        obtain ⟨R1, I1, L1, z1, rfl, rfl, hW⟩ := hq
        refine z_if_ne ee_law_310 (tgt := 333) (by decide) (fun c_310 => ?_) (fun c_310 => ?_)
        -- at 310
        · exact absurd rfl c_310
        · refine z_aload_n ee_law_313 rfl ?_
          refine z_iconst ee_law_314 (v := nI 1) (by decide) ?_
          -- at 315
          refine z_callX (As := [_, _]) ee_law_315 kk_law_223 rfl rfl (Nat.le_of_ble_eq_true rfl) (by omega) (sx_age hf hW (nI 1) (rs_okb td5_r) _ td5 _ rfl (fun E h => by cases h)) (fun E h1 hx => hx.elim) (fun v h1 hq => ?_)
          obtain ⟨R1, I1, L1, z1, rfl, rfl, hW⟩ := hq
          refine z_bipush ee_law_318 (v := nI 8) (by decide) ?_
          refine z_icmp_ne ee_law_320 (tgt := 333) (by decide) (fun c_320 => ?_) (fun c_320 => ?_)
          -- at 320
          · exact absurd rfl c_320
          · refine z_aload_n ee_law_323 rfl ?_
            refine z_iconst ee_law_324 (v := nI 0) (by decide) ?_
            -- at 325
            refine z_callX (As := [_, _]) ee_law_325 kk_law_304 rfl rfl (Nat.le_of_ble_eq_true rfl) (by omega) (sx_drop hf hW (nI 0) (rs_okb td6_r) _ td6 _ rfl (fun E h => by cases h)) (fun E h1 hx => hx.elim) (fun v h1 hq => ?_)
            obtain ⟨R1, I1, L1, z1, rfl, rfl, hW⟩ := hq
            refine z_bipush ee_law_328 (v := nI 7) (by decide) ?_
            refine z_icmp_eq ee_law_330 (tgt := 335) (by decide) (fun c_330 => ?_) (fun c_330 => ?_)
            -- at 330
            · refine z_aload_n ee_law_335 rfl ?_
              -- at 336
              refine z_callX (As := [_]) ee_law_336 kk_law_354 rfl rfl (Nat.le_of_ble_eq_true rfl) (by omega) (sx_undo hf hW _ tu_vu7 _ rfl (fun E h => by cases h)) (fun E h1 hx => hx.elim) (fun v h1 hq => ?_)
              obtain ⟨R1, I1, L1, z1, rfl, rfl, hW⟩ := hq
              refine z_bipush ee_law_339 (v := nI 7) (by decide) ?_
              refine z_icmp_ne ee_law_341 (tgt := 494) (by decide) (fun c_341 => ?_) (fun c_341 => ?_)
              -- at 341
              · exact absurd rfl c_341
              · refine z_aload_n ee_law_344 rfl ?_
                -- at 345
                refine z_callV (As := []) ee_law_345 kk_law_220 rfl (by assumption) rfl rfl (Nat.le_of_ble_eq_true rfl) (by omega) (sx_P_telegramCount hf hW) (fun E h1 hx => hx.elim) (fun v h1 hq => ?_)
                obtain ⟨R1, I1, L1, z1, rfl, rfl, hW⟩ := hq
                rw [show nI (sv_t (ov_s ((.inl (nI 7), vu7) : zz_PR).2)).length = nI 8 from tq0]
                refine z_bipush ee_law_348 (v := nI 8) (by decide) ?_
                refine z_icmp_ne ee_law_350 (tgt := 494) (by decide) (fun c_350 => ?_) (fun c_350 => ?_)
                -- at 350
                · exact absurd rfl c_350
                · refine z_aload_n ee_law_353 rfl ?_
                  -- at 354
                  refine z_callX (As := [_]) ee_law_354 kk_law_354 rfl rfl (Nat.le_of_ble_eq_true rfl) (by omega) (sx_undo hf hW _ tu_vu6 _ rfl (fun E h => by cases h)) (fun E h1 hx => hx.elim) (fun v h1 hq => ?_)
                  obtain ⟨R1, I1, L1, z1, rfl, rfl, hW⟩ := hq
                  refine z_bipush ee_law_357 (v := nI 6) (by decide) ?_
                  refine z_icmp_ne ee_law_359 (tgt := 494) (by decide) (fun c_359 => ?_) (fun c_359 => ?_)
                  -- at 359
                  · exact absurd rfl c_359
                  · refine z_aload_n ee_law_362 rfl ?_
                    -- at 363
                    refine z_callV (As := []) ee_law_363 kk_law_255 rfl (by assumption) rfl rfl (Nat.le_of_ble_eq_true rfl) (by omega) (sx_P_rottenPages hf hW) (fun E h1 hx => hx.elim) (fun v h1 hq => ?_)
                    obtain ⟨R1, I1, L1, z1, rfl, rfl, hW⟩ := hq
                    rw [show zz_crp (ov_s ((.inl (nI 6), vu6) : zz_PR).2) = nI 0 from tq1]
                    refine z_if_ne ee_law_366 (tgt := 494) (by decide) (fun c_366 => ?_) (fun c_366 => ?_)
                    -- at 366
                    · exact absurd rfl c_366
                    · refine z_aload_n ee_law_369 rfl ?_
                      refine z_bipush ee_law_370 (v := nI 7) (by decide) ?_
                      refine z_iconst ee_law_372 (v := nI 0) (by decide) ?_
                      -- at 373
                      refine z_callX (As := [_, _, _]) ee_law_373 kk_law_336 rfl rfl (Nat.le_of_ble_eq_true rfl) (by omega) (sq_rotOf hf hW (nI 7) (nI 0)) (fun E h1 hx => hx.elim) (fun v h1 hq => ?_)
                      obtain ⟨R1, I1, L1, z1, rfl, rfl, hW⟩ := hq
                      rw [show wk_rotOf (ov_s ((.inl (nI 6), vu6) : zz_PR).2) (nI 7) (nI 0) = nI 15 from tq2]
                      refine z_bipush ee_law_376 (v := nI 15) (by decide) ?_
                      refine z_icmp_ne ee_law_378 (tgt := 494) (by decide) (fun c_378 => ?_) (fun c_378 => ?_)
                      -- at 378
                      · exact absurd rfl c_378
                      · refine z_aload_n ee_law_381 rfl ?_
                        -- at 382
                        refine z_callX (As := [_]) ee_law_382 kk_law_354 rfl rfl (Nat.le_of_ble_eq_true rfl) (by omega) (sx_undo hf hW _ tu_vu5 _ rfl (fun E h => by cases h)) (fun E h1 hx => hx.elim) (fun v h1 hq => ?_)
                        obtain ⟨R1, I1, L1, z1, rfl, rfl, hW⟩ := hq
                        refine z_iconst ee_law_385 (v := nI 5) (by decide) ?_
                        refine z_icmp_ne ee_law_386 (tgt := 494) (by decide) (fun c_386 => ?_) (fun c_386 => ?_)
                        -- at 386
                        · exact absurd rfl c_386
                        · refine z_aload_n ee_law_389 rfl ?_
                          refine z_bipush ee_law_390 (v := nI 7) (by decide) ?_
                          refine z_iconst ee_law_392 (v := nI 0) (by decide) ?_
                          -- at 393
                          refine z_callX (As := [_, _, _]) ee_law_393 kk_law_336 rfl rfl (Nat.le_of_ble_eq_true rfl) (by omega) (sq_rotOf hf hW (nI 7) (nI 0)) (fun E h1 hx => hx.elim) (fun v h1 hq => ?_)
                          obtain ⟨R1, I1, L1, z1, rfl, rfl, hW⟩ := hq
                          rw [show wk_rotOf (ov_s ((.inl (nI 5), vu5) : zz_PR).2) (nI 7) (nI 0) = nI 0 from tq3]
                          refine z_if_ne ee_law_396 (tgt := 494) (by decide) (fun c_396 => ?_) (fun c_396 => ?_)
                          -- at 396
                          · exact absurd rfl c_396
                          · refine z_aload_n ee_law_399 rfl ?_
                            -- at 400
                            refine z_callX (As := [_]) ee_law_400 kk_law_354 rfl rfl (Nat.le_of_ble_eq_true rfl) (by omega) (sx_undo hf hW _ tu_vu4 _ rfl (fun E h => by cases h)) (fun E h1 hx => hx.elim) (fun v h1 hq => ?_)
                            obtain ⟨R1, I1, L1, z1, rfl, rfl, hW⟩ := hq
                            refine z_iconst ee_law_403 (v := nI 4) (by decide) ?_
                            refine z_icmp_ne ee_law_404 (tgt := 494) (by decide) (fun c_404 => ?_) (fun c_404 => ?_)
                            -- at 404
                            · exact absurd rfl c_404
                            · refine z_aload_n ee_law_407 rfl ?_
                              -- at 408
                              refine z_callV (As := []) ee_law_408 kk_law_220 rfl (by assumption) rfl rfl (Nat.le_of_ble_eq_true rfl) (by omega) (sx_P_telegramCount hf hW) (fun E h1 hx => hx.elim) (fun v h1 hq => ?_)
                              obtain ⟨R1, I1, L1, z1, rfl, rfl, hW⟩ := hq
                              rw [show nI (sv_t (ov_s ((.inl (nI 4), vu4) : zz_PR).2)).length = nI 7 from tq4]
                              refine z_bipush ee_law_411 (v := nI 7) (by decide) ?_
                              refine z_icmp_ne ee_law_413 (tgt := 494) (by decide) (fun c_413 => ?_) (fun c_413 => ?_)
                              -- at 413
                              · exact absurd rfl c_413
                              · refine z_aload_n ee_law_416 rfl ?_
                                -- at 417
                                refine z_callV (As := []) ee_law_417 kk_law_252 rfl (by assumption) rfl rfl (Nat.le_of_ble_eq_true rfl) (by omega) (sx_P_carvedCharacters hf hW) (fun E h1 hx => hx.elim) (fun v h1 hq => ?_)
                                obtain ⟨R1, I1, L1, z1, rfl, rfl, hW⟩ := hq
                                rw [show sv_c (ov_s ((.inl (nI 4), vu4) : zz_PR).2) = nI 21 from tq5]
                                refine z_bipush ee_law_420 (v := nI 21) (by decide) ?_
                                refine z_icmp_ne ee_law_422 (tgt := 494) (by decide) (fun c_422 => ?_) (fun c_422 => ?_)
                                -- at 422
                                · exact absurd rfl c_422
                                · refine z_aload_n ee_law_425 rfl ?_
                                  -- at 426
                                  refine z_callX (As := [_]) ee_law_426 kk_law_354 rfl rfl (Nat.le_of_ble_eq_true rfl) (by omega) (sx_undo hf hW _ tu_vu3 _ rfl (fun E h => by cases h)) (fun E h1 hx => hx.elim) (fun v h1 hq => ?_)
                                  obtain ⟨R1, I1, L1, z1, rfl, rfl, hW⟩ := hq
                                  refine z_iconst ee_law_429 (v := nI 3) (by decide) ?_
                                  refine z_icmp_ne ee_law_430 (tgt := 494) (by decide) (fun c_430 => ?_) (fun c_430 => ?_)
                                  -- at 430
                                  · exact absurd rfl c_430
                                  · refine z_aload_n ee_law_433 rfl ?_
                                    -- at 434
                                    refine z_callX (As := [_]) ee_law_434 kk_law_354 rfl rfl (Nat.le_of_ble_eq_true rfl) (by omega) (sx_undo hf hW _ tu_vu2 _ rfl (fun E h => by cases h)) (fun E h1 hx => hx.elim) (fun v h1 hq => ?_)
                                    obtain ⟨R1, I1, L1, z1, rfl, rfl, hW⟩ := hq
                                    refine z_iconst ee_law_437 (v := nI 2) (by decide) ?_
                                    refine z_icmp_ne ee_law_438 (tgt := 494) (by decide) (fun c_438 => ?_) (fun c_438 => ?_)
                                    -- at 438
                                    · exact absurd rfl c_438
                                    · refine z_aload_n ee_law_441 rfl ?_
                                      -- at 442
                                      refine z_callX (As := [_]) ee_law_442 kk_law_354 rfl rfl (Nat.le_of_ble_eq_true rfl) (by omega) (sx_undo hf hW _ tu_vu1 _ rfl (fun E h => by cases h)) (fun E h1 hx => hx.elim) (fun v h1 hq => ?_)
                                      obtain ⟨R1, I1, L1, z1, rfl, rfl, hW⟩ := hq
                                      refine z_iconst ee_law_445 (v := nI 1) (by decide) ?_
                                      refine z_icmp_ne ee_law_446 (tgt := 494) (by decide) (fun c_446 => ?_) (fun c_446 => ?_)
                                      -- at 446
                                      · exact absurd rfl c_446
                                      · refine z_aload_n ee_law_449 rfl ?_
                                        -- at 450
                                        refine z_callX (As := [_]) ee_law_450 kk_law_354 rfl rfl (Nat.le_of_ble_eq_true rfl) (by omega) (sx_undo hf hW _ tu_vu0 _ rfl (fun E h => by cases h)) (fun E h1 hx => hx.elim) (fun v h1 hq => ?_)
                                        obtain ⟨R1, I1, L1, z1, rfl, rfl, hW⟩ := hq
                                        refine z_if_ne ee_law_453 (tgt := 494) (by decide) (fun c_453 => ?_) (fun c_453 => ?_)
                                        -- at 453
                                        · exact absurd rfl c_453
                                        · refine z_aload_n ee_law_456 rfl ?_
                                          -- at 457
                                          refine z_callV (As := []) ee_law_457 kk_law_220 rfl (by assumption) rfl rfl (Nat.le_of_ble_eq_true rfl) (by omega) (sx_P_telegramCount hf hW) (fun E h1 hx => hx.elim) (fun v h1 hq => ?_)
                                          obtain ⟨R1, I1, L1, z1, rfl, rfl, hW⟩ := hq
                                          rw [show nI (sv_t (ov_s ((.inl (nI 0), vu0) : zz_PR).2)).length = nI 3 from tq6]
                                          refine z_iconst ee_law_460 (v := nI 3) (by decide) ?_
                                          refine z_icmp_ne ee_law_461 (tgt := 494) (by decide) (fun c_461 => ?_) (fun c_461 => ?_)
                                          -- at 461
                                          · exact absurd rfl c_461
                                          · refine z_aload_n ee_law_464 rfl ?_
                                            -- at 465
                                            refine z_callX (As := [_]) ee_law_465 kk_law_354 rfl rfl (Nat.le_of_ble_eq_true rfl) (by omega) (sx_undo hf hW _ tq7 (-1001) rfl (fun E h => by cases h; rfl)) (fun E h1 hx => hx.elim) (fun v h1 hq => ?_)
                                            obtain ⟨R1, I1, L1, z1, rfl, rfl, hW⟩ := hq
                                            refine z_sipush ee_law_468 (v := -1001) (by decide) ?_
                                            refine z_icmp_ne ee_law_471 (tgt := 494) (by decide) (fun c_471 => ?_) (fun c_471 => ?_)
                                            -- at 471
                                            · exact absurd rfl c_471
                                            · refine z_aload_n ee_law_474 rfl ?_
                                              -- at 475
                                              refine z_ldcSW ee_law_475 ws_law_343 ?_
                                              refine z_callS (As := [_, _]) ee_law_478 kk_law_213 rfl rfl (Nat.le_of_ble_eq_true rfl) (by omega) (sp_L_types hf hW s17 b17 (by unfold zz_ax; decide +kernel) (by decide)) (fun E h1 hx => hx.elim) (fun v h1 hq => ?_)
                                              obtain ⟨R1, I1, L1, z1, rfl, rfl, hW⟩ := hq
                                              refine z_if_eq ee_law_481 (tgt := 494) (by decide) (fun c_481 => ?_) (fun c_481 => ?_)
                                              -- at 481
                                              · exact absurd c_481 (by decide)
                                              · refine z_aload_n ee_law_484 rfl ?_
                                                refine z_iconst ee_law_485 (v := nI 1) (by decide) ?_
                                                refine z_iconst ee_law_486 (v := nI 0) (by decide) ?_
                                                -- at 487
                                                refine z_callX (As := [_, _, _]) ee_law_487 kk_law_217 rfl rfl (Nat.le_of_ble_eq_true rfl) (by omega) (sx_carve hf hW (nI 1) (nI 0) (rs_okb tg0_r) _ tg0 _ rfl (fun E h => by cases h)) (fun E h1 hx => hx.elim) (fun v h1 hq => ?_)
                                                obtain ⟨R1, I1, L1, z1, rfl, rfl, hW⟩ := hq
                                                refine z_iconst ee_law_490 (v := nI 3) (by decide) ?_
                                                refine z_icmp_eq ee_law_491 (tgt := 496) (by decide) (fun c_491 => ?_) (fun c_491 => ?_)
                                                -- at 491
                                                · refine z_aload_n ee_law_496 rfl ?_
                                                  -- at 497
                                                  refine z_callX (As := [_]) ee_law_497 kk_law_356 rfl rfl (Nat.le_of_ble_eq_true rfl) (by omega) (sx_restore hf hW _ tg1 _ rfl (fun E h => by cases h)) (fun E h1 hx => hx.elim) (fun v h1 hq => ?_)
                                                  obtain ⟨R1, I1, L1, z1, rfl, rfl, hW⟩ := hq
                                                  refine z_if_ne ee_law_500 (tgt := 534) (by decide) (fun c_500 => ?_) (fun c_500 => ?_)
                                                  -- at 500
                                                  · exact absurd rfl c_500
                                                  · refine z_aload_n ee_law_503 rfl ?_
                                                    -- at 504
                                                    refine z_callV (As := []) ee_law_504 kk_law_246 rfl (by assumption) rfl rfl (Nat.le_of_ble_eq_true rfl) (by omega) (sx_P_rootCount hf hW) (fun E h1 hx => hx.elim) (fun v h1 hq => ?_)
                                                    obtain ⟨R1, I1, L1, z1, rfl, rfl, hW⟩ := hq
                                                    rw [show nI (sv_r (ov_s ((.inl (nI 0), vg1) : zz_PR).2)).length = nI 0 from tg2]
                                                    refine z_if_ne ee_law_507 (tgt := 534) (by decide) (fun c_507 => ?_) (fun c_507 => ?_)
                                                    -- at 507
                                                    · exact absurd rfl c_507
                                                    · refine z_aload_n ee_law_510 rfl ?_
                                                      -- at 511
                                                      refine z_callV (As := []) ee_law_511 kk_law_249 rfl (by assumption) rfl rfl (Nat.le_of_ble_eq_true rfl) (by omega) (sx_P_day hf hW) (fun E h1 hx => hx.elim) (fun v h1 hq => ?_)
                                                      obtain ⟨R1, I1, L1, z1, rfl, rfl, hW⟩ := hq
                                                      rw [show sv_d (ov_s ((.inl (nI 0), vg1) : zz_PR).2) = nI 0 from tg3]
                                                      refine z_if_ne ee_law_514 (tgt := 534) (by decide) (fun c_514 => ?_) (fun c_514 => ?_)
                                                      -- at 514
                                                      · exact absurd rfl c_514
                                                      · refine z_aload_n ee_law_517 rfl ?_
                                                        -- at 518
                                                        refine z_callV (As := []) ee_law_518 kk_law_252 rfl (by assumption) rfl rfl (Nat.le_of_ble_eq_true rfl) (by omega) (sx_P_carvedCharacters hf hW) (fun E h1 hx => hx.elim) (fun v h1 hq => ?_)
                                                        obtain ⟨R1, I1, L1, z1, rfl, rfl, hW⟩ := hq
                                                        rw [show sv_c (ov_s ((.inl (nI 0), vg1) : zz_PR).2) = nI 0 from tg4]
                                                        refine z_if_ne ee_law_521 (tgt := 534) (by decide) (fun c_521 => ?_) (fun c_521 => ?_)
                                                        -- at 521
                                                        · exact absurd rfl c_521
                                                        · refine z_aload_n ee_law_524 rfl ?_
                                                          -- at 525
                                                          refine z_callX (As := [_]) ee_law_525 kk_law_354 rfl rfl (Nat.le_of_ble_eq_true rfl) (by omega) (sx_undo hf hW _ tg5 (-1001) rfl (fun E h => by cases h; rfl)) (fun E h1 hx => hx.elim) (fun v h1 hq => ?_)
                                                          obtain ⟨R1, I1, L1, z1, rfl, rfl, hW⟩ := hq
                                                          refine z_sipush ee_law_528 (v := -1001) (by decide) ?_
                                                          refine z_icmp_eq ee_law_531 (tgt := 536) (by decide) (fun c_531 => ?_) (fun c_531 => ?_)
                                                          -- at 531
                                                          · exact z_wid (by omega) (by omega) (kk _ _ _ _ _ _ (by repeat (first | exact trivial | refine ⟨rfl, ?_⟩)) hW)
                                                          · exact absurd rfl c_531
                                                · exact absurd rfl c_491
            · exact absurd rfl c_330
end LawE
