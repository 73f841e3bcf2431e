/-! THE LAW: changes -/
def zk_D (m : Nat) (v w : zz_OV) (y : Nat) : Prop := ov_p w = ov_p v ∧ ov_f w = ov_f v ∧ ((y = 1 ∧ ov_h w = zz_kp (ov_h v) (ov_s v) ∧ zk_I m (ov_s w)) ∨ (y = 0 ∧ ov_h w = ov_h v ∧ ov_s w = ov_s v))
theorem zk_C.d {m : Nat} {v w : zz_OV} {x : Int32} (h : zk_C m v w x) : (x < 0 → zk_D m v w 0) ∧ (¬ x < 0 → zk_D m v w 1) := by
  obtain ⟨h1, h2, h3⟩ := h
  refine ⟨fun q => ⟨h1, h2, Or.inr ?_⟩, fun q => ⟨h1, h2, Or.inl ?_⟩⟩
  · rcases h3 with ⟨a, -⟩ | ⟨-, a, b⟩
    · exact absurd q (Int32.not_lt.mpr a)
    · exact ⟨rfl, a, b⟩
  · rcases h3 with ⟨-, a, b⟩ | ⟨a, -⟩
    · exact ⟨rfl, a, b⟩
    · exact absurd a q
theorem zk_D.mono {m m' : Nat} {v w : zz_OV} {y : Nat} (h : zk_D m v w y) (hm : m ≤ m') : zk_D m' v w y := by
  obtain ⟨h1, h2, h3⟩ := h
  exact ⟨h1, h2, h3.imp (fun ⟨a, b, c⟩ => ⟨a, b, c.mono hm⟩) id⟩
theorem zk_sw : ∀ j, j < 19 → ∃ off ∈ ([89, 110, 130, 180, 217, 231, 253, 267] : List Int), (#[89, 89, 110, 110, 130, 130, 130, 130, 180, 180, 180, 217, 217, 231, 231, 231, 253, 267, 267] : Array Int)[((nI j).toInt - 0).toNat]? = some off := by decide +kernel
theorem zz_ct9 : zz_ax (zz_ct 9) := by
  unfold zz_ax
  decide +kernel
theorem zz_ct12 : ∀ j, j < 5 → zz_typ ((zz_ct 12).getD j 0) := by decide +kernel
theorem zz_ax_drop {xs : List Int32} {n : Nat} (h : zz_ax xs) : zz_ax (xs.drop n) := fun x hx => h x (List.mem_of_mem_drop hx)
section Chg
variable {g : zz_G} {l : Launch} {K K1 : Nat → Nat × Nat} {R R0 R1 : Nat → Nat → Option Nat} {I I0 I1 : Nat → Nat → Int32} {L L0 : Nat → Nat → Int64} {z z0 z1 B b q n : Nat} {v w : zz_OV} {xs : List Int32}
theorem zz_Bd.k (h : zz_Bd g z0 b xs K R I z) : K b = zz_o 9 := by
  obtain ⟨a, cap, h1, h2, h3, h4, h5⟩ := h
  exact h5
def zk_E (g : zz_G) (K : Nat → Nat × Nat) (B z0 : Nat) (R0 : Nat → Nat → Option Nat) (I0 : Nat → Nat → Int32) (L0 : Nat → Nat → Int64) (m : Nat) (v : zz_OV) : Option Value → zz_H → Prop := fun a h' => ∃ y w, (y = 0 ∨ y = 1) ∧ zk_D m v w y ∧ ov_b w = [] ∧ zz_LW g K B z0 R0 I0 L0 (some (.int (nI y))) w a h'
set_option maxHeartbeats 1000000 in
theorem sp_L_changes (hf : l.stackTraces = false) (hEv : zz_Ev g K R0 I0 q n) (hW : zz_Lw g K B z0 R0 I0 L0 v R I L z) {m : Nat} (hm : m ≤ 100) (hI : zk_I m (ov_s v)) (hb0 : ov_b v = []) (x : Int32) : zz_S g l mm_L_changes 110 900 [.ref B, .int x] (K, R, I, L, z) (zk_E g K B z0 R0 I0 L0 (m + 1) v) zz_no := by
  have hA : zz_A g B := hW.2.2.2.2.2
  have hBz : B + 1460 ≤ z := Nat.le_trans hW.2.2.2.2.1 hW.2.2.2.1
  have hAB : (zz_hb g).size ≤ B := hA
  have hEvz := hEv.lw hW
  refine z_start hf rfl (by decide +kernel) (Nat.le_of_ble_eq_true rfl) ?_
  dsimp only [zz_lv0]
  refine z_nu (fun hAz hnu => ?_)
  refine z_iload_n ee_L_changes_0 rfl ?_
  refine z_iconst ee_L_changes_1 (v := nI 4) (by decide) ?_
  refine z_ishr ee_L_changes_2 ?_
  refine z_bipush ee_L_changes_3 (v := nI 10) (by decide) ?_
  -- at 5
  refine z_callS (As := [_, _]) ee_L_changes_5 kk_L_changes_190 rfl rfl (Nat.le_of_ble_eq_true rfl) (by omega) (sp_L_some hf _ 10 (by omega) (by omega)) (fun E h1 hx => hx.elim) (fun v h1 hq => ?_)
  obtain ⟨rfl, t, ht, rfl⟩ := hq
  refine z_istore_m ee_L_changes_8 (j := 2) rfl (by decide) ?_
  refine z_iload_n ee_L_changes_9 rfl ?_
  refine z_bipush ee_L_changes_10 (v := nI 22) (by decide) ?_
  -- at 12
  refine z_callS (As := [_, _]) ee_L_changes_12 kk_L_changes_190 rfl rfl (Nat.le_of_ble_eq_true rfl) (by omega) (sp_L_some hf _ 22 (by omega) (by omega)) (fun E h1 hx => hx.elim) (fun v h1 hq => ?_)
  obtain ⟨rfl, j, hj, rfl⟩ := hq
  by_cases hj19 : j < 19
  · obtain ⟨off, hoff, ho⟩ := zk_sw j hj19
    simp only [List.mem_cons, List.not_mem_nil, or_false] at hoff
    rcases hoff with rfl | rfl | rfl | rfl | rfl | rfl | rfl | rfl
    · refine z_tin ee_L_changes_15 (tgt := 104) (by rw [zi_n (by omega)]; omega) (by rw [zi_n (by omega)]; omega) ho (by decide) ?_
      refine z_aload_n ee_L_changes_104 rfl ?_
      refine z_iload_n ee_L_changes_105 rfl ?_
      refine z_iconst ee_L_changes_106 (v := nI 4) (by decide) ?_
      refine z_ishr ee_L_changes_107 ?_
      refine z_bipush ee_L_changes_108 (v := nI 7) (by decide) ?_
      -- at 110
      refine z_callS (As := [_, _]) ee_L_changes_110 kk_L_changes_190 rfl rfl (Nat.le_of_ble_eq_true rfl) (by omega) (sp_L_some hf _ 7 (by omega) (by omega)) (fun E h1 hx => hx.elim) (fun v h1 hq => ?_)
      obtain ⟨rfl, j2, hj2, rfl⟩ := hq
      have C := zk_ch (v := v) (F := fun s => zv_plant s (nI j2)) (zk_plant hI _) (zf2 eA) (zf2_n eA)
      refine z_callX (As := [_, _]) ee_L_changes_113 kk_L_changes_207 rfl rfl (Nat.le_of_ble_eq_true rfl) (by omega) (sx_addRoot hf hW (nI j2) (zk_plant hI _).1 _ rfl _ rfl (fun E h => zk_x_plant hI _ E (C.2.2 E h))) (fun E h1 hx => hx.elim) (fun v h1 hq => ?_)
      obtain ⟨R1, I1, L1, z1, rfl, rfl, hW1⟩ := hq
      refine z_if_lt ee_L_changes_116 (tgt := 123) (by decide) (fun c_116 => ?_) (fun c_116 => ?_)
      -- at 116
      · refine z_iconst ee_L_changes_123 (v := nI 0) (by decide) ?_
        refine z_zret ee_L_changes_124 (ty := .boolean) rfl (by decide) (by omega) (by omega) ?_
        -- at 124
        exact ⟨0, _, Or.inl rfl, (C.1.d.1 c_116).mono (by omega), C.2.1.trans hb0, _, _, _, _, rfl, rfl, hW1⟩
      · refine z_iconst ee_L_changes_119 (v := nI 1) (by decide) ?_
        refine z_goto ee_L_changes_120 (tgt := 124) (by decide) ?_
        refine z_zret ee_L_changes_124 (ty := .boolean) rfl (by decide) (by omega) (by omega) ?_
        -- at 124
        exact ⟨1, _, Or.inr rfl, (C.1.d.2 c_116).mono (by omega), C.2.1.trans hb0, _, _, _, _, rfl, rfl, hW1⟩
    · refine z_tin ee_L_changes_15 (tgt := 125) (by rw [zi_n (by omega)]; omega) (by rw [zi_n (by omega)]; omega) ho (by decide) ?_
      refine z_aload_n ee_L_changes_125 rfl ?_
      refine z_iload_n ee_L_changes_126 rfl ?_
      refine z_iconst ee_L_changes_127 (v := nI 4) (by decide) ?_
      refine z_ishr ee_L_changes_128 ?_
      refine z_iconst ee_L_changes_129 (v := nI 5) (by decide) ?_
      -- at 130
      refine z_callS (As := [_, _]) ee_L_changes_130 kk_L_changes_190 rfl rfl (Nat.le_of_ble_eq_true rfl) (by omega) (sp_L_some hf _ 5 (by omega) (by omega)) (fun E h1 hx => hx.elim) (fun v h1 hq => ?_)
      obtain ⟨rfl, j2, hj2, rfl⟩ := hq
      have C := zk_ch (v := v) (F := fun s => zv_dry s (nI j2)) (zk_dry hI _) (zf2 eI) (zf2_n eI)
      refine z_callX (As := [_, _]) ee_L_changes_133 kk_L_changes_287 rfl rfl (Nat.le_of_ble_eq_true rfl) (by omega) (sx_dry hf hW (nI j2) (zk_dry hI _).1 _ rfl _ rfl (fun E h => zk_x_dry hI _ E (C.2.2 E h))) (fun E h1 hx => hx.elim) (fun v h1 hq => ?_)
      obtain ⟨R1, I1, L1, z1, rfl, rfl, hW1⟩ := hq
      refine z_if_lt ee_L_changes_136 (tgt := 143) (by decide) (fun c_136 => ?_) (fun c_136 => ?_)
      -- at 136
      · refine z_iconst ee_L_changes_143 (v := nI 0) (by decide) ?_
        refine z_zret ee_L_changes_144 (ty := .boolean) rfl (by decide) (by omega) (by omega) ?_
        -- at 144
        exact ⟨0, _, Or.inl rfl, (C.1.d.1 c_136).mono (by omega), C.2.1.trans hb0, _, _, _, _, rfl, rfl, hW1⟩
      · refine z_iconst ee_L_changes_139 (v := nI 1) (by decide) ?_
        refine z_goto ee_L_changes_140 (tgt := 144) (by decide) ?_
        refine z_zret ee_L_changes_144 (ty := .boolean) rfl (by decide) (by omega) (by omega) ?_
        -- at 144
        exact ⟨1, _, Or.inr rfl, (C.1.d.2 c_136).mono (by omega), C.2.1.trans hb0, _, _, _, _, rfl, rfl, hW1⟩
    · refine z_tin ee_L_changes_15 (tgt := 145) (by rw [zi_n (by omega)]; omega) (by rw [zi_n (by omega)]; omega) ho (by decide) ?_
      refine z_aload_n ee_L_changes_145 rfl ?_
      -- at 146
      refine z_ldcSW ee_L_changes_146 ws_L_changes_289 ?_
      have hS9 := hEvz.1 9 (by omega)
      have hk9 := hS9.1.1
      have l9 : (zz_ct 9).length = 3 := by decide
      refine z_iload_n ee_L_changes_149 rfl ?_
      refine z_iconst ee_L_changes_150 (v := nI 4) (by decide) ?_
      refine z_ishr ee_L_changes_151 ?_
      refine z_iconst ee_L_changes_152 (v := nI 3) (by decide) ?_
      -- at 153
      refine z_callS (As := [_, _]) ee_L_changes_153 kk_L_changes_190 rfl rfl (Nat.le_of_ble_eq_true rfl) (by omega) (sp_L_some hf _ 3 (by omega) (by omega)) (fun E h1 hx => hx.elim) (fun v h1 hq => ?_)
      obtain ⟨rfl, j2, hj2, rfl⟩ := hq
      refine z_callV (As := [_]) ee_L_changes_156 kk_L_changes_291 rfl (by assumption) rfl rfl (Nat.le_of_ble_eq_true rfl) (by omega) (sp_JS_substring_I hf hS9.1 j2 hj2) (fun E h1 hx => hx.elim) (fun v h1 hq => ?_)
      obtain ⟨K1, R1, I1, L1, z1, s, sa, rfl, rfl, hG, hloc, hz1, hk1⟩ := hq
      refine z_ltO hG.1 (fun hsz => ?_)
      refine z_ltA hG.2.2.1 (fun hsaz => ?_)
      have hbs : zz_bs B z1 s sa := by
        have h9a := hS9.2.1
        have h9b := hS9.2.2
        rcases hloc with ⟨rfl, rfl⟩ | ⟨e1, e2⟩
        · exact ⟨⟨hsz, Or.inl (by omega)⟩, hsaz, Or.inl (by omega)⟩
        · exact ⟨⟨hsz, Or.inr (by omega)⟩, hsaz, Or.inr (by omega)⟩
      have hx := zz_ax_drop (n := j2) zz_ct9
      have hl3 : ((zz_ct 9).drop j2).length ≤ 3 := by rw [List.length_drop]; exact Nat.sub_le _ _
      refine z_callS (As := [_, _]) ee_L_changes_159 kk_L_changes_213 rfl rfl (Nat.le_of_ble_eq_true rfl) (by omega) (sp_L_types hf (hW.lk hk1 hz1) hG hbs hx (by omega)) (fun E h1 hx => hx.elim) (fun v h1 hq => ?_)
      obtain ⟨R2, I2, L2, z2, rfl, rfl, hW2⟩ := hq
      refine z_if_eq ee_L_changes_162 (tgt := 193) (by decide) (fun c_162 => ?_) (fun c_162 => ?_)
      -- at 162
      · exact absurd c_162 (by decide)
      · refine z_aload_n ee_L_changes_165 rfl ?_
        refine z_iload_n ee_L_changes_166 rfl ?_
        refine z_bipush ee_L_changes_167 (v := nI 6) (by decide) ?_
        refine z_ishr ee_L_changes_169 ?_
        refine z_iconst ee_L_changes_170 (v := nI 5) (by decide) ?_
        -- at 171
        refine z_callS (As := [_, _]) ee_L_changes_171 kk_L_changes_190 rfl rfl (Nat.le_of_ble_eq_true rfl) (by omega) (sp_L_some hf _ 5 (by omega) (by omega)) (fun E h1 hx => hx.elim) (fun v h1 hq => ?_)
        obtain ⟨rfl, j3, hj3, rfl⟩ := hq
        refine z_iload_n ee_L_changes_174 rfl ?_
        refine z_bipush ee_L_changes_175 (v := nI 8) (by decide) ?_
        refine z_ishr ee_L_changes_177 ?_
        refine z_bipush ee_L_changes_178 (v := nI 11) (by decide) ?_
        -- at 180
        refine z_callS (As := [_, _]) ee_L_changes_180 kk_L_changes_190 rfl rfl (Nat.le_of_ble_eq_true rfl) (by omega) (sp_L_some hf _ 11 (by omega) (by omega)) (fun E h1 hx => hx.elim) (fun v h1 hq => ?_)
        obtain ⟨rfl, j4, hj4, rfl⟩ := hq
        have hc := zk_carve (s := ov_s v) hI (by omega) (nI j3) (nI j4) (ms := (zz_ct 9).drop j2) hx
        have C := zk_car (v := ow_m v ((zz_ct 9).drop j2)) (r := nI j3) (o := nI j4) hc (zf3 eI eA) (zf3_n eI eA)
        refine z_callX (As := [_, _, _]) ee_L_changes_183 kk_L_changes_217 rfl rfl (Nat.le_of_ble_eq_true rfl) (by omega) (sx_carve hf hW2 (nI j3) (nI j4) hc.1 _ rfl _ rfl (fun E h => zk_x_carve (by omega) hI _ _ _ E (C.2.2 E h))) (fun E h1 hx => hx.elim) (fun v h1 hq => ?_)
        obtain ⟨R3, I3, L3, z3, rfl, rfl, hW3⟩ := hq
        refine z_forget hk1.1 hnu ?_
        have hW4 := hW.unlk hk1 hz1 hW3
        refine z_if_lt ee_L_changes_186 (tgt := 193) (by decide) (fun c_186 => ?_) (fun c_186 => ?_)
        -- at 186
        · refine z_iconst ee_L_changes_193 (v := nI 0) (by decide) ?_
          refine z_zret ee_L_changes_194 (ty := .boolean) rfl (by decide) (by omega) (by omega) ?_
          -- at 194
          exact ⟨0, _, Or.inl rfl, C.1.d.1 c_186, C.2.1.trans hb0, _, _, _, _, rfl, rfl, hW4⟩
        · refine z_iconst ee_L_changes_189 (v := nI 1) (by decide) ?_
          refine z_goto ee_L_changes_190 (tgt := 194) (by decide) ?_
          refine z_zret ee_L_changes_194 (ty := .boolean) rfl (by decide) (by omega) (by omega) ?_
          -- at 194
          exact ⟨1, _, Or.inr rfl, C.1.d.2 c_186, C.2.1.trans hb0, _, _, _, _, rfl, rfl, hW4⟩
    · refine z_tin ee_L_changes_15 (tgt := 195) (by rw [zi_n (by omega)]; omega) (by rw [zi_n (by omega)]; omega) ho (by decide) ?_
      refine z_aload_n ee_L_changes_195 rfl ?_
      refine z_iload_n ee_L_changes_196 rfl ?_
      refine z_iload_n ee_L_changes_197 rfl ?_
      refine z_bipush ee_L_changes_198 (v := nI 8) (by decide) ?_
      refine z_ishr ee_L_changes_200 ?_
      refine z_bipush ee_L_changes_201 (v := nI 12) (by decide) ?_
      -- at 203
      refine z_callS (As := [_, _]) ee_L_changes_203 kk_L_changes_190 rfl rfl (Nat.le_of_ble_eq_true rfl) (by omega) (sp_L_some hf _ 12 (by omega) (by omega)) (fun E h1 hx => hx.elim) (fun v h1 hq => ?_)
      obtain ⟨rfl, j2, hj2, rfl⟩ := hq
      refine z_ldcSW ee_L_changes_206 ws_L_changes_295 ?_
      have hS12 := hEvz.1 12 (by omega)
      have hk12 := hS12.1.1
      refine z_iload_n ee_L_changes_209 rfl ?_
      refine z_bipush ee_L_changes_210 (v := nI 11) (by decide) ?_
      refine z_ishr ee_L_changes_212 ?_
      refine z_iconst ee_L_changes_213 (v := nI 5) (by decide) ?_
      -- at 214
      refine z_callS (As := [_, _]) ee_L_changes_214 kk_L_changes_190 rfl rfl (Nat.le_of_ble_eq_true rfl) (by omega) (sp_L_some hf _ 5 (by omega) (by omega)) (fun E h1 hx => hx.elim) (fun v h1 hq => ?_)
      obtain ⟨rfl, j3, hj3, rfl⟩ := hq
      refine z_callV (As := [_]) ee_L_changes_217 kk_L_changes_156 rfl (by assumption) rfl rfl (Nat.le_of_ble_eq_true rfl) (by omega) (sp_JS_charAt hf hS12.1 j3 hj3) (fun E h1 hx => hx.elim) (fun v h1 hq => ?_)
      obtain ⟨rfl, rfl⟩ := hq
      have hty := zz_ct12 j3 hj3
      have C := zk_ch (v := v) (F := fun s => zv_dmg s (nI t) (nI j2) ((zz_ct 12).getD j3 0)) (zk_dmg hI _ _ _) (zf4 eN eI eA) (zf4_n eN eI eA)
      refine z_callX (As := [_, _, _, _]) ee_L_changes_220 kk_L_changes_297 rfl rfl (Nat.le_of_ble_eq_true rfl) (by omega) (sx_damage hf hW (nI t) (nI j2) _ hty.ch.1 (zk_dmg hI _ _ _).1 (zk_dmg_ch hI _ _ _) _ rfl _ rfl (fun E h => zk_x_dmg hI _ _ _ E (C.2.2 E h))) (fun E h1 hx => hx.elim) (fun v h1 hq => ?_)
      obtain ⟨R1, I1, L1, z1, rfl, rfl, hW1⟩ := hq
      refine z_if_lt ee_L_changes_223 (tgt := 230) (by decide) (fun c_223 => ?_) (fun c_223 => ?_)
      -- at 223
      · refine z_iconst ee_L_changes_230 (v := nI 0) (by decide) ?_
        refine z_zret ee_L_changes_231 (ty := .boolean) rfl (by decide) (by omega) (by omega) ?_
        -- at 231
        exact ⟨0, _, Or.inl rfl, (C.1.d.1 c_223).mono (by omega), C.2.1.trans hb0, _, _, _, _, rfl, rfl, hW1⟩
      · refine z_iconst ee_L_changes_226 (v := nI 1) (by decide) ?_
        refine z_goto ee_L_changes_227 (tgt := 231) (by decide) ?_
        refine z_zret ee_L_changes_231 (ty := .boolean) rfl (by decide) (by omega) (by omega) ?_
        -- at 231
        exact ⟨1, _, Or.inr rfl, (C.1.d.2 c_223).mono (by omega), C.2.1.trans hb0, _, _, _, _, rfl, rfl, hW1⟩
    · refine z_tin ee_L_changes_15 (tgt := 232) (by rw [zi_n (by omega)]; omega) (by rw [zi_n (by omega)]; omega) ho (by decide) ?_
      refine z_aload_n ee_L_changes_232 rfl ?_
      refine z_iload_n ee_L_changes_233 rfl ?_
      -- at 234
      have C := zk_ch (v := v) (F := fun s => zv_anew s (nI t)) (zk_anew hI _) (zf2 eN) (zf2_n eN)
      refine z_callX (As := [_, _]) ee_L_changes_234 kk_L_changes_300 rfl rfl (Nat.le_of_ble_eq_true rfl) (by omega) (sx_recarve hf hW (nI t) (zk_anew hI _).1 _ rfl _ rfl (fun E h => zk_x_anew hI _ E (C.2.2 E h))) (fun E h1 hx => hx.elim) (fun v h1 hq => ?_)
      obtain ⟨R1, I1, L1, z1, rfl, rfl, hW1⟩ := hq
      refine z_if_lt ee_L_changes_237 (tgt := 244) (by decide) (fun c_237 => ?_) (fun c_237 => ?_)
      -- at 237
      · refine z_iconst ee_L_changes_244 (v := nI 0) (by decide) ?_
        refine z_zret ee_L_changes_245 (ty := .boolean) rfl (by decide) (by omega) (by omega) ?_
        -- at 245
        exact ⟨0, _, Or.inl rfl, (C.1.d.1 c_237).mono (by omega), C.2.1.trans hb0, _, _, _, _, rfl, rfl, hW1⟩
      · refine z_iconst ee_L_changes_240 (v := nI 1) (by decide) ?_
        refine z_goto ee_L_changes_241 (tgt := 245) (by decide) ?_
        refine z_zret ee_L_changes_245 (ty := .boolean) rfl (by decide) (by omega) (by omega) ?_
        -- at 245
        exact ⟨1, _, Or.inr rfl, (C.1.d.2 c_237).mono (by omega), C.2.1.trans hb0, _, _, _, _, rfl, rfl, hW1⟩
    · refine z_tin ee_L_changes_15 (tgt := 246) (by rw [zi_n (by omega)]; omega) (by rw [zi_n (by omega)]; omega) ho (by decide) ?_
      refine z_aload_n ee_L_changes_246 rfl ?_
      refine z_iload_n ee_L_changes_247 rfl ?_
      refine z_iload_n ee_L_changes_248 rfl ?_
      refine z_bipush ee_L_changes_249 (v := nI 8) (by decide) ?_
      refine z_ishr ee_L_changes_251 ?_
      refine z_iconst ee_L_changes_252 (v := nI 5) (by decide) ?_
      -- at 253
      refine z_callS (As := [_, _]) ee_L_changes_253 kk_L_changes_190 rfl rfl (Nat.le_of_ble_eq_true rfl) (by omega) (sp_L_some hf _ 5 (by omega) (by omega)) (fun E h1 hx => hx.elim) (fun v h1 hq => ?_)
      obtain ⟨rfl, j2, hj2, rfl⟩ := hq
      have C := zk_ch (v := v) (F := fun s => zv_move s (nI t) (nI j2)) (zk_move hI _ _) (zf3 eN eI) (zf3_n eN eI)
      refine z_callX (As := [_, _, _]) ee_L_changes_256 kk_L_changes_302 rfl rfl (Nat.le_of_ble_eq_true rfl) (by omega) (sx_move hf hW (nI t) (nI j2) (zk_move hI _ _).1 _ rfl _ rfl (fun E h => zk_x_move (by omega) hI _ _ E (C.2.2 E h))) (fun E h1 hx => hx.elim) (fun v h1 hq => ?_)
      obtain ⟨R1, I1, L1, z1, rfl, rfl, hW1⟩ := hq
      refine z_if_lt ee_L_changes_259 (tgt := 266) (by decide) (fun c_259 => ?_) (fun c_259 => ?_)
      -- at 259
      · refine z_iconst ee_L_changes_266 (v := nI 0) (by decide) ?_
        refine z_zret ee_L_changes_267 (ty := .boolean) rfl (by decide) (by omega) (by omega) ?_
        -- at 267
        exact ⟨0, _, Or.inl rfl, (C.1.d.1 c_259).mono (by omega), C.2.1.trans hb0, _, _, _, _, rfl, rfl, hW1⟩
      · refine z_iconst ee_L_changes_262 (v := nI 1) (by decide) ?_
        refine z_goto ee_L_changes_263 (tgt := 267) (by decide) ?_
        refine z_zret ee_L_changes_267 (ty := .boolean) rfl (by decide) (by omega) (by omega) ?_
        -- at 267
        exact ⟨1, _, Or.inr rfl, (C.1.d.2 c_259).mono (by omega), C.2.1.trans hb0, _, _, _, _, rfl, rfl, hW1⟩
    · refine z_tin ee_L_changes_15 (tgt := 268) (by rw [zi_n (by omega)]; omega) (by rw [zi_n (by omega)]; omega) ho (by decide) ?_
      refine z_aload_n ee_L_changes_268 rfl ?_
      refine z_iload_n ee_L_changes_269 rfl ?_
      -- at 270
      have C := zk_ch (v := v) (F := fun s => zv_drop s (nI t)) (zk_drop (by omega) hI _) zf1 zf1_n
      refine z_callX (As := [_, _]) ee_L_changes_270 kk_L_changes_304 rfl rfl (Nat.le_of_ble_eq_true rfl) (by omega) (sx_drop hf hW (nI t) (zk_drop (by omega) hI _).1 _ rfl _ rfl (fun E h => zk_x_drop (by omega) hI _ E (C.2.2 E h))) (fun E h1 hx => hx.elim) (fun v h1 hq => ?_)
      obtain ⟨R1, I1, L1, z1, rfl, rfl, hW1⟩ := hq
      refine z_if_lt ee_L_changes_273 (tgt := 280) (by decide) (fun c_273 => ?_) (fun c_273 => ?_)
      -- at 273
      · refine z_iconst ee_L_changes_280 (v := nI 0) (by decide) ?_
        refine z_zret ee_L_changes_281 (ty := .boolean) rfl (by decide) (by omega) (by omega) ?_
        -- at 281
        exact ⟨0, _, Or.inl rfl, (C.1.d.1 c_273).mono (by omega), C.2.1.trans hb0, _, _, _, _, rfl, rfl, hW1⟩
      · refine z_iconst ee_L_changes_276 (v := nI 1) (by decide) ?_
        refine z_goto ee_L_changes_277 (tgt := 281) (by decide) ?_
        refine z_zret ee_L_changes_281 (ty := .boolean) rfl (by decide) (by omega) (by omega) ?_
        -- at 281
        exact ⟨1, _, Or.inr rfl, (C.1.d.2 c_273).mono (by omega), C.2.1.trans hb0, _, _, _, _, rfl, rfl, hW1⟩
    · refine z_tin ee_L_changes_15 (tgt := 282) (by rw [zi_n (by omega)]; omega) (by rw [zi_n (by omega)]; omega) ho (by decide) ?_
      have runs : ∀ (ce sl : Nat) (K1 : Nat → Nat × Nat) R1 I1 L1 z1 s sa (xs : List Int32), ce ≤ 40 → sl ≤ 400 → zz_lk z K K1 R R1 I I1 L L1 → z ≤ z1 → zz_Sg K1 R1 I1 s sa xs → z ≤ s → z ≤ sa → xs.length ≤ 60 →
          Zz g l mm_L_changes 110 900 (zk_E g K B z0 R0 I0 L0 (m + 1) v) zz_no ce sl 351 [] [.ref s, .ref B] (K1, R1, I1, L1, z1) := by
        intro ce sl K1 R1 I1 L1 z1 s sa xs hce hsl hk1 hz1 hG hs hsa hl
        refine z_ltO hG.1 (fun hsz => ?_)
        refine z_ltA hG.2.2.1 (fun hsaz => ?_)
        have hbs : zz_bs B z1 s sa := ⟨⟨hsz, by omega⟩, hsaz, by omega⟩
        have C := zk_exec (v := ow_b v xs) (by omega) hI
        refine z_callS (As := [_, _]) ee_L_changes_351 kk_L_changes_317 rfl rfl (Nat.le_of_ble_eq_true rfl) (by omega) (sp_L_runs hf (hEv.lk hW hk1) (hW.lk hk1 hz1) hb0 hG hbs hl _ rfl _ rfl C.2.2) (fun E h1 hx => hx.elim) (fun v h1 hq => ?_)
        obtain ⟨R2, I2, L2, z2, rfl, rfl, hW2⟩ := hq
        refine z_forget hk1.1 hnu ?_
        have hW4 := hW.unlk hk1 hz1 hW2
        refine z_if_lt ee_L_changes_354 (tgt := 361) (by decide) (fun c_354 => ?_) (fun c_354 => ?_)
        -- at 354
        · refine z_iconst ee_L_changes_361 (v := nI 0) (by decide) ?_
          refine z_zret ee_L_changes_362 (ty := .boolean) rfl (by decide) (by omega) (by omega) ?_
          -- at 362
          exact ⟨0, _, Or.inl rfl, (C.1.d.1 c_354).mono (by omega), C.2.1, _, _, _, _, rfl, rfl, hW4⟩
        · refine z_iconst ee_L_changes_357 (v := nI 1) (by decide) ?_
          refine z_goto ee_L_changes_358 (tgt := 362) (by decide) ?_
          refine z_zret ee_L_changes_362 (ty := .boolean) rfl (by decide) (by omega) (by omega) ?_
          -- at 362
          exact ⟨1, _, Or.inr rfl, (C.1.d.2 c_354).mono (by omega), C.2.1, _, _, _, _, rfl, rfl, hW4⟩
      refine z_aload_n ee_L_changes_282 rfl ?_
      refine z_iload_n ee_L_changes_283 rfl ?_
      refine z_bipush ee_L_changes_284 (v := nI 6) (by decide) ?_
      refine z_ishr ee_L_changes_286 ?_
      refine z_iconst ee_L_changes_287 (v := nI 1) (by decide) ?_
      refine z_iand ee_L_changes_288 ?_
      refine z_if_ne ee_L_changes_289 (tgt := 315) (by decide) (fun c_289 => ?_) (fun c_289 => ?_)
      -- at 289
      · refine z_new ee_L_changes_315 nn_L_changes_193 (by omega) (by omega) (fun hz315 => ?_)
        refine z_dup ee_L_changes_318 rfl ?_
        -- at 319
        refine z_callI (As := []) ee_L_changes_319 kk_L_changes_195 rfl rfl (Nat.le_of_ble_eq_true rfl) (by omega) (sy_init hf hz315) (fun E h1 hx => hx.elim) (fun v h1 hq => ?_)
        obtain ⟨K1, R1, I1, L1, rfl, rfl, hB1, hk1⟩ := hq
        have hb1 := hB1.k
        have hE1 := hEvz.rel (B := B) hk1.rel hA (by omega)
        refine z_ldcSW ee_L_changes_322 ws_L_changes_311 ?_
        have hS := hE1.1 14 (by omega)
        refine z_callV (As := [_]) ee_L_changes_325 kk_L_changes_196 rfl (by assumption) rfl rfl (Nat.le_of_ble_eq_true rfl) (by omega) (sy_str hf hB1 hS.1 (Nat.le_of_ble_eq_true rfl) (by omega) (by omega)) (fun E h1 hx => hx.elim) (fun v h1 hq => ?_)
        obtain ⟨K2, R2, I2, L2, z2, rfl, rfl, hB2, hz2, hk2⟩ := hq
        have hb2 := hB2.k
        have hE2 := hEvz.rel (B := B) (hk1.trans hk2).rel hA (by omega)
        refine z_iload_n ee_L_changes_328 rfl ?_
        -- at 329
        refine z_callV (As := [_]) ee_L_changes_329 kk_L_changes_308 rfl (by assumption) rfl rfl (Nat.le_of_ble_eq_true rfl) (by omega) (sy_int hf hB2 t ht (Nat.le_of_ble_eq_true rfl) hE2.2.1.1 (by have := hE2.2.1.2; omega)) (fun E h1 hx => hx.elim) (fun v h1 hq => ?_)
        obtain ⟨K3, R3, I3, L3, z3, rfl, rfl, hB3, hz3, hk3⟩ := hq
        have hb3 := hB3.k
        have hE3 := hEvz.rel (B := B) ((hk1.trans hk2).trans hk3).rel hA (by omega)
        refine z_ldcSW ee_L_changes_332 ws_L_changes_313 ?_
        have hS := hE3.1 15 (by omega)
        refine z_callV (As := [_]) ee_L_changes_335 kk_L_changes_196 rfl (by assumption) rfl rfl (Nat.le_of_ble_eq_true rfl) (by omega) (sy_str hf hB3 hS.1 (Nat.le_of_ble_eq_true rfl) (by omega) (by omega)) (fun E h1 hx => hx.elim) (fun v h1 hq => ?_)
        obtain ⟨K4, R4, I4, L4, z4, rfl, rfl, hB4, hz4, hk4⟩ := hq
        have hb4 := hB4.k
        have hE4 := hEvz.rel (B := B) (((hk1.trans hk2).trans hk3).trans hk4).rel hA (by omega)
        refine z_iload_n ee_L_changes_338 rfl ?_
        -- at 339
        refine z_callV (As := [_]) ee_L_changes_339 kk_L_changes_308 rfl (by assumption) rfl rfl (Nat.le_of_ble_eq_true rfl) (by omega) (sy_int hf hB4 t ht (Nat.le_of_ble_eq_true rfl) hE4.2.1.1 (by have := hE4.2.1.2; omega)) (fun E h1 hx => hx.elim) (fun v h1 hq => ?_)
        obtain ⟨K5, R5, I5, L5, z5, rfl, rfl, hB5, hz5, hk5⟩ := hq
        have hb5 := hB5.k
        have hE5 := hEvz.rel (B := B) ((((hk1.trans hk2).trans hk3).trans hk4).trans hk5).rel hA (by omega)
        refine z_ldcSW ee_L_changes_342 ws_L_changes_315 ?_
        have hS := hE5.1 16 (by omega)
        refine z_callV (As := [_]) ee_L_changes_345 kk_L_changes_196 rfl (by assumption) rfl rfl (Nat.le_of_ble_eq_true rfl) (by omega) (sy_str hf hB5 hS.1 (Nat.le_of_ble_eq_true rfl) (by omega) (by omega)) (fun E h1 hx => hx.elim) (fun v h1 hq => ?_)
        obtain ⟨K6, R6, I6, L6, z6, rfl, rfl, hB6, hz6, hk6⟩ := hq
        have hb6 := hB6.k
        refine z_callV (As := []) ee_L_changes_348 kk_L_changes_203 rfl (by assumption) rfl rfl (Nat.le_of_ble_eq_true rfl) (by omega) (sy_toS hf hB6) (fun E h1 hx => hx.elim) (fun v h1 hq => ?_)
        obtain ⟨K7, R7, I7, L7, rfl, rfl, hG, hz7, hk7⟩ := hq
        exact z_lvk (runs _ _ K7 R7 I7 L7 _ _ _ _ (by omega) (by omega) ((((((hk1.trans hk2).trans hk3).trans hk4).trans hk5).trans hk6).trans (hk7.wid (by omega))) (by omega) hG (by omega) (by omega) (Nat.le_of_ble_eq_true rfl)) trivial
      · refine z_new ee_L_changes_292 nn_L_changes_193 (by omega) (by omega) (fun hz292 => ?_)
        refine z_dup ee_L_changes_295 rfl ?_
        -- at 296
        refine z_callI (As := []) ee_L_changes_296 kk_L_changes_195 rfl rfl (Nat.le_of_ble_eq_true rfl) (by omega) (sy_init hf hz292) (fun E h1 hx => hx.elim) (fun v h1 hq => ?_)
        obtain ⟨K1, R1, I1, L1, rfl, rfl, hB1, hk1⟩ := hq
        have hb1 := hB1.k
        have hE1 := hEvz.rel (B := B) hk1.rel hA (by omega)
        refine z_ldcSW ee_L_changes_299 ws_L_changes_306 ?_
        have hS := hE1.1 13 (by omega)
        refine z_callV (As := [_]) ee_L_changes_302 kk_L_changes_196 rfl (by assumption) rfl rfl (Nat.le_of_ble_eq_true rfl) (by omega) (sy_str hf hB1 hS.1 (Nat.le_of_ble_eq_true rfl) (by omega) (by omega)) (fun E h1 hx => hx.elim) (fun v h1 hq => ?_)
        obtain ⟨K2, R2, I2, L2, z2, rfl, rfl, hB2, hz2, hk2⟩ := hq
        have hb2 := hB2.k
        have hE2 := hEvz.rel (B := B) (hk1.trans hk2).rel hA (by omega)
        refine z_iload_n ee_L_changes_305 rfl ?_
        -- at 306
        refine z_callV (As := [_]) ee_L_changes_306 kk_L_changes_308 rfl (by assumption) rfl rfl (Nat.le_of_ble_eq_true rfl) (by omega) (sy_int hf hB2 t ht (Nat.le_of_ble_eq_true rfl) hE2.2.1.1 (by have := hE2.2.1.2; omega)) (fun E h1 hx => hx.elim) (fun v h1 hq => ?_)
        obtain ⟨K3, R3, I3, L3, z3, rfl, rfl, hB3, hz3, hk3⟩ := hq
        have hb3 := hB3.k
        refine z_callV (As := []) ee_L_changes_309 kk_L_changes_203 rfl (by assumption) rfl rfl (Nat.le_of_ble_eq_true rfl) (by omega) (sy_toS hf hB3) (fun E h1 hx => hx.elim) (fun v h1 hq => ?_)
        obtain ⟨K7, R7, I7, L7, rfl, rfl, hG, hz7, hk7⟩ := hq
        refine z_goto ee_L_changes_312 (tgt := 351) (by decide) ?_
        -- at 351
        exact z_lvk (runs _ _ K7 R7 I7 L7 _ _ _ _ (by omega) (by omega) (((hk1.trans hk2).trans hk3).trans (hk7.wid (by omega))) (by omega) hG (by omega) (by omega) (Nat.le_of_ble_eq_true rfl)) trivial
  · refine z_tout ee_L_changes_15 (tgt := 363) (Or.inr (by rw [zi_n (by omega)]; omega)) (by decide) ?_
    refine z_aload_n ee_L_changes_363 rfl ?_
    refine z_iload_n ee_L_changes_364 rfl ?_
    refine z_iconst ee_L_changes_365 (v := nI 4) (by decide) ?_
    refine z_ishr ee_L_changes_366 ?_
    refine z_bipush ee_L_changes_367 (v := nI 6) (by decide) ?_
    -- at 369
    refine z_callS (As := [_, _]) ee_L_changes_369 kk_L_changes_190 rfl rfl (Nat.le_of_ble_eq_true rfl) (by omega) (sp_L_some hf _ 6 (by omega) (by omega)) (fun E h1 hx => hx.elim) (fun v h1 hq => ?_)
    obtain ⟨rfl, j2, hj2, rfl⟩ := hq
    have C := zk_ch (v := v) (F := fun s => zv_pass s (nI j2)) (zk_pass (by omega) hI _) zf1 zf1_n
    refine z_callX (As := [_, _]) ee_L_changes_372 kk_L_changes_223 rfl rfl (Nat.le_of_ble_eq_true rfl) (by omega) (sx_age hf hW (nI j2) (zk_pass (by omega) hI _).1 _ rfl _ rfl (fun E h => zk_x_pass (by omega) hI _ E (C.2.2 E h))) (fun E h1 hx => hx.elim) (fun v h1 hq => ?_)
    obtain ⟨R1, I1, L1, z1, rfl, rfl, hW1⟩ := hq
    refine z_if_lt ee_L_changes_375 (tgt := 382) (by decide) (fun c_375 => ?_) (fun c_375 => ?_)
    -- at 375
    · refine z_iconst ee_L_changes_382 (v := nI 0) (by decide) ?_
      refine z_zret ee_L_changes_383 (ty := .boolean) rfl (by decide) (by omega) (by omega) ?_
      -- at 383
      exact ⟨0, _, Or.inl rfl, (C.1.d.1 c_375).mono (by omega), C.2.1.trans hb0, _, _, _, _, rfl, rfl, hW1⟩
    · refine z_iconst ee_L_changes_378 (v := nI 1) (by decide) ?_
      refine z_goto ee_L_changes_379 (tgt := 383) (by decide) ?_
      refine z_zret ee_L_changes_383 (ty := .boolean) rfl (by decide) (by omega) (by omega) ?_
      -- at 383
      exact ⟨1, _, Or.inr rfl, (C.1.d.2 c_375).mono (by omega), C.2.1.trans hb0, _, _, _, _, rfl, rfl, hW1⟩
end Chg
