/-! THE LAW: asks -/
def zk_a0 (s : zz_SV) : Int64 := 31 * zz_dl (zz_mdl s) + (zz_fl2 (zz_rsl s)).toInt64
def zk_a1 (s : zz_SV) : Int64 := 31 * (31 * (31 * (31 * (31 * zk_a0 s + (nI (sv_t s).length).toInt64) + (nI (sv_r s).length).toInt64) + (sv_d s).toInt64) + (sv_c s).toInt64) + (zz_crp s).toInt64
def zk_r (s : zz_SV) : Nat → Nat → Int64 → Int64
  | 0, _, a => a
  | k + 1, r, a => zk_r s k (r + 1) (31 * (31 * a + (wk_dampness s (nI r)).toInt64) + (wk_pagesIn s (nI r)).toInt64)
def zk_c (s : zz_SV) (t : Int32) : Nat → Nat → Int64 → Int64
  | 0, _, a => a
  | k + 1, i, a => zk_c s t k (i + 1) (31 * a + (wk_codeChar s t (nI i)).toInt64)
def wk_lineChar (xs : List Int32) (i : Int32) : Int32 := zy zf1 (if 0 ≤ i.toInt ∧ i.toInt < xs.length then .inl (zz_at0 xs i) else .inr eI : Int32 ⊕ String)
def zk_l (xs : List Int32) : Nat → Nat → Int64 → Int64
  | 0, _, a => a
  | k + 1, i, a => zk_l xs k (i + 1) (31 * a + (wk_lineChar xs (nI i)).toInt64)
def zk_b (s : zz_SV) (p : Nat) (t : Int32) (a : Int64) : Int64 :=
  31 * (31 * (31 * (31 * (31 * (31 * a + (wk_byPriority s (nI p)).toInt64) + (wk_byRot s (nI p)).toInt64) + (wk_checksumOf s t).toInt64) + (wk_untilRotten s t).toInt64) + (wk_isReadable s t).toInt64) + (wk_decodedLength s t).toInt64
/-- the telegram that is found by the number of the one at p -/
def zk_x (s : zz_SV) (p : Nat) : zz_TG := zz_tat (sv_t s) ((zz_pos (tg_n (zz_tat (sv_t s) p)) 0 (sv_t s)).getD 0)
def zk_t (s : zz_SV) : Nat → Nat → Int64 → Int64
  | 0, _, a => a
  | k + 1, p, a => zk_t s k (p + 1) (zk_l (zz_wto 432 (zk_x s p)) (zz_wto 432 (zk_x s p)).length 0 (zk_c s (tg_n (zz_tat (sv_t s) p)) (tg_c (zk_x s p)).length 0 (zk_b s p (tg_n (zz_tat (sv_t s) p)) a)))
def zk_ask (s : zz_SV) : Int64 := zk_t s (sv_t s).length 0 (zk_r s (sv_r s).length 0 (zk_a1 s))
/-- no quotient is a NaN -/
def zk_nn (s : zz_SV) : Prop := ((sv_t s).length ≠ 0 → vf_n64 (zz_md s)) ∧ (zz_cps s ≠ 0 → vf_n32 (zz_rs s))
section Asks
variable {g : zz_G} {l : Launch} {K : Nat → Nat × Nat} {R R0 : Nat → Nat → Option Nat} {I I0 : Nat → Nat → Int32} {L L0 : Nat → Nat → Int64} {z z0 B : Nat} {v w : zz_OV}
theorem sq_lineChar (hf : l.stackTraces = false) (hW : zz_Lw g K B z0 R0 I0 L0 v R I L z) (i : Int32) : zz_S g l mm_L_lineChar 1 6 [.ref B, .int i] (K, R, I, L, z) (zz_LW g K B z0 R0 I0 L0 (some (.int (wk_lineChar (ov_l v) i))) v) zz_no := by
  exact sx_lineChar hf hW i ((if 0 ≤ i.toInt ∧ i.toInt < (ov_l v).length then .inl (zz_at0 (ov_l v) i) else .inr eI : Int32 ⊕ String), v) rfl _ zw_zy (fun E h => zz_ie h)
theorem sq_write (hf : l.stackTraces = false) (hW : zz_Lw g K B z0 R0 I0 L0 v R I L z) (n : Int32) {p : Nat} {x : zz_TG} (hp : zz_pos n 0 (sv_t (ov_s v)) = some p) (hx : (sv_t (ov_s v))[p]? = some x) : zz_S g l mm_L_write 1 6 [.ref B, .int n] (K, R, I, L, z) (zz_LW g K B z0 R0 I0 L0 (some (.int (nI (zz_wto 432 x).length))) (ow_l v (zz_wto 432 x))) zz_no :=
  sx_write hf hW n (.inl (nI (zz_wto 432 x).length), ow_l v (zz_wto 432 x)) (pq_tel_s hp hx) _ rfl (fun E h => by cases h)
theorem sq_mean (hf : l.stackTraces = false) (hW : zz_Lw g K B z0 R0 I0 L0 v R I L z) (hn : zk_nn (ov_s v)) : zz_S g l mm_L_meanLength 1 6 [.ref B] (K, R, I, L, z) (zz_LW g K B z0 R0 I0 L0 (some (.double (zz_mdl (ov_s v)))) v) zz_no :=
  zz_S.mono (sp_L_meanLength hf hW.1 hn.1) (fun a h' ⟨z', e1, e2, e3⟩ => ⟨R, I, L, z', e1, e3, hW.1, hW.2.1, hW.2.2.1, Nat.le_trans hW.2.2.2.1 e2, hW.2.2.2.2⟩) (fun E h1 hx => hx)
theorem sq_share (hf : l.stackTraces = false) (hW : zz_Lw g K B z0 R0 I0 L0 v R I L z) (hn : zk_nn (ov_s v)) : zz_S g l mm_L_rottenShare 1 6 [.ref B] (K, R, I, L, z) (zz_LW g K B z0 R0 I0 L0 (some (.float (zz_rsl (ov_s v)))) v) zz_no :=
  zz_S.mono (sp_L_rottenShare hf hW.1 hn.2) (fun a h' ⟨z', e1, e2, e3⟩ => ⟨R, I, L, z', e1, e3, hW.1, hW.2.1, hW.2.2.1, Nat.le_trans hW.2.2.2.1 e2, hW.2.2.2.2⟩) (fun E h1 hx => hx)
/-- the code's characters -/
theorem zk_c_loop (hf : l.stackTraces = false) {n : Int32} {p : Nat} {t : Int32} {q : Nat} {x : zz_TG} (hp : zz_pos t 0 (sv_t (ov_s v)) = some q) (hx : (sv_t (ov_s v))[q]? = some x) {Q : Option Value → zz_H → Prop} {mc ms ce sl : Nat} (fin : Int64)
    (kk : ∀ R I L z, zz_Lw g K B z0 R0 I0 L0 v R I L z → Zz g l mm_L_asks mc ms Q zz_no (ce + (3 * (tg_c x).length + 1)) (sl + 6 * (3 * (tg_c x).length + 1)) 248 [some (.ref B), some (.int n), some (.long fin), none, some (.int (nI p)), some (.int t)] [] (K, R, I, L, z)) (hm : ce + 289 ≤ mc ∧ sl + 6 * 289 ≤ ms) (hl : (tg_c x).length ≤ 96) : ∀ (k i : Nat) (a : Int64) R I L z, k + i = (tg_c x).length → zk_c (ov_s v) t k i a = fin → zz_Lw g K B z0 R0 I0 L0 v R I L z →
    Zz g l mm_L_asks mc ms Q zz_no (ce + 3 * i) (sl + 6 * (3 * i)) 215 [some (.ref B), some (.int n), some (.long a), none, some (.int (nI p)), some (.int t), some (.int (nI i))] [] (K, R, I, L, z) := by
  have ecl : wk_codeLength (ov_s v) t = nI (tg_c x).length := by
    unfold wk_codeLength wq
    rw [hp]
    show zy zf1 (.inl (nI (tg_c (zz_tat (sv_t (ov_s v)) q)).length)) = _
    rw [show zz_tat (sv_t (ov_s v)) q = x by unfold zz_tat; rw [List.getD_eq_getElem?_getD, hx]; rfl]
    rfl
  intro k
  induction k with
  | zero =>
    intro i a R I L z hi hfin hW
    have hk := hW.1.1.1.1
    refine z_iload ee_L_asks_215 rfl ?_
    refine z_aload_n ee_L_asks_217 rfl ?_
    refine z_iload ee_L_asks_218 rfl ?_
    -- at 220
    refine z_callX (As := [_, _]) ee_L_asks_220 kk_L_asks_279 rfl rfl (Nat.le_of_ble_eq_true rfl) (by omega) (sq_codeLength hf hW t) (fun E h1 hx => hx.elim) (fun v h1 hq => ?_)
    obtain ⟨R1, I1, L1, z1, rfl, rfl, hW⟩ := hq
    rw [ecl]
    refine z_icmp_ge ee_L_asks_223 (tgt := 248) (by decide) (fun c_223 => ?_) (fun c_223 => ?_)
    -- at 223
    · have hfin : a = fin := hfin
      subst hfin
      exact z_wid (by omega) (by omega) (z_lvk (kk _ _ _ _ hW) (by repeat (first | exact trivial | refine ⟨rfl, ?_⟩)))
    · simp (disch := omega) only [zi_lt, zi_le, zi_eq, zi_n, zi_0, zi_m1] at c_223
      omega
  | succ k ih =>
    intro i a R I L z hi hfin hW
    have hk := hW.1.1.1.1
    refine z_iload ee_L_asks_215 rfl ?_
    refine z_aload_n ee_L_asks_217 rfl ?_
    refine z_iload ee_L_asks_218 rfl ?_
    -- at 220
    refine z_callX (As := [_, _]) ee_L_asks_220 kk_L_asks_279 rfl rfl (Nat.le_of_ble_eq_true rfl) (by omega) (sq_codeLength hf hW t) (fun E h1 hx => hx.elim) (fun v h1 hq => ?_)
    obtain ⟨R1, I1, L1, z1, rfl, rfl, hW⟩ := hq
    rw [ecl]
    refine z_icmp_ge ee_L_asks_223 (tgt := 248) (by decide) (fun c_223 => ?_) (fun c_223 => ?_)
    -- at 223
    · simp (disch := omega) only [zi_lt, zi_le, zi_eq, zi_n, zi_0, zi_m1] at c_223
      omega
    · refine z_ldc2 ee_L_asks_226 wc_L_asks_225 ?_
      refine z_lload_n ee_L_asks_229 rfl ?_
      refine z_lmul ee_L_asks_230 ?_
      refine z_aload_n ee_L_asks_231 rfl ?_
      refine z_iload ee_L_asks_232 rfl ?_
      refine z_iload ee_L_asks_234 rfl ?_
      -- at 236
      refine z_callX (As := [_, _, _]) ee_L_asks_236 kk_L_asks_281 rfl rfl (Nat.le_of_ble_eq_true rfl) (by omega) (sq_codeChar hf hW t (nI i)) (fun E h1 hx => hx.elim) (fun v h1 hq => ?_)
      obtain ⟨R1, I1, L1, z1, rfl, rfl, hW⟩ := hq
      refine z_i2l ee_L_asks_239 ?_
      refine z_ladd ee_L_asks_240 ?_
      refine z_lstore_m ee_L_asks_241 (j := 2) rfl (by decide) ?_
      refine z_iinc ee_L_asks_242 rfl rfl (by decide) ?_
      refine z_goto ee_L_asks_245 (tgt := 215) (by decide) ?_
      -- at 215
      rw [zz_iinc1]
      refine z_wid (by omega) (by omega) (z_lvk (ih (i + 1) _ _ _ _ _ (by omega) hfin hW) (by repeat (first | exact trivial | refine ⟨rfl, ?_⟩)))
/-- the line's characters -/
theorem zk_l_loop (hf : l.stackTraces = false) {n : Int32} {p : Nat} {Q : Option Value → zz_H → Prop} {mc ms ce sl : Nat} (fin : Int64)
    (kk : ∀ R I L z, zz_Lw g K B z0 R0 I0 L0 v R I L z → Zz g l mm_L_asks mc ms Q zz_no (ce + (ov_l v).length) (sl + 6 * (ov_l v).length) 286 [some (.ref B), some (.int n), some (.long fin), none, some (.int (nI p))] [] (K, R, I, L, z)) (hm : ce + 432 ≤ mc ∧ sl + 6 * 432 ≤ ms) (hl : (ov_l v).length ≤ 432) : ∀ (k i : Nat) (a : Int64) (t : Int32) R I L z, k + i = (ov_l v).length → zk_l (ov_l v) k i a = fin → zz_Lw g K B z0 R0 I0 L0 v R I L z →
    Zz g l mm_L_asks mc ms Q zz_no (ce + i) (sl + 6 * i) 259 [some (.ref B), some (.int n), some (.long a), none, some (.int (nI p)), some (.int t), some (.int (nI (ov_l v).length)), some (.int (nI i))] [] (K, R, I, L, z) := by
  intro k
  induction k with
  | zero =>
    intro i a t R I L z hi hfin hW
    have hk := hW.1.1.1.1
    refine z_iload ee_L_asks_259 rfl ?_
    refine z_iload ee_L_asks_261 rfl ?_
    refine z_icmp_ge ee_L_asks_263 (tgt := 286) (by decide) (fun c_263 => ?_) (fun c_263 => ?_)
    -- at 263
    · have hfin : a = fin := hfin
      subst hfin
      exact z_wid (by omega) (by omega) (z_lvk (kk _ _ _ _ hW) (by repeat (first | exact trivial | refine ⟨rfl, ?_⟩)))
    · simp (disch := omega) only [zi_lt, zi_le, zi_eq, zi_n, zi_0, zi_m1] at c_263
      omega
  | succ k ih =>
    intro i a t R I L z hi hfin hW
    have hk := hW.1.1.1.1
    refine z_iload ee_L_asks_259 rfl ?_
    refine z_iload ee_L_asks_261 rfl ?_
    refine z_icmp_ge ee_L_asks_263 (tgt := 286) (by decide) (fun c_263 => ?_) (fun c_263 => ?_)
    -- at 263
    · simp (disch := omega) only [zi_lt, zi_le, zi_eq, zi_n, zi_0, zi_m1] at c_263
      omega
    · refine z_ldc2 ee_L_asks_266 wc_L_asks_225 ?_
      refine z_lload_n ee_L_asks_269 rfl ?_
      refine z_lmul ee_L_asks_270 ?_
      refine z_aload_n ee_L_asks_271 rfl ?_
      refine z_iload ee_L_asks_272 rfl ?_
      -- at 274
      refine z_callX (As := [_, _]) ee_L_asks_274 kk_L_asks_178 rfl rfl (Nat.le_of_ble_eq_true rfl) (by omega) (sq_lineChar hf hW (nI i)) (fun E h1 hx => hx.elim) (fun v h1 hq => ?_)
      obtain ⟨R1, I1, L1, z1, rfl, rfl, hW⟩ := hq
      refine z_i2l ee_L_asks_277 ?_
      refine z_ladd ee_L_asks_278 ?_
      refine z_lstore_m ee_L_asks_279 (j := 2) rfl (by decide) ?_
      refine z_iinc ee_L_asks_280 rfl rfl (by decide) ?_
      refine z_goto ee_L_asks_283 (tgt := 259) (by decide) ?_
      -- at 259
      rw [zz_iinc1]
      refine z_wid (by omega) (by omega) (z_lvk (ih (i + 1) _ t _ _ _ _ (by omega) hfin hW) (by repeat (first | exact trivial | refine ⟨rfl, ?_⟩)))
/-- the telegrams -/
theorem zk_t_loop (hf : l.stackTraces = false) {Q : Option Value → zz_H → Prop} {mc ms ce sl : Nat} (fin : Int64) (s : zz_SV) (hlen : (sv_t s).length ≤ 32)
    (kk : ∀ v R I L z, ov_s v = s → (∃ xs, v = ow_l w xs) → zz_Lw g K B z0 R0 I0 L0 v R I L z → Zz g l mm_L_asks mc ms Q zz_no (ce + 731 * (sv_t s).length) (sl + 6 * (731 * (sv_t s).length)) 292 [some (.ref B), some (.int (nI (sv_t s).length)), some (.long fin)] [] (K, R, I, L, z)) (hm : ce + 731 * 32 ≤ mc ∧ sl + 6 * (731 * 32) ≤ ms) : ∀ (k p : Nat) (a : Int64) v R I L z, ov_s v = s → (∃ xs, v = ow_l w xs) → k + p = (sv_t s).length → zk_t s k p a = fin → zz_Lw g K B z0 R0 I0 L0 v R I L z →
    Zz g l mm_L_asks mc ms Q zz_no (ce + 731 * p) (sl + 6 * (731 * p)) 122 [some (.ref B), some (.int (nI (sv_t s).length)), some (.long a), none, some (.int (nI p))] [] (K, R, I, L, z) := by
  intro k
  induction k with
  | zero =>
    intro p a v R I L z hs hxs hi hfin hW
    refine z_iload ee_L_asks_122 rfl ?_
    refine z_iload_n ee_L_asks_124 rfl ?_
    refine z_icmp_ge ee_L_asks_125 (tgt := 292) (by decide) (fun c_125 => ?_) (fun c_125 => ?_)
    -- at 125
    · have hfin : a = fin := hfin
      subst hfin
      exact z_wid (by omega) (by omega) (z_lvk (kk _ _ _ _ _ hs hxs hW) (by repeat (first | exact trivial | refine ⟨rfl, ?_⟩)))
    · simp (disch := omega) only [zi_lt, zi_le, zi_eq, zi_n, zi_0, zi_m1] at c_125
      omega
  | succ k ih =>
    intro p a v R I L z hs hxs hi hfin hW
    obtain ⟨y, hy⟩ : ∃ y, (sv_t s)[p]? = some y := ⟨_, List.getElem?_eq_getElem (by omega)⟩
    have ey : zz_tat (sv_t s) p = y := by unfold zz_tat; rw [List.getD_eq_getElem?_getD, hy]; rfl
    obtain ⟨q, x, hq1, hq2, hq3, hq4⟩ := zz_fnd hy
    have ex : zk_x s p = x := by unfold zk_x; rw [ey, hq1]; exact hq3
    have eta : wk_telegramAt s (nI p) = tg_n y := by
      unfold wk_telegramAt
      rw [zi_n (by omega), if_pos ⟨by omega, by omega⟩, Int.toNat_natCast, ey]
      rfl
    have hcx := (hW.store.2.2 q x (by rw [hs]; exact hq2)).1
    refine z_iload ee_L_asks_122 rfl ?_
    refine z_iload_n ee_L_asks_124 rfl ?_
    refine z_icmp_ge ee_L_asks_125 (tgt := 292) (by decide) (fun c_125 => ?_) (fun c_125 => ?_)
    -- at 125
    · simp (disch := omega) only [zi_lt, zi_le, zi_eq, zi_n, zi_0, zi_m1] at c_125
      omega
    · refine z_aload_n ee_L_asks_128 rfl ?_
      refine z_iload ee_L_asks_129 rfl ?_
      -- at 131
      refine z_callX (As := [_, _]) ee_L_asks_131 kk_L_asks_262 rfl rfl (Nat.le_of_ble_eq_true rfl) (by omega) (sq_telegramAt hf hW (nI p)) (fun E h1 hx => hx.elim) (fun v h1 hq => ?_)
      obtain ⟨R1, I1, L1, z1, rfl, rfl, hW⟩ := hq
      rw [hs, eta]
      refine z_istore ee_L_asks_134 (by decide) ?_
      refine z_ldc2 ee_L_asks_136 wc_L_asks_225 ?_
      refine z_ldc2 ee_L_asks_139 wc_L_asks_225 ?_
      refine z_ldc2 ee_L_asks_142 wc_L_asks_225 ?_
      refine z_ldc2 ee_L_asks_145 wc_L_asks_225 ?_
      refine z_lload_n ee_L_asks_148 rfl ?_
      refine z_lmul ee_L_asks_149 ?_
      refine z_aload_n ee_L_asks_150 rfl ?_
      refine z_iload ee_L_asks_151 rfl ?_
      -- at 153
      refine z_callX (As := [_, _]) ee_L_asks_153 kk_L_asks_264 rfl rfl (Nat.le_of_ble_eq_true rfl) (by omega) (sq_byPriority hf hW (nI p)) (fun E h1 hx => hx.elim) (fun v h1 hq => ?_)
      obtain ⟨R1, I1, L1, z1, rfl, rfl, hW⟩ := hq
      refine z_i2l ee_L_asks_156 ?_
      refine z_ladd ee_L_asks_157 ?_
      refine z_lmul ee_L_asks_158 ?_
      refine z_aload_n ee_L_asks_159 rfl ?_
      refine z_iload ee_L_asks_160 rfl ?_
      -- at 162
      refine z_callX (As := [_, _]) ee_L_asks_162 kk_L_asks_267 rfl rfl (Nat.le_of_ble_eq_true rfl) (by omega) (sq_byRot hf hW (nI p)) (fun E h1 hx => hx.elim) (fun v h1 hq => ?_)
      obtain ⟨R1, I1, L1, z1, rfl, rfl, hW⟩ := hq
      refine z_i2l ee_L_asks_165 ?_
      refine z_ladd ee_L_asks_166 ?_
      refine z_lmul ee_L_asks_167 ?_
      refine z_aload_n ee_L_asks_168 rfl ?_
      refine z_iload ee_L_asks_169 rfl ?_
      -- at 171
      refine z_callX (As := [_, _]) ee_L_asks_171 kk_L_asks_270 rfl rfl (Nat.le_of_ble_eq_true rfl) (by omega) (sq_checksumOf hf hW (tg_n y)) (fun E h1 hx => hx.elim) (fun v h1 hq => ?_)
      obtain ⟨R1, I1, L1, z1, rfl, rfl, hW⟩ := hq
      refine z_i2l ee_L_asks_174 ?_
      refine z_ladd ee_L_asks_175 ?_
      refine z_lmul ee_L_asks_176 ?_
      refine z_aload_n ee_L_asks_177 rfl ?_
      refine z_iload ee_L_asks_178 rfl ?_
      -- at 180
      refine z_callX (As := [_, _]) ee_L_asks_180 kk_L_asks_272 rfl rfl (Nat.le_of_ble_eq_true rfl) (by omega) (sq_untilRotten hf hW (tg_n y)) (fun E h1 hx => hx.elim) (fun v h1 hq => ?_)
      obtain ⟨R1, I1, L1, z1, rfl, rfl, hW⟩ := hq
      refine z_i2l ee_L_asks_183 ?_
      refine z_ladd ee_L_asks_184 ?_
      refine z_lstore_m ee_L_asks_185 (j := 2) rfl (by decide) ?_
      refine z_ldc2 ee_L_asks_186 wc_L_asks_225 ?_
      refine z_ldc2 ee_L_asks_189 wc_L_asks_225 ?_
      refine z_lload_n ee_L_asks_192 rfl ?_
      refine z_lmul ee_L_asks_193 ?_
      refine z_aload_n ee_L_asks_194 rfl ?_
      refine z_iload ee_L_asks_195 rfl ?_
      -- at 197
      refine z_callX (As := [_, _]) ee_L_asks_197 kk_L_asks_275 rfl rfl (Nat.le_of_ble_eq_true rfl) (by omega) (sq_isReadable hf hW (tg_n y)) (fun E h1 hx => hx.elim) (fun v h1 hq => ?_)
      obtain ⟨R1, I1, L1, z1, rfl, rfl, hW⟩ := hq
      refine z_i2l ee_L_asks_200 ?_
      refine z_ladd ee_L_asks_201 ?_
      refine z_lmul ee_L_asks_202 ?_
      refine z_aload_n ee_L_asks_203 rfl ?_
      refine z_iload ee_L_asks_204 rfl ?_
      -- at 206
      refine z_callX (As := [_, _]) ee_L_asks_206 kk_L_asks_277 rfl rfl (Nat.le_of_ble_eq_true rfl) (by omega) (sq_decodedLength hf hW (tg_n y)) (fun E h1 hx => hx.elim) (fun v h1 hq => ?_)
      obtain ⟨R1, I1, L1, z1, rfl, rfl, hW⟩ := hq
      refine z_i2l ee_L_asks_209 ?_
      refine z_ladd ee_L_asks_210 ?_
      refine z_lstore_m ee_L_asks_211 (j := 2) rfl (by decide) ?_
      refine z_iconst ee_L_asks_212 (v := nI 0) (by decide) ?_
      refine z_istore ee_L_asks_213 (by decide) ?_
      -- at 215
      rw [hs]
      refine z_lvk (z_wid (ce' := (ce + 731 * p + 9) + 3 * 0) (sl' := (sl + 6 * (731 * p) + 54) + 6 * (3 * 0)) (by omega) (by omega) (zk_c_loop hf (p := p) (t := tg_n y) (by rw [hs]; exact hq1) (by rw [hs]; exact hq2) (zk_c s (tg_n y) (tg_c x).length 0 (zk_b s p (tg_n y) a)) ?_ (by omega) hcx (tg_c x).length 0 (zk_b s p (tg_n y) a) _ _ _ _ rfl (by rw [hs]) hW)) (by repeat (first | exact trivial | refine ⟨rfl, ?_⟩))
      intro R1 I1 L1 z1 hW
      refine z_aload_n ee_L_asks_248 rfl ?_
      refine z_iload ee_L_asks_249 rfl ?_
      -- at 251
      refine z_callX (As := [_, _]) ee_L_asks_251 kk_L_asks_284 rfl rfl (Nat.le_of_ble_eq_true rfl) (by omega) (sq_write hf hW (tg_n y) (by rw [hs]; exact hq1) (by rw [hs]; exact hq2)) (fun E h1 hx => hx.elim) (fun v h1 hq => ?_)
      obtain ⟨R1, I1, L1, z1, rfl, rfl, hW⟩ := hq
      have hll := hW.line
      refine z_istore ee_L_asks_254 (by decide) ?_
      refine z_iconst ee_L_asks_256 (v := nI 0) (by decide) ?_
      refine z_istore ee_L_asks_257 (by decide) ?_
      -- at 259
      refine z_lvk (z_wid (ce' := (ce + 731 * p + 299) + 0) (sl' := (sl + 6 * (731 * p) + 6 * 299) + 6 * 0) (by omega) (by omega) (zk_l_loop (v := ow_l v (zz_wto 432 x)) hf (n := nI (sv_t s).length) (p := p) (zk_l (zz_wto 432 x) (zz_wto 432 x).length 0 (zk_c s (tg_n y) (tg_c x).length 0 (zk_b s p (tg_n y) a))) ?_ (by omega) hll (zz_wto 432 x).length 0 _ (tg_n y) _ _ _ _ rfl rfl hW)) (by repeat (first | exact trivial | refine ⟨rfl, ?_⟩))
      intro R1 I1 L1 z1 hW
      refine z_iinc ee_L_asks_286 rfl rfl (by decide) ?_
      refine z_goto ee_L_asks_289 (tgt := 122) (by decide) ?_
      -- at 122
      rw [zz_iinc1]
      refine z_wid (ce' := ce + 731 * (p + 1)) (sl' := sl + 6 * (731 * (p + 1))) ?_ ?_ (z_lvk (ih (p + 1) _ _ _ _ _ _ (show ov_s (ow_l v (zz_wto 432 x)) = s from hs) ?_ (by omega) ?_ hW) (by repeat (first | exact trivial | refine ⟨rfl, ?_⟩)))
      · have : (ov_l (ow_l v (zz_wto 432 x))).length ≤ 432 := hll
        omega
      · have : (ov_l (ow_l v (zz_wto 432 x))).length ≤ 432 := hll
        omega
      · obtain ⟨xs, rfl⟩ := hxs
        exact ⟨_, rfl⟩
      · rw [← hfin]
        conv => rhs; unfold zk_t
        rw [ey, ex]
/-- the roots -/
theorem zk_r_loop (hf : l.stackTraces = false) {n : Int32} {Q : Option Value → zz_H → Prop} {mc ms : Nat} (fin : Int64) (hr4 : (sv_r (ov_s v)).length ≤ 4)
    (kk : ∀ R I L z, zz_Lw g K B z0 R0 I0 L0 v R I L z → Zz g l mm_L_asks mc ms Q zz_no 10 60 119 [some (.ref B), some (.int n), some (.long fin)] [] (K, R, I, L, z)) (hm : 10 ≤ mc ∧ 60 ≤ ms) : ∀ (k r : Nat) (a : Int64) R I L z, k + r = (sv_r (ov_s v)).length → zk_r (ov_s v) k r a = fin → zz_Lw g K B z0 R0 I0 L0 v R I L z →
    Zz g l mm_L_asks mc ms Q zz_no (2 + 2 * r) (12 + 12 * r) 78 [some (.ref B), some (.int n), some (.long a), none, some (.int (nI r))] [] (K, R, I, L, z) := by
  intro k
  induction k with
  | zero =>
    intro r a R I L z hi hfin hW
    have hk := hW.1.1.1.1
    refine z_iload ee_L_asks_78 rfl ?_
    refine z_aload_n ee_L_asks_80 rfl ?_
    -- at 81
    refine z_callV (As := []) ee_L_asks_81 kk_L_asks_246 rfl (by assumption) rfl rfl (Nat.le_of_ble_eq_true rfl) (by omega) (sx_P_rootCount hf hW) (fun E h1 hx => hx.elim) (fun v h1 hq => ?_)
    obtain ⟨R1, I1, L1, z1, rfl, rfl, hW⟩ := hq
    refine z_icmp_ge ee_L_asks_84 (tgt := 119) (by decide) (fun c_84 => ?_) (fun c_84 => ?_)
    -- at 84
    · have hfin : a = fin := hfin
      subst hfin
      exact z_wid (by omega) (by omega) (z_lvk (kk _ _ _ _ hW) (by repeat (first | exact trivial | refine ⟨rfl, ?_⟩)))
    · simp (disch := omega) only [zi_lt, zi_le, zi_eq, zi_n, zi_0, zi_m1] at c_84
      omega
  | succ k ih =>
    intro r a R I L z hi hfin hW
    have hk := hW.1.1.1.1
    refine z_iload ee_L_asks_78 rfl ?_
    refine z_aload_n ee_L_asks_80 rfl ?_
    -- at 81
    refine z_callV (As := []) ee_L_asks_81 kk_L_asks_246 rfl (by assumption) rfl rfl (Nat.le_of_ble_eq_true rfl) (by omega) (sx_P_rootCount hf hW) (fun E h1 hx => hx.elim) (fun v h1 hq => ?_)
    obtain ⟨R1, I1, L1, z1, rfl, rfl, hW⟩ := hq
    refine z_icmp_ge ee_L_asks_84 (tgt := 119) (by decide) (fun c_84 => ?_) (fun c_84 => ?_)
    -- at 84
    · simp (disch := omega) only [zi_lt, zi_le, zi_eq, zi_n, zi_0, zi_m1] at c_84
      omega
    · refine z_ldc2 ee_L_asks_87 wc_L_asks_225 ?_
      refine z_ldc2 ee_L_asks_90 wc_L_asks_225 ?_
      refine z_lload_n ee_L_asks_93 rfl ?_
      refine z_lmul ee_L_asks_94 ?_
      refine z_aload_n ee_L_asks_95 rfl ?_
      refine z_iload ee_L_asks_96 rfl ?_
      -- at 98
      refine z_callX (As := [_, _]) ee_L_asks_98 kk_L_asks_258 rfl rfl (Nat.le_of_ble_eq_true rfl) (by omega) (sq_dampness hf hW (nI r)) (fun E h1 hx => hx.elim) (fun v h1 hq => ?_)
      obtain ⟨R1, I1, L1, z1, rfl, rfl, hW⟩ := hq
      refine z_i2l ee_L_asks_101 ?_
      refine z_ladd ee_L_asks_102 ?_
      refine z_lmul ee_L_asks_103 ?_
      refine z_aload_n ee_L_asks_104 rfl ?_
      refine z_iload ee_L_asks_105 rfl ?_
      -- at 107
      refine z_callX (As := [_, _]) ee_L_asks_107 kk_L_asks_260 rfl rfl (Nat.le_of_ble_eq_true rfl) (by omega) (sq_pagesIn hf hW (nI r)) (fun E h1 hx => hx.elim) (fun v h1 hq => ?_)
      obtain ⟨R1, I1, L1, z1, rfl, rfl, hW⟩ := hq
      refine z_i2l ee_L_asks_110 ?_
      refine z_ladd ee_L_asks_111 ?_
      refine z_lstore_m ee_L_asks_112 (j := 2) rfl (by decide) ?_
      refine z_iinc ee_L_asks_113 rfl rfl (by decide) ?_
      refine z_goto ee_L_asks_116 (tgt := 78) (by decide) ?_
      -- at 78
      rw [zz_iinc1]
      refine z_wid (by omega) (by omega) (z_lvk (ih (r + 1) _ _ _ _ _ (by omega) hfin hW) (by repeat (first | exact trivial | refine ⟨rfl, ?_⟩)))
theorem sp_L_asks (hf : l.stackTraces = false) (hW : zz_Lw g K B z0 R0 I0 L0 v R I L z) (hn : zk_nn (ov_s v)) : zz_S g l mm_L_asks 23402 140412 [.ref B] (K, R, I, L, z) (fun a h' => ∃ xs, zz_LW g K B z0 R0 I0 L0 (some (.long (zk_ask (ov_s v)))) (ow_l v xs) a h') zz_no := by
  have hk := hW.1.1.1.1
  have hst := hW.store
  refine z_start hf rfl (by decide +kernel) (Nat.le_of_ble_eq_true rfl) ?_
  dsimp only [zz_lv0]
  refine z_aload_n ee_L_asks_0 rfl ?_
  -- at 1
  refine z_callV (As := []) ee_L_asks_1 kk_L_asks_220 rfl (by assumption) rfl rfl (Nat.le_of_ble_eq_true rfl) (by omega) (sx_P_telegramCount hf hW) (fun E h1 hx => hx.elim) (fun v h1 hq => ?_)
  obtain ⟨R1, I1, L1, z1, rfl, rfl, hW⟩ := hq
  refine z_istore_m ee_L_asks_4 (j := 1) rfl (by decide) ?_
  refine z_ldc2 ee_L_asks_5 wc_L_asks_225 ?_
  refine z_aload_n ee_L_asks_8 rfl ?_
  -- at 9
  refine z_callX (As := [_]) ee_L_asks_9 kk_L_asks_227 rfl rfl (Nat.le_of_ble_eq_true rfl) (by omega) (sq_mean hf hW hn) (fun E h1 hx => hx.elim) (fun v h1 hq => ?_)
  obtain ⟨R1, I1, L1, z1, rfl, rfl, hW⟩ := hq
  refine z_callS (As := [_]) ee_L_asks_12 kk_L_asks_231 rfl rfl (Nat.le_of_ble_eq_true rfl) (by omega) (sp_JD_doubleToLongBits hf _) (fun E h1 hx => hx.elim) (fun v h1 hq => ?_)
  obtain ⟨rfl, rfl⟩ := hq
  refine z_lmul ee_L_asks_15 ?_
  refine z_aload_n ee_L_asks_16 rfl ?_
  -- at 17
  refine z_callX (As := [_]) ee_L_asks_17 kk_L_asks_237 rfl rfl (Nat.le_of_ble_eq_true rfl) (by omega) (sq_share hf hW hn) (fun E h1 hx => hx.elim) (fun v h1 hq => ?_)
  obtain ⟨R1, I1, L1, z1, rfl, rfl, hW⟩ := hq
  refine z_callS (As := [_]) ee_L_asks_20 kk_L_asks_240 rfl rfl (Nat.le_of_ble_eq_true rfl) (by omega) (sp_JF_floatToIntBits hf _) (fun E h1 hx => hx.elim) (fun v h1 hq => ?_)
  obtain ⟨rfl, rfl⟩ := hq
  refine z_i2l ee_L_asks_23 ?_
  refine z_ladd ee_L_asks_24 ?_
  refine z_lstore_m ee_L_asks_25 (j := 2) rfl (by decide) ?_
  refine z_ldc2 ee_L_asks_26 wc_L_asks_225 ?_
  refine z_ldc2 ee_L_asks_29 wc_L_asks_225 ?_
  refine z_ldc2 ee_L_asks_32 wc_L_asks_225 ?_
  refine z_ldc2 ee_L_asks_35 wc_L_asks_225 ?_
  refine z_ldc2 ee_L_asks_38 wc_L_asks_225 ?_
  refine z_lload_n ee_L_asks_41 rfl ?_
  refine z_lmul ee_L_asks_42 ?_
  refine z_iload_n ee_L_asks_43 rfl ?_
  refine z_i2l ee_L_asks_44 ?_
  refine z_ladd ee_L_asks_45 ?_
  refine z_lmul ee_L_asks_46 ?_
  refine z_aload_n ee_L_asks_47 rfl ?_
  -- at 48
  refine z_callV (As := []) ee_L_asks_48 kk_L_asks_246 rfl (by assumption) rfl rfl (Nat.le_of_ble_eq_true rfl) (by omega) (sx_P_rootCount hf hW) (fun E h1 hx => hx.elim) (fun v h1 hq => ?_)
  obtain ⟨R1, I1, L1, z1, rfl, rfl, hW⟩ := hq
  refine z_i2l ee_L_asks_51 ?_
  refine z_ladd ee_L_asks_52 ?_
  refine z_lmul ee_L_asks_53 ?_
  refine z_aload_n ee_L_asks_54 rfl ?_
  -- at 55
  refine z_callV (As := []) ee_L_asks_55 kk_L_asks_249 rfl (by assumption) rfl rfl (Nat.le_of_ble_eq_true rfl) (by omega) (sx_P_day hf hW) (fun E h1 hx => hx.elim) (fun v h1 hq => ?_)
  obtain ⟨R1, I1, L1, z1, rfl, rfl, hW⟩ := hq
  refine z_i2l ee_L_asks_58 ?_
  refine z_ladd ee_L_asks_59 ?_
  refine z_lmul ee_L_asks_60 ?_
  refine z_aload_n ee_L_asks_61 rfl ?_
  -- at 62
  refine z_callV (As := []) ee_L_asks_62 kk_L_asks_252 rfl (by assumption) rfl rfl (Nat.le_of_ble_eq_true rfl) (by omega) (sx_P_carvedCharacters hf hW) (fun E h1 hx => hx.elim) (fun v h1 hq => ?_)
  obtain ⟨R1, I1, L1, z1, rfl, rfl, hW⟩ := hq
  refine z_i2l ee_L_asks_65 ?_
  refine z_ladd ee_L_asks_66 ?_
  refine z_lmul ee_L_asks_67 ?_
  refine z_aload_n ee_L_asks_68 rfl ?_
  -- at 69
  refine z_callV (As := []) ee_L_asks_69 kk_L_asks_255 rfl (by assumption) rfl rfl (Nat.le_of_ble_eq_true rfl) (by omega) (sx_P_rottenPages hf hW) (fun E h1 hx => hx.elim) (fun v h1 hq => ?_)
  obtain ⟨R1, I1, L1, z1, rfl, rfl, hW⟩ := hq
  refine z_i2l ee_L_asks_72 ?_
  refine z_ladd ee_L_asks_73 ?_
  refine z_lstore_m ee_L_asks_74 (j := 2) rfl (by decide) ?_
  refine z_iconst ee_L_asks_75 (v := nI 0) (by decide) ?_
  refine z_istore ee_L_asks_76 (by decide) ?_
  -- at 78
  refine z_lvk (z_wid (ce' := 2 + 2 * 0) (sl' := 12 + 12 * 0) (by omega) (by omega) (zk_r_loop hf (zk_r (ov_s v) (sv_r (ov_s v)).length 0 (zk_a1 (ov_s v))) hst.1 ?_ (by omega) (sv_r (ov_s v)).length 0 (zk_a1 (ov_s v)) _ _ _ _ rfl rfl hW)) (by repeat (first | exact trivial | refine ⟨rfl, ?_⟩))
  intro R1 I1 L1 z1 hW
  refine z_iconst ee_L_asks_119 (v := nI 0) (by decide) ?_
  refine z_istore ee_L_asks_120 (by decide) ?_
  -- at 122
  refine z_lvk (z_wid (ce' := 10 + 731 * 0) (sl' := 60 + 6 * (731 * 0)) (by omega) (by omega) (zk_t_loop hf (w := v) (zk_ask (ov_s v)) (ov_s v) hst.2.1 ?_ (by omega) (sv_t (ov_s v)).length 0 (zk_r (ov_s v) (sv_r (ov_s v)).length 0 (zk_a1 (ov_s v))) v _ _ _ _ rfl ⟨ov_l v, rfl⟩ rfl rfl hW)) (by repeat (first | exact trivial | refine ⟨rfl, ?_⟩))
  intro v1 R1 I1 L1 z1 hs hxs hW
  obtain ⟨xs, rfl⟩ := hxs
  refine z_lload_n ee_L_asks_292 rfl ?_
  refine z_lret ee_L_asks_293 rfl (by omega) (by omega) ?_
  -- at 293
  exact ⟨xs, R1, I1, L1, z1, rfl, rfl, hW⟩
end Asks
