/-! THE LAW: refused calls -/
theorem pc_n {v : zz_OV} {F : zz_SV → zz_RS × zz_SV} (h : F (ov_s v) = (.inr (-11), ov_s v)) : po_ch v F = (.inr eN, v) := by
  rw [zk_ch_e (E := eN) (by rw [h]; exact rs_e11) (by rw [h]), h]; rfl
theorem pc_i {v : zz_OV} {F : zz_SV → zz_RS × zz_SV} (h : F (ov_s v) = (.inr (-12), ov_s v)) : po_ch v F = (.inr eI, v) := by
  rw [zk_ch_e (E := eI) (by rw [h]; exact rs_e12) (by rw [h]), h]; rfl
theorem pc_a {v : zz_OV} {F : zz_SV → zz_RS × zz_SV} (h : F (ov_s v) = (.inr (-13), ov_s v)) : po_ch v F = (.inr eA, v) := by
  rw [zk_ch_e (E := eA) (by rw [h]; exact rs_e13) (by rw [h]), h]; rfl
theorem pc_u {v : zz_OV} {F : zz_SV → zz_RS × zz_SV} {a b : Int32} (h : F (ov_s v) = (.inl (a, b), ov_s v)) : po_ch v F = (.inr eU, ow_d v (a, b, -1)) := by
  rw [zk_ch_e (E := eU) (by rw [h]; rfl) (by rw [h]), h]; rfl
theorem pr_c {v : zz_OV} {r o : Int32} {E : String} {w : zz_OV} (h : po_ch v (fun s => zv_carve s r o (ov_m v)) = (.inr E, w)) : po_carve v r o = (.inr E, w) := by
  unfold po_carve
  rw [h]
theorem zt_n {s : zz_SV} {n : Int32} {F : Nat → zz_TG → zz_RS × zz_SV} (h : zz_pos n 0 (sv_t s) = none) : zv_tel s n F = (.inr (-11), s) := by
  unfold zv_tel
  rw [h]
theorem zt_s {s : zz_SV} {n : Int32} {F : Nat → zz_TG → zz_RS × zz_SV} {p : Nat} {x : zz_TG} (h : zz_pos n 0 (sv_t s) = some p) (hx : zz_tat (sv_t s) p = x) : zv_tel s n F = F p x := by
  unfold zv_tel
  rw [h, ← hx]
theorem wq_n {s : zz_SV} {n : Int32} {G : zz_TG → Int32 ⊕ String} (h : zz_pos n 0 (sv_t s) = none) : wq s n G = .inr eN := by
  unfold wq
  rw [h]
theorem wq_s {s : zz_SV} {n : Int32} {G : zz_TG → Int32 ⊕ String} {p : Nat} {x : zz_TG} (h : zz_pos n 0 (sv_t s) = some p) (hx : zz_tat (sv_t s) p = x) : wq s n G = G x := by
  unfold wq
  rw [h, ← hx]
/-- numbers that no telegram has -/
theorem zk_none {m : Nat} {s : zz_SV} (h : zk_I m s) {n : Int32} (hn : n.toInt < 0 ∨ (m : Int) ≤ n.toInt) (hm : m < 2 ^ 31) : zz_pos n 0 (sv_t s) = none := by
  cases hp : zz_pos n 0 (sv_t s) with
  | none => rfl
  | some p =>
    exfalso
    obtain ⟨-, -, h3, h4⟩ := zk_at hp
    obtain ⟨-, -, k, k1, -, -, k4⟩ := h
    obtain ⟨⟨j, j1, j2⟩, -⟩ := k4 _ h3
    rw [h4] at j2
    rw [j2, zi_n (by omega)] at hn
    omega
/-- ranks past the last -/
theorem zk_fbr_none {f : zz_TG → zz_TG → Bool} {ts : List zz_TG} {r : Int32} : ∀ ys : List zz_TG, (∀ y ∈ ys, zz_ahc f ts y ≠ r) → zz_fbr f ts r ys = -1 := by
  intro ys
  induction ys with
  | nil => intro _; rfl
  | cons y t ih =>
    intro h
    unfold zz_fbr
    rw [if_neg (h y List.mem_cons_self)]
    exact ih (fun z hz => h z (List.mem_cons_of_mem _ hz))
theorem zk_ahc {f : zz_TG → zz_TG → Bool} {ts : List zz_TG} {y : zz_TG} : zz_ahc f ts y = nI ((ts.map fun x => if f x y = true then 1 else 0).sum) := by
  unfold zz_ahc
  rw [zk_fs_n (ff := fun x => if f x y = true then 1 else 0) ts 0 (fun x hx => by split <;> rfl), Nat.zero_add]
theorem zk_cnt1 {f : zz_TG → Nat} {y : zz_TG} : ∀ ts : List zz_TG, (∀ x ∈ ts, f x ≤ 1) → y ∈ ts → f y = 0 → (ts.map f).sum < ts.length := by
  intro ts
  induction ts with
  | nil => intro _ h; exact absurd h List.not_mem_nil
  | cons x t ih =>
    intro h1 h2 h3
    rw [List.map_cons, List.sum_cons, List.length_cons]
    have hx := h1 x List.mem_cons_self
    have ht := zk_sum_le (ff := f) (b := 1) t (fun z hz => h1 z (List.mem_cons_of_mem _ hz))
    rcases List.mem_cons.mp h2 with e | e
    · rw [← e, h3]; omega
    · have := ih (fun z hz => h1 z (List.mem_cons_of_mem _ hz)) e h3
      omega
theorem zk_ahp_self (y : zz_TG) : zz_ahp y y = false := by
  unfold zz_ahp
  rw [if_neg (by simp), if_neg (by simp)]
  simp [Int32.lt_irrefl]
theorem zk_byp {s : zz_SV} (h : (sv_t s).length ≤ 32) : wk_byPriority s (nI (sv_t s).length) = -1001 := by
  have e : zz_fbr zz_ahp (sv_t s) (nI (sv_t s).length) (sv_t s) = -1 := zk_fbr_none _ fun y hy => by
    rw [zk_ahc]
    have := zk_cnt1 (f := fun x => if zz_ahp x y = true then 1 else 0) (sv_t s) (fun x hx => by split <;> omega) hy (by rw [zk_ahp_self]; rfl)
    intro q
    rw [nI_eq (by omega) (by omega)] at q
    omega
  unfold wk_byPriority
  rw [if_pos e]
  rfl
theorem zk_byr {s : zz_SV} (h : (sv_t s).length ≤ 32) : wk_byRot s (-1) = -1001 := by
  have e : zz_fbr zz_ahr (sv_t s) (-1) (sv_t s) = -1 := zk_fbr_none _ fun y hy => by
    rw [zk_ahc]
    have := zk_sum_le (ff := fun x => if zz_ahr x y = true then 1 else 0) (b := 1) (sv_t s) (fun x hx => by split <;> omega)
    intro q
    have q := congrArg Int32.toInt q
    rw [zi_n (by omega), zi_m1] at q
    omega
  unfold wk_byRot
  rw [if_pos e]
  rfl
section Thr
variable {g : zz_G} {l : Launch} {K : Nat → Nat × Nat} {R R0 : Nat → Nat → Option Nat} {I I0 : Nat → Nat → Int32} {L L0 : Nat → Nat → Int64} {z z0 B m : Nat} {v w : zz_OV}
theorem st_add (hf : l.stackTraces = false) (hW : zz_Lw g K B z0 R0 I0 L0 v R I L z) (hI : zk_I m (ov_s v)) {d : Int32} (hd : d < 0 ∨ nI 5 < d) : zz_S g l mm_L_addRoot 1 6 [.ref B, .int d] (K, R, I, L, z) (zz_LW g K B z0 R0 I0 L0 (some (.int (-1001))) v) zz_no :=
  sx_addRoot hf hW d (zk_plant hI d).1 (.inr eA, v) (pc_a (if_pos hd)) (-1001) zfa1 (fun E h => by cases h; exact Or.inl rfl)
theorem st_addU (hf : l.stackTraces = false) (hW : zz_Lw g K B z0 R0 I0 L0 v R I L z) (hI : zk_I m (ov_s v)) (h4 : (sv_r (ov_s v)).length = 4) : zz_S g l mm_L_addRoot 1 6 [.ref B, .int (nI 0)] (K, R, I, L, z) (zz_LW g K B z0 R0 I0 L0 (some (.int (-1002))) (ow_d v (nI 1, nI 4, -1))) zz_no :=
  sx_addRoot hf hW (nI 0) (zk_plant hI _).1 (.inr eU, ow_d v (nI 1, nI 4, -1)) (pc_u (by unfold zv_plant; rw [if_neg (by decide), if_pos h4])) (-1002) zfa2 (fun E h => by cases h; exact Or.inr rfl)
theorem st_dryI (hf : l.stackTraces = false) (hW : zz_Lw g K B z0 R0 I0 L0 v R I L z) (hI : zk_I m (ov_s v)) {r : Int32} (hr : ¬ zz_hr (ov_s v) r) : zz_S g l mm_L_dry 1 6 [.ref B, .int r] (K, R, I, L, z) (zz_LW g K B z0 R0 I0 L0 (some (.int (-1001))) v) zz_no :=
  sx_dry hf hW r (zk_dry hI r).1 (.inr eI, v) (pc_i (if_pos hr)) (-1001) zfi1 (fun E h => by cases h; exact Or.inl rfl)
theorem st_dryU (hf : l.stackTraces = false) (hW : zz_Lw g K B z0 R0 I0 L0 v R I L z) (hI : zk_I m (ov_s v)) {r : Int32} (hr : zz_hr (ov_s v) r) (h0 : zz_dmp (ov_s v) r = nI 0) : zz_S g l mm_L_dry 1 6 [.ref B, .int r] (K, R, I, L, z) (zz_LW g K B z0 R0 I0 L0 (some (.int (-1002))) (ow_d v (nI 4, nI 0, -1))) zz_no :=
  sx_dry hf hW r (zk_dry hI r).1 (.inr eU, ow_d v (nI 4, nI 0, -1)) (pc_u (by unfold zv_dry; rw [if_neg (by rw [Decidable.not_not]; exact hr), if_pos (show zz_dmp (ov_s v) r = 0 from h0), h0])) (-1002) zfi2 (fun E h => by cases h; exact Or.inr rfl)
theorem st_carI (hf : l.stackTraces = false) (hW : zz_Lw g K B z0 R0 I0 L0 v R I L z) (hI : zk_I m (ov_s v)) (hm : m ≤ 1000) (hx : zz_ax (ov_m v)) {r : Int32} (o : Int32) (hr : ¬ zz_hr (ov_s v) r) : zz_S g l mm_L_carve 1 6 [.ref B, .int r, .int o] (K, R, I, L, z) (zz_LW g K B z0 R0 I0 L0 (some (.int (-1001))) v) zz_no :=
  sx_carve hf hW r o (zk_carve hI hm r o hx).1 (.inr eI, v) (pr_c (pc_i (if_pos hr))) (-1001) zfc1 (fun E h => by cases h; exact Or.inl rfl)
theorem st_carA (hf : l.stackTraces = false) (hW : zz_Lw g K B z0 R0 I0 L0 v R I L z) (hI : zk_I m (ov_s v)) (hm : m ≤ 1000) (hx : zz_ax (ov_m v)) {r o : Int32} (hr : zz_hr (ov_s v) r) (ho : o < 0 ∨ nI 9 < o) : zz_S g l mm_L_carve 1 6 [.ref B, .int r, .int o] (K, R, I, L, z) (zz_LW g K B z0 R0 I0 L0 (some (.int (-1002))) v) zz_no :=
  sx_carve hf hW r o (zk_carve hI hm r o hx).1 (.inr eA, v) (pr_c (pc_a (by unfold zv_carve; rw [if_neg (by rw [Decidable.not_not]; exact hr), if_pos ho]))) (-1002) zfc2 (fun E h => by cases h; exact Or.inr (Or.inl rfl))
theorem st_carU (hf : l.stackTraces = false) (hW : zz_Lw g K B z0 R0 I0 L0 v R I L z) (hI : zk_I m (ov_s v)) (hm : m ≤ 1000) (hx : ov_m v = []) {r : Int32} (hr : zz_hr (ov_s v) r) : zz_S g l mm_L_carve 1 6 [.ref B, .int r, .int (nI 5)] (K, R, I, L, z) (zz_LW g K B z0 R0 I0 L0 (some (.int (-1003))) (ow_d v (nI 2, nI (sv_t (ov_s v)).length, -1))) zz_no :=
  sx_carve hf hW r (nI 5) (zk_carve hI hm r _ (by rw [hx]; exact fun x h => absurd h List.not_mem_nil)).1 (.inr eU, ow_d v (nI 2, nI (sv_t (ov_s v)).length, -1)) (pr_c (pc_u (by unfold zv_carve; rw [if_neg (by rw [Decidable.not_not]; exact hr), if_neg (by decide), if_pos (by rw [hx]; rfl)]))) (-1003) zfc3 (fun E h => by cases h; exact Or.inr (Or.inr rfl))
theorem st_dmgN (hf : l.stackTraces = false) (hW : zz_Lw g K B z0 R0 I0 L0 v R I L z) (hI : zk_I m (ov_s v)) {n i c : Int32} (hc : zz_ch c) (hn : zz_pos n 0 (sv_t (ov_s v)) = none) : zz_S g l mm_L_damage 1 6 [.ref B, .int n, .int i, .int c] (K, R, I, L, z) (zz_LW g K B z0 R0 I0 L0 (some (.int (-1001))) v) zz_no :=
  sx_damage hf hW n i c hc (zk_dmg hI n i c).1 (zk_dmg_ch hI n i c) (.inr eN, v) (pc_n (zt_n hn)) (-1001) zfd1 (fun E h => by cases h; exact Or.inl rfl)
theorem st_dmgI (hf : l.stackTraces = false) (hW : zz_Lw g K B z0 R0 I0 L0 v R I L z) (hI : zk_I m (ov_s v)) {n i c : Int32} {p : Nat} {x : zz_TG} (hc : zz_ch c) (hn : zz_pos n 0 (sv_t (ov_s v)) = some p) (hx : zz_tat (sv_t (ov_s v)) p = x) (hi : ¬ (0 ≤ i.toInt ∧ i.toInt < (tg_c x).length)) : zz_S g l mm_L_damage 1 6 [.ref B, .int n, .int i, .int c] (K, R, I, L, z) (zz_LW g K B z0 R0 I0 L0 (some (.int (-1002))) v) zz_no :=
  sx_damage hf hW n i c hc (zk_dmg hI n i c).1 (zk_dmg_ch hI n i c) (.inr eI, v) (pc_i ((zt_s hn hx).trans (if_pos hi))) (-1002) zfd2 (fun E h => by cases h; exact Or.inr (Or.inl rfl))
theorem st_dmgA (hf : l.stackTraces = false) (hW : zz_Lw g K B z0 R0 I0 L0 v R I L z) (hI : zk_I m (ov_s v)) {n i c : Int32} {p : Nat} {x : zz_TG} (hc : zz_ch c) (hn : zz_pos n 0 (sv_t (ov_s v)) = some p) (hx : zz_tat (sv_t (ov_s v)) p = x) (hi : 0 ≤ i.toInt ∧ i.toInt < (tg_c x).length) (ht : ¬ zz_typ c) : zz_S g l mm_L_damage 1 6 [.ref B, .int n, .int i, .int c] (K, R, I, L, z) (zz_LW g K B z0 R0 I0 L0 (some (.int (-1003))) v) zz_no :=
  sx_damage hf hW n i c hc (zk_dmg hI n i c).1 (zk_dmg_ch hI n i c) (.inr eA, v) (pc_a ((zt_s hn hx).trans (by unfold zv_dmg1; rw [if_neg (by rw [Decidable.not_not]; exact hi), if_pos ht]))) (-1003) zfd3 (fun E h => by cases h; exact Or.inr (Or.inr (Or.inl rfl)))
theorem st_dmgU (hf : l.stackTraces = false) (hW : zz_Lw g K B z0 R0 I0 L0 v R I L z) (hI : zk_I m (ov_s v)) {n i c : Int32} {p : Nat} {x : zz_TG} (hc : zz_ch c) (hn : zz_pos n 0 (sv_t (ov_s v)) = some p) (hx : zz_tat (sv_t (ov_s v)) p = x) (hi : 0 ≤ i.toInt ∧ i.toInt < (tg_c x).length) (ht : zz_typ c) (he : zz_at0 (tg_c x) i = c) : zz_S g l mm_L_damage 1 6 [.ref B, .int n, .int i, .int c] (K, R, I, L, z) (zz_LW g K B z0 R0 I0 L0 (some (.int (-1004))) (ow_d v (nI 4, c, -1))) zz_no :=
  sx_damage hf hW n i c hc (zk_dmg hI n i c).1 (zk_dmg_ch hI n i c) (.inr eU, ow_d v (nI 4, c, -1)) (pc_u ((zt_s hn hx).trans (by unfold zv_dmg1; rw [if_neg (by rw [Decidable.not_not]; exact hi), if_neg (by rw [Decidable.not_not]; exact ht), if_pos he]))) (-1004) zfd4 (fun E h => by cases h; exact Or.inr (Or.inr (Or.inr rfl)))
theorem st_anewN (hf : l.stackTraces = false) (hW : zz_Lw g K B z0 R0 I0 L0 v R I L z) (hI : zk_I m (ov_s v)) {n : Int32} (hn : zz_pos n 0 (sv_t (ov_s v)) = none) : zz_S g l mm_L_recarve 1 6 [.ref B, .int n] (K, R, I, L, z) (zz_LW g K B z0 R0 I0 L0 (some (.int (-1001))) v) zz_no :=
  sx_recarve hf hW n (zk_anew hI n).1 (.inr eN, v) (pc_n (zt_n hn)) (-1001) zfn1 (fun E h => by cases h; exact Or.inl rfl)
theorem st_anewU (hf : l.stackTraces = false) (hW : zz_Lw g K B z0 R0 I0 L0 v R I L z) (hI : zk_I m (ov_s v)) {n : Int32} {p : Nat} {x : zz_TG} (hn : zz_pos n 0 (sv_t (ov_s v)) = some p) (hx : zz_tat (sv_t (ov_s v)) p = x) {a b : Int32} (hu : zz_uir x = .inl (a, b)) (h0 : zz_oc (zz_uir x) < 0) : zz_S g l mm_L_recarve 1 6 [.ref B, .int n] (K, R, I, L, z) (zz_LW g K B z0 R0 I0 L0 (some (.int (-1002))) (ow_d v (a, b, -1))) zz_no :=
  sx_recarve hf hW n (zk_anew hI n).1 (.inr eU, ow_d v (a, b, -1)) (pc_u ((zt_s hn hx).trans (by unfold zv_anew1; rw [if_pos h0, hu]))) (-1002) zfn2 (fun E h => by cases h; exact Or.inr rfl)
theorem st_moveN (hf : l.stackTraces = false) (hW : zz_Lw g K B z0 R0 I0 L0 v R I L z) (hI : zk_I m (ov_s v)) {n r : Int32} (hn : zz_pos n 0 (sv_t (ov_s v)) = none) : zz_S g l mm_L_move 1 6 [.ref B, .int n, .int r] (K, R, I, L, z) (zz_LW g K B z0 R0 I0 L0 (some (.int (-1001))) v) zz_no :=
  sx_move hf hW n r (zk_move hI n r).1 (.inr eN, v) (pc_n (zt_n hn)) (-1001) zfm1 (fun E h => by cases h; exact Or.inl rfl)
theorem st_moveI (hf : l.stackTraces = false) (hW : zz_Lw g K B z0 R0 I0 L0 v R I L z) (hI : zk_I m (ov_s v)) {n r : Int32} {p : Nat} {x : zz_TG} (hn : zz_pos n 0 (sv_t (ov_s v)) = some p) (hx : zz_tat (sv_t (ov_s v)) p = x) (hr : ¬ zz_hr (ov_s v) r) : zz_S g l mm_L_move 1 6 [.ref B, .int n, .int r] (K, R, I, L, z) (zz_LW g K B z0 R0 I0 L0 (some (.int (-1002))) v) zz_no :=
  sx_move hf hW n r (zk_move hI n r).1 (.inr eI, v) (pc_i ((zt_s hn hx).trans (if_pos hr))) (-1002) zfm2 (fun E h => by cases h; exact Or.inr (Or.inl rfl))
theorem st_moveU (hf : l.stackTraces = false) (hW : zz_Lw g K B z0 R0 I0 L0 v R I L z) (hI : zk_I m (ov_s v)) {n r : Int32} {p : Nat} {x : zz_TG} (hn : zz_pos n 0 (sv_t (ov_s v)) = some p) (hx : zz_tat (sv_t (ov_s v)) p = x) (hr : zz_hr (ov_s v) r) (ho : tg_o x = r) : zz_S g l mm_L_move 1 6 [.ref B, .int n, .int r] (K, R, I, L, z) (zz_LW g K B z0 R0 I0 L0 (some (.int (-1003))) (ow_d v (nI 4, r, -1))) zz_no :=
  sx_move hf hW n r (zk_move hI n r).1 (.inr eU, ow_d v (nI 4, r, -1)) (pc_u ((zt_s hn hx).trans (by unfold zv_move1; rw [if_neg (by rw [Decidable.not_not]; exact hr), if_pos ho]))) (-1003) zfm3 (fun E h => by cases h; exact Or.inr (Or.inr rfl))
theorem st_moveF (hf : l.stackTraces = false) (hW : zz_Lw g K B z0 R0 I0 L0 v R I L z) (hI : zk_I m (ov_s v)) {n r : Int32} {p : Nat} {x : zz_TG} (hn : zz_pos n 0 (sv_t (ov_s v)) = some p) (hx : zz_tat (sv_t (ov_s v)) p = x) (hr : zz_hr (ov_s v) r) (ho : tg_o x ≠ r) (h8 : ¬ zz_cpi (ov_s v) r + nI (tg_p x) ≤ nI 8) : zz_S g l mm_L_move 1 6 [.ref B, .int n, .int r] (K, R, I, L, z) (zz_LW g K B z0 R0 I0 L0 (some (.int (-1003))) (ow_d v (nI 1, nI 8, -1))) zz_no :=
  sx_move hf hW n r (zk_move hI n r).1 (.inr eU, ow_d v (nI 1, nI 8, -1)) (pc_u ((zt_s hn hx).trans (by unfold zv_move1; rw [if_neg (by rw [Decidable.not_not]; exact hr), if_neg ho, if_pos h8]))) (-1003) zfm3 (fun E h => by cases h; exact Or.inr (Or.inr rfl))
theorem st_dropN (hf : l.stackTraces = false) (hW : zz_Lw g K B z0 R0 I0 L0 v R I L z) (hI : zk_I m (ov_s v)) (hm : m ≤ 1000) {n : Int32} (hn : zz_pos n 0 (sv_t (ov_s v)) = none) : zz_S g l mm_L_drop 1 6 [.ref B, .int n] (K, R, I, L, z) (zz_LW g K B z0 R0 I0 L0 (some (.int (-1001))) v) zz_no :=
  sx_drop hf hW n (zk_drop hm hI n).1 (.inr eN, v) (pc_n (by unfold zv_drop; rw [hn])) (-1001) rfl (fun E h => by cases h; rfl)
theorem st_ageA (hf : l.stackTraces = false) (hW : zz_Lw g K B z0 R0 I0 L0 v R I L z) (hI : zk_I m (ov_s v)) (hm : m ≤ 1000) {d : Int32} (hd : d < nI 1 ∨ nI 20 < d) : zz_S g l mm_L_age 1 6 [.ref B, .int d] (K, R, I, L, z) (zz_LW g K B z0 R0 I0 L0 (some (.int (-1001))) v) zz_no :=
  sx_age hf hW d (zk_pass hm hI d).1 (.inr eA, v) (pc_a (if_pos hd)) (-1001) rfl (fun E h => by cases h; rfl)
theorem st_readN (hf : l.stackTraces = false) (hW : zz_Lw g K B z0 R0 I0 L0 v R I L z) {n : Int32} (hn : zz_pos n 0 (sv_t (ov_s v)) = none) : zz_S g l mm_L_read 1 6 [.ref B, .int n] (K, R, I, L, z) (zz_LW g K B z0 R0 I0 L0 (some (.int (-1001))) v) zz_no :=
  sx_read hf hW n (.inr eN, v) (by unfold po_read; rw [show zv_read (ov_s v) n = (.inr (-11), ov_s v) from zt_n hn]; rfl) (-1001) zfn1 (fun E h => by cases h; exact Or.inl rfl)
theorem st_readU (hf : l.stackTraces = false) (hW : zz_Lw g K B z0 R0 I0 L0 v R I L z) {n : Int32} {p : Nat} {x : zz_TG} (hn : zz_pos n 0 (sv_t (ov_s v)) = some p) (hx : zz_tat (sv_t (ov_s v)) p = x) {a b : Int32} (hu : zz_uir x = .inl (a, b)) : zz_S g l mm_L_read 1 6 [.ref B, .int n] (K, R, I, L, z) (zz_LW g K B z0 R0 I0 L0 (some (.int (-1002))) (ow_d v (a, b, -1))) zz_no :=
  sx_read hf hW n (.inr eU, ow_d v (a, b, -1)) (by unfold po_read; rw [show zv_read (ov_s v) n = (.inl (a, b), ov_s v) from (zt_s hn hx).trans (by rw [hu])]; rfl) (-1002) zfn2 (fun E h => by cases h; exact Or.inr rfl)
/-- a question about a telegram that there isn't -/
theorem sn_q {f : String → Int32} {s : zz_SV} {n : Int32} {G : zz_TG → Int32 ⊕ String} (h : zz_pos n 0 (sv_t s) = none) (hf : f eN = -1001) : zy f (wq s n G) = -1001 := by
  rw [wq_n h]
  exact hf
theorem st_line (hf : l.stackTraces = false) (hW : zz_Lw g K B z0 R0 I0 L0 v R I L z) {i : Int32} (hi : ¬ (0 ≤ i.toInt ∧ i.toInt < (ov_l v).length)) : zz_S g l mm_L_lineChar 1 6 [.ref B, .int i] (K, R, I, L, z) (zz_LW g K B z0 R0 I0 L0 (some (.int (-1001))) v) zz_no := by
  have h := sq_lineChar hf hW i
  rw [show wk_lineChar (ov_l v) i = -1001 by unfold wk_lineChar; rw [if_neg hi]; rfl] at h
  exact h
theorem st_typeA (hf : l.stackTraces = false) (hW : zz_Lw g K B z0 R0 I0 L0 v R I L z) : zz_S g l mm_L_type 1 6 [.ref B, .int (nI 200)] (K, R, I, L, z) (zz_LW g K B z0 R0 I0 L0 (some (.int (-1001))) v) zz_no :=
  sx_type hf hW (nI 200) (zz_ch_n (by omega)) (.inr eA, v) (by unfold po_type; rw [if_pos (by decide)]) (-1001) zfa1 (fun E h => by cases h; exact Or.inl rfl)
theorem st_writeN (hf : l.stackTraces = false) (hW : zz_Lw g K B z0 R0 I0 L0 v R I L z) {n : Int32} (hn : zz_pos n 0 (sv_t (ov_s v)) = none) : zz_S g l mm_L_write 1 6 [.ref B, .int n] (K, R, I, L, z) (zz_LW g K B z0 R0 I0 L0 (some (.int (-1001))) v) zz_no :=
  sx_write hf hW n (.inr eN, v) (pq_tel_n hn) (-1001) rfl (fun E h => by cases h; rfl)
theorem st_unitsN (hf : l.stackTraces = false) (hW : zz_Lw g K B z0 R0 I0 L0 v R I L z) {n : Int32} (hn : zz_pos n 0 (sv_t (ov_s v)) = none) : zz_S g l mm_L_decodedByUnits 2 12 [.ref B, .int n] (K, R, I, L, z) (zz_LW g K B z0 R0 I0 L0 (some (.int (-1001))) v) zz_no :=
  sx_decodedByUnits hf hW n hn (.inr eN, v) rfl (-1001) rfl (fun E h => by cases h; rfl)
theorem st_fault (hf : l.stackTraces = false) (hW : zz_Lw g K B z0 R0 I0 L0 v R I L z) {a : Int32} (ha : a ≠ -1) (hk : ov_k v = a) : zz_S g l mm_L_faultPosition 1 6 [.ref B] (K, R, I, L, z) (zz_LW g K B z0 R0 I0 L0 (some (.int a)) v) zz_no :=
  sx_faultPosition hf hW (.inl a, v) (by rw [hk, if_neg ha]) a rfl (fun E h => by cases h)
theorem st_denial (hf : l.stackTraces = false) (hW : zz_Lw g K B z0 R0 I0 L0 v R I L z) {a b c : Int32} (ha : a ≠ -1) (hd : ov_d v = (a, b, c)) : zz_S g l mm_L_denial 1 6 [.ref B] (K, R, I, L, z) (zz_LW g K B z0 R0 I0 L0 (some (.int a)) v) zz_no :=
  sx_denial hf hW (.inl a, v) (by rw [hd, if_neg ha]) a rfl (fun E h => by cases h)
theorem st_detail (hf : l.stackTraces = false) (hW : zz_Lw g K B z0 R0 I0 L0 v R I L z) {a b c : Int32} (ha : a ≠ -1) (hd : ov_d v = (a, b, c)) : zz_S g l mm_L_denialDetail 1 6 [.ref B] (K, R, I, L, z) (zz_LW g K B z0 R0 I0 L0 (some (.int b)) v) zz_no :=
  sx_denialDetail hf hW (.inl b, v) (by rw [hd, if_neg ha]) b rfl (fun E h => by cases h)
theorem st_cause (hf : l.stackTraces = false) (hW : zz_Lw g K B z0 R0 I0 L0 v R I L z) {a b c : Int32} (hc : c ≠ -1) (hd : ov_d v = (a, b, c)) : zz_S g l mm_L_denialCause 1 6 [.ref B] (K, R, I, L, z) (zz_LW g K B z0 R0 I0 L0 (some (.int c)) v) zz_no :=
  sx_denialCause hf hW (.inl c, v) (by rw [hd, if_neg hc]) c rfl (fun E h => by cases h)
end Thr
