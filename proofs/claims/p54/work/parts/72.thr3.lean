/-! THE LAW: thrown, its commands and its walk -/
theorem px_parse_q : zc_parse (zz_ct 17) 10 0 [] = (nI 0, []) := by decide +kernel
theorem px_parse_d : zc_parse (zz_ct 18) 10 0 [] = (-1, [(2, nI 3, nI 0), (5, nI 99, nI 0), (5, nI 99, nI 0)]) := by decide +kernel
theorem px_parse_m : ∀ j, j < 10 → ∀ r, r < 4 → zc_parse ([] ++ zz_ct 19 ++ [nI (48 + j)] ++ zz_ct 20 ++ [nI (48 + r)]) 10 0 [] = (-1, [(2, nI 1, nI 0), (4, nI j, nI r)]) := by
  have h : ((List.range 10).all fun j => (List.range 4).all fun r => decide (zc_parse ([] ++ zz_ct 19 ++ [nI (48 + j)] ++ zz_ct 20 ++ [nI (48 + r)]) 10 0 [] = (-1, [(2, nI 1, nI 0), (4, nI j, nI r)]))) = true := by decide +kernel
  intro j hj r hr
  exact of_decide_eq_true (List.all_eq_true.mp (List.all_eq_true.mp h j (List.mem_range.mpr hj)) r (List.mem_range.mpr hr))
theorem zk_lcmp {x : Int64} : lg_cmp x x = 0 := by
  unfold lg_cmp
  simp
theorem px_q {v : zz_OV} : po_exec (ow_b v (zz_ct 17)) = (.inr eA, ow_k (ow_b v []) (nI 0)) := by
  unfold po_exec
  show (if (zc_parse (zz_ct 17) 10 0 []).1 = -1 then _ else (Sum.inr eA, ow_k (ow_b v []) (zc_parse (zz_ct 17) 10 0 []).1)) = _
  rw [px_parse_q, if_neg (by decide)]
theorem zo_pass {s : zz_SV} {a b : Int32} : zv_out s (nI 2) a b = zv_pass s a := by
  unfold zv_out
  rw [if_neg (by decide), if_neg (by decide), if_pos rfl]
theorem zo_move {s : zz_SV} {a b : Int32} : zv_out s (nI 4) a b = zv_move s a b := by
  unfold zv_out
  rw [if_neg (by decide), if_neg (by decide), if_neg (by decide), if_neg (by decide), if_pos rfl]
theorem zo_drop {s : zz_SV} {a b : Int32} : zv_out s (nI 5) a b = zv_drop s a := by
  unfold zv_out
  rw [if_neg (by decide), if_neg (by decide), if_neg (by decide), if_neg (by decide), if_neg (by decide), if_pos rfl]
theorem zk_pos_map {f : zz_TG → zz_TG} (hf : ∀ x, tg_n (f x) = tg_n x) {n : Int32} : ∀ (ts : List zz_TG) (i : Nat), zz_pos n i (ts.map f) = zz_pos n i ts := by
  intro ts
  induction ts with
  | nil => intro i; rfl
  | cons x t ih =>
    intro i
    rw [List.map_cons]
    unfold zz_pos
    rw [hf, ih]
theorem zk_run1 {m : Nat} (hm : m ≤ 1000) {s : zz_SV} (hI : zk_I m s) {j : Nat} (h1 : 1 ≤ j) (h2 : j ≤ 20) (cs : List zz_CM) : zx_run s 0 ((2, nI j, nI 0) :: cs) = zx_run (sv_r s, (sv_t s).map (zz_rby s (nI j)), sv_n s, sv_d s + nI j, sv_c s) 1 cs := by
  have q : ¬ (nI j < nI 1 ∨ nI 20 < nI j) := by rintro (q | q); exact nI_nlt (by omega) (by omega) q; exact nI_nlt (by omega) (by omega) q
  have hn := zk_pass_n hm hI q
  have e : zv_out s (nI 2) (nI j) (nI 0) = (.inr (zz_fs (zz_rbs s (nI j)) (nI 0) (sv_t s)), (sv_r s, (sv_t s).map (zz_rby s (nI j)), sv_n s, sv_d s + nI j, sv_c s)) := by
    rw [zo_pass]
    unfold zv_pass
    rw [if_neg q]
  conv => lhs; unfold zx_run
  rw [show zv_out s (nI ((2, nI j, nI 0) : zz_CM).1) ((2, nI j, nI 0) : zz_CM).2.1 ((2, nI j, nI 0) : zz_CM).2.2 = _ from e]
  exact if_neg (Int32.not_lt.mpr hn)
theorem px_d {m : Nat} (hm : m ≤ 90) {v : zz_OV} (hI : zk_I m (ov_s v)) : po_exec (ow_b v (zz_ct 18)) = (.inr eU, ow_d (ow_b v []) (nI 7, nI 1, nI 8)) := by
  have h99 := zk_none hI (n := nI 99) (by rw [zi_n (by omega)]; omega) (by omega)
  have e : zx_run (ov_s v) 0 [(2, nI 3, nI 0), (5, nI 99, nI 0), (5, nI 99, nI 0)] = .inl (1, -11) := by
    rw [zk_run1 (by omega) hI (by omega) (by omega)]
    unfold zx_run
    rw [show zv_out (sv_r (ov_s v), (sv_t (ov_s v)).map (zz_rby (ov_s v) (nI 3)), sv_n (ov_s v), sv_d (ov_s v) + nI 3, sv_c (ov_s v)) (nI ((5, nI 99, nI 0) : zz_CM).1) ((5, nI 99, nI 0) : zz_CM).2.1 ((5, nI 99, nI 0) : zz_CM).2.2 = (.inr (-11), (sv_r (ov_s v), (sv_t (ov_s v)).map (zz_rby (ov_s v) (nI 3)), sv_n (ov_s v), sv_d (ov_s v) + nI 3, sv_c (ov_s v))) from by
      show zv_out _ (nI 5) (nI 99) (nI 0) = _
      rw [zo_drop]
      unfold zv_drop
      rw [show zz_pos (nI 99) 0 (sv_t ((sv_r (ov_s v), (sv_t (ov_s v)).map (zz_rby (ov_s v) (nI 3)), sv_n (ov_s v), sv_d (ov_s v) + nI 3, sv_c (ov_s v)) : zz_SV)) = none from (zk_pos_map (f := zz_rby (ov_s v) (nI 3)) (fun x => rfl) _ _).trans h99]]
    rfl
  unfold po_exec
  show (if (zc_parse (zz_ct 18) 10 0 []).1 = -1 then po_run (ow_b v []) (zc_parse (zz_ct 18) 10 0 []).2 (zx_run (ov_s v) 0 (zc_parse (zz_ct 18) 10 0 []).2) else _) = _
  rw [px_parse_d, if_pos rfl, e]
  rfl
theorem px_m {m : Nat} (hm : m ≤ 90) {v : zz_OV} (hI : zk_I m (ov_s v)) {j r p : Nat} {x : zz_TG} (hj : j < 10) (hr : r < (sv_r (ov_s v)).length) (hp : zz_pos (nI j) 0 (sv_t (ov_s v)) = some p) (hx : zz_tat (sv_t (ov_s v)) p = x) (ho : tg_o x = nI r) : po_exec (ow_b v ([] ++ zz_ct 19 ++ [nI (48 + j)] ++ zz_ct 20 ++ [nI (48 + r)])) = (.inr eU, ow_d (ow_b v []) (nI 7, nI 1, nI 4)) := by
  have h4 := hI.2.1
  have e : zx_run (ov_s v) 0 [(2, nI 1, nI 0), (4, nI j, nI r)] = .inl (1, -(nI 4)) := by
    rw [zk_run1 (by omega) hI (by omega) (by omega)]
    unfold zx_run
    rw [show zv_out (sv_r (ov_s v), (sv_t (ov_s v)).map (zz_rby (ov_s v) (nI 1)), sv_n (ov_s v), sv_d (ov_s v) + nI 1, sv_c (ov_s v)) (nI ((4, nI j, nI r) : zz_CM).1) ((4, nI j, nI r) : zz_CM).2.1 ((4, nI j, nI r) : zz_CM).2.2 = (.inl (nI 4, nI r), (sv_r (ov_s v), (sv_t (ov_s v)).map (zz_rby (ov_s v) (nI 1)), sv_n (ov_s v), sv_d (ov_s v) + nI 1, sv_c (ov_s v))) from by
      show zv_out _ (nI 4) (nI j) (nI r) = _
      rw [zo_move]
      obtain ⟨hpl, hp2, -, -⟩ := zk_at hp
      have hx2 : zz_tat (sv_t ((sv_r (ov_s v), (sv_t (ov_s v)).map (zz_rby (ov_s v) (nI 1)), sv_n (ov_s v), sv_d (ov_s v) + nI 1, sv_c (ov_s v)) : zz_SV)) p = zz_rby (ov_s v) (nI 1) x := by
        show zz_tat ((sv_t (ov_s v)).map (zz_rby (ov_s v) (nI 1))) p = _
        rw [hx] at hp2
        unfold zz_tat
        rw [List.getD_eq_getElem?_getD, List.getElem?_map, hp2]
        rfl
      refine (zt_s ((zk_pos_map (f := zz_rby (ov_s v) (nI 1)) (fun x => rfl) _ _).trans hp) hx2).trans ?_
      unfold zv_move1
      rw [if_neg (by rw [Decidable.not_not]; exact zz_hr_n (s := (sv_r (ov_s v), (sv_t (ov_s v)).map (zz_rby (ov_s v) (nI 1)), sv_n (ov_s v), sv_d (ov_s v) + nI 1, sv_c (ov_s v))) hr h4), if_pos (show tg_o (zz_rby (ov_s v) (nI 1) x) = nI r from ho)]]
    rfl
  unfold po_exec
  show (if (zc_parse ([] ++ zz_ct 19 ++ [nI (48 + j)] ++ zz_ct 20 ++ [nI (48 + r)]) 10 0 []).1 = -1 then po_run (ow_b v []) (zc_parse ([] ++ zz_ct 19 ++ [nI (48 + j)] ++ zz_ct 20 ++ [nI (48 + r)]) 10 0 []).2 (zx_run (ov_s v) 0 (zc_parse ([] ++ zz_ct 19 ++ [nI (48 + j)] ++ zz_ct 20 ++ [nI (48 + r)]) 10 0 []).2) else _) = _
  rw [px_parse_m j hj r (by omega), if_pos rfl, e]
  rfl
section Thr3
variable {g : zz_G} {l : Launch} {K : Nat → Nat × Nat} {R R0 : Nat → Nat → Option Nat} {I I0 : Nat → Nat → Int32} {L L0 : Nat → Nat → Int64} {z z0 B q n m mk nr : Nat} {u v w : zz_OV} {Q : Option Value → zz_H → Prop} {mc ms : Nat}
def zk_F (g : zz_G) (K : Nat → Nat × Nat) (B z0 : Nat) (R0 : Nat → Nat → Option Nat) (I0 : Nat → Nat → Int32) (L0 : Nat → Nat → Int64) (u : zz_OV) : Option Value → zz_H → Prop := fun a h' => ∃ w, zk_U u w ∧ zz_LW g K B z0 R0 I0 L0 (some (.int (nI 1))) w a h'
/-- from 985 on: commands -/
theorem zk_th4 (hf : l.stackTraces = false) (hEv : zz_Ev g K R0 I0 q n) (hI : zk_I mk (ov_s u)) (hnr : (sv_r (ov_s u)).length = nr) (hmk : (sv_t (ov_s u)).length = mk) (hmk0 : 0 < mk) (hmk7 : mk ≤ 7) (hnn : zk_nn (ov_s u)) (hU : zk_U u v) (hW : zz_Lw g K B z0 R0 I0 L0 v R I L z) (ce sl : Nat) (hce : ce ≤ 24300) (hsl : sl ≤ 146000) (lv : List (Option Value)) (hlv : zz_le [some (.ref B), some (.long (zk_ask (ov_s u))), none, some (.int (nI mk)), some (.int (nI nr)), some (.int (nI (ov_h u).length)), some (.int (nI 1))] lv) :
    Zz g l mm_L_thrown 48000 290000 (zk_F g K B z0 R0 I0 L0 u) zz_no ce sl 985 lv [] (K, R, I, L, z) := by
  refine z_lvk ?_ hlv
  have hA : zz_A g B := hW.2.2.2.2.2
  have hAB : (zz_hb g).size ≤ B := hA
  have hk := hW.1.1.1.1
  obtain ⟨s17, b17⟩ := hEv.bs hW (k := 17) (by omega)
  obtain ⟨s18, b18⟩ := hEv.bs hW (k := 18) (by omega)
  refine z_iload ee_L_thrown_985 rfl ?_
  refine z_if_eq ee_L_thrown_987 (tgt := 1146) (by decide) (fun c_987 => ?_) (fun c_987 => ?_)
  -- at 987
  · exact absurd c_987 (by decide)
  · refine z_aload_n ee_L_thrown_990 rfl ?_
    -- at 991
    refine z_ldcSW ee_L_thrown_991 ws_L_thrown_343 ?_
    refine z_callS (As := [_, _]) ee_L_thrown_994 kk_L_thrown_317 rfl rfl (Nat.le_of_ble_eq_true rfl) (by omega) (sp_L_runs hf hEv hW hU.2.2.2.2.1 s17 b17 (by decide) _ px_q (-1001) zfa1 (fun E h => by cases h; exact Or.inl rfl)) (fun E h1 hx => hx.elim) (fun v h1 hq => ?_)
    obtain ⟨R1, I1, L1, z1, rfl, rfl, hW⟩ := hq
    have hU : zk_U u (ow_k (ow_b v []) (nI 0)) := ⟨hU.1, hU.2.1, hU.2.2.1, hU.2.2.2.1, rfl, hU.2.2.2.2.2⟩
    refine z_sipush ee_L_thrown_997 (v := -1001) (by decide) ?_
    refine z_icmp_ne ee_L_thrown_1000 (tgt := 1146) (by decide) (fun c_1000 => ?_) (fun c_1000 => ?_)
    -- at 1000
    · exact absurd rfl c_1000
    · refine z_aload_n ee_L_thrown_1003 rfl ?_
      -- at 1004
      refine z_callX (As := [_]) ee_L_thrown_1004 kk_L_thrown_345 rfl rfl (Nat.le_of_ble_eq_true rfl) (by omega) (st_fault hf hW (a := nI 0) (by decide) rfl) (fun E h1 hx => hx.elim) (fun v h1 hq => ?_)
      obtain ⟨R1, I1, L1, z1, rfl, rfl, hW⟩ := hq
      refine z_if_ne ee_L_thrown_1007 (tgt := 1146) (by decide) (fun c_1007 => ?_) (fun c_1007 => ?_)
      -- at 1007
      · exact absurd rfl c_1007
      · refine z_aload_n ee_L_thrown_1010 rfl ?_
        -- at 1011
        refine z_ldcSW ee_L_thrown_1011 ws_L_thrown_347 ?_
        have hIv : zk_I mk (ov_s (ow_k (ow_b v []) (nI 0))) := by rw [hU.1]; exact hI
        refine z_callS (As := [_, _]) ee_L_thrown_1014 kk_L_thrown_317 rfl rfl (Nat.le_of_ble_eq_true rfl) (by omega) (sp_L_runs hf hEv hW hU.2.2.2.2.1 s18 b18 (by decide) _ (px_d (by omega) hIv) (-1002) zfa2 (fun E h => by cases h; exact Or.inr rfl)) (fun E h1 hx => hx.elim) (fun v h1 hq => ?_)
        obtain ⟨R1, I1, L1, z1, rfl, rfl, hW⟩ := hq
        have hU : zk_U u (ow_d (ow_b (ow_k (ow_b v []) (nI 0)) []) (nI 7, nI 1, nI 8)) := ⟨hU.1, hU.2.1, hU.2.2.1, hU.2.2.2.1, rfl, hU.2.2.2.2.2⟩
        refine z_sipush ee_L_thrown_1017 (v := -1002) (by decide) ?_
        refine z_icmp_ne ee_L_thrown_1020 (tgt := 1146) (by decide) (fun c_1020 => ?_) (fun c_1020 => ?_)
        -- at 1020
        · exact absurd rfl c_1020
        · refine z_aload_n ee_L_thrown_1023 rfl ?_
          -- at 1024
          refine z_callX (As := [_]) ee_L_thrown_1024 kk_L_thrown_172 rfl rfl (Nat.le_of_ble_eq_true rfl) (by omega) (st_denial hf hW (a := nI 7) (by decide) rfl) (fun E h1 hx => hx.elim) (fun v h1 hq => ?_)
          obtain ⟨R1, I1, L1, z1, rfl, rfl, hW⟩ := hq
          refine z_bipush ee_L_thrown_1027 (v := nI 7) (by decide) ?_
          refine z_icmp_ne ee_L_thrown_1029 (tgt := 1146) (by decide) (fun c_1029 => ?_) (fun c_1029 => ?_)
          -- at 1029
          · exact absurd rfl c_1029
          · refine z_aload_n ee_L_thrown_1032 rfl ?_
            -- at 1033
            refine z_callX (As := [_]) ee_L_thrown_1033 kk_L_thrown_174 rfl rfl (Nat.le_of_ble_eq_true rfl) (by omega) (st_detail hf hW (a := nI 7) (b := nI 1) (by decide) rfl) (fun E h1 hx => hx.elim) (fun v h1 hq => ?_)
            obtain ⟨R1, I1, L1, z1, rfl, rfl, hW⟩ := hq
            refine z_iconst ee_L_thrown_1036 (v := nI 1) (by decide) ?_
            refine z_icmp_ne ee_L_thrown_1037 (tgt := 1146) (by decide) (fun c_1037 => ?_) (fun c_1037 => ?_)
            -- at 1037
            · exact absurd rfl c_1037
            · refine z_aload_n ee_L_thrown_1040 rfl ?_
              -- at 1041
              refine z_callX (As := [_]) ee_L_thrown_1041 kk_L_thrown_176 rfl rfl (Nat.le_of_ble_eq_true rfl) (by omega) (st_cause hf hW (c := nI 8) (by decide) rfl) (fun E h1 hx => hx.elim) (fun v h1 hq => ?_)
              obtain ⟨R1, I1, L1, z1, rfl, rfl, hW⟩ := hq
              refine z_bipush ee_L_thrown_1044 (v := nI 8) (by decide) ?_
              refine z_icmp_ne ee_L_thrown_1046 (tgt := 1146) (by decide) (fun c_1046 => ?_) (fun c_1046 => ?_)
              -- at 1046
              · exact absurd rfl c_1046
              · generalize ev : ow_d (ow_b (ow_k (ow_b v []) (nI 0)) []) (nI 7, nI 1, nI 8) = v2 at hU hW
                have hk2 : ov_k v2 = nI 0 := by rw [← ev]; rfl
                obtain ⟨y, hy⟩ : ∃ y, (sv_t (ov_s u))[0]? = some y := ⟨_, List.getElem?_eq_getElem (by omega)⟩
                have ey : zz_tat (sv_t (ov_s u)) 0 = y := by unfold zz_tat; rw [List.getD_eq_getElem?_getD, hy]; rfl
                obtain ⟨qp, x, hp, hx2, hx, hxn⟩ := zz_fnd hy
                obtain ⟨-, h24, kI, hkI, -, -, hT⟩ := id hI
                obtain ⟨⟨jn, hjn, ejn⟩, ⟨ro, hro, ero⟩, -⟩ := hT x (List.mem_of_getElem? hx2)
                have ejn : tg_n y = nI jn := hxn.symm.trans ejn
                have hv : ∀ v, zk_U u v → zk_I mk (ov_s v) ∧ zz_pos (nI jn) 0 (sv_t (ov_s v)) = some qp ∧ zz_tat (sv_t (ov_s v)) qp = x ∧ ro < (sv_r (ov_s v)).length ∧ wk_telegramAt (ov_s v) (nI 0) = nI jn ∧ wk_rootOf (ov_s v) (nI jn) = nI ro := by
                  intro v hU
                  rw [hU.1]
                  rw [ejn] at hp
                  refine ⟨hI, hp, hx, hro, ?_, ?_⟩
                  · unfold wk_telegramAt
                    rw [zi_n (by omega), if_pos ⟨by omega, by omega⟩]
                    show tg_n (zz_tat (sv_t (ov_s u)) 0) = _
                    rw [ey]; exact ejn
                  · unfold wk_rootOf
                    rw [wq_s hp hx]; exact ero
                obtain ⟨hIv, hpv, hxv, hrv, et, er⟩ := hv _ hU
                refine z_nu (fun hAz hnu => ?_)
                have hEvz := hEv.lw hW
                have hBz : B + 1460 ≤ z1 := Nat.le_trans hW.2.2.2.2.1 hW.2.2.2.1
                refine z_aload_n ee_L_thrown_1049 rfl ?_
                refine z_new ee_L_thrown_1050 nn_L_thrown_193 (by omega) (by omega) (fun hz1050 => ?_)
                refine z_dup ee_L_thrown_1053 rfl ?_
                -- at 1054
                refine z_callI (As := []) ee_L_thrown_1054 kk_L_thrown_195 rfl rfl (Nat.le_of_ble_eq_true rfl) (by omega) (sy_init hf hz1050) (fun E h1 hx => hx.elim) (fun v h1 hq => ?_)
                obtain ⟨K2, R2, I2, L2, rfl, rfl, hB2, hk2'⟩ := hq
                have hb2 := hB2.k
                have r2 : zz_rel B z1 K K2 R1 R2 I1 I2 L1 L2 := hk2'.rel
                have hE2 := hEvz.rel r2 hA (by omega)
                have hO2 := hW.1.rel_lk hk2' hBz
                refine z_ldcSW ee_L_thrown_1057 ws_L_thrown_349 ?_
                refine z_callV (As := [_]) ee_L_thrown_1060 kk_L_thrown_196 rfl (by assumption) rfl rfl (Nat.le_of_ble_eq_true rfl) (by omega) (sy_str hf hB2 (hE2.1 19 (by omega)).1 (Nat.le_of_ble_eq_true rfl) (by have := hE2.1 19 (by omega); omega) (by have := hE2.1 19 (by omega); omega)) (fun E h1 hx => hx.elim) (fun v h1 hq => ?_)
                obtain ⟨K3, R3, I3, L3, z3, rfl, rfl, hB3, hz3, hk3⟩ := hq
                have hb3 := hB3.k
                have r3 := r2.trans (hk3.rel (B := B)) (Nat.le_refl _)
                have hO3 := hO2.rel_lk hk3 hBz
                have hW3 : zz_Lw g K3 B z3 R3 I3 L3 v2 R3 I3 L3 z3 := ⟨hO3, fun _ _ _ => ⟨rfl, rfl⟩, fun _ _ => rfl, Nat.le_refl _, by omega, hA⟩
                refine z_aload_n ee_L_thrown_1063 rfl ?_
                refine z_iconst ee_L_thrown_1064 (v := nI 0) (by decide) ?_
                -- at 1065
                refine z_callX (As := [_, _]) ee_L_thrown_1065 kk_L_thrown_262 rfl rfl (Nat.le_of_ble_eq_true rfl) (by omega) (sq_telegramAt hf hW3 (nI 0)) (fun E h1 hx => hx.elim) (fun v h1 hq => ?_)
                obtain ⟨R4, I4, L4, z4, rfl, rfl, hW4⟩ := hq
                have hz4 := hW4.2.2.2.1
                rw [et]
                have r4 := r3.trans hW4.rel (by omega)
                have hE4 := hEvz.rel r4 hA (by omega)
                have hB4 := hB3.rel hW4.rel hBz hz4
                refine z_callV (As := [_]) ee_L_thrown_1068 kk_L_thrown_308 rfl (by assumption) rfl rfl (Nat.le_of_ble_eq_true rfl) (by omega) (sy_int hf hB4 jn (by omega) (Nat.le_of_ble_eq_true rfl) hE4.2.1.1 (by have := hE4.2.1.2; omega)) (fun E h1 hx => hx.elim) (fun v h1 hq => ?_)
                obtain ⟨K5, R5, I5, L5, z5, rfl, rfl, hB5, hz5, hk5⟩ := hq
                have hb5 := hB5.k
                have r5 := r4.trans (hk5.rel (B := B)) (Nat.le_refl _)
                have hE5 := hEvz.rel r5 hA (by omega)
                have hO5 := hW4.1.rel_lk hk5 hBz
                refine z_ldcSW ee_L_thrown_1071 ws_L_thrown_351 ?_
                refine z_callV (As := [_]) ee_L_thrown_1074 kk_L_thrown_196 rfl (by assumption) rfl rfl (Nat.le_of_ble_eq_true rfl) (by omega) (sy_str hf hB5 (hE5.1 20 (by omega)).1 (Nat.le_of_ble_eq_true rfl) (by have := hE5.1 20 (by omega); omega) (by have := hE5.1 20 (by omega); omega)) (fun E h1 hx => hx.elim) (fun v h1 hq => ?_)
                obtain ⟨K6, R6, I6, L6, z6, rfl, rfl, hB6, hz6, hk6⟩ := hq
                have hb6 := hB6.k
                have r6 := r5.trans (hk6.rel (B := B)) (Nat.le_refl _)
                have hO6 := hO5.rel_lk hk6 hBz
                have hW6 : zz_Lw g K6 B z6 R6 I6 L6 v2 R6 I6 L6 z6 := ⟨hO6, fun _ _ _ => ⟨rfl, rfl⟩, fun _ _ => rfl, Nat.le_refl _, by omega, hA⟩
                refine z_aload_n ee_L_thrown_1077 rfl ?_
                refine z_aload_n ee_L_thrown_1078 rfl ?_
                refine z_iconst ee_L_thrown_1079 (v := nI 0) (by decide) ?_
                -- at 1080
                refine z_callX (As := [_, _]) ee_L_thrown_1080 kk_L_thrown_262 rfl rfl (Nat.le_of_ble_eq_true rfl) (by omega) (sq_telegramAt hf hW6 (nI 0)) (fun E h1 hx => hx.elim) (fun v h1 hq => ?_)
                obtain ⟨R7, I7, L7, z7, rfl, rfl, hW7⟩ := hq
                rw [et]
                refine z_callX (As := [_, _]) ee_L_thrown_1083 kk_L_thrown_334 rfl rfl (Nat.le_of_ble_eq_true rfl) (by omega) (sq_rootOf hf hW7 (nI jn)) (fun E h1 hx => hx.elim) (fun v h1 hq => ?_)
                obtain ⟨R8, I8, L8, z8, rfl, rfl, hW8⟩ := hq
                have hz8 := hW8.2.2.2.1
                rw [er]
                have r8 := r6.trans hW8.rel (by omega)
                have hE8 := hEvz.rel r8 hA (by omega)
                have hB8 := hB6.rel hW8.rel hBz hz8
                refine z_callV (As := [_]) ee_L_thrown_1086 kk_L_thrown_308 rfl (by assumption) rfl rfl (Nat.le_of_ble_eq_true rfl) (by omega) (sy_int hf hB8 ro (by omega) (Nat.le_of_ble_eq_true rfl) hE8.2.1.1 (by have := hE8.2.1.2; omega)) (fun E h1 hx => hx.elim) (fun v h1 hq => ?_)
                obtain ⟨K9, R9, I9, L9, z9, rfl, rfl, hB9, hz9, hk9⟩ := hq
                have hb9 := hB9.k
                have r9 := r8.trans (hk9.rel (B := B)) (Nat.le_refl _)
                have hO9 := hW8.1.rel_lk hk9 hBz
                refine z_callV (As := []) ee_L_thrown_1089 kk_L_thrown_203 rfl (by assumption) rfl rfl (Nat.le_of_ble_eq_true rfl) (by omega) (sy_toS hf hB9) (fun E h1 hx => hx.elim) (fun v h1 hq => ?_)
                obtain ⟨Ka, Ra, Ia, La, rfl, rfl, hGa, hza, hka⟩ := hq
                have ra := r9.trans (hka.rel (B := B)) (by omega)
                have hOa := hO9.rel_lk hka (by omega)
                have hEa := hEvz.rel ra hA (by omega)
                have hWa : zz_Lw g Ka B (z9 + 2) Ra Ia La v2 Ra Ia La (z9 + 2) := ⟨hOa, fun _ _ _ => ⟨rfl, rfl⟩, fun _ _ => rfl, Nat.le_refl _, by omega, hA⟩
                refine z_callS (As := [_, _]) ee_L_thrown_1092 kk_L_thrown_317 rfl rfl (Nat.le_of_ble_eq_true rfl) (by omega) (sp_L_runs hf hEa hWa hU.2.2.2.2.1 hGa ⟨⟨by omega, by omega⟩, by omega, by omega⟩ (Nat.le_of_ble_eq_true rfl) _ (px_m (by omega) hIv (by omega) hrv hpv hxv ero) (-1002) zfa2 (fun E h => by cases h; exact Or.inr rfl)) (fun E h1 hx => hx.elim) (fun v h1 hq => ?_)
                obtain ⟨Rb, Ib, Lb, zb, rfl, rfl, hWb⟩ := hq
                have hzb := hWb.2.2.2.1
                have rb := ra.trans hWb.rel (by omega)
                refine z_forget rb.kt hnu ?_
                have hW : zz_Lw g K B z0 R0 I0 L0 (ow_d (ow_b v2 []) (nI 7, nI 1, nI 4)) Rb Ib Lb zb := rb.fin hW hWb.1 (by omega)
                have hU : zk_U u (ow_d (ow_b v2 []) (nI 7, nI 1, nI 4)) := ⟨hU.1, hU.2.1, hU.2.2.1, hU.2.2.2.1, rfl, hU.2.2.2.2.2⟩
                refine z_sipush ee_L_thrown_1095 (v := -1002) (by decide) ?_
                refine z_icmp_ne ee_L_thrown_1098 (tgt := 1146) (by decide) (fun c_1098 => ?_) (fun c_1098 => ?_)
                -- at 1098
                · exact absurd rfl c_1098
                · refine z_aload_n ee_L_thrown_1101 rfl ?_
                  -- at 1102
                  refine z_callX (As := [_]) ee_L_thrown_1102 kk_L_thrown_174 rfl rfl (Nat.le_of_ble_eq_true rfl) (by omega) (st_detail hf hW (a := nI 7) (b := nI 1) (by decide) rfl) (fun E h1 hx => hx.elim) (fun v h1 hq => ?_)
                  obtain ⟨R1, I1, L1, z1, rfl, rfl, hW⟩ := hq
                  refine z_iconst ee_L_thrown_1105 (v := nI 1) (by decide) ?_
                  refine z_icmp_ne ee_L_thrown_1106 (tgt := 1146) (by decide) (fun c_1106 => ?_) (fun c_1106 => ?_)
                  -- at 1106
                  · exact absurd rfl c_1106
                  · refine z_aload_n ee_L_thrown_1109 rfl ?_
                    -- at 1110
                    refine z_callX (As := [_]) ee_L_thrown_1110 kk_L_thrown_176 rfl rfl (Nat.le_of_ble_eq_true rfl) (by omega) (st_cause hf hW (c := nI 4) (by decide) rfl) (fun E h1 hx => hx.elim) (fun v h1 hq => ?_)
                    obtain ⟨R1, I1, L1, z1, rfl, rfl, hW⟩ := hq
                    refine z_iconst ee_L_thrown_1113 (v := nI 4) (by decide) ?_
                    refine z_icmp_ne ee_L_thrown_1114 (tgt := 1146) (by decide) (fun c_1114 => ?_) (fun c_1114 => ?_)
                    -- at 1114
                    · exact absurd rfl c_1114
                    · refine z_aload_n ee_L_thrown_1117 rfl ?_
                      -- at 1118
                      refine z_callX (As := [_]) ee_L_thrown_1118 kk_L_thrown_345 rfl rfl (Nat.le_of_ble_eq_true rfl) (by omega) (st_fault hf hW (a := nI 0) (by decide) hk2) (fun E h1 hx => hx.elim) (fun v h1 hq => ?_)
                      obtain ⟨R1, I1, L1, z1, rfl, rfl, hW⟩ := hq
                      refine z_if_ne ee_L_thrown_1121 (tgt := 1146) (by decide) (fun c_1121 => ?_) (fun c_1121 => ?_)
                      -- at 1121
                      · exact absurd rfl c_1121
                      · refine z_aload_n ee_L_thrown_1124 rfl ?_
                        -- at 1125
                        refine z_callV (As := []) ee_L_thrown_1125 kk_L_thrown_325 rfl (by assumption) rfl rfl (Nat.le_of_ble_eq_true rfl) (by omega) (sx_P_undoCount hf hW) (fun E h1 hx => hx.elim) (fun v h1 hq => ?_)
                        obtain ⟨R1, I1, L1, z1, rfl, rfl, hW⟩ := hq
                        rw [hU.2.1]
                        refine z_iload ee_L_thrown_1128 rfl ?_
                        refine z_icmp_ne ee_L_thrown_1130 (tgt := 1146) (by decide) (fun c_1130 => ?_) (fun c_1130 => ?_)
                        -- at 1130
                        · exact absurd rfl c_1130
                        · refine z_aload_n ee_L_thrown_1133 rfl ?_
                          -- at 1134
                          refine z_callS (As := [_]) ee_L_thrown_1134 kk_L_thrown_321 rfl rfl (Nat.le_of_ble_eq_true rfl) (by omega) (sp_L_asks hf hW (by rw [hU.1]; exact hnn)) (fun E h1 hx => hx.elim) (fun v h1 hq => ?_)
                          obtain ⟨xs, R1, I1, L1, z1, rfl, rfl, hW⟩ := hq
                          rw [hU.1]
                          refine z_lload_n ee_L_thrown_1137 rfl ?_
                          refine z_lcmp ee_L_thrown_1138 ?_
                          refine z_if_ne ee_L_thrown_1139 (tgt := 1146) (by decide) (fun c_1139 => ?_) (fun c_1139 => ?_)
                          -- at 1139
                          · exact absurd zk_lcmp c_1139
                          · refine z_iconst ee_L_thrown_1142 (v := nI 1) (by decide) ?_
                            refine z_goto ee_L_thrown_1143 (tgt := 1147) (by decide) ?_
                            refine z_zret ee_L_thrown_1147 (ty := .boolean) rfl (by decide) (by omega) (by omega) ?_
                            -- at 1147
                            exact ⟨_, hU.l, _, _, _, _, rfl, rfl, hW⟩
end Thr3
