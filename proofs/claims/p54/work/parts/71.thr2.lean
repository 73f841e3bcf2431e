/-! THE LAW: thrown, walked -/
/-- what is left as it was -/
def zk_U (u v : zz_OV) : Prop := ov_s v = ov_s u ∧ ov_h v = ov_h u ∧ ov_p v = ov_p u ∧ ov_f v = ov_f u ∧ ov_b v = [] ∧ ov_m v = []
theorem zk_U.d {u v : zz_OV} {x : Int32 × Int32 × Int32} (h : zk_U u v) : zk_U u (ow_d v x) := h
theorem zk_U.l {u v : zz_OV} {x : List Int32} (h : zk_U u v) : zk_U u (ow_l v x) := h
theorem zk_U.k {u v : zz_OV} {x : Int32} (h : zk_U u v) : zk_U u (ow_k v x) := h
theorem zk_U.m {u v : zz_OV} (h : zk_U u v) : zk_U u (ow_m v []) := ⟨h.1, h.2.1, h.2.2.1, h.2.2.2.1, h.2.2.2.2.1, rfl⟩
theorem zz_hr_n {s : zz_SV} {r : Nat} (h : r < (sv_r s).length) (h4 : (sv_r s).length ≤ 4) : zz_hr s (nI r) := ⟨by rw [zi_n (by omega)]; omega, by rw [zi_n (by omega)]; omega⟩
theorem zz_hr_o {s : zz_SV} {r : Nat} (h : (sv_r s).length ≤ r) (h4 : r ≤ 4) : ¬ zz_hr s (nI r) := fun q => by
  have := q.2
  rw [zi_n (by omega)] at this
  omega
section Thr2
variable {g : zz_G} {l : Launch} {K : Nat → Nat × Nat} {R R0 : Nat → Nat → Option Nat} {I I0 : Nat → Nat → Int32} {L L0 : Nat → Nat → Int64} {z z0 B q n m mk nr : Nat} {u v w : zz_OV} {Q : Option Value → zz_H → Prop} {mc ms : Nat}
/-- dry roots -/
theorem zk_thA (hf : l.stackTraces = false) (hI : zk_I m (ov_s u)) (hnr : (sv_r (ov_s u)).length = nr) {sum : Int64} {nn un : Int32} (ce sl : Nat) (hm : ce + 20 ≤ mc ∧ sl + 120 ≤ ms)
    (kk : ∀ v R I L z (lv : List (Option Value)), zz_le [some (.ref B), some (.long sum), none, some (.int nn), some (.int (nI nr)), some (.int un), some (.int (nI 1))] lv → zk_U u v → zz_Lw g K B z0 R0 I0 L0 v R I L z → Zz g l mm_L_thrown mc ms Q zz_no (ce + 20) (sl + 120) 304 lv [] (K, R, I, L, z)) :
    ∀ (k r : Nat) (v : zz_OV) R I L z, k + r = nr → zk_U u v → zz_Lw g K B z0 R0 I0 L0 v R I L z →
      Zz g l mm_L_thrown mc ms Q zz_no (ce + 5 * r) (sl + 30 * r) 249 [some (.ref B), some (.long sum), none, some (.int nn), some (.int (nI nr)), some (.int un), some (.int (nI 1)), some (.int (nI r))] [] (K, R, I, L, z) := by
  have h4 := hI.2.1
  intro k
  induction k with
  | zero =>
    intro r v R I L z hi hU hW
    refine z_iload ee_L_thrown_249 rfl ?_
    refine z_iload ee_L_thrown_251 rfl ?_
    refine z_icmp_ge ee_L_thrown_253 (tgt := 304) (by decide) (fun c_253 => ?_) (fun c_253 => ?_)
    -- at 253
    · exact z_wid (by omega) (by omega) (kk v R I L z _ (by repeat (first | exact trivial | refine ⟨rfl, ?_⟩)) hU hW)
    · simp (disch := omega) only [zi_lt, zi_le, zi_eq, zi_n, zi_0, zi_m1] at c_253
      omega
  | succ k ih =>
    intro r v R I L z hi hU hW
    have hIv : zk_I m (ov_s v) := by rw [hU.1]; exact hI
    have hr : zz_hr (ov_s v) (nI r) := by rw [hU.1]; exact zz_hr_n (by omega) h4
    have ed : wk_dampness (ov_s v) (nI r) = zz_dmp (ov_s v) (nI r) := by unfold wk_dampness; rw [if_pos hr]; rfl
    refine z_iload ee_L_thrown_249 rfl ?_
    refine z_iload ee_L_thrown_251 rfl ?_
    refine z_icmp_ge ee_L_thrown_253 (tgt := 304) (by decide) (fun c_253 => ?_) (fun c_253 => ?_)
    -- at 253
    · simp (disch := omega) only [zi_lt, zi_le, zi_eq, zi_n, zi_0, zi_m1] at c_253
      omega
    · refine z_aload_n ee_L_thrown_256 rfl ?_
      refine z_iload ee_L_thrown_257 rfl ?_
      -- at 259
      refine z_callX (As := [_, _]) ee_L_thrown_259 kk_L_thrown_258 rfl rfl (Nat.le_of_ble_eq_true rfl) (by omega) (sq_dampness hf hW (nI r)) (fun E h1 hx => hx.elim) (fun v h1 hq => ?_)
      obtain ⟨R1, I1, L1, z1, rfl, rfl, hW⟩ := hq
      rw [ed]
      refine z_if_ne ee_L_thrown_262 (tgt := 298) (by decide) (fun c_262 => ?_) (fun c_262 => ?_)
      -- at 262
      · refine z_iinc ee_L_thrown_298 rfl rfl (by decide) ?_
        refine z_goto ee_L_thrown_301 (tgt := 249) (by decide) ?_
        -- at 249
        rw [zz_iinc1]
        exact z_lvk (z_wid (by omega) (by omega) (ih (r + 1) v _ _ _ _ (by omega) hU hW)) (by repeat (first | exact trivial | refine ⟨rfl, ?_⟩))
      · refine z_iload ee_L_thrown_265 rfl ?_
        refine z_if_eq ee_L_thrown_267 (tgt := 295) (by decide) (fun c_267 => ?_) (fun c_267 => ?_)
        -- at 267
        · exact absurd c_267 (by decide)
        · refine z_aload_n ee_L_thrown_270 rfl ?_
          refine z_iload ee_L_thrown_271 rfl ?_
          -- at 273
          refine z_callX (As := [_, _]) ee_L_thrown_273 kk_L_thrown_287 rfl rfl (Nat.le_of_ble_eq_true rfl) (by omega) (st_dryU hf hW hIv hr c_262) (fun E h1 hx => hx.elim) (fun v h1 hq => ?_)
          obtain ⟨R1, I1, L1, z1, rfl, rfl, hW⟩ := hq
          refine z_sipush ee_L_thrown_276 (v := -1002) (by decide) ?_
          refine z_icmp_ne ee_L_thrown_279 (tgt := 295) (by decide) (fun c_279 => ?_) (fun c_279 => ?_)
          -- at 279
          · exact absurd rfl c_279
          · refine z_aload_n ee_L_thrown_282 rfl ?_
            refine z_iconst ee_L_thrown_283 (v := nI 4) (by decide) ?_
            refine z_iconst ee_L_thrown_284 (v := nI 0) (by decide) ?_
            -- at 285
            refine z_callS (As := [_, _, _]) ee_L_thrown_285 kk_L_thrown_328 rfl rfl (Nat.le_of_ble_eq_true rfl) (by omega) (sp_L_is hf hW (nI 4) (nI 0) (by decide) rfl) (fun E h1 hx => hx.elim) (fun v h1 hq => ?_)
            obtain ⟨R1, I1, L1, z1, rfl, rfl, hW⟩ := hq
            refine z_if_eq ee_L_thrown_288 (tgt := 295) (by decide) (fun c_288 => ?_) (fun c_288 => ?_)
            -- at 288
            · exact absurd c_288 (by decide)
            · refine z_iconst ee_L_thrown_291 (v := nI 1) (by decide) ?_
              refine z_goto ee_L_thrown_292 (tgt := 296) (by decide) ?_
              refine z_istore ee_L_thrown_296 (by decide) ?_
              refine z_iinc ee_L_thrown_298 rfl rfl (by decide) ?_
              refine z_goto ee_L_thrown_301 (tgt := 249) (by decide) ?_
              -- at 249
              rw [zz_iinc1]
              exact z_lvk (z_wid (by omega) (by omega) (ih (r + 1) _ _ _ _ _ (by omega) hU.d hW)) (by repeat (first | exact trivial | refine ⟨rfl, ?_⟩))
/-- full roots -/
theorem zk_thC (hf : l.stackTraces = false) (hI : zk_I m (ov_s u)) (hnr : (sv_r (ov_s u)).length = nr) {sum : Int64} {nn un : Int32} {p : Nat} {t : Int32} {qp : Nat} {x : zz_TG} (hp : zz_pos t 0 (sv_t (ov_s u)) = some qp) (hx : zz_tat (sv_t (ov_s u)) qp = x) (ce sl : Nat) (hm : ce + 28 ≤ mc ∧ sl + 168 ≤ ms)
    (kk : ∀ v R I L z (lv : List (Option Value)), zz_le [some (.ref B), some (.long sum), none, some (.int nn), some (.int (nI nr)), some (.int un), some (.int (nI 1)), some (.int (nI p))] lv → zk_U u v → zz_Lw g K B z0 R0 I0 L0 v R I L z → Zz g l mm_L_thrown mc ms Q zz_no (ce + 28) (sl + 168) 691 lv [] (K, R, I, L, z)) :
    ∀ (k r : Nat) (v : zz_OV) R I L z, k + r = nr → zk_U u v → zz_Lw g K B z0 R0 I0 L0 v R I L z →
      Zz g l mm_L_thrown mc ms Q zz_no (ce + 7 * r) (sl + 42 * r) 613 [some (.ref B), some (.long sum), none, some (.int nn), some (.int (nI nr)), some (.int un), some (.int (nI 1)), some (.int (nI p)), some (.int t), none, some (.int (nI r))] [] (K, R, I, L, z) := by
  have h4 := hI.2.1
  intro k
  induction k with
  | zero =>
    intro r v R I L z hi hU hW
    refine z_iload ee_L_thrown_613 rfl ?_
    refine z_iload ee_L_thrown_615 rfl ?_
    refine z_icmp_ge ee_L_thrown_617 (tgt := 691) (by decide) (fun c_617 => ?_) (fun c_617 => ?_)
    -- at 617
    · exact z_wid (by omega) (by omega) (kk v R I L z _ (by repeat (first | exact trivial | refine ⟨rfl, ?_⟩)) hU hW)
    · simp (disch := omega) only [zi_lt, zi_le, zi_eq, zi_n, zi_0, zi_m1] at c_617
      omega
  | succ k ih =>
    intro r v R I L z hi hU hW
    have hIv : zk_I m (ov_s v) := by rw [hU.1]; exact hI
    have hr : zz_hr (ov_s v) (nI r) := by rw [hU.1]; exact zz_hr_n (by omega) h4
    have hpv : zz_pos t 0 (sv_t (ov_s v)) = some qp := by rw [hU.1]; exact hp
    have hxv : zz_tat (sv_t (ov_s v)) qp = x := by rw [hU.1]; exact hx
    have er : wk_rootOf (ov_s v) t = tg_o x := by unfold wk_rootOf; rw [wq_s hpv hxv]; rfl
    have ep : wk_pagesIn (ov_s v) (nI r) = zz_cpi (ov_s v) (nI r) := by unfold wk_pagesIn; rw [if_pos hr]; rfl
    have ec : wk_pageCount (ov_s v) t = nI (tg_p x) := by unfold wk_pageCount; rw [wq_s hpv hxv]; rfl
    refine z_iload ee_L_thrown_613 rfl ?_
    refine z_iload ee_L_thrown_615 rfl ?_
    refine z_icmp_ge ee_L_thrown_617 (tgt := 691) (by decide) (fun c_617 => ?_) (fun c_617 => ?_)
    -- at 617
    · simp (disch := omega) only [zi_lt, zi_le, zi_eq, zi_n, zi_0, zi_m1] at c_617
      omega
    · refine z_iload ee_L_thrown_620 rfl ?_
      refine z_aload_n ee_L_thrown_622 rfl ?_
      refine z_iload ee_L_thrown_623 rfl ?_
      -- at 625
      refine z_callX (As := [_, _]) ee_L_thrown_625 kk_L_thrown_334 rfl rfl (Nat.le_of_ble_eq_true rfl) (by omega) (sq_rootOf hf hW t) (fun E h1 hx => hx.elim) (fun v h1 hq => ?_)
      obtain ⟨R1, I1, L1, z1, rfl, rfl, hW⟩ := hq
      rw [er]
      refine z_icmp_eq ee_L_thrown_628 (tgt := 685) (by decide) (fun c_628 => ?_) (fun c_628 => ?_)
      -- at 628
      · refine z_iinc ee_L_thrown_685 rfl rfl (by decide) ?_
        refine z_goto ee_L_thrown_688 (tgt := 613) (by decide) ?_
        -- at 613
        rw [zz_iinc1]
        exact z_lvk (z_wid (by omega) (by omega) (ih (r + 1) v _ _ _ _ (by omega) hU hW)) (by repeat (first | exact trivial | refine ⟨rfl, ?_⟩))
      · refine z_aload_n ee_L_thrown_631 rfl ?_
        refine z_iload ee_L_thrown_632 rfl ?_
        -- at 634
        refine z_callX (As := [_, _]) ee_L_thrown_634 kk_L_thrown_260 rfl rfl (Nat.le_of_ble_eq_true rfl) (by omega) (sq_pagesIn hf hW (nI r)) (fun E h1 hx => hx.elim) (fun v h1 hq => ?_)
        obtain ⟨R1, I1, L1, z1, rfl, rfl, hW⟩ := hq
        rw [ep]
        refine z_aload_n ee_L_thrown_637 rfl ?_
        refine z_iload ee_L_thrown_638 rfl ?_
        -- at 640
        refine z_callX (As := [_, _]) ee_L_thrown_640 kk_L_thrown_338 rfl rfl (Nat.le_of_ble_eq_true rfl) (by omega) (sq_pageCount hf hW t) (fun E h1 hx => hx.elim) (fun v h1 hq => ?_)
        obtain ⟨R1, I1, L1, z1, rfl, rfl, hW⟩ := hq
        rw [ec]
        refine z_iadd ee_L_thrown_643 ?_
        refine z_bipush ee_L_thrown_644 (v := nI 8) (by decide) ?_
        refine z_icmp_le ee_L_thrown_646 (tgt := 685) (by decide) (fun c_646 => ?_) (fun c_646 => ?_)
        -- at 646
        · refine z_iinc ee_L_thrown_685 rfl rfl (by decide) ?_
          refine z_goto ee_L_thrown_688 (tgt := 613) (by decide) ?_
          -- at 613
          rw [zz_iinc1]
          exact z_lvk (z_wid (by omega) (by omega) (ih (r + 1) v _ _ _ _ (by omega) hU hW)) (by repeat (first | exact trivial | refine ⟨rfl, ?_⟩))
        · refine z_iload ee_L_thrown_649 rfl ?_
          refine z_if_eq ee_L_thrown_651 (tgt := 682) (by decide) (fun c_651 => ?_) (fun c_651 => ?_)
          -- at 651
          · exact absurd c_651 (by decide)
          · refine z_aload_n ee_L_thrown_654 rfl ?_
            refine z_iload ee_L_thrown_655 rfl ?_
            refine z_iload ee_L_thrown_657 rfl ?_
            -- at 659
            refine z_callX (As := [_, _, _]) ee_L_thrown_659 kk_L_thrown_302 rfl rfl (Nat.le_of_ble_eq_true rfl) (by omega) (st_moveF hf hW hIv hpv hxv hr (fun e => c_628 e.symm) c_646) (fun E h1 hx => hx.elim) (fun v h1 hq => ?_)
            obtain ⟨R1, I1, L1, z1, rfl, rfl, hW⟩ := hq
            refine z_sipush ee_L_thrown_662 (v := -1003) (by decide) ?_
            refine z_icmp_ne ee_L_thrown_665 (tgt := 682) (by decide) (fun c_665 => ?_) (fun c_665 => ?_)
            -- at 665
            · exact absurd rfl c_665
            · refine z_aload_n ee_L_thrown_668 rfl ?_
              refine z_iconst ee_L_thrown_669 (v := nI 1) (by decide) ?_
              refine z_bipush ee_L_thrown_670 (v := nI 8) (by decide) ?_
              -- at 672
              refine z_callS (As := [_, _, _]) ee_L_thrown_672 kk_L_thrown_328 rfl rfl (Nat.le_of_ble_eq_true rfl) (by omega) (sp_L_is hf hW (nI 1) (nI 8) (by decide) rfl) (fun E h1 hx => hx.elim) (fun v h1 hq => ?_)
              obtain ⟨R1, I1, L1, z1, rfl, rfl, hW⟩ := hq
              refine z_if_eq ee_L_thrown_675 (tgt := 682) (by decide) (fun c_675 => ?_) (fun c_675 => ?_)
              -- at 675
              · exact absurd c_675 (by decide)
              · refine z_iconst ee_L_thrown_678 (v := nI 1) (by decide) ?_
                refine z_goto ee_L_thrown_679 (tgt := 683) (by decide) ?_
                refine z_istore ee_L_thrown_683 (by decide) ?_
                refine z_iinc ee_L_thrown_685 rfl rfl (by decide) ?_
                refine z_goto ee_L_thrown_688 (tgt := 613) (by decide) ?_
                -- at 613
                rw [zz_iinc1]
                exact z_lvk (z_wid (by omega) (by omega) (ih (r + 1) _ _ _ _ _ (by omega) hU.d hW)) (by repeat (first | exact trivial | refine ⟨rfl, ?_⟩))
/-- each telegram -/
theorem zk_thB (hf : l.stackTraces = false) (hI : zk_I m (ov_s u)) (hnr : (sv_r (ov_s u)).length = nr) (hmk : (sv_t (ov_s u)).length = mk) (hmk7 : mk ≤ 7) (hne : ∀ x ∈ sv_t (ov_s u), 0 < (tg_c x).length) {sum : Int64} {un : Int32} (ce sl : Nat) (hm : ce + 70 * mk ≤ mc ∧ sl + 420 * mk ≤ ms)
    (kk : ∀ v R I L z (lv : List (Option Value)), zz_le [some (.ref B), some (.long sum), none, some (.int (nI mk)), some (.int (nI nr)), some (.int un), some (.int (nI 1))] lv → zk_U u v → zz_Lw g K B z0 R0 I0 L0 v R I L z → Zz g l mm_L_thrown mc ms Q zz_no (ce + 70 * mk) (sl + 420 * mk) 697 lv [] (K, R, I, L, z)) :
    ∀ (k p : Nat) (v : zz_OV) R I L z, k + p = mk → zk_U u v → zz_Lw g K B z0 R0 I0 L0 v R I L z →
      Zz g l mm_L_thrown mc ms Q zz_no (ce + 70 * p) (sl + 420 * p) 307 [some (.ref B), some (.long sum), none, some (.int (nI mk)), some (.int (nI nr)), some (.int un), some (.int (nI 1)), some (.int (nI p))] [] (K, R, I, L, z) := by
  have h4 := hI.2.1
  intro k
  induction k with
  | zero =>
    intro p v R I L z hi hU hW
    refine z_iload ee_L_thrown_307 rfl ?_
    refine z_iload_n ee_L_thrown_309 rfl ?_
    refine z_icmp_ge ee_L_thrown_310 (tgt := 697) (by decide) (fun c_310 => ?_) (fun c_310 => ?_)
    -- at 310
    · exact z_wid (by omega) (by omega) (kk v R I L z _ (by repeat (first | exact trivial | refine ⟨rfl, ?_⟩)) hU hW)
    · simp (disch := omega) only [zi_lt, zi_le, zi_eq, zi_n, zi_0, zi_m1] at c_310
      omega
  | succ k ih =>
    intro p v R I L z hi hU hW
    obtain ⟨y, hy⟩ : ∃ y, (sv_t (ov_s u))[p]? = some y := ⟨_, List.getElem?_eq_getElem (by omega)⟩
    have ey : zz_tat (sv_t (ov_s u)) p = y := by unfold zz_tat; rw [List.getD_eq_getElem?_getD, hy]; rfl
    obtain ⟨qp, x, hp, hx2, hx, -⟩ := zz_fnd hy
    have hxm : x ∈ sv_t (ov_s u) := List.mem_of_getElem? hx2
    have hc0 := hne x hxm
    obtain ⟨-, -, kI, hkI, -, -, hT⟩ := id hI
    obtain ⟨-, ⟨ro, hro, ero⟩, hax, hl96, hr8, hp8, -⟩ := hT x hxm
    have eta : wk_telegramAt (ov_s v) (nI p) = tg_n y := by
      rw [hU.1]
      unfold wk_telegramAt
      rw [zi_n (by omega), if_pos ⟨by omega, by omega⟩, Int.toNat_natCast, ey]
      rfl
    obtain ⟨-, kc, hkc, hk32, ekc⟩ := (hax.at hc0).ch
    have e0 : zz_at0 (tg_c x) (nI 0) = nI kc := by rw [zz_at0_n (by omega)]; exact ekc
    have htc : zz_typ (nI kc) := by rw [← ekc]; exact hax.at hc0
    have i0 : 0 ≤ (nI 0).toInt ∧ (nI 0).toInt < (tg_c x).length := by rw [zi_n (by omega)]; omega
    have im1 : ¬ (0 ≤ (-1 : Int32).toInt ∧ (-1 : Int32).toInt < (tg_c x).length) := by rw [zi_m1]; omega
    have il : ¬ (0 ≤ (nI (tg_c x).length).toInt ∧ (nI (tg_c x).length).toInt < (tg_c x).length) := by rw [zi_n (by omega)]; omega
    have hv : ∀ v, zk_U u v → zk_I m (ov_s v) ∧ zz_pos (tg_n y) 0 (sv_t (ov_s v)) = some qp ∧ zz_tat (sv_t (ov_s v)) qp = x ∧ zz_hr (ov_s v) (tg_o x) ∧ ¬ zz_hr (ov_s v) (nI nr) ∧ wk_codeChar (ov_s v) (tg_n y) (nI 0) = nI kc ∧ wk_codeLength (ov_s v) (tg_n y) = nI (tg_c x).length ∧ wk_rootOf (ov_s v) (tg_n y) = tg_o x ∧ wk_pageCount (ov_s v) (tg_n y) = nI (tg_p x) ∧ wk_codeChar (ov_s v) (tg_n y) (-1) = -1002 ∧ wk_codeChar (ov_s v) (tg_n y) (nI (tg_c x).length) = -1002 ∧ wk_rotOf (ov_s v) (tg_n y) (-1) = -1002 ∧ wk_rotOf (ov_s v) (tg_n y) (nI (tg_p x)) = -1002 ∧ wk_isReadable (ov_s v) (tg_n y) = zz_tf (0 ≤ zz_oc (zz_uir x)) := by
      intro v hU
      rw [hU.1]
      refine ⟨hI, hp, hx, by rw [ero]; exact zz_hr_n (by omega) h4, zz_hr_o (by omega) (by omega), ?_, ?_, ?_, ?_, ?_, ?_, ?_, ?_, ?_⟩
      · unfold wk_codeChar; rw [wq_s hp hx, if_pos i0, e0]; rfl
      · unfold wk_codeLength; rw [wq_s hp hx]; rfl
      · unfold wk_rootOf; rw [wq_s hp hx]; rfl
      · unfold wk_pageCount; rw [wq_s hp hx]; rfl
      · unfold wk_codeChar; rw [wq_s hp hx, if_neg im1]; exact zfn3
      · unfold wk_codeChar; rw [wq_s hp hx, if_neg il]; exact zfn3
      · unfold wk_rotOf; rw [wq_s hp hx, if_neg (by rw [zi_m1]; omega)]; exact zfn3
      · unfold wk_rotOf; rw [wq_s hp hx, if_neg (by rw [zi_n (by omega)]; omega)]; exact zfn3
      · unfold wk_isReadable; rw [wq_s hp hx]; rfl
    have tail : ∀ (v : zz_OV) R I L z, zk_U u v → zz_Lw g K B z0 R0 I0 L0 v R I L z → Zz g l mm_L_thrown mc ms Q zz_no (ce + 70 * p + 42) (sl + 420 * p + 252) 613 [some (.ref B), some (.long sum), none, some (.int (nI mk)), some (.int (nI nr)), some (.int un), some (.int (nI 1)), some (.int (nI p)), some (.int (tg_n y)), none, some (.int (nI 0))] [] (K, R, I, L, z) := by
      intro v R I L z hU hW
      refine z_wid (ce' := (ce + 70 * p + 42) + 7 * 0) (sl' := (sl + 420 * p + 252) + 42 * 0) (by omega) (by omega) (zk_thC hf hI hnr (p := p) hp hx (ce + 70 * p + 42) (sl + 420 * p + 252) (by omega) ?_ nr 0 v R I L z rfl hU hW)
      intro v R I L z lv hlv hU hW
      refine z_lvk ?_ hlv
      refine z_iinc ee_L_thrown_691 rfl rfl (by decide) ?_
      refine z_goto ee_L_thrown_694 (tgt := 307) (by decide) ?_
      -- at 307
      rw [zz_iinc1]
      exact z_lvk (z_wid (by omega) (by omega) (ih (p + 1) v _ _ _ _ (by omega) hU hW)) (by repeat (first | exact trivial | refine ⟨rfl, ?_⟩))
    refine z_iload ee_L_thrown_307 rfl ?_
    refine z_iload_n ee_L_thrown_309 rfl ?_
    refine z_icmp_ge ee_L_thrown_310 (tgt := 697) (by decide) (fun c_310 => ?_) (fun c_310 => ?_)
    -- at 310
    · simp (disch := omega) only [zi_lt, zi_le, zi_eq, zi_n, zi_0, zi_m1] at c_310
      omega
    · refine z_aload_n ee_L_thrown_313 rfl ?_
      refine z_iload ee_L_thrown_314 rfl ?_
      -- at 316
      refine z_callX (As := [_, _]) ee_L_thrown_316 kk_L_thrown_262 rfl rfl (Nat.le_of_ble_eq_true rfl) (by omega) (sq_telegramAt hf hW (nI p)) (fun E h1 hx => hx.elim) (fun v h1 hq => ?_)
      obtain ⟨R1, I1, L1, z1, rfl, rfl, hW⟩ := hq
      rw [eta]
      refine z_istore ee_L_thrown_319 (by decide) ?_
      refine z_aload_n ee_L_thrown_321 rfl ?_
      refine z_iload ee_L_thrown_322 rfl ?_
      refine z_iconst ee_L_thrown_324 (v := nI 0) (by decide) ?_
      -- at 325
      refine z_callX (As := [_, _, _]) ee_L_thrown_325 kk_L_thrown_281 rfl rfl (Nat.le_of_ble_eq_true rfl) (by omega) (sq_codeChar hf hW (tg_n y) (nI 0)) (fun E h1 hx => hx.elim) (fun v h1 hq => ?_)
      obtain ⟨R1, I1, L1, z1, rfl, rfl, hW⟩ := hq
      obtain ⟨hIv, hpv, hxv, hrv, hrn, q1, q2, q3, q4, q5, q6, q7, q8, q9⟩ := hv v hU
      rw [q1]
      refine z_i2c ee_L_thrown_328 (zz_and255 kc (by omega)).2 ?_
      refine z_istore ee_L_thrown_329 (by decide) ?_
      refine z_iload ee_L_thrown_331 rfl ?_
      refine z_if_eq ee_L_thrown_333 (tgt := 537) (by decide) (fun c_333 => ?_) (fun c_333 => ?_)
      -- at 333
      · exact absurd c_333 (by decide)
      · refine z_aload_n ee_L_thrown_336 rfl ?_
        refine z_iload ee_L_thrown_337 rfl ?_
        refine z_aload_n ee_L_thrown_339 rfl ?_
        refine z_iload ee_L_thrown_340 rfl ?_
        -- at 342
        refine z_callX (As := [_, _]) ee_L_thrown_342 kk_L_thrown_279 rfl rfl (Nat.le_of_ble_eq_true rfl) (by omega) (sq_codeLength hf hW (tg_n y)) (fun E h1 hx => hx.elim) (fun v h1 hq => ?_)
        obtain ⟨R1, I1, L1, z1, rfl, rfl, hW⟩ := hq
        rw [q2]
        refine z_iconst ee_L_thrown_345 (v := nI 5) (by decide) ?_
        -- at 346
        refine z_callX (As := [_, _, _, _]) ee_L_thrown_346 kk_L_thrown_297 rfl rfl (Nat.le_of_ble_eq_true rfl) (by omega) (st_dmgI hf hW hIv (zz_ch_n (by omega)) hpv hxv il) (fun E h1 hx => hx.elim) (fun v h1 hq => ?_)
        obtain ⟨R1, I1, L1, z1, rfl, rfl, hW⟩ := hq
        refine z_sipush ee_L_thrown_349 (v := -1002) (by decide) ?_
        refine z_icmp_ne ee_L_thrown_352 (tgt := 537) (by decide) (fun c_352 => ?_) (fun c_352 => ?_)
        -- at 352
        · exact absurd rfl c_352
        · refine z_aload_n ee_L_thrown_355 rfl ?_
          refine z_iload ee_L_thrown_356 rfl ?_
          refine z_iconst ee_L_thrown_358 (v := -1) (by decide) ?_
          refine z_bipush ee_L_thrown_359 (v := nI 97) (by decide) ?_
          -- at 361
          refine z_callX (As := [_, _, _, _]) ee_L_thrown_361 kk_L_thrown_297 rfl rfl (Nat.le_of_ble_eq_true rfl) (by omega) (st_dmgI hf hW hIv (zz_ch_n (by omega)) hpv hxv im1) (fun E h1 hx => hx.elim) (fun v h1 hq => ?_)
          obtain ⟨R1, I1, L1, z1, rfl, rfl, hW⟩ := hq
          refine z_sipush ee_L_thrown_364 (v := -1002) (by decide) ?_
          refine z_icmp_ne ee_L_thrown_367 (tgt := 537) (by decide) (fun c_367 => ?_) (fun c_367 => ?_)
          -- at 367
          · exact absurd rfl c_367
          · refine z_aload_n ee_L_thrown_370 rfl ?_
            refine z_iload ee_L_thrown_371 rfl ?_
            refine z_iconst ee_L_thrown_373 (v := nI 0) (by decide) ?_
            refine z_bipush ee_L_thrown_374 (v := nI 31) (by decide) ?_
            -- at 376
            refine z_callX (As := [_, _, _, _]) ee_L_thrown_376 kk_L_thrown_297 rfl rfl (Nat.le_of_ble_eq_true rfl) (by omega) (st_dmgA hf hW hIv (zz_ch_n (by omega)) hpv hxv i0 (by decide)) (fun E h1 hx => hx.elim) (fun v h1 hq => ?_)
            obtain ⟨R1, I1, L1, z1, rfl, rfl, hW⟩ := hq
            refine z_sipush ee_L_thrown_379 (v := -1003) (by decide) ?_
            refine z_icmp_ne ee_L_thrown_382 (tgt := 537) (by decide) (fun c_382 => ?_) (fun c_382 => ?_)
            -- at 382
            · exact absurd rfl c_382
            · refine z_aload_n ee_L_thrown_385 rfl ?_
              refine z_iload ee_L_thrown_386 rfl ?_
              refine z_iconst ee_L_thrown_388 (v := nI 0) (by decide) ?_
              refine z_bipush ee_L_thrown_389 (v := nI 127) (by decide) ?_
              -- at 391
              refine z_callX (As := [_, _, _, _]) ee_L_thrown_391 kk_L_thrown_297 rfl rfl (Nat.le_of_ble_eq_true rfl) (by omega) (st_dmgA hf hW hIv (zz_ch_n (by omega)) hpv hxv i0 (by decide)) (fun E h1 hx => hx.elim) (fun v h1 hq => ?_)
              obtain ⟨R1, I1, L1, z1, rfl, rfl, hW⟩ := hq
              refine z_sipush ee_L_thrown_394 (v := -1003) (by decide) ?_
              refine z_icmp_ne ee_L_thrown_397 (tgt := 537) (by decide) (fun c_397 => ?_) (fun c_397 => ?_)
              -- at 397
              · exact absurd rfl c_397
              · refine z_aload_n ee_L_thrown_400 rfl ?_
                refine z_iload ee_L_thrown_401 rfl ?_
                refine z_iconst ee_L_thrown_403 (v := nI 0) (by decide) ?_
                refine z_iload ee_L_thrown_404 rfl ?_
                -- at 406
                refine z_callX (As := [_, _, _, _]) ee_L_thrown_406 kk_L_thrown_297 rfl rfl (Nat.le_of_ble_eq_true rfl) (by omega) (st_dmgU hf hW hIv htc.ch.1 hpv hxv i0 htc e0) (fun E h1 hx => hx.elim) (fun v h1 hq => ?_)
                obtain ⟨R1, I1, L1, z1, rfl, rfl, hW⟩ := hq
                refine z_sipush ee_L_thrown_409 (v := -1004) (by decide) ?_
                refine z_icmp_ne ee_L_thrown_412 (tgt := 537) (by decide) (fun c_412 => ?_) (fun c_412 => ?_)
                -- at 412
                · exact absurd rfl c_412
                · refine z_aload_n ee_L_thrown_415 rfl ?_
                  refine z_iconst ee_L_thrown_416 (v := nI 4) (by decide) ?_
                  refine z_iload ee_L_thrown_417 rfl ?_
                  -- at 419
                  refine z_callS (As := [_, _, _]) ee_L_thrown_419 kk_L_thrown_328 rfl rfl (Nat.le_of_ble_eq_true rfl) (by omega) (sp_L_is hf hW (nI 4) (nI kc) (by decide) rfl) (fun E h1 hx => hx.elim) (fun v h1 hq => ?_)
                  obtain ⟨R1, I1, L1, z1, rfl, rfl, hW⟩ := hq
                  refine z_if_eq ee_L_thrown_422 (tgt := 537) (by decide) (fun c_422 => ?_) (fun c_422 => ?_)
                  -- at 422
                  · exact absurd c_422 (by decide)
                  · have hU := hU.d (x := (nI 4, nI kc, -1))
                    obtain ⟨hIv, hpv, hxv, hrv, hrn, q1, q2, q3, q4, q5, q6, q7, q8, q9⟩ := hv _ hU
                    refine z_aload_n ee_L_thrown_425 rfl ?_
                    refine z_iload ee_L_thrown_426 rfl ?_
                    refine z_iload ee_L_thrown_428 rfl ?_
                    -- at 430
                    refine z_callX (As := [_, _, _]) ee_L_thrown_430 kk_L_thrown_302 rfl rfl (Nat.le_of_ble_eq_true rfl) (by omega) (st_moveI hf hW hIv hpv hxv hrn) (fun E h1 hx => hx.elim) (fun v h1 hq => ?_)
                    obtain ⟨R1, I1, L1, z1, rfl, rfl, hW⟩ := hq
                    refine z_sipush ee_L_thrown_433 (v := -1002) (by decide) ?_
                    refine z_icmp_ne ee_L_thrown_436 (tgt := 537) (by decide) (fun c_436 => ?_) (fun c_436 => ?_)
                    -- at 436
                    · exact absurd rfl c_436
                    · refine z_aload_n ee_L_thrown_439 rfl ?_
                      refine z_iload ee_L_thrown_440 rfl ?_
                      refine z_aload_n ee_L_thrown_442 rfl ?_
                      refine z_iload ee_L_thrown_443 rfl ?_
                      -- at 445
                      refine z_callX (As := [_, _]) ee_L_thrown_445 kk_L_thrown_334 rfl rfl (Nat.le_of_ble_eq_true rfl) (by omega) (sq_rootOf hf hW (tg_n y)) (fun E h1 hx => hx.elim) (fun v h1 hq => ?_)
                      obtain ⟨R1, I1, L1, z1, rfl, rfl, hW⟩ := hq
                      rw [q3]
                      refine z_callX (As := [_, _, _]) ee_L_thrown_448 kk_L_thrown_302 rfl rfl (Nat.le_of_ble_eq_true rfl) (by omega) (st_moveU hf hW hIv hpv hxv hrv rfl) (fun E h1 hx => hx.elim) (fun v h1 hq => ?_)
                      obtain ⟨R1, I1, L1, z1, rfl, rfl, hW⟩ := hq
                      refine z_sipush ee_L_thrown_451 (v := -1003) (by decide) ?_
                      refine z_icmp_ne ee_L_thrown_454 (tgt := 537) (by decide) (fun c_454 => ?_) (fun c_454 => ?_)
                      -- at 454
                      · exact absurd rfl c_454
                      · have hU := hU.d (x := (nI 4, tg_o x, -1))
                        obtain ⟨hIv, hpv, hxv, hrv, hrn, q1, q2, q3, q4, q5, q6, q7, q8, q9⟩ := hv _ hU
                        refine z_aload_n ee_L_thrown_457 rfl ?_
                        refine z_iconst ee_L_thrown_458 (v := nI 4) (by decide) ?_
                        refine z_aload_n ee_L_thrown_459 rfl ?_
                        refine z_iload ee_L_thrown_460 rfl ?_
                        -- at 462
                        refine z_callX (As := [_, _]) ee_L_thrown_462 kk_L_thrown_334 rfl rfl (Nat.le_of_ble_eq_true rfl) (by omega) (sq_rootOf hf hW (tg_n y)) (fun E h1 hx => hx.elim) (fun v h1 hq => ?_)
                        obtain ⟨R1, I1, L1, z1, rfl, rfl, hW⟩ := hq
                        rw [q3]
                        refine z_callS (As := [_, _, _]) ee_L_thrown_465 kk_L_thrown_328 rfl rfl (Nat.le_of_ble_eq_true rfl) (by omega) (sp_L_is hf hW (nI 4) (tg_o x) (by decide) rfl) (fun E h1 hx => hx.elim) (fun v h1 hq => ?_)
                        obtain ⟨R1, I1, L1, z1, rfl, rfl, hW⟩ := hq
                        refine z_if_eq ee_L_thrown_468 (tgt := 537) (by decide) (fun c_468 => ?_) (fun c_468 => ?_)
                        -- at 468
                        · exact absurd c_468 (by decide)
                        · refine z_aload_n ee_L_thrown_471 rfl ?_
                          refine z_iload ee_L_thrown_472 rfl ?_
                          refine z_iconst ee_L_thrown_474 (v := -1) (by decide) ?_
                          -- at 475
                          refine z_callX (As := [_, _, _]) ee_L_thrown_475 kk_L_thrown_281 rfl rfl (Nat.le_of_ble_eq_true rfl) (by omega) (sq_codeChar hf hW (tg_n y) (-1)) (fun E h1 hx => hx.elim) (fun v h1 hq => ?_)
                          obtain ⟨R1, I1, L1, z1, rfl, rfl, hW⟩ := hq
                          rw [q5]
                          refine z_sipush ee_L_thrown_478 (v := -1002) (by decide) ?_
                          refine z_icmp_ne ee_L_thrown_481 (tgt := 537) (by decide) (fun c_481 => ?_) (fun c_481 => ?_)
                          -- at 481
                          · exact absurd rfl c_481
                          · refine z_aload_n ee_L_thrown_484 rfl ?_
                            refine z_iload ee_L_thrown_485 rfl ?_
                            refine z_aload_n ee_L_thrown_487 rfl ?_
                            refine z_iload ee_L_thrown_488 rfl ?_
                            -- at 490
                            refine z_callX (As := [_, _]) ee_L_thrown_490 kk_L_thrown_279 rfl rfl (Nat.le_of_ble_eq_true rfl) (by omega) (sq_codeLength hf hW (tg_n y)) (fun E h1 hx => hx.elim) (fun v h1 hq => ?_)
                            obtain ⟨R1, I1, L1, z1, rfl, rfl, hW⟩ := hq
                            rw [q2]
                            refine z_callX (As := [_, _, _]) ee_L_thrown_493 kk_L_thrown_281 rfl rfl (Nat.le_of_ble_eq_true rfl) (by omega) (sq_codeChar hf hW (tg_n y) (nI (tg_c x).length)) (fun E h1 hx => hx.elim) (fun v h1 hq => ?_)
                            obtain ⟨R1, I1, L1, z1, rfl, rfl, hW⟩ := hq
                            rw [q6]
                            refine z_sipush ee_L_thrown_496 (v := -1002) (by decide) ?_
                            refine z_icmp_ne ee_L_thrown_499 (tgt := 537) (by decide) (fun c_499 => ?_) (fun c_499 => ?_)
                            -- at 499
                            · exact absurd rfl c_499
                            · refine z_aload_n ee_L_thrown_502 rfl ?_
                              refine z_iload ee_L_thrown_503 rfl ?_
                              refine z_iconst ee_L_thrown_505 (v := -1) (by decide) ?_
                              -- at 506
                              refine z_callX (As := [_, _, _]) ee_L_thrown_506 kk_L_thrown_336 rfl rfl (Nat.le_of_ble_eq_true rfl) (by omega) (sq_rotOf hf hW (tg_n y) (-1)) (fun E h1 hx => hx.elim) (fun v h1 hq => ?_)
                              obtain ⟨R1, I1, L1, z1, rfl, rfl, hW⟩ := hq
                              rw [q7]
                              refine z_sipush ee_L_thrown_509 (v := -1002) (by decide) ?_
                              refine z_icmp_ne ee_L_thrown_512 (tgt := 537) (by decide) (fun c_512 => ?_) (fun c_512 => ?_)
                              -- at 512
                              · exact absurd rfl c_512
                              · refine z_aload_n ee_L_thrown_515 rfl ?_
                                refine z_iload ee_L_thrown_516 rfl ?_
                                refine z_aload_n ee_L_thrown_518 rfl ?_
                                refine z_iload ee_L_thrown_519 rfl ?_
                                -- at 521
                                refine z_callX (As := [_, _]) ee_L_thrown_521 kk_L_thrown_338 rfl rfl (Nat.le_of_ble_eq_true rfl) (by omega) (sq_pageCount hf hW (tg_n y)) (fun E h1 hx => hx.elim) (fun v h1 hq => ?_)
                                obtain ⟨R1, I1, L1, z1, rfl, rfl, hW⟩ := hq
                                rw [q4]
                                refine z_callX (As := [_, _, _]) ee_L_thrown_524 kk_L_thrown_336 rfl rfl (Nat.le_of_ble_eq_true rfl) (by omega) (sq_rotOf hf hW (tg_n y) (nI (tg_p x))) (fun E h1 hx => hx.elim) (fun v h1 hq => ?_)
                                obtain ⟨R1, I1, L1, z1, rfl, rfl, hW⟩ := hq
                                rw [q8]
                                refine z_sipush ee_L_thrown_527 (v := -1002) (by decide) ?_
                                refine z_icmp_ne ee_L_thrown_530 (tgt := 537) (by decide) (fun c_530 => ?_) (fun c_530 => ?_)
                                -- at 530
                                · exact absurd rfl c_530
                                · refine z_iconst ee_L_thrown_533 (v := nI 1) (by decide) ?_
                                  refine z_goto ee_L_thrown_534 (tgt := 538) (by decide) ?_
                                  refine z_istore ee_L_thrown_538 (by decide) ?_
                                  refine z_aload_n ee_L_thrown_540 rfl ?_
                                  refine z_iload ee_L_thrown_541 rfl ?_
                                  -- at 543
                                  refine z_callX (As := [_, _]) ee_L_thrown_543 kk_L_thrown_275 rfl rfl (Nat.le_of_ble_eq_true rfl) (by omega) (sq_isReadable hf hW (tg_n y)) (fun E h1 hx => hx.elim) (fun v h1 hq => ?_)
                                  obtain ⟨R1, I1, L1, z1, rfl, rfl, hW⟩ := hq
                                  rw [q9]
                                  refine z_if_ne ee_L_thrown_546 (tgt := 610) (by decide) (fun c_546 => ?_) (fun c_546 => ?_)
                                  -- at 546
                                  · refine z_iconst ee_L_thrown_610 (v := nI 0) (by decide) ?_
                                    refine z_istore ee_L_thrown_611 (by decide) ?_
                                    -- at 613
                                    exact z_lvk (z_wid (by omega) (by omega) (tail _ _ _ _ _ hU hW)) (by repeat (first | exact trivial | refine ⟨rfl, ?_⟩))
                                  · have hoc : zz_oc (zz_uir x) < 0 := Int32.not_le.mp (zz_tf_0.mp c_546)
                                    rcases zk_uir (x := x) with ⟨ku, du, hku, eu⟩ | eu
                                    · refine z_iload ee_L_thrown_549 rfl ?_
                                      refine z_if_eq ee_L_thrown_551 (tgt := 607) (by decide) (fun c_551 => ?_) (fun c_551 => ?_)
                                      -- at 551
                                      · exact absurd c_551 (by decide)
                                      · refine z_aload_n ee_L_thrown_554 rfl ?_
                                        refine z_iload ee_L_thrown_555 rfl ?_
                                        -- at 557
                                        refine z_callX (As := [_, _]) ee_L_thrown_557 kk_L_thrown_300 rfl rfl (Nat.le_of_ble_eq_true rfl) (by omega) (st_anewU hf hW hIv hpv hxv eu hoc) (fun E h1 hx => hx.elim) (fun v h1 hq => ?_)
                                        obtain ⟨R1, I1, L1, z1, rfl, rfl, hW⟩ := hq
                                        have hne1 : nI ku ≠ -1 := by rcases hku with rfl | rfl | rfl <;> decide
                                        refine z_sipush ee_L_thrown_560 (v := -1002) (by decide) ?_
                                        refine z_icmp_ne ee_L_thrown_563 (tgt := 607) (by decide) (fun c_563 => ?_) (fun c_563 => ?_)
                                        -- at 563
                                        · exact absurd rfl c_563
                                        · have hU := hU.d (x := (nI ku, du, -1))
                                          obtain ⟨hIv, hpv, hxv, hrv, hrn, q1, q2, q3, q4, q5, q6, q7, q8, q9⟩ := hv _ hU
                                          have rd : ∀ R I L z, zz_Lw g K B z0 R0 I0 L0 (ow_d (ow_d (ow_d v (nI 4, nI kc, -1)) (nI 4, tg_o x, -1)) (nI ku, du, -1)) R I L z → Zz g l mm_L_thrown mc ms Q zz_no (ce + 70 * p + 41) (sl + 420 * p + 246) 591 [some (.ref B), some (.long sum), none, some (.int (nI mk)), some (.int (nI nr)), some (.int un), some (.int (nI 1)), some (.int (nI p)), some (.int (tg_n y))] [] (K, R, I, L, z) := by
                                            intro R I L z hW
                                            refine z_aload_n ee_L_thrown_591 rfl ?_
                                            refine z_iload ee_L_thrown_592 rfl ?_
                                            -- at 594
                                            refine z_callX (As := [_, _]) ee_L_thrown_594 kk_L_thrown_332 rfl rfl (Nat.le_of_ble_eq_true rfl) (by omega) (st_readU hf hW hpv hxv eu) (fun E h1 hx => hx.elim) (fun v h1 hq => ?_)
                                            obtain ⟨R1, I1, L1, z1, rfl, rfl, hW⟩ := hq
                                            refine z_sipush ee_L_thrown_597 (v := -1002) (by decide) ?_
                                            refine z_icmp_ne ee_L_thrown_600 (tgt := 607) (by decide) (fun c_600 => ?_) (fun c_600 => ?_)
                                            -- at 600
                                            · exact absurd rfl c_600
                                            · refine z_iconst ee_L_thrown_603 (v := nI 1) (by decide) ?_
                                              refine z_goto ee_L_thrown_604 (tgt := 608) (by decide) ?_
                                              refine z_istore ee_L_thrown_608 (by decide) ?_
                                              refine z_iconst ee_L_thrown_610 (v := nI 0) (by decide) ?_
                                              refine z_istore ee_L_thrown_611 (by decide) ?_
                                              -- at 613
                                              exact z_lvk (z_wid (by omega) (by omega) (tail _ _ _ _ _ hU.d hW)) (by repeat (first | exact trivial | refine ⟨rfl, ?_⟩))
                                          refine z_aload_n ee_L_thrown_566 rfl ?_
                                          -- at 567
                                          refine z_callX (As := [_]) ee_L_thrown_567 kk_L_thrown_172 rfl rfl (Nat.le_of_ble_eq_true rfl) (by omega) (st_denial hf hW hne1 rfl) (fun E h1 hx => hx.elim) (fun v h1 hq => ?_)
                                          obtain ⟨R1, I1, L1, z1, rfl, rfl, hW⟩ := hq
                                          refine z_iconst ee_L_thrown_570 (v := nI 3) (by decide) ?_
                                          refine z_icmp_eq ee_L_thrown_571 (tgt := 591) (by decide) (fun c_571 => ?_) (fun c_571 => ?_)
                                          -- at 571
                                          · exact z_lvk (z_wid (by omega) (by omega) (rd _ _ _ _ hW)) (by repeat (first | exact trivial | refine ⟨rfl, ?_⟩))
                                          · refine z_aload_n ee_L_thrown_574 rfl ?_
                                            -- at 575
                                            refine z_callX (As := [_]) ee_L_thrown_575 kk_L_thrown_172 rfl rfl (Nat.le_of_ble_eq_true rfl) (by omega) (st_denial hf hW hne1 rfl) (fun E h1 hx => hx.elim) (fun v h1 hq => ?_)
                                            obtain ⟨R1, I1, L1, z1, rfl, rfl, hW⟩ := hq
                                            refine z_iconst ee_L_thrown_578 (v := nI 5) (by decide) ?_
                                            refine z_icmp_eq ee_L_thrown_579 (tgt := 591) (by decide) (fun c_579 => ?_) (fun c_579 => ?_)
                                            -- at 579
                                            · exact z_lvk (z_wid (by omega) (by omega) (rd _ _ _ _ hW)) (by repeat (first | exact trivial | refine ⟨rfl, ?_⟩))
                                            · refine z_aload_n ee_L_thrown_582 rfl ?_
                                              -- at 583
                                              refine z_callX (As := [_]) ee_L_thrown_583 kk_L_thrown_172 rfl rfl (Nat.le_of_ble_eq_true rfl) (by omega) (st_denial hf hW hne1 rfl) (fun E h1 hx => hx.elim) (fun v h1 hq => ?_)
                                              obtain ⟨R1, I1, L1, z1, rfl, rfl, hW⟩ := hq
                                              refine z_bipush ee_L_thrown_586 (v := nI 6) (by decide) ?_
                                              refine z_icmp_ne ee_L_thrown_588 (tgt := 607) (by decide) (fun c_588 => ?_) (fun c_588 => ?_)
                                              -- at 588
                                              · exfalso
                                                rcases hku with rfl | rfl | rfl
                                                · exact c_571 rfl
                                                · exact c_579 rfl
                                                · exact c_588 rfl
                                              · exact z_lvk (z_wid (by omega) (by omega) (rd _ _ _ _ hW)) (by repeat (first | exact trivial | refine ⟨rfl, ?_⟩))
                                    · rw [eu] at hoc; exact absurd hoc (by decide)
end Thr2
