/-! THE LAW: makes -/
theorem zfa1 : zf2 eA eA = -1001 := by decide +kernel
theorem zfa2 : zf2 eA eU = -1002 := by decide +kernel
theorem zfi1 : zf2 eI eI = -1001 := by decide +kernel
theorem zfi2 : zf2 eI eU = -1002 := by decide +kernel
theorem zfn1 : zf2 eN eN = -1001 := by decide +kernel
theorem zfn2 : zf2 eN eU = -1002 := by decide +kernel
theorem zfn3 : zf2 eN eI = -1002 := by decide +kernel
theorem zfc1 : zf3 eI eA eI = -1001 := by decide +kernel
theorem zfc2 : zf3 eI eA eA = -1002 := by decide +kernel
theorem zfc3 : zf3 eI eA eU = -1003 := by decide +kernel
theorem zfm1 : zf3 eN eI eN = -1001 := by decide +kernel
theorem zfm2 : zf3 eN eI eI = -1002 := by decide +kernel
theorem zfm3 : zf3 eN eI eU = -1003 := by decide +kernel
theorem zfd1 : zf4 eN eI eA eN = -1001 := by decide +kernel
theorem zfd2 : zf4 eN eI eA eI = -1002 := by decide +kernel
theorem zfd3 : zf4 eN eI eA eA = -1003 := by decide +kernel
theorem zfd4 : zf4 eN eI eA eU = -1004 := by decide +kernel
/-! lengths of folded texts -/
theorem zk_add_l1 {n : Nat} {xs : List Int32} {c : Int32} : (zz_add n xs c).length ≤ xs.length + 1 ∧ xs.length ≤ (zz_add n xs c).length ∧ (0 < n → 0 < (zz_add n xs c).length) := by
  unfold zz_add
  split
  · rw [List.length_append]; show xs.length + 1 ≤ _ ∧ _ ≤ xs.length + 1 ∧ (_ → 0 < xs.length + 1); omega
  · omega
theorem zk_rep_l {n : Nat} {c : Int32} : ∀ (k : Nat) (out : List Int32), (zz_rep n c k out).length ≤ out.length + 2 * k ∧ out.length ≤ (zz_rep n c k out).length ∧ (0 < n → 0 < k → 0 < (zz_rep n c k out).length) := by
  intro k
  induction k with
  | zero => intro out; exact ⟨by show out.length ≤ _; omega, Nat.le_refl _, fun _ h => absurd h (by omega)⟩
  | succ k ih =>
    intro out
    unfold zz_rep
    have h1 := ih (zz_add n (if zz_esc c then zz_add n out (nI 92) else out) c)
    have h2 := zk_add_l1 (n := n) (xs := if zz_esc c then zz_add n out (nI 92) else out) (c := c)
    have h3 : (if zz_esc c then zz_add n out (nI 92) else out).length ≤ out.length + 1 ∧ out.length ≤ (if zz_esc c then zz_add n out (nI 92) else out).length := by
      split
      · have := zk_add_l1 (n := n) (xs := out) (c := nI 92); omega
      · omega
    refine ⟨by omega, by omega, fun hn _ => ?_⟩
    have := h2.2.2 hn
    omega
theorem zk_wr_l {n : Nat} {c : Int32} {r : Nat} {out : List Int32} (hr : 0 < r) : (zz_wr n c r out).length ≤ out.length + 2 * r ∧ out.length ≤ (zz_wr n c r out).length ∧ (0 < n → 0 < (zz_wr n c r out).length) := by
  unfold zz_wr
  split
  · have h1 := zk_rep_l (n := n) (c := c) 1 (zz_add n out (nI (48 + r)))
    have h2 := zk_add_l1 (n := n) (xs := out) (c := nI (48 + r))
    exact ⟨by omega, by omega, fun hn => h1.2.2 hn (by omega)⟩
  · have h1 := zk_rep_l (n := n) (c := c) r out
    exact ⟨by omega, by omega, fun hn => h1.2.2 hn hr⟩
theorem zk_fold_l {n : Nat} : ∀ (xs : List Int32) (r : Nat) (out : List Int32), (zz_fold n r xs out).length ≤ out.length + 2 * (xs.length + r) ∧ out.length ≤ (zz_fold n r xs out).length ∧ (0 < n → 0 < xs.length → 0 < (zz_fold n r xs out).length) := by
  intro xs
  induction xs with
  | nil => intro r out; exact ⟨by show out.length ≤ _; omega, Nat.le_refl _, fun _ h => absurd h (by simp)⟩
  | cons c t ih =>
    intro r out
    unfold zz_fold
    rw [List.length_cons]
    split
    · have h1 := ih 0 (zz_wr n c (r + 1) out)
      have h2 := zk_wr_l (n := n) (c := c) (r := r + 1) (out := out) (by omega)
      refine ⟨by omega, by omega, fun hn _ => ?_⟩
      have := h2.2.2 hn
      omega
    · rename_i q
      have h1 := ih (r + 1) out
      refine ⟨by omega, by omega, fun hn _ => h1.2.2 hn ?_⟩
      cases t with
      | nil => exact absurd (Or.inr (by simp)) q
      | cons _ _ => simp
/-! the object over a longer picture -/
section ObMv
variable {g : zz_G} {K K' : Nat → Nat × Nat} {R R' R0 R1 : Nat → Nat → Option Nat} {I I' I0 I1 : Nat → Nat → Int32} {L L' L0 L1 : Nat → Nat → Int64} {z z' z0 z1 B q n s sa : Nat} {v w : zz_OV}
theorem zz_Ob.mv (h : zz_Ob g K R I B v) (hm : zz_mv B (B + 1460) K K' R R' I I') : zz_Ob g K' R' I' B v := by
  obtain ⟨⟨⟨a1, a2, a3, a4, a5, a6, a7, a8, a9, a10, a11⟩, ⟨t1, t2, t3⟩, hV, hH, hC, ⟨d1, d2⟩, hs⟩, f, ⟨x1, x2, x3⟩, hS, hP, hh, ⟨b1, b2⟩, c1, c2, c3⟩ := h
  have eK : ∀ b, B ≤ b → b < B + 1460 → K' b = K b := fun b h1 h2 => hm.1 b h1 h2
  have eR : R' B = R B := hm.2.1 B (by omega) (by omega)
  have eI : ∀ b, B ≤ b → b < B + 1460 → I' b = I b := fun b h1 h2 => hm.2.2 b h1 h2
  refine ⟨⟨⟨by rw [eK B (by omega) (by omega)]; exact a1, a2, by rw [eR]; exact a3, by rw [eR]; exact a4, by rw [eR]; exact a5, by rw [eR]; exact a6, by rw [eR]; exact a7, by rw [eR]; exact a8, by rw [eR]; exact a9, by rw [eR]; exact a10, by rw [eR]; exact a11⟩, ⟨t1.mv hm (by omega) (by omega), t2.mv hm (by omega) (by omega), t3.mv hm (by omega) (by omega)⟩, hV.mv hm (by omega) (by omega), hH.mv hm (by omega) (by omega), hC.mv hm (by omega) (by omega), ⟨by rw [eK _ (by omega) (by omega)]; exact d1, d2⟩, by rw [eK _ (by omega) (by omega)]; exact hs⟩,
    f, ⟨x1.kept (eI _ (by omega) (by omega)) (eI _ (by omega) (by omega)), x2.kept (eI _ (by omega) (by omega)) (eI _ (by omega) (by omega)), x3.kept (eI _ (by omega) (by omega)) (eI _ (by omega) (by omega))⟩, hS.mv hm (by omega) (by omega), hP.mv hm (by omega) (by omega), hh.mv hm (by omega) (by omega), ⟨by rw [eI B (by omega) (by omega)]; exact b1, by rw [eI B (by omega) (by omega)]; exact b2⟩, by rw [eI _ (by omega) (by omega)]; exact c1, by rw [eI _ (by omega) (by omega)]; exact c2, by rw [eI _ (by omega) (by omega)]; exact c3⟩
/-- more cells are known -/
theorem zz_Lw.lk (hW : zz_Lw g K B z0 R0 I0 L0 v R I L z) (hk : zz_lk z K K' R R' I I' L L') (hz : z ≤ z') : zz_Lw g K' B z' R' I' L' v R' I' L' z' := by
  have h1 := hW.2.2.2.1
  have h2 := hW.2.2.2.2.1
  exact ⟨hW.1.mv ⟨hk.1.wid (by omega) (by omega), hk.2.1.wid (by omega) (by omega), hk.2.2.1.wid (by omega) (by omega)⟩, fun _ _ _ => ⟨rfl, rfl⟩, fun _ _ => rfl, Nat.le_refl _, by omega, hW.2.2.2.2.2⟩
/-- .. and forgotten -/
theorem zz_Lw.unlk (hW : zz_Lw g K B z0 R0 I0 L0 v R I L z) (hk : zz_lk z K K' R R' I I' L L') (hz : z ≤ z') (h : zz_Lw g K' B z' R' I' L' w R1 I1 L1 z1) : zz_Lw g K B z0 R0 I0 L0 w R1 I1 L1 z1 := by
  obtain ⟨a1, a2, a3, a4, a5, a6⟩ := hW
  obtain ⟨b1, b2, b3, b4, b5, b6⟩ := h
  refine ⟨b1.mv ⟨fun b h1 h2 => (hk.1 b (by omega) (by omega)).symm, zz_kt.rf, zz_kt.rf⟩, fun b hb hq => ?_, fun b hb => ?_, by omega, a5, a6⟩
  · have h1 := b2 b (by omega) hq
    have h2 := a2 b hb hq
    exact ⟨h1.1.trans ((hk.2.1 b (by omega) (by omega)).trans h2.1), h1.2.trans ((hk.2.2.1 b (by omega) (by omega)).trans h2.2)⟩
  · exact (b3 b (by omega)).trans ((hk.2.2.2 b (by omega) (by omega)).trans (a3 b hb))
theorem zz_Ev.lk (hEv : zz_Ev g K R0 I0 q n) (hW : zz_Lw g K B z0 R0 I0 L0 v R I L z) (hk : zz_lk z K K' R R' I I' L L') : zz_Ev g K' R' I' q n := by
  have hA : (zz_hb g).size ≤ B := hW.2.2.2.2.2
  have h1 := hW.2.2.2.1
  have h2 := hW.2.2.2.2.1
  exact (hEv.lw hW).kept hA fun b hb => ⟨hk.1 b (by omega) (by omega), hk.2.1 b (by omega) (by omega), hk.2.2.1 b (by omega) (by omega)⟩
theorem zz_nw2.bs (h : zz_nw2 g z s sa) (hW : zz_Lw g K B z0 R0 I0 L0 v R I L z) (h1 : s < z') (h2 : sa < z') : zz_bs B z' s sa := by
  have hA : (zz_hb g).size ≤ B := hW.2.2.2.2.2
  have h3 := hW.2.2.2.1
  have h4 := hW.2.2.2.2.1
  obtain ⟨a, b⟩ := h
  exact ⟨⟨h1, by omega⟩, h2, by omega⟩
end ObMv
/-- after k texts, of which mk were carved, over nr roots -/
def zk_M (mk nr : Nat) (v : zz_OV) : Prop := zk_I mk (ov_s v) ∧ sv_n (ov_s v) = nI mk ∧ (sv_t (ov_s v)).length = mk ∧ (sv_r (ov_s v)).length = nr ∧ (∀ x ∈ sv_t (ov_s v), 0 < (tg_c x).length) ∧ ov_b v = []
theorem zk_M.m {mk nr : Nat} {v : zz_OV} {xs : List Int32} (h : zk_M mk nr v) : zk_M mk nr (ow_m v xs) := h
/-- a root more -/
theorem zk_M_root {nr : Nat} {v : zz_OV} (h : zk_M 0 nr v) (hn : nr < 4) {j : Nat} (hj : j < 6) : rs_ok (zv_plant (ov_s v) (nI j)).1 ∧ ∃ w, po_ch v (fun s => zv_plant s (nI j)) = (.inl (nI nr), w) ∧ zk_M 0 (nr + 1) w := by
  obtain ⟨h1, h2, h3, h4, h5, h6⟩ := h
  have e : zv_plant (ov_s v) (nI j) = (.inr (nI nr), (sv_r (ov_s v) ++ [nI j], sv_t (ov_s v), sv_n (ov_s v), sv_d (ov_s v), sv_c (ov_s v))) := by
    unfold zv_plant
    rw [if_neg (by rintro (q | q); exact nI_pos (by omega) q; exact nI_nlt (by omega) (by omega) q), if_neg (by omega), h4]
  have hk := zk_plant h1 (nI j)
  refine ⟨hk.1, ow_h (ow_s v (zv_plant (ov_s v) (nI j)).2) (zz_kp (ov_h v) (ov_s v)), ?_, ?_⟩
  · have := zk_ch_o (v := v) (F := fun s => zv_plant s (nI j)) (by show rs_e (zv_plant (ov_s v) (nI j)).1 = none; rw [e]; exact rs_e_pos (zz_n0 _ (by omega)))
    rw [this]
    show (Sum.inl (zz_oc (zv_plant (ov_s v) (nI j)).1), _) = _
    rw [e]
    rfl
  · refine ⟨hk.2.2, ?_, ?_, ?_, ?_, h6⟩
    · show sv_n (zv_plant (ov_s v) (nI j)).2 = _; rw [e]; exact h2
    · show (sv_t (zv_plant (ov_s v) (nI j)).2).length = _; rw [e]; exact h3
    · show (sv_r (zv_plant (ov_s v) (nI j)).2).length = _; rw [e]; show (sv_r (ov_s v) ++ [nI j]).length = _; rw [List.length_append, h4]; rfl
    · show ∀ x ∈ sv_t (zv_plant (ov_s v) (nI j)).2, _; rw [e]; exact h5
/-- a text is carved, or there is no room -/
theorem zk_M_carve {mk nr : Nat} {v : zz_OV} (h : zk_M mk nr v) (hmk : mk ≤ 6) {j i : Nat} (hj : j < nr) (hi : i < 10) (hx : zz_ax (ov_m v)) (h0 : 0 < (ov_m v).length) (h31 : (ov_m v).length ≤ 31) : rs_ok (zv_carve (ov_s v) (nI j) (nI i) (ov_m v)).1 ∧ ∃ r w, po_carve v (nI j) (nI i) = r ∧ ((r = (.inl (nI mk), w) ∧ zk_M (mk + 1) nr w) ∨ (r = (.inr eU, w) ∧ zk_M mk nr w ∧ 0 < mk)) := by
  obtain ⟨h1, h2, h3, h4, h5, h6⟩ := h
  have h24 := h1.2.1
  have hk := zk_carve h1 (by omega) (nI j) (nI i) hx
  have hl := zk_fold_l (n := 864) (ov_m v) 0 []
  refine ⟨hk.1, ?_⟩
  have e0 : zv_carve (ov_s v) (nI j) (nI i) (ov_m v) = if ¬ (zz_cpi (ov_s v) (nI j) + nI (zz_pgs (zz_fold 864 0 (ov_m v) []).length) ≤ nI 8 ∧ (sv_t (ov_s v)).length < 32) then (.inl (nI 1, nI 8), (ov_s v)) else
      (.inr (sv_n (ov_s v)), (sv_r (ov_s v), sv_t (ov_s v) ++ [((zz_fold 864 0 (ov_m v) []).take 96, List.replicate 8 0, zz_pgs ((zz_fold 864 0 (ov_m v) []).take 96).length, sv_n (ov_s v), nI j, nI i, zz_sum (ov_m v))], sv_n (ov_s v) + nI 1, sv_d (ov_s v), sv_c (ov_s v) + nI (ov_m v).length)) := by
    unfold zv_carve
    rw [if_neg (by rw [Decidable.not_not]; exact ⟨by rw [zi_n (by omega)]; omega, by rw [zi_n (by omega)]; omega⟩), if_neg (by rintro (q | q); exact nI_pos (by omega) q; exact nI_nlt (by omega) (by omega) q), if_neg (by omega)]
  by_cases q : ¬ (zz_cpi (ov_s v) (nI j) + nI (zz_pgs (zz_fold 864 0 (ov_m v) []).length) ≤ nI 8 ∧ (sv_t (ov_s v)).length < 32)
  · rw [if_pos q] at e0
    refine ⟨_, ow_d v (nI 1, nI 8, -1), rfl, Or.inr ⟨?_, ⟨h1, h2, h3, h4, h5, h6⟩, ?_⟩⟩
    · unfold po_carve
      rw [zk_ch_e (E := eU) (by show rs_e (zv_carve (ov_s v) (nI j) (nI i) (ov_m v)).1 = _; rw [e0]; rfl) (by show (zv_carve (ov_s v) (nI j) (nI i) (ov_m v)).2 = _; rw [e0])]
      show (Sum.inr eU, rs_d v (zv_carve (ov_s v) (nI j) (nI i) (ov_m v)).1) = _
      rw [e0]
      rfl
    · refine Nat.pos_of_ne_zero fun z => q ⟨?_, by omega⟩
      have et : sv_t (ov_s v) = [] := List.eq_nil_of_length_eq_zero (by omega)
      unfold zz_cpi
      rw [et]
      show nI 0 + _ ≤ _
      rw [nI_add]
      refine nI_le ?_ (by omega)
      have h8 : (zz_fold 864 0 (ov_m v) []).length ≤ 62 := by
        have := hl.1
        simp at this
        omega
      unfold zz_pgs
      omega
  · rw [if_neg q] at e0
    refine ⟨_, ow_m (ow_h (ow_s v (zv_carve (ov_s v) (nI j) (nI i) (ov_m v)).2) (zz_kp (ov_h v) (ov_s v))) [], rfl, Or.inl ⟨?_, ?_⟩⟩
    · unfold po_carve
      rw [zk_ch_o (v := v) (F := fun s => zv_carve s (nI j) (nI i) (ov_m v)) (by show rs_e (zv_carve (ov_s v) (nI j) (nI i) (ov_m v)).1 = none; rw [e0]; show rs_e (.inr (sv_n (ov_s v))) = none; rw [h2]; exact rs_e_pos (zz_n0 _ (by omega)))]
      show (Sum.inl (zz_oc (zv_carve (ov_s v) (nI j) (nI i) (ov_m v)).1), _) = _
      rw [show zz_oc (zv_carve (ov_s v) (nI j) (nI i) (ov_m v)).1 = nI mk by rw [e0]; exact h2]
    · refine ⟨hk.2.2, ?_, ?_, ?_, ?_, h6⟩
      · show sv_n (zv_carve (ov_s v) (nI j) (nI i) (ov_m v)).2 = _
        rw [e0]
        show sv_n (ov_s v) + nI 1 = _
        rw [h2, nI_add]
      · show (sv_t (zv_carve (ov_s v) (nI j) (nI i) (ov_m v)).2).length = _
        rw [e0]
        show (sv_t (ov_s v) ++ [_]).length = _
        rw [List.length_append, h3]; rfl
      · show (sv_r (zv_carve (ov_s v) (nI j) (nI i) (ov_m v)).2).length = _
        rw [e0]; exact h4
      · show ∀ x ∈ sv_t (zv_carve (ov_s v) (nI j) (nI i) (ov_m v)).2, _
        rw [e0]
        intro x hx'
        rcases List.mem_append.mp hx' with z | z
        · exact h5 x z
        · rw [List.mem_singleton] at z
          subst z
          show 0 < ((zz_fold 864 0 (ov_m v) []).take 96).length
          rw [List.length_take]
          have := hl.2.2 (by omega) h0
          omega
/-- days pass -/
theorem zk_M_age {mk nr : Nat} {v : zz_OV} (h : zk_M mk nr v) (hmk : mk ≤ 7) {j : Nat} (h1j : 1 ≤ j) (hj : j ≤ 20) : rs_ok (zv_pass (ov_s v) (nI j)).1 ∧ ∃ k w, 0 ≤ k ∧ po_ch v (fun s => zv_pass s (nI j)) = (.inl k, w) ∧ zk_M mk nr w := by
  obtain ⟨h1, h2, h3, h4, h5, h6⟩ := h
  have hk := zk_pass (by omega) h1 (nI j)
  have q : ¬ (nI j < nI 1 ∨ nI 20 < nI j) := by rintro (q | q); exact nI_nlt (by omega) (by omega) q; exact nI_nlt (by omega) (by omega) q
  have hn := zk_pass_n (by omega) h1 q
  have e : zv_pass (ov_s v) (nI j) = (.inr (zz_fs (zz_rbs (ov_s v) (nI j)) (nI 0) (sv_t (ov_s v))), (sv_r (ov_s v), (sv_t (ov_s v)).map (zz_rby (ov_s v) (nI j)), sv_n (ov_s v), sv_d (ov_s v) + nI j, sv_c (ov_s v))) := by
    unfold zv_pass
    rw [if_neg q]
  refine ⟨hk.1, _, ow_h (ow_s v (zv_pass (ov_s v) (nI j)).2) (zz_kp (ov_h v) (ov_s v)), hn, ?_, hk.2.2, ?_, ?_, ?_, ?_, h6⟩
  · rw [zk_ch_o (v := v) (F := fun s => zv_pass s (nI j)) (by show rs_e (zv_pass (ov_s v) (nI j)).1 = none; rw [e]; exact rs_e_pos hn)]
    show (Sum.inl (zz_oc (zv_pass (ov_s v) (nI j)).1), _) = _
    rw [show zz_oc (zv_pass (ov_s v) (nI j)).1 = zz_fs (zz_rbs (ov_s v) (nI j)) (nI 0) (sv_t (ov_s v)) by rw [e]; rfl]
  · show sv_n (zv_pass (ov_s v) (nI j)).2 = _; rw [e]; exact h2
  · show (sv_t (zv_pass (ov_s v) (nI j)).2).length = _; rw [e]; show ((sv_t (ov_s v)).map _).length = _; rw [List.length_map]; exact h3
  · show (sv_r (zv_pass (ov_s v) (nI j)).2).length = _; rw [e]; exact h4
  · show ∀ x ∈ sv_t (zv_pass (ov_s v) (nI j)).2, _
    rw [e]
    intro x hx
    obtain ⟨y, hy, rfl⟩ := List.mem_map.mp hx
    exact h5 y hy
