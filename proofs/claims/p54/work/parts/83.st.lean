/-! THE START: all of it -/
section St
variable {s : State} {b n : Nat} {xs : Nat → Int32}
theorem zs_static (hts : ∀ w ∈ lw_tbl, w.before #[Value.ref b] s = true) (hgv : (Jvm.Cond.and given_1 narrow_1).before #[Value.ref b] s = true) {cl : Nat → ClassId × (Nat → Nat)} {ar : Nat → ClassId} {sd : Nat → Nat × Nat} {dg : Nat} (hd : zs_dt.eval #[Value.ref b] s none [] s = some (.ref dg)) : zz_St (zs_g s cl ar sd dg) s s.heap := by
  have hs := flat_of_before _ hgv
  refine ⟨vx_Zqof (hts _ (List.mem_of_getElem? (i := 441) (by decide +kernel))) (hts _ (List.mem_of_getElem? (i := 28) (by decide +kernel))) (hs _ (List.mem_of_getElem? (i := 4) (by decide +kernel))) zs_nA,
    vx_Zqof (hts _ (List.mem_of_getElem? (i := 443) (by decide +kernel))) (hts _ (List.mem_of_getElem? (i := 28) (by decide +kernel))) (hs _ (List.mem_of_getElem? (i := 5) (by decide +kernel))) zs_nA,
    va_Zof (hts _ (List.mem_of_getElem? (i := 787) (by decide +kernel))) (hts _ (List.mem_of_getElem? (i := 37) (by decide +kernel))) (va_eqt (hs _ (List.mem_of_getElem? (i := 6) (by decide +kernel)))) zs_nA,
    va_Zref (hts _ (List.mem_of_getElem? (i := 1159) (by decide +kernel))) (hts _ (List.mem_of_getElem? (i := 48) (by decide +kernel))) hd zs_nA,
    va_Zqof (hts _ (List.mem_of_getElem? (i := 804) (by decide +kernel))) (hts _ (List.mem_of_getElem? (i := 39) (by decide +kernel))) (hs _ (List.mem_of_getElem? (i := 7) (by decide +kernel))) zs_nA⟩
theorem zs_kn (hts : ∀ w ∈ lw_tbl, w.before #[Value.ref b] s = true) (hgv : (Jvm.Cond.and given_1 narrow_1).before #[Value.ref b] s = true) {cl : Nat → ClassId × (Nat → Nat)} {ar : Nat → ClassId} {sd : Nat → Nat × Nat} {dg : Nat}
    (hcl : ∀ c, ∀ q : vw_C, zz_cl[c]? = some q → u_Kn s q.1 q.2.1 q.2.2 (cl c).1 (cl c).2) (har : ∀ t, t < 6 → ArrOfT s (ar t) (zz_at t) ∧ va_RA s (ar t) (zz_at t))
    (hev : ∀ i, i < 22 → (zs_tm i).eval #[Value.ref b] s none [] s = some (.ref (sd i).1)) : zz_Kn (zs_g s cl ar sd dg) s := by
  have hs := flat_of_before _ hgv
  refine ⟨Vm.Alike.refl _, hcl, har, zs_nw hts, fun r hr => ?_, fun q hq => va_Nc.of (hs _ (of_decide_eq_true (List.all_eq_true.mp zs_nc0 q hq))), va_AO.of (hts _ (List.mem_of_getElem? (i := 96) (by decide +kernel))), va_AO.of (hts _ (List.mem_of_getElem? (i := 200) (by decide +kernel)))⟩
  obtain ⟨i, hi⟩ := List.getElem?_of_mem hr
  have hlt : i < 22 := (List.getElem?_eq_some_iff.mp hi).1
  have e : zs_str i = r := by
    unfold zs_str
    rw [List.getD_eq_getElem?_getD, hi]
    rfl
  have h := List.all_eq_true.mp zs_sr0 i (List.mem_range.mpr hlt)
  rw [Bool.and_eq_true] at h
  have h1 := hts _ (List.mem_of_getElem? (of_decide_eq_true h.1))
  have h2 := of_decide_eq_true h.2
  have h3 := hev i hlt
  unfold zs_tm at h3
  rw [e] at h1 h2 h3
  have e9 : zs_ad sd dg r.2.2.2 = (sd i).1 := by
    rw [h2]
    unfold zs_ad
    rw [if_pos hlt]
  show vk_R r.1 r.2.1 r.2.2.1 (zs_ad sd dg r.2.2.2) s
  rw [e9]
  exact vk_R.of h1 h3
theorem zs_ev {cl : Nat → ClassId × (Nat → Nat)} {ar : Nat → ClassId} {sd : Nat → Nat × Nat} {dg : Nat} (hk : u_Kn s zz_c8 zz_T8 2 (cl 8).1 (cl 8).2) (hF : ∀ i, i < 22 → zs_F s i (sd i)) (hd : va_T .byte dg 100 (fun j => .int (nI (48 + j % 10))) (zs_A s) s s.heap)
    (hn : n ≤ 260) (hX : va_X b n xs s s.heap) : zz_Ev (zs_g s cl ar sd dg) (zs_K s sd dg b n) (zs_R s (cl 8).2) (zs_I s (cl 8).2 sd) b n := by
  refine ⟨fun k hk22 => ?_, ?_, ?_, hn, ?_⟩
  · have e1 : (zs_g s cl ar sd dg).2.2.2.2 k = (sd k).1 := by
      show zs_ad sd dg k = _
      unfold zs_ad
      rw [if_pos hk22]
    have e2 : (zs_g s cl ar sd dg).2.2.2.2 (100 + k) = (sd k).2 := by
      show zs_ad sd dg (100 + k) = _
      unfold zs_ad
      rw [if_neg (by omega), if_neg (by omega), show 100 + k - 100 = k by omega]
    rw [e1, e2]
    have h := hF k hk22
    obtain ⟨cell, q1, q2, q3, q4, q5, q6⟩ := zs_str1 hk h
    obtain ⟨cb, t1, t2, t3, t4, t5, t6, -⟩ := h.2.2.2
    have hS := zs_S_of (sd := sd) hk22
    have hSb : zs_S sd (sd k).2 = false := zs_noS hk hF t1 t2
    refine ⟨⟨zs_K_S hS, ?_, ?_, ?_, by have := zs_len hk22; omega, fun j hj => zs_I_a hSb t1 (t6 j hj), fun j hj => zs_chr hk22 hj⟩, (Array.getElem?_eq_some_iff.mp q1).1, (Array.getElem?_eq_some_iff.mp t1).1⟩
    · show zs_rf (zs_val s (sd k).1 ((cl 8).2 0)) = some (sd k).2
      rw [zs_val_of q1 q5]
      rfl
    · rw [zs_K_B hSb (zs_B_of hk22), zs_sz_of t1 (by have := zs_len hk22; omega) t5]
    · unfold zs_I
      rw [if_pos hS, zs_val_of q1 q6]
      rfl
  · have e1 : (zs_g s cl ar sd dg).2.2.2.2 30 = dg := rfl
    unfold zz_Dg
    rw [e1]
    obtain ⟨cb, t1, t2, t3, t4, t5, t6, -⟩ := hd
    have hSb : zs_S sd dg = false := zs_noS hk hF t1 t2
    refine ⟨⟨by rw [zs_K_B hSb zs_B_dg, zs_sz_of t1 (by omega) t5], fun j hj => ?_⟩, (Array.getElem?_eq_some_iff.mp t1).1⟩
    rw [zs_I_a hSb t1 (t6 j (by omega)), Nat.mod_eq_of_lt hj]
  · obtain ⟨cell, t1, t2, -⟩ := hX
    have hSb : zs_S sd b = false := zs_noS hk hF t1 t2
    refine zs_K_q hSb ?_
    cases hB : zs_B sd dg b with
    | false => rfl
    | true =>
      obtain ⟨N, f, -, ⟨cell', u1, u2, -⟩, -⟩ := zs_ba hk hF hd hB
      cases t1.symm.trans u1
      exact (zs_dj2 t2 u2).elim
  · obtain ⟨cell, t1, -⟩ := hX
    exact (Array.getElem?_eq_some_iff.mp t1).1
/-- the claim's start has a picture -/
theorem zs_start (hts : ∀ w ∈ lw_tbl, w.before #[Value.ref b] s = true) (hgv : (Jvm.Cond.and given_1 narrow_1).before #[Value.ref b] s = true) (hn : n ≤ 260) (hX : va_X b n xs s s.heap) :
    ∃ (g : zz_G) (K : Nat → Nat × Nat) (R : Nat → Nat → Option Nat) (I : Nat → Nat → Int32) (L : Nat → Nat → Int64), zz_hb g = s.heap ∧ zz_W g (K, R, I, L, s.heap.size) s ∧ zz_Ev g K R I b n := by
  obtain ⟨cl, hcl⟩ := Classical.axiomOfChoice (zs_cls hts)
  obtain ⟨ar, har⟩ := Classical.axiomOfChoice (zs_arr hts)
  have h0 : ∀ i : Nat, ∃ q : Nat × Nat, i < 22 → (zs_tm i).eval #[Value.ref b] s none [] s = some (.ref q.1) ∧ zs_F s i q := by
    intro i
    by_cases hi : i < 22
    · obtain ⟨q, h1, h2⟩ := zs_one hgv hi
      exact ⟨q, fun _ => ⟨h1, h2⟩⟩
    · exact ⟨(0, 0), fun h => absurd h hi⟩
  obtain ⟨sd, hsd⟩ := Classical.axiomOfChoice h0
  obtain ⟨dg, hd1, hd2⟩ := zs_dig hgv
  have hk : u_Kn s zz_c8 zz_T8 2 (cl 8).1 (cl 8).2 := hcl 8 (zz_c8, zz_T8, 2) rfl
  have hF : ∀ i, i < 22 → zs_F s i (sd i) := fun i hi => (hsd i hi).2
  exact ⟨zs_g s cl ar sd dg, zs_K s sd dg b n, zs_R s (cl 8).2, zs_I s (cl 8).2 sd, fun _ _ => 0, rfl,
    ⟨zs_kn hts hgv hcl har (fun i hi => (hsd i hi).1), zs_hp hk hF hd2 hn hX, zs_static hts hgv hd1⟩, zs_ev hk hF hd2 hn hX⟩
end St
