/-! THE LAW: from its start -/
section Law0
variable {g : zz_G} {l : Launch} {K : Nat → Nat × Nat} {R : Nat → Nat → Option Nat} {I : Nat → Nat → Int32} {L : Nat → Nat → Int64} {z B q n : Nat}
theorem zk_Ev_new {K1 : Nat → Nat × Nat} {R1 : Nat → Nat → Option Nat} {I1 : Nat → Nat → Int32} (h : zz_Ev g K R I q n) (hA : zz_A g z) (hl : zz_lo z K K1 R R1 I I1) : zz_Ev g K1 R1 I1 q n :=
  h.kept hA fun b hb => ⟨hl.1 b (by omega) hb, hl.2.1 b (by omega) hb, hl.2.2 b (by omega) hb⟩
theorem zk_law (hf : l.stackTraces = false) (hEv : zz_Ev g K R I q n) :
    Zz g l mm_law 600390 7290160 zk_T1 zz_no 0 0 0 [some (.ref q)] [] (K, R, I, L, z) := by
  refine z_new ee_law_0 nn_law_8 (by omega) (by omega) (fun hz0 => ?_)
  refine z_dup ee_law_3 rfl ?_
  -- at 4
  refine z_callI (As := []) ee_law_4 kk_law_353 rfl rfl (Nat.le_of_ble_eq_true rfl) (by omega) (sp_P_init hf zz_K_s hz0) (fun E h1 hx => hx.elim) (fun v h1 hq => ?_)
  obtain ⟨K1, R1, I1, L1, rfl, rfl, hO, hlo⟩ := hq
  have hlo := zz_new hlo
  have hEv := zk_Ev_new hEv hz0 hlo
  have hW : zz_Lw g K1 z (z + 1460) R1 I1 L1 ov_0 R1 I1 L1 (z + 1460) := ⟨hO, fun _ _ _ => ⟨rfl, rfl⟩, fun _ _ => rfl, Nat.le_refl _, Nat.le_refl _, hz0⟩
  rw [te0] at hW
  refine z_astore_m ee_law_7 (j := 1) rfl (by decide) ?_
  -- at 8
  refine z_wid (ce' := 1460) (sl' := 42152) (by omega) (by omega) (zk_e1 hf hEv 1460 42152 (by omega) ?_ hW)
  intro v R2 I2 L2 z2 lv hlv hW2
  have hEv := hEv.lw hW2
  clear hW hO hlo hW2
  refine z_lvk ?_ hlv
  refine z_new ee_law_536 nn_law_8 (by omega) (by omega) (fun hz536 => ?_)
  refine z_dup ee_law_539 rfl ?_
  -- at 540
  refine z_callI (As := []) ee_law_540 kk_law_353 rfl rfl (Nat.le_of_ble_eq_true rfl) (by omega) (sp_P_init hf zz_K_s hz536) (fun E h1 hx => hx.elim) (fun v h1 hq => ?_)
  obtain ⟨K3, R3, I3, L3, rfl, rfl, hO, hlo⟩ := hq
  have hlo := zz_new hlo
  have hEv := zk_Ev_new hEv hz536 hlo
  have hW : zz_Lw g K3 z2 (z2 + 1460) R3 I3 L3 ov_0 R3 I3 L3 (z2 + 1460) := ⟨hO, fun _ _ _ => ⟨rfl, rfl⟩, fun _ _ => rfl, Nat.le_refl _, Nat.le_refl _, hz536⟩
  refine z_astore_m ee_law_543 (j := 2) rfl (by decide) ?_
  -- at 544
  exact z_lvk (z_wid (ce' := 3600) (sl' := 92000) (by omega) (by omega) (zk_o1 hf (hEv.lw hW) hW 3600 92000 (by omega) (by omega))) (by repeat (first | exact trivial | refine ⟨rfl, ?_⟩))
end Law0
