/-! THE OBJECT: execute -/
def zx_cause (o : Int32) : Int32 := if o = -11 ∨ o = -12 ∨ o = -13 then nI 8 else -o
def zx_run : zz_SV → Nat → List zz_CM → (Nat × Int32) ⊕ zz_SV
  | s, _, [] => .inr s
  | s, i, c :: t => if zz_oc (zv_out s (nI c.1) c.2.1 c.2.2).1 < 0 then .inl (i, zz_oc (zv_out s (nI c.1) c.2.1 c.2.2).1) else zx_run (zv_out s (nI c.1) c.2.1 c.2.2).2 (i + 1) t
def po_run (v : zz_OV) (cs : List zz_CM) : (Nat × Int32) ⊕ zz_SV → zz_PR
  | .inl q => (.inr eU, ow_d v (nI 7, nI q.1, zx_cause q.2))
  | .inr s => (.inl (nI cs.length), ow_h (ow_s v s) (zz_kp (ov_h v) (ov_s v)))
def po_exec (v : zz_OV) : zz_PR :=
  if (zc_parse (ov_b v) 10 0 []).1 = -1 then po_run (ow_b v []) (zc_parse (ov_b v) 10 0 []).2 (zx_run (ov_s v) 0 (zc_parse (ov_b v) 10 0 []).2) else (.inr eA, ow_k (ow_b v []) (zc_parse (ov_b v) 10 0 []).1)
section Exec
variable {g : zz_G} {l : Launch} {K : Nat → Nat × Nat} {R R1 : Nat → Nat → Option Nat} {I I1 : Nat → Nat → Int32} {L : Nat → Nat → Int64} {z : Nat} {B f : Nat} {v : zz_OV} {w : zz_SV} {h : zz_H} {σ : Nat → Nat} {cs : List zz_CM}
theorem sp_P_causeOf (hf : l.stackTraces = false) (o : Int32) : zz_S g l mm_P_causeOf 0 0 [.int o] h (zz_is h (.int (zx_cause o))) zz_no := by
  have yes : o = -11 ∨ o = -12 ∨ o = -13 → Zz g l mm_P_causeOf 0 0 (zz_is h (.int (zx_cause o))) zz_no 0 0 18 [some (.int o)] [] h := by
    intro q
    unfold zx_cause
    rw [if_pos q]
    refine z_iconst ee_P_causeOf_18 (v := nI 1) (by decide) ?_
    refine z_goto ee_P_causeOf_19 (tgt := 23) (by decide) ?_
    refine z_istore_m ee_P_causeOf_23 (j := 1) rfl (by decide) ?_
    refine z_iload_n ee_P_causeOf_24 rfl ?_
    refine z_if_eq ee_P_causeOf_25 (tgt := 33) (by decide) (fun c_25 => ?_) (fun c_25 => ?_)
    -- at 25
    · exact absurd c_25 (by decide)
    · refine z_bipush ee_P_causeOf_28 (v := nI 8) (by decide) ?_
      refine z_goto ee_P_causeOf_30 (tgt := 35) (by decide) ?_
      refine z_iret ee_P_causeOf_35 rfl (by omega) (by omega) ?_
      -- at 35
      exact ⟨rfl, rfl⟩
  refine z_start hf rfl (by decide +kernel) (Nat.le_of_ble_eq_true rfl) ?_
  dsimp only [zz_lv0]
  refine z_iload_n ee_P_causeOf_0 rfl ?_
  refine z_bipush ee_P_causeOf_1 (v := -11) (by decide) ?_
  refine z_icmp_eq ee_P_causeOf_3 (tgt := 18) (by decide) (fun c_3 => ?_) (fun c_3 => ?_)
  -- at 3
  · exact yes (Or.inl c_3)
  · refine z_iload_n ee_P_causeOf_6 rfl ?_
    refine z_bipush ee_P_causeOf_7 (v := -12) (by decide) ?_
    refine z_icmp_eq ee_P_causeOf_9 (tgt := 18) (by decide) (fun c_9 => ?_) (fun c_9 => ?_)
    -- at 9
    · exact yes (Or.inr (Or.inl c_9))
    · refine z_iload_n ee_P_causeOf_12 rfl ?_
      refine z_bipush ee_P_causeOf_13 (v := -13) (by decide) ?_
      refine z_icmp_ne ee_P_causeOf_15 (tgt := 22) (by decide) (fun c_15 => ?_) (fun c_15 => ?_)
      -- at 15
      · unfold zx_cause
        rw [if_neg (fun q => q.elim c_3 (fun q => q.elim c_9 c_15))]
        refine z_iconst ee_P_causeOf_22 (v := nI 0) (by decide) ?_
        refine z_istore_m ee_P_causeOf_23 (j := 1) rfl (by decide) ?_
        refine z_iload_n ee_P_causeOf_24 rfl ?_
        refine z_if_eq ee_P_causeOf_25 (tgt := 33) (by decide) (fun c_25 => ?_) (fun c_25 => ?_)
        -- at 25
        · refine z_iload_n ee_P_causeOf_33 rfl ?_
          refine z_ineg ee_P_causeOf_34 ?_
          refine z_iret ee_P_causeOf_35 rfl (by omega) (by omega) ?_
          -- at 35
          exact ⟨rfl, rfl⟩
        · exact absurd rfl c_25
      · exact yes (Or.inr (Or.inr c_15))
theorem zx_loop (hf : l.stackTraces = false) (hk6 : ∀ c ∈ cs, c.1 < 6) (v : zz_OV) {R0 : Nat → Nat → Option Nat} {I0 : Nat → Nat → Int32} {ft : Int32} : ∀ (ys : List zz_CM) (i : Nat) (s : zz_SV) (R : Nat → Nat → Option Nat) (I : Nat → Nat → Int32), cs.drop i = ys → i ≤ cs.length → zz_Px g K R B → zz_px g K R I B f (ow_s v s) → zz_cx I (B + 1455) cs → zz_So g K R I (B + 274 + 2 + 131 * ((f + (ov_h v).length) % 9)) (ov_s v) → zz_fq B (B + 1460) R0 R → zz_fr B (B + 1460) I0 I →
    Zz g l mm_P_execute 1 6 (zz_PQ g K R0 I0 L z B (po_run v cs (zx_run s i ys))) (zz_PX g K R0 I0 L z B (po_run v cs (zx_run s i ys))) 0 0 50 [some (.ref B), some (.int ft), some (.int (nI i))] [] (K, R, I, L, z) := by
  intro ys
  induction ys with
  | nil =>
    intro i s R I hi hil hP hp hc hsp hR hI
    have h1 : cs.length ≤ i := List.drop_eq_nil_iff.mp hi
    have hP' := hP
    obtain ⟨⟨k1, k2, k3, k4, k5, k6, k7, k8, k9, k10, k11⟩, ⟨t1, t2, t3⟩, hV, hH, hC, hD, hS9⟩ := hP
    have hH0 := hH.1.1
    have hC0 := hC.1
    have hcl := hc.2.1
    refine z_iload_n ee_P_execute_50 rfl ?_
    refine z_aload_n ee_P_execute_51 rfl ?_
    refine z_getR ee_P_execute_52 ff_P_execute_52 (by assumption) il_0_7 (by assumption) ?_
    refine z_getI ee_P_execute_55 ff_P_execute_269 (by assumption) il_2_4 ?_
    refine z_icmp_ge ee_P_execute_58 (tgt := 139) (by decide) (fun c_58 => ?_) (fun c_58 => ?_)
    -- at 58
    · refine z_aload_n ee_P_execute_139 rfl ?_
      refine z_getR ee_P_execute_140 ff_P_execute_45 (by assumption) il_0_6 (by assumption) ?_
      -- at 143
      have hh : zz_hx g K R I (B + 274) f (ov_h v) := hp.2.2.2.1
      refine z_callV (As := []) ee_P_execute_143 kk_P_execute_301 rfl (by assumption) rfl rfl (Nat.le_of_ble_eq_true rfl) (by omega) (sp_H_keep hf hH hh hsp) (fun E h1 hx => hx.elim) (fun v h1 hq => ?_)
      obtain ⟨I3, f3, rfl, rfl, hh3, hfr3⟩ := hq
      refine z_aload_n ee_P_execute_146 rfl ?_
      refine z_getR ee_P_execute_147 ff_P_execute_52 (by assumption) il_0_7 (by assumption) ?_
      refine z_getI ee_P_execute_150 ff_P_execute_269 (by assumption) il_2_4 ?_
      refine z_iret ee_P_execute_153 rfl (by omega) (by omega) ?_
      -- at 153
      rw [hfr3 (B + 1455) (by omega), hc.1]
      exact ⟨_, R, I3, rfl, rfl, rfl, ⟨hP', f3, hp.hx (hfr3.wid (by omega) (by omega)) hh3⟩, hR, hI.trans (hfr3.wid (by omega) (by omega))⟩
    · rw [hc.1] at c_58
      simp (disch := omega) only [zi_lt, zi_le, zi_eq, zi_n, zi_0, zi_m1] at c_58
      omega
  | cons c ys ih =>
    intro i s R I hi hil hP hp hc hsp hR hI
    have hx : cs[i]? = some c := by
      have := congrArg (fun l => l[0]?) hi
      simpa [List.getElem?_drop] using this
    have h1 := zz_lt_of hx
    have h3 : cs.drop (i + 1) = ys := by
      have := congrArg List.tail hi
      simpa [List.tail_drop] using this
    have hP' := hP
    obtain ⟨⟨k1, k2, k3, k4, k5, k6, k7, k8, k9, k10, k11⟩, ⟨t1, t2, t3⟩, hV, hH, hC, hD, hS9⟩ := hP
    have hV0 := hV.1
    have hH0 := hH.1.1
    have hC0 := hC.1
    have hD0 := hD.1
    have hcl := hc.2.1
    have hS : zz_So g K R I (B + 7 + 1) s := hp.2.1
    refine z_iload_n ee_P_execute_50 rfl ?_
    refine z_aload_n ee_P_execute_51 rfl ?_
    refine z_getR ee_P_execute_52 ff_P_execute_52 (by assumption) il_0_7 (by assumption) ?_
    refine z_getI ee_P_execute_55 ff_P_execute_269 (by assumption) il_2_4 ?_
    refine z_icmp_ge ee_P_execute_58 (tgt := 139) (by decide) (fun c_58 => ?_) (fun c_58 => ?_)
    -- at 58
    · rw [hc.1] at c_58
      simp (disch := omega) only [zi_lt, zi_le, zi_eq, zi_n, zi_0, zi_m1] at c_58
      omega
    · refine z_aload_n ee_P_execute_61 rfl ?_
      refine z_getR ee_P_execute_62 ff_P_execute_27 (by assumption) il_0_3 (by assumption) ?_
      refine z_aload_n ee_P_execute_65 rfl ?_
      refine z_getR ee_P_execute_66 ff_P_execute_52 (by assumption) il_0_7 (by assumption) ?_
      refine z_iload_n ee_P_execute_69 rfl ?_
      -- at 70
      refine z_callV (As := [_]) ee_P_execute_70 kk_P_execute_272 rfl (by assumption) rfl rfl (Nat.le_of_ble_eq_true rfl) (by omega) (sp_C_kindOf hf hC hc hx) (fun E h1 hx => hx.elim) (fun v h1 hq => ?_)
      obtain ⟨rfl, rfl⟩ := hq
      refine z_aload_n ee_P_execute_73 rfl ?_
      refine z_getR ee_P_execute_74 ff_P_execute_52 (by assumption) il_0_7 (by assumption) ?_
      refine z_iload_n ee_P_execute_77 rfl ?_
      -- at 78
      refine z_callV (As := [_]) ee_P_execute_78 kk_P_execute_275 rfl (by assumption) rfl rfl (Nat.le_of_ble_eq_true rfl) (by omega) (sp_C_firstOf hf hC hc hx) (fun E h1 hx => hx.elim) (fun v h1 hq => ?_)
      obtain ⟨rfl, rfl⟩ := hq
      refine z_aload_n ee_P_execute_81 rfl ?_
      refine z_getR ee_P_execute_82 ff_P_execute_52 (by assumption) il_0_7 (by assumption) ?_
      refine z_iload_n ee_P_execute_85 rfl ?_
      -- at 86
      refine z_callV (As := [_]) ee_P_execute_86 kk_P_execute_278 rfl (by assumption) rfl rfl (Nat.le_of_ble_eq_true rfl) (by omega) (sp_C_secondOf hf hC hc hx) (fun E h1 hx => hx.elim) (fun v h1 hq => ?_)
      obtain ⟨rfl, rfl⟩ := hq
      refine z_callV (As := [_, _, _]) ee_P_execute_89 kk_P_execute_281 rfl (by assumption) rfl rfl (Nat.le_of_ble_eq_true rfl) (by omega) (sp_V_carryOut hf hV hS c.1 (hk6 c (List.mem_of_getElem? hx)) c.2.1 c.2.2) (fun E h1 hx => hx.elim) (fun v h1 hq => ?_)
      obtain ⟨R3, I3, rfl, rfl, hd3, hS3, hR3, hI3⟩ := hq
      have hP3 := hP'.fq hR3
      have hp3 : zz_px g K R3 I3 B f (ow_s v (zv_out s (nI c.1) c.2.1 c.2.2).2) := hp.st hR3 hI3 hS3
      have hsp3 := hsp.in (hR3.in (by omega)) (hI3.in (by omega))
      have hc3 := hc.kt (hI3.in (by omega))
      have hRt : zz_fq B (B + 1460) R0 R3 := hR.trans (hR3.wid (by omega) (by omega))
      have hIt : zz_fr B (B + 1460) I0 I3 := hI.trans (hI3.wid (by omega) (by omega))
      simp only [zx_run]
      refine z_istore_m ee_P_execute_92 (j := 3) rfl (by decide) ?_
      refine z_iload_n ee_P_execute_93 rfl ?_
      refine z_if_ge ee_P_execute_94 (tgt := 133) (by decide) (fun c_94 => ?_) (fun c_94 => ?_)
      -- at 94
      · rw [if_neg (Int32.not_lt.mpr c_94)]
        refine z_iinc ee_P_execute_133 rfl rfl (by decide) ?_
        refine z_goto ee_P_execute_136 (tgt := 50) (by decide) ?_
        -- at 50
        rw [zz_iinc1]
        exact z_lvk (ih (i + 1) _ R3 I3 h3 (by omega) hP3 hp3 hc3 hsp3 hRt hIt) ⟨rfl, rfl, rfl, trivial⟩
      · rw [if_pos (Int32.not_le.mp c_94)]
        have hP3' := hP3
        obtain ⟨⟨k1, k2, k3, k4, k5, k6, k7, k8, k9, k10, k11⟩, ⟨t1, t2, t3⟩, hV, hH, hC, hD, hS9⟩ := hP3
        have hh : zz_hx g K R3 I3 (B + 274) f (ov_h v) := hp3.2.2.2.1
        refine z_aload_n ee_P_execute_97 rfl ?_
        refine z_getR ee_P_execute_98 ff_P_execute_35 (by assumption) il_0_4 (by assumption) ?_
        refine z_aload_n ee_P_execute_101 rfl ?_
        refine z_getR ee_P_execute_102 ff_P_execute_45 (by assumption) il_0_6 (by assumption) ?_
        -- at 105
        refine z_callV (As := []) ee_P_execute_105 kk_P_execute_285 rfl (by assumption) rfl rfl (Nat.le_of_ble_eq_true rfl) (by omega) (sp_H_spare hf hH hh) (fun E h1 hx => hx.elim) (fun v h1 hq => ?_)
        obtain ⟨rfl, rfl⟩ := hq
        obtain ⟨τ, hT, ht⟩ := hsp3
        obtain ⟨σ, hS4, hv4⟩ := hS3
        have hk4 := hS4.1.1
        have hm := Nat.mod_lt (f + (ov_h v).length) (show 0 < 9 by decide)
        refine z_callV (As := [_]) ee_P_execute_108 kk_P_execute_289 rfl (by assumption) rfl rfl (Nat.le_of_ble_eq_true rfl) (by omega) (sp_S_copyFrom hf hS4 hT (by omega) ht) (fun E h1 hx => hx.elim) (fun v h1 hq => ?_)
        obtain ⟨I5, rfl, rfl, hx5, hfr5⟩ := hq
        have hp5 := hp3.st zz_fq.rf (hfr5.wid (by omega) (by omega)) ⟨σ, hS4, hx5⟩
        refine z_aload_n ee_P_execute_111 rfl ?_
        refine z_getR ee_P_execute_112 ff_P_execute_59 (by assumption) il_0_8 (by assumption) ?_
        refine z_bipush ee_P_execute_115 (v := nI 7) (by decide) ?_
        refine z_iload_n ee_P_execute_117 rfl ?_
        refine z_iload_n ee_P_execute_118 rfl ?_
        -- at 119
        refine z_callS (As := [_]) ee_P_execute_119 kk_P_execute_291 rfl rfl (Nat.le_of_ble_eq_true rfl) (by omega) (sp_P_causeOf hf _) (fun E h1 hx => hx.elim) (fun v h1 hq => ?_)
        obtain ⟨rfl, rfl⟩ := hq
        refine z_callV (As := [_, _, _]) ee_P_execute_122 kk_P_execute_294 rfl (by assumption) rfl rfl (Nat.le_of_ble_eq_true rfl) (by omega) (sp_D_note hf hD.1 hD.2 _ _ _) (fun E h1 hx => hx.elim) (fun v h1 hq => ?_)
        obtain ⟨I6, rfl, rfl, hd6, hfr6⟩ := hq
        refine z_throw tt_P_execute_125 rfl (Nat.le_of_ble_eq_true rfl) (by omega) (by omega) (fun z1 hz1 => ?_)
        -- at 125
        exact ⟨R3, I6, z1, rfl, hz1, rfl, ⟨hP3', f, hp5.dn hfr6 hd6⟩, hRt, (hIt.trans (hfr5.wid (by omega) (by omega))).trans (hfr6.wid (by omega) (by omega))⟩
theorem sp_P_execute (hf : l.stackTraces = false) (hO : zz_Ob g K R I B v) (hW : zz_Wd g K R I) : zz_S g l mm_P_execute 1 6 [.ref B] (K, R, I, L, z) (zz_PQ g K R I L z B (po_exec v)) (zz_PX g K R I L z B (po_exec v)) := by
  obtain ⟨hP, f, hp⟩ := hO
  have hP' := hP
  obtain ⟨⟨k1, k2, k3, k4, k5, k6, k7, k8, k9, k10, k11⟩, ⟨t1, t2, t3⟩, hV, hH, hC, hD, hS9⟩ := hP
  have hV0 := hV.1
  have hH0 := hH.1.1
  have hC0 := hC.1
  have t20 := t2.1
  unfold po_exec
  refine z_start hf rfl (by decide +kernel) (Nat.le_of_ble_eq_true rfl) ?_
  dsimp only [zz_lv0]
  refine z_aload_n ee_P_execute_0 rfl ?_
  refine z_getR ee_P_execute_1 ff_P_execute_52 (by assumption) il_0_7 (by assumption) ?_
  refine z_aload_n ee_P_execute_4 rfl ?_
  refine z_getR ee_P_execute_5 ff_P_execute_18 (by assumption) il_0_1 (by assumption) ?_
  -- at 8
  refine z_callV (As := [_]) ee_P_execute_8 kk_P_execute_266 rfl (by assumption) rfl rfl (Nat.le_of_ble_eq_true rfl) (by omega) (sp_C_parse hf hC t2 (by omega) hp.1.2.1 hW) (fun E h1 hx => hx.elim) (fun v h1 hq => ?_)
  obtain ⟨I2, rfl, rfl, hc2, hfr2⟩ := hq
  have hp2 : zz_px g K R I2 B f v := by
    obtain ⟨⟨p1, p2, p3⟩, p4, p5, p6, ⟨p7, p8⟩, p9, p10, p11⟩ := hp
    have e0 : I2 B = I B := hfr2 _ (by omega)
    have e1 : I2 (B + 1459) = I (B + 1459) := hfr2 _ (by omega)
    exact ⟨⟨p1.fr hfr2 (by omega), p2.fr hfr2 (by omega), p3.fr hfr2 (by omega)⟩, p4.in zz_kt.rf (hfr2.in (by omega)), p5.in zz_kt.rf (hfr2.in (by omega)), p6.in zz_kt.rf (hfr2.in (by omega)), ⟨by rw [e0]; exact p7, by rw [e0]; exact p8⟩, by rw [e1]; exact p9, by rw [e1]; exact p10, by rw [e1]; exact p11⟩
  refine z_istore_m ee_P_execute_11 (j := 1) rfl (by decide) ?_
  refine z_aload_n ee_P_execute_12 rfl ?_
  refine z_getR ee_P_execute_13 ff_P_execute_18 (by assumption) il_0_1 (by assumption) ?_
  -- at 16
  refine z_callV (As := []) ee_P_execute_16 kk_P_execute_92 rfl (by assumption) rfl rfl (Nat.le_of_ble_eq_true rfl) (by omega) (sp_T_clear hf t2) (fun E h1 hx => hx.elim) (fun v h1 hq => ?_)
  obtain ⟨I3, rfl, rfl, hx3, hfr3⟩ := hq
  have hp3 := hp2.buf hfr3 hx3
  have hc3 := hc2.kt (hfr3.in (by omega))
  have hI3 : zz_fr B (B + 1460) I I3 := (hfr2.wid (by omega) (by omega)).trans (hfr3.wid (by omega) (by omega))
  refine z_iload_n ee_P_execute_19 rfl ?_
  refine z_iconst ee_P_execute_20 (v := -1) (by decide) ?_
  refine z_icmp_eq ee_P_execute_21 (tgt := 37) (by decide) (fun c_21 => ?_) (fun c_21 => ?_)
  -- at 21
  · rw [if_pos c_21]
    refine z_aload_n ee_P_execute_37 rfl ?_
    refine z_getR ee_P_execute_38 ff_P_execute_45 (by assumption) il_0_6 (by assumption) ?_
    refine z_aload_n ee_P_execute_41 rfl ?_
    refine z_getR ee_P_execute_42 ff_P_execute_35 (by assumption) il_0_4 (by assumption) ?_
    -- at 45
    refine z_callV (As := [_]) ee_P_execute_45 kk_P_execute_117 rfl (by assumption) rfl rfl (Nat.le_of_ble_eq_true rfl) (by omega) (sp_H_prepare hf hH hp3.2.2.2.1 hp3.2.1 (by omega)) (fun E h1 hx => hx.elim) (fun v h1 hq => ?_)
    obtain ⟨I4, rfl, rfl, hh4, hsp4, hfr4⟩ := hq
    have hp4 : zz_px g K R I4 B f (ow_b v []) := hp3.hx (hfr4.wid (by omega) (by omega)) hh4
    refine z_iconst ee_P_execute_48 (v := nI 0) (by decide) ?_
    refine z_istore_m ee_P_execute_49 (j := 2) rfl (by decide) ?_
    -- at 50
    exact zx_loop hf (fun c hc => zc_parse_k _ _ _ [] (fun d hd => by cases hd) c hc) (ow_b v []) _ 0 (ov_s v) R I4 rfl (by omega) hP' hp4 (hc3.kt (hfr4.in (by omega))) hsp4 zz_fq.rf (hI3.trans (hfr4.wid (by omega) (by omega)))
  · rw [if_neg c_21]
    refine z_aload_n ee_P_execute_24 rfl ?_
    refine z_iload_n ee_P_execute_25 rfl ?_
    refine z_putI ee_P_execute_26 ff_P_execute_67 (by assumption) (by assumption) tl_0_10 fl_0_10 ?_
    refine z_throw tt_P_execute_29 rfl (Nat.le_of_ble_eq_true rfl) (by omega) (by omega) (fun z1 hz1 => ?_)
    -- at 29
    have hfr4 : zz_fr B (B + 1) I3 (zz_up I3 B 10 (zc_parse (ov_b v) 10 0 []).1) := zz_fr.rf.up (by omega) (by omega)
    refine ⟨R, _, z1, rfl, hz1, rfl, ⟨hP', f, ?_⟩, zz_fq.rf, hI3.trans (hfr4.wid (by omega) (by omega))⟩
    obtain ⟨⟨p1, p2, p3⟩, p4, p5, p6, ⟨p7, p8⟩, p9, p10, p11⟩ := hp3
    have e1 : zz_up I3 B 10 (zc_parse (ov_b v) 10 0 []).1 (B + 1459) = I3 (B + 1459) := hfr4 _ (by omega)
    exact ⟨⟨p1.fr hfr4 (by omega), p2.fr hfr4 (by omega), p3.fr hfr4 (by omega)⟩, p4.in zz_kt.rf (hfr4.in (by omega)), p5.in zz_kt.rf (hfr4.in (by omega)), p6.in zz_kt.rf (hfr4.in (by omega)), ⟨by rw [zz_up_k (by decide)]; exact p7, zz_up_s⟩, by rw [e1]; exact p9, by rw [e1]; exact p10, by rw [e1]; exact p11⟩
end Exec
