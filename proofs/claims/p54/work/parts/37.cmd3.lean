/-! COMMANDS: the whole -/
section Cmd3
variable {g : zz_G} {l : Launch} {K : Nat → Nat × Nat} {R : Nat → Nat → Option Nat} {I : Nat → Nat → Int32} {L : Nat → Nat → Int64} {z : Nat} {Q T m p : Nat} {xs : List Int32} {cs : List zz_CM} {h : zz_H}
def zc_Q (g : zz_G) (K : Nat → Nat × Nat) (R : Nat → Nat → Option Nat) (I : Nat → Nat → Int32) (L : Nat → Nat → Int64) (z Q : Nat) (cs : List zz_CM) (r : Option zz_CM × Nat) : Option Value → zz_H → Prop := fun a h' => ∃ I', h' = (K, R, I', L, z) ∧ a = some (.int (zz_tf (r.1.isSome = true))) ∧ zz_cx I' Q (cs ++ r.1.toList) ∧ I' Q 3 = nI r.2 ∧ zz_fr Q (Q + 4) I I'
theorem sp_C_parseCommand (hf : l.stackTraces = false) (hC : zz_Cx g K R Q) (hc : zz_cx I Q cs) (hl : cs.length < 10) (hT : zz_Tx g K R T m) (hx : zz_tx I T m xs) (hd : T + 2 ≤ Q ∨ Q + 4 ≤ T) (hW : zz_Wd g K R I) (e : I Q 3 = nI p) (hp : p < 2 ^ 17) : zz_S g l mm_C_parseCommand 0 0 [.ref Q, .ref T] (K, R, I, L, z) (zc_Q g K R I L z Q cs (zc_cmd xs p)) zz_no := by
  have hC' := hC
  obtain ⟨k1, k2, k3, k4, k5, k6, k7, k8, k9, k10, k11⟩ := hC
  have t1 := hT.1
  obtain ⟨q1, q2⟩ := zc_word_le xs p 6 0 0 rfl (by omega)
  unfold zc_cmd
  refine z_start hf rfl (by decide +kernel) (Nat.le_of_ble_eq_true rfl) ?_
  dsimp only [zz_lv0]
  refine z_aload_n ee_C_parseCommand_0 rfl ?_
  refine z_aload_n ee_C_parseCommand_1 rfl ?_
  -- at 2
  refine z_callV (As := [_]) ee_C_parseCommand_2 kk_C_parseCommand_41 rfl (by assumption) rfl rfl (Nat.le_of_ble_eq_true rfl) (by omega) (sp_C_parseWord hf k1 k8 hT hx hW e (by omega)) (fun E h1 hx => hx.elim) (fun v h1 hq => ?_)
  obtain ⟨rfl, rfl⟩ := hq
  cases hw : zc_word xs p 6 0 0 with
  | mk o q =>
    rw [hw] at q1 q2
    have q1 : q ≤ p + 8 := q1
    cases o with
    | none =>
      refine z_istore_m ee_C_parseCommand_5 (j := 2) rfl (by decide) ?_
      refine z_iload_n ee_C_parseCommand_6 rfl ?_
      refine z_iconst ee_C_parseCommand_7 (v := -1) (by decide) ?_
      refine z_icmp_ne ee_C_parseCommand_8 (tgt := 13) (by decide) (fun c_8 => ?_) (fun c_8 => ?_)
      -- at 8
      · exact absurd rfl c_8
      · refine z_iconst ee_C_parseCommand_11 (v := nI 0) (by decide) ?_
        refine z_zret ee_C_parseCommand_12 (ty := .boolean) rfl (by decide) (by omega) (by omega) ?_
        -- at 12
        exact ⟨_, rfl, rfl, by rw [show cs ++ (none : Option zz_CM).toList = cs by simp]; exact hc.pos, zz_up_s, zz_fr.rf.up (by omega) (by omega)⟩
    | some k =>
      have hk := q2 k rfl
      have e1 : zz_up I Q 3 (nI q) Q 3 = nI q := zz_up_s
      have hx1 : zz_tx (zz_up I Q 3 (nI q)) T m xs := hx.kept (zz_up_r (by omega)) (zz_up_r (by omega))
      show Zz g l mm_C_parseCommand 0 0 (zc_Q g K R I L z Q cs (zc_cmd1 xs k q)) zz_no 0 0 5 _ [.int (nI k)] (K, R, zz_up I Q 3 (nI q), L, z)
      have dig : ∀ n : Nat, n ≤ 2 → n = (if k = 0 ∨ k = 1 then 1 else 2) → Zz g l mm_C_parseCommand 0 0 (zc_Q g K R I L z Q cs (zc_cmd1 xs k q)) zz_no 0 0 29 [some (.ref Q), some (.ref T), some (.int (nI k))] [.int (nI n), .ref T, .ref Q] (K, R, zz_up I Q 3 (nI q), L, z) := by
        intro n hn en
        have r1 := zc_digs_le xs n (-1) q
        unfold zc_cmd1
        rw [← en]
        refine z_callV (As := [_, _]) ee_C_parseCommand_29 kk_C_parseCommand_45 rfl (by assumption) rfl rfl (Nat.le_of_ble_eq_true rfl) (by omega) (sp_C_parseDigits hf k1 k8 hT hx1 (by omega) e1 (by omega) n hn) (fun E h1 hx => hx.elim) (fun v h1 hq => ?_)
        obtain ⟨rfl, rfl⟩ := hq
        rw [zz_up_up]
        generalize zc_digs xs n (-1) q = w at r1 ⊢
        obtain ⟨d, p2⟩ := w
        have r1 : q ≤ p2 ∧ p2 ≤ q + n := r1
        have e2 : zz_up I Q 3 (nI p2) Q 3 = nI p2 := zz_up_s
        have hx2 : zz_tx (zz_up I Q 3 (nI p2)) T m xs := hx.kept (zz_up_r (by omega)) (zz_up_r (by omega))
        show Zz g l mm_C_parseCommand 0 0 (zc_Q g K R I L z Q cs (if d = -1 then (none, p2) else zc_cmd2 xs k d p2)) zz_no 0 0 32 _ [.int d] (K, R, zz_up I Q 3 (nI p2), L, z)
        have fin : ∀ (s : Int32) (I3 : Nat → Nat → Int32) (p3 : Nat), ¬ s = -1 → I3 = zz_up I Q 3 (nI p3) → zc_cmd2 xs k d p2 = (some (k, d, s), p3) → Zz g l mm_C_parseCommand 0 0 (zc_Q g K R I L z Q cs (zc_cmd2 xs k d p2)) zz_no 0 0 70 [some (.ref Q), some (.ref T), some (.int (nI k)), some (.int d), some (.int s)] [] (K, R, I3, L, z) := by
          intro s I3 p3 hs eI e3
          rw [e3, eI]
          refine z_iload ee_C_parseCommand_70 rfl ?_
          refine z_iconst ee_C_parseCommand_72 (v := -1) (by decide) ?_
          refine z_icmp_ne ee_C_parseCommand_73 (tgt := 78) (by decide) (fun c_73 => ?_) (fun c_73 => ?_)
          -- at 73
          · refine z_aload_n ee_C_parseCommand_78 rfl ?_
            refine z_iload_n ee_C_parseCommand_79 rfl ?_
            refine z_iload_n ee_C_parseCommand_80 rfl ?_
            refine z_iload ee_C_parseCommand_81 rfl ?_
            -- at 83
            refine z_callV (As := [_, _, _]) ee_C_parseCommand_83 kk_C_parseCommand_49 rfl (by assumption) rfl rfl (Nat.le_of_ble_eq_true rfl) (by omega) (sp_C_keepCommand hf hC' (hc.pos (x := nI p3)) hl (k, d, s)) (fun E h1 hx => hx.elim) (fun v h1 hq => ?_)
            obtain ⟨I4, rfl, rfl, hc4, e4, hfr4⟩ := hq
            refine z_iconst ee_C_parseCommand_86 (v := nI 1) (by decide) ?_
            refine z_zret ee_C_parseCommand_87 (ty := .boolean) rfl (by decide) (by omega) (by omega) ?_
            -- at 87
            exact ⟨I4, rfl, rfl, hc4, by rw [e4, zz_up_s], (zz_fr.rf.up (by omega) (by omega)).trans hfr4⟩
          · exact absurd c_73 hs
        have non : ∀ (s : Int32) (I3 : Nat → Nat → Int32) (p3 : Nat), s = -1 → I3 = zz_up I Q 3 (nI p3) → zc_cmd2 xs k d p2 = (none, p3) → Zz g l mm_C_parseCommand 0 0 (zc_Q g K R I L z Q cs (zc_cmd2 xs k d p2)) zz_no 0 0 70 [some (.ref Q), some (.ref T), some (.int (nI k)), some (.int d), some (.int s)] [] (K, R, I3, L, z) := by
          intro s I3 p3 hs eI e3
          rw [e3, eI]
          refine z_iload ee_C_parseCommand_70 rfl ?_
          refine z_iconst ee_C_parseCommand_72 (v := -1) (by decide) ?_
          refine z_icmp_ne ee_C_parseCommand_73 (tgt := 78) (by decide) (fun c_73 => ?_) (fun c_73 => ?_)
          -- at 73
          · exact absurd hs c_73
          · refine z_iconst ee_C_parseCommand_76 (v := nI 0) (by decide) ?_
            refine z_zret ee_C_parseCommand_77 (ty := .boolean) rfl (by decide) (by omega) (by omega) ?_
            -- at 77
            exact ⟨_, rfl, rfl, by rw [show cs ++ (none : Option zz_CM).toList = cs by simp]; exact hc.pos, zz_up_s, zz_fr.rf.up (by omega) (by omega)⟩
        refine z_istore_m ee_C_parseCommand_32 (j := 3) rfl (by decide) ?_
        refine z_iload_n ee_C_parseCommand_33 rfl ?_
        refine z_iconst ee_C_parseCommand_34 (v := -1) (by decide) ?_
        refine z_icmp_ne ee_C_parseCommand_35 (tgt := 40) (by decide) (fun c_35 => ?_) (fun c_35 => ?_)
        -- at 35
        · rw [if_neg c_35]
          refine z_iconst ee_C_parseCommand_40 (v := nI 0) (by decide) ?_
          refine z_istore ee_C_parseCommand_41 (by decide) ?_
          refine z_iload_n ee_C_parseCommand_43 rfl ?_
          refine z_iconst ee_C_parseCommand_44 (v := nI 4) (by decide) ?_
          refine z_icmp_ne ee_C_parseCommand_45 (tgt := 70) (by decide) (fun c_45 => ?_) (fun c_45 => ?_)
          -- at 45
          · have c_46 : ¬ k = 4 := fun q => c_45 (by rw [q])
            refine fin (nI 0) _ p2 (by decide) rfl ?_
            unfold zc_cmd2
            rw [if_neg c_46]
          · have c_46 : k = 4 := (nI_eq (by omega) (by omega)).mp c_45
            refine z_aload_n ee_C_parseCommand_48 rfl ?_
            refine z_aload_n ee_C_parseCommand_49 rfl ?_
            refine z_bipush ee_C_parseCommand_50 (v := nI 32) (by decide) ?_
            -- at 52
            refine z_callV (As := [_, _]) ee_C_parseCommand_52 kk_C_parseCommand_37 rfl (by assumption) rfl rfl (Nat.le_of_ble_eq_true rfl) (by omega) (sp_C_parseSign hf k1 k8 hT hx2 e2 (by omega) (nI 32)) (fun E h1 hx => hx.elim) (fun v h1 hq => ?_)
            obtain ⟨rfl, rfl⟩ := hq
            rw [zz_up_up]
            refine z_if_eq ee_C_parseCommand_55 (tgt := 67) (by decide) (fun c_55 => ?_) (fun c_55 => ?_)
            -- at 55
            · rw [zz_tf_0] at c_55
              rw [if_neg c_55]
              refine z_iconst ee_C_parseCommand_67 (v := -1) (by decide) ?_
              refine z_istore ee_C_parseCommand_68 (by decide) ?_
              -- at 70
              refine non (-1) _ p2 rfl rfl ?_
              unfold zc_cmd2
              rw [if_pos c_46, if_neg c_55]
            · rw [zz_tf_n0] at c_55
              rw [if_pos c_55]
              have e3 : zz_up I Q 3 (nI (p2 + 1)) Q 3 = nI (p2 + 1) := zz_up_s
              have hx3 : zz_tx (zz_up I Q 3 (nI (p2 + 1))) T m xs := hx.kept (zz_up_r (by omega)) (zz_up_r (by omega))
              refine z_aload_n ee_C_parseCommand_58 rfl ?_
              refine z_aload_n ee_C_parseCommand_59 rfl ?_
              refine z_iconst ee_C_parseCommand_60 (v := nI 1) (by decide) ?_
              -- at 61
              refine z_callV (As := [_, _]) ee_C_parseCommand_61 kk_C_parseCommand_45 rfl (by assumption) rfl rfl (Nat.le_of_ble_eq_true rfl) (by omega) (sp_C_parseDigits hf k1 k8 hT hx3 (by omega) e3 (by omega) 1 (by omega)) (fun E h1 hx => hx.elim) (fun v h1 hq => ?_)
              obtain ⟨rfl, rfl⟩ := hq
              rw [zz_up_up]
              refine z_goto ee_C_parseCommand_64 (tgt := 68) (by decide) ?_
              refine z_istore ee_C_parseCommand_68 (by decide) ?_
              -- at 70
              by_cases hm : (zc_digs xs 1 (-1) (p2 + 1)).1 = -1
              · refine non _ _ _ hm rfl ?_
                unfold zc_cmd2
                rw [if_pos c_46, if_pos c_55, if_pos hm]
              · refine fin _ _ _ hm rfl ?_
                unfold zc_cmd2
                rw [if_pos c_46, if_pos c_55, if_neg hm]
        · rw [if_pos c_35]
          refine z_iconst ee_C_parseCommand_38 (v := nI 0) (by decide) ?_
          refine z_zret ee_C_parseCommand_39 (ty := .boolean) rfl (by decide) (by omega) (by omega) ?_
          -- at 39
          exact ⟨_, rfl, rfl, by rw [show cs ++ (none : Option zz_CM).toList = cs by simp]; exact hc.pos, zz_up_s, zz_fr.rf.up (by omega) (by omega)⟩
      refine z_istore_m ee_C_parseCommand_5 (j := 2) rfl (by decide) ?_
      refine z_iload_n ee_C_parseCommand_6 rfl ?_
      refine z_iconst ee_C_parseCommand_7 (v := -1) (by decide) ?_
      refine z_icmp_ne ee_C_parseCommand_8 (tgt := 13) (by decide) (fun c_8 => ?_) (fun c_8 => ?_)
      -- at 8
      · refine z_aload_n ee_C_parseCommand_13 rfl ?_
        refine z_aload_n ee_C_parseCommand_14 rfl ?_
        refine z_iload_n ee_C_parseCommand_15 rfl ?_
        refine z_if_eq ee_C_parseCommand_16 (tgt := 24) (by decide) (fun c_16 => ?_) (fun c_16 => ?_)
        -- at 16
        · have c_17 : k = 0 := (nI_eq (b := 0) (by omega) (by omega)).mp c_16
          refine z_iconst ee_C_parseCommand_24 (v := nI 1) (by decide) ?_
          refine z_goto ee_C_parseCommand_25 (tgt := 29) (by decide) ?_
          -- at 29
          exact dig 1 (by omega) (by rw [if_pos (Or.inl c_17)])
        · have c_17 : ¬ k = 0 := fun q => c_16 (by rw [q]; rfl)
          refine z_iload_n ee_C_parseCommand_19 rfl ?_
          refine z_iconst ee_C_parseCommand_20 (v := nI 1) (by decide) ?_
          refine z_icmp_ne ee_C_parseCommand_21 (tgt := 28) (by decide) (fun c_21 => ?_) (fun c_21 => ?_)
          -- at 21
          · have c_22 : ¬ k = 1 := fun q => c_21 (by rw [q])
            refine z_iconst ee_C_parseCommand_28 (v := nI 2) (by decide) ?_
            -- at 29
            exact dig 2 (by omega) (by rw [if_neg (by omega)])
          · have c_22 : k = 1 := (nI_eq (by omega) (by omega)).mp c_21
            refine z_iconst ee_C_parseCommand_24 (v := nI 1) (by decide) ?_
            refine z_goto ee_C_parseCommand_25 (tgt := 29) (by decide) ?_
            -- at 29
            exact dig 1 (by omega) (by rw [if_pos (Or.inr c_22)])
      · have c_9 : nI k = -1 := c_8
        simp (disch := omega) only [zi_lt, zi_le, zi_eq, zi_n, zi_0, zi_m1] at c_9
        omega
theorem zc_parse_loop (hf : l.stackTraces = false) (hC : zz_Cx g K R Q) (hT : zz_Tx g K R T m) (hd : T + 2 ≤ Q ∨ Q + 4 ≤ T) {I0 : Nat → Nat → Int32} (hx0 : zz_tx I0 T m xs) (hW0 : zz_Wd g K R I0) : ∀ (n i p : Nat) (cs : List zz_CM) (I : Nat → Nat → Int32), i + n = 10 → cs.length = i → p ≤ 13 * i → I Q 3 = nI p → zz_cx I Q cs → zz_fr Q (Q + 4) I0 I →
    Zz g l mm_C_parse 0 0 (fun a h' => ∃ I', h' = (K, R, I', L, z) ∧ a = some (.int (zc_parse xs n p cs).1) ∧ zz_cx I' Q (zc_parse xs n p cs).2 ∧ zz_fr Q (Q + 4) I0 I') zz_no 0 0 12 [some (.ref Q), some (.ref T), some (.int (nI i))] [] (K, R, I, L, z) := by
  intro n
  have hC' := hC
  obtain ⟨k1, k2, k3, k4, k5, k6, k7, k8, k9, k10, k11⟩ := hC
  have t1 := hT.1
  have hxl := hx0.2.1
  have t6 := hT.2.2.2.2.2
  induction n with
  | zero =>
    intro i p cs I hi hcl hp e hc hfr
    refine z_iload_n ee_C_parse_12 rfl ?_
    refine z_bipush ee_C_parse_13 (v := nI 10) (by decide) ?_
    refine z_icmp_ge ee_C_parse_15 (tgt := 65) (by decide) (fun c_15 => ?_) (fun c_15 => ?_)
    -- at 15
    · refine z_aload_n ee_C_parse_65 rfl ?_
      refine z_getI ee_C_parse_66 ff_C_parse_21 (by assumption) il_2_3 ?_
      refine z_iret ee_C_parse_69 rfl (by omega) (by omega) ?_
      -- at 69
      exact ⟨_, rfl, by rw [e]; rfl, hc, hfr⟩
    · simp (disch := omega) only [zi_lt, zi_le, zi_eq, zi_n, zi_0, zi_m1] at c_15
      omega
  | succ n ih =>
    intro i p cs I hi hcl hp e hc hfr
    have hx := hx0.fr hfr (by omega)
    have hW := hW0.kept zz_kt.rf (hfr.in (by unfold zz_A at k8; omega))
    obtain ⟨b1, b2⟩ := zc_cmd_le xs p
    refine z_iload_n ee_C_parse_12 rfl ?_
    refine z_bipush ee_C_parse_13 (v := nI 10) (by decide) ?_
    refine z_icmp_ge ee_C_parse_15 (tgt := 65) (by decide) (fun c_15 => ?_) (fun c_15 => ?_)
    -- at 15
    · simp (disch := omega) only [zi_lt, zi_le, zi_eq, zi_n, zi_0, zi_m1] at c_15
      omega
    · refine z_aload_n ee_C_parse_18 rfl ?_
      refine z_aload_n ee_C_parse_19 rfl ?_
      -- at 20
      refine z_callV (As := [_]) ee_C_parse_20 kk_C_parse_28 rfl (by assumption) rfl rfl (Nat.le_of_ble_eq_true rfl) (by omega) (sp_C_parseCommand hf hC' hc (by omega) hT hx hd hW e (by omega)) (fun E h1 hx => hx.elim) (fun v h1 hq => ?_)
      obtain ⟨I2, rfl, rfl, hc2, e2, hfr2⟩ := hq
      have hfr' := hfr.trans hfr2
      have hx2 := hx0.fr hfr' (by omega)
      simp only [zc_parse]
      cases hw : zc_cmd xs p with
      | mk o q =>
        rw [hw] at b1 b2 hc2 e2
        have b1 : q ≤ p + 12 := b1
        have e2 : I2 Q 3 = nI q := e2
        cases o with
        | none =>
          have hc2 : zz_cx I2 Q (cs ++ []) := hc2
          rw [List.append_nil] at hc2
          dsimp only
          refine z_if_ne ee_C_parse_23 (tgt := 31) (by decide) (fun c_23 => ?_) (fun c_23 => ?_)
          -- at 23
          · exact absurd rfl c_23
          · refine z_aload_n ee_C_parse_26 rfl ?_
            refine z_getI ee_C_parse_27 ff_C_parse_21 (by assumption) il_2_3 ?_
            refine z_iret ee_C_parse_30 rfl (by omega) (by omega) ?_
            -- at 30
            exact ⟨_, rfl, by rw [e2], hc2, hfr'⟩
        | some c =>
          have hc2 : zz_cx I2 Q (cs ++ [c]) := hc2
          dsimp only
          refine z_if_ne ee_C_parse_23 (tgt := 31) (by decide) (fun c_23 => ?_) (fun c_23 => ?_)
          -- at 23
          · refine z_aload_n ee_C_parse_31 rfl ?_
            refine z_getI ee_C_parse_32 ff_C_parse_21 (by assumption) il_2_3 ?_
            refine z_aload_n ee_C_parse_35 rfl ?_
            refine z_getI ee_C_parse_36 ff_C_parse_32 (by assumption) il_7_1 ?_
            refine z_icmp_ne ee_C_parse_39 (tgt := 44) (by decide) (fun c_39 => ?_) (fun c_39 => ?_)
            -- at 39
            · rw [e2, hx2.1] at c_39
              rw [if_neg (fun q => c_39 (by rw [q]))]
              refine z_aload_n ee_C_parse_44 rfl ?_
              refine z_aload_n ee_C_parse_45 rfl ?_
              refine z_bipush ee_C_parse_46 (v := nI 59) (by decide) ?_
              -- at 48
              refine z_callV (As := [_, _]) ee_C_parse_48 kk_C_parse_37 rfl (by assumption) rfl rfl (Nat.le_of_ble_eq_true rfl) (by omega) (sp_C_parseSign hf k1 k8 hT hx2 e2 (by omega) (nI 59)) (fun E h1 hx => hx.elim) (fun v h1 hq => ?_)
              obtain ⟨rfl, rfl⟩ := hq
              refine z_if_ne ee_C_parse_51 (tgt := 59) (by decide) (fun c_51 => ?_) (fun c_51 => ?_)
              -- at 51
              · rw [zz_tf_n0] at c_51
                rw [if_pos c_51, if_pos c_51]
                refine z_iinc ee_C_parse_59 rfl rfl (by decide) ?_
                refine z_goto ee_C_parse_62 (tgt := 12) (by decide) ?_
                -- at 12
                rw [zz_iinc1]
                refine ih (i + 1) (q + 1) (cs ++ [c]) _ (by omega) (by rw [List.length_append, List.length_singleton]; omega) (by omega) zz_up_s hc2.pos (hfr'.up (by omega) (by omega))
              · rw [zz_tf_0] at c_51
                rw [if_neg c_51, if_neg c_51, zz_up_id e2]
                refine z_aload_n ee_C_parse_54 rfl ?_
                refine z_getI ee_C_parse_55 ff_C_parse_21 (by assumption) il_2_3 ?_
                refine z_iret ee_C_parse_58 rfl (by omega) (by omega) ?_
                -- at 58
                exact ⟨_, rfl, by rw [e2], hc2, hfr'⟩
            · rw [e2, hx2.1] at c_39
              rw [if_pos ((nI_eq (by omega) (by omega)).mp c_39)]
              refine z_iconst ee_C_parse_42 (v := -1) (by decide) ?_
              refine z_iret ee_C_parse_43 rfl (by omega) (by omega) ?_
              -- at 43
              exact ⟨_, rfl, rfl, hc2, hfr'⟩
          · exact absurd c_23 (by rw [zz_tf_t (show (some c).isSome = true from rfl)]; decide)
/-- the fault position, or -1; and the commands before it -/
theorem sp_C_parse (hf : l.stackTraces = false) (hC : zz_Cx g K R Q) (hT : zz_Tx g K R T m) (hd : T + 2 ≤ Q ∨ Q + 4 ≤ T) (hx : zz_tx I T m xs) (hW : zz_Wd g K R I) : zz_S g l mm_C_parse 0 0 [.ref Q, .ref T] (K, R, I, L, z) (fun a h' => ∃ I', h' = (K, R, I', L, z) ∧ a = some (.int (zc_parse xs 10 0 []).1) ∧ zz_cx I' Q (zc_parse xs 10 0 []).2 ∧ zz_fr Q (Q + 4) I I') zz_no := by
  have hC' := hC
  obtain ⟨k1, k2, k3, k4, k5, k6, k7, k8, k9, k10, k11⟩ := hC
  refine z_start hf rfl (by decide +kernel) (Nat.le_of_ble_eq_true rfl) ?_
  dsimp only [zz_lv0]
  refine z_aload_n ee_C_parse_0 rfl ?_
  refine z_iconst ee_C_parse_1 (v := nI 0) (by decide) ?_
  refine z_putI ee_C_parse_2 ff_C_parse_21 (by assumption) (by assumption) tl_2_3 fl_2_3 ?_
  refine z_aload_n ee_C_parse_5 rfl ?_
  refine z_iconst ee_C_parse_6 (v := nI 0) (by decide) ?_
  refine z_putI ee_C_parse_7 ff_C_parse_25 (by assumption) (by assumption) tl_2_4 fl_2_4 ?_
  refine z_iconst ee_C_parse_10 (v := nI 0) (by decide) ?_
  refine z_istore_m ee_C_parse_11 (j := 2) rfl (by decide) ?_
  -- at 12
  refine zc_parse_loop hf hC' hT hd hx hW 10 0 0 [] _ rfl rfl (by omega) ?_ ⟨zz_up_s, by simp, fun j c hc => by simp at hc⟩ ((zz_fr.rf.up (by omega) (by omega)).up (by omega) (by omega))
  rw [zz_up_k (by decide), zz_up_s]
end Cmd3
