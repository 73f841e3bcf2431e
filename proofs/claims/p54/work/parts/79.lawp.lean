/-! THE LAW: the second object walked -/
theorem zk_L.eq {L L1 : Nat → Nat → Int64} {zw : Nat} {hs : List zz_SV} (h : zk_L L zw hs) (e : L1 zw = L zw) : zk_L L1 zw hs := fun j s hj => by rw [e]; exact h j s hj
theorem zk_M00 : zk_M 0 0 ov_0 := ⟨⟨fun d hd => absurd hd List.not_mem_nil, by decide, 0, by omega, rfl, by decide, fun x hx => absurd hx List.not_mem_nil⟩, rfl, rfl, rfl, fun x hx => absurd hx List.not_mem_nil, rfl⟩
theorem zk_W.nn {v : zz_OV} (h : zk_W v) : zk_nn (ov_s v) := by
  obtain ⟨mk, nr, h1, h2, h3, h4, h5⟩ := h
  exact zk_nn_of h1.1 (by omega)
theorem zk_W.l {v : zz_OV} {xs : List Int32} (h : zk_W v) : zk_W (ow_l v xs) := h
def zk_T1 : Option Value → zz_H → Prop := fun a _ => a = some (.int (nI 1))
section LawP
variable {g : zz_G} {l : Launch} {K : Nat → Nat × Nat} {R R0 : Nat → Nat → Option Nat} {I I0 : Nat → Nat → Int32} {L L0 : Nat → Nat → Int64} {z z0 B q n zw : Nat} {v w : zz_OV} {s1 : zz_SV}
/-- the end -/
theorem zk_o4 (hf : l.stackTraces = false) (hI1 : zk_I 15 s1) (ce sl : Nat) (hce : ce ≤ 500500) (hsl : sl ≤ 3100000) (v : zz_OV) (hh : ov_h v = []) (hp : ov_p v = s1) (hfl : ov_f v = true) (hY : zk_Y g K B zw q n v R I L z) (lv : List (Option Value)) (hlv : zz_le [some (.ref q), none, some (.ref B), some (.long (zk_ask s1)), none, some (.int (nI (sv_t s1).length))] lv) :
    Zz g l mm_law 600390 7290160 zk_T1 zz_no ce sl 755 lv [] (K, R, I, L, z) := by
  refine z_lvk ?_ hlv
  have hW := hY.1
  refine z_aload_n ee_law_755 rfl ?_
  -- at 756
  refine z_callX (As := [_]) ee_law_756 kk_law_354 rfl rfl (Nat.le_of_ble_eq_true rfl) (by omega) (sx_undo hf hW _ (zk_undo0 hh) (-1001) rfl (fun E h => by cases h; rfl)) (fun E h1 hx => hx.elim) (fun v h1 hq => ?_)
  obtain ⟨R1, I1, L1, z1, rfl, rfl, hW⟩ := hq
  have hW : zz_Lw g K B z R I L v R1 I1 L1 z1 := hW
  refine z_sipush ee_law_759 (v := -1001) (by decide) ?_
  refine z_icmp_ne ee_law_762 (tgt := 797) (by decide) (fun c_762 => ?_) (fun c_762 => ?_)
  -- at 762
  · exact absurd rfl c_762
  · refine z_aload_n ee_law_765 rfl ?_
    -- at 766
    refine z_callX (As := [_]) ee_law_766 kk_law_356 rfl rfl (Nat.le_of_ble_eq_true rfl) (by omega) (sx_restore hf hW (.inl (nI (sv_t s1).length), ow_h (ow_s v s1) []) (by unfold po_restore; rw [if_pos hfl, hp]) _ rfl (fun E h => by cases h)) (fun E h1 hx => hx.elim) (fun v h1 hq => ?_)
    obtain ⟨R1, I1, L1, z1, rfl, rfl, hW⟩ := hq
    have hW : zz_Lw g K B z R I L (ow_h (ow_s v s1) []) R1 I1 L1 z1 := hW
    refine z_iload ee_law_769 rfl ?_
    refine z_icmp_ne ee_law_771 (tgt := 797) (by decide) (fun c_771 => ?_) (fun c_771 => ?_)
    -- at 771
    · exact absurd rfl c_771
    · refine z_aload_n ee_law_774 rfl ?_
      -- at 775
      refine z_callS (As := [_]) ee_law_775 kk_law_321 rfl rfl (Nat.le_of_ble_eq_true rfl) (by omega) (sp_L_asks hf hW (zk_nn_of (s := s1) hI1 (Nat.le_refl _))) (fun E h1 hx => hx.elim) (fun v h1 hq => ?_)
      obtain ⟨xs, R1, I1, L1, z1, rfl, rfl, hW⟩ := hq
      refine z_lload_n ee_law_778 rfl ?_
      refine z_lcmp ee_law_779 ?_
      refine z_if_ne ee_law_780 (tgt := 797) (by decide) (fun c_780 => ?_) (fun c_780 => ?_)
      -- at 780
      · exact absurd zk_lcmp c_780
      · refine z_aload_n ee_law_783 rfl ?_
        -- at 784
        refine z_callX (As := [_]) ee_law_784 kk_law_354 rfl rfl (Nat.le_of_ble_eq_true rfl) (by omega) (sx_undo hf hW _ (zk_undo0 rfl) (-1001) rfl (fun E h => by cases h; rfl)) (fun E h1 hx => hx.elim) (fun v h1 hq => ?_)
        obtain ⟨R1, I1, L1, z1, rfl, rfl, hW⟩ := hq
        refine z_sipush ee_law_787 (v := -1001) (by decide) ?_
        refine z_icmp_ne ee_law_790 (tgt := 797) (by decide) (fun c_790 => ?_) (fun c_790 => ?_)
        -- at 790
        · exact absurd rfl c_790
        · refine z_iconst ee_law_793 (v := nI 1) (by decide) ?_
          refine z_goto ee_law_794 (tgt := 798) (by decide) ?_
          refine z_zret ee_law_798 (ty := .boolean) rfl (by decide) (by omega) (by omega) ?_
          -- at 798
          exact rfl
/-- undoing -/
theorem zk_o3 (hf : l.stackTraces = false) (hI1 : zk_I 15 s1) {hs : List zz_SV} (hs8 : hs.length ≤ 8) (hI : ∀ s ∈ hs, zk_I 15 s) : ∀ (r : Nat) (ce sl : Nat) (v : zz_OV) R I L z, r ≤ hs.length → ce + 23403 * r ≤ 500500 → sl + 140418 * r ≤ 3100000 → ov_h v = hs.take r → (hs.take r ++ [ov_s v]).head? = some s1 → ov_p v = s1 → ov_f v = true → zk_L L zw hs → zk_Y g K B zw q n v R I L z →
    Zz g l mm_law 600390 7290160 zk_T1 zz_no ce sl 712 [some (.ref q), none, some (.ref B), some (.long (zk_ask s1)), none, some (.int (nI (sv_t s1).length)), some (.ref zw), some (.int (nI hs.length)), some (.int (nI (hs.length + 1 - r)))] [] (K, R, I, L, z) := by
  intro r
  induction r with
  | zero =>
    intro ce sl v R I L z hr hce hsl hh hd hp hfl hL hY
    refine z_iload ee_law_712 rfl ?_
    refine z_iload ee_law_714 rfl ?_
    refine z_icmp_gt ee_law_716 (tgt := 755) (by decide) (fun c_716 => ?_) (fun c_716 => ?_)
    -- at 716
    · exact zk_o4 hf hI1 ce sl (by omega) (by omega) v hh hp hfl hY _ (by repeat (first | exact trivial | refine ⟨rfl, ?_⟩))
    · simp (disch := omega) only [zi_lt, zi_le, zi_eq, zi_n, zi_0, zi_m1] at c_716
      omega
  | succ r ih =>
    intro ce sl v R I L z hr hce hsl hh hd hp hfl hL hY
    obtain ⟨s, hs1⟩ : ∃ s, hs[r]? = some s := ⟨_, List.getElem?_eq_getElem (by omega)⟩
    have et : hs.take (r + 1) = hs.take r ++ [s] := by
      have hlt : r < hs.length := by omega
      rw [List.take_succ_eq_append_getElem hlt]
      rw [List.getElem?_eq_getElem hlt] at hs1
      rw [Option.some.inj hs1]
    have hlen : (hs.take r).length = r := by rw [List.length_take]; omega
    have hW := hY.1
    have eu := zk_undo (v := v) (hs := hs.take r) (s := s) (hh.trans et)
    rw [hlen] at eu
    have hIs : zk_I 15 s := hI s (List.mem_of_getElem? hs1)
    refine z_iload ee_law_712 rfl ?_
    refine z_iload ee_law_714 rfl ?_
    refine z_icmp_gt ee_law_716 (tgt := 755) (by decide) (fun c_716 => ?_) (fun c_716 => ?_)
    -- at 716
    · simp (disch := omega) only [zi_lt, zi_le, zi_eq, zi_n, zi_0, zi_m1] at c_716
      omega
    · refine z_aload_n ee_law_719 rfl ?_
      -- at 720
      refine z_callX (As := [_]) ee_law_720 kk_law_354 rfl rfl (Nat.le_of_ble_eq_true rfl) (by omega) (sx_undo hf hW _ eu _ rfl (fun E h => by cases h)) (fun E h1 hx => hx.elim) (fun v h1 hq => ?_)
      obtain ⟨R1, I1, L1, z1, rfl, rfl, hW⟩ := hq
      have hW : zz_Lw g K B z R I L (ow_h (ow_s v s) (hs.take r)) R1 I1 L1 z1 := hW
      obtain ⟨hY1, eL1⟩ := hY.go hW
      have hL1 := hL.eq eL1
      have hW1 := hY1.1
      refine z_iload ee_law_723 rfl ?_
      refine z_iload ee_law_725 rfl ?_
      refine z_isub ee_law_727 ?_
      -- at 728
      rw [pk_sub (by omega), show hs.length - (hs.length + 1 - (r + 1)) = r by omega]
      refine z_icmp_ne ee_law_728 (tgt := 747) (by decide) (fun c_728 => ?_) (fun c_728 => ?_)
      -- at 728
      · exact absurd rfl c_728
      · refine z_aload_n ee_law_731 rfl ?_
        -- at 732
        refine z_callS (As := [_]) ee_law_732 kk_law_321 rfl rfl (Nat.le_of_ble_eq_true rfl) (by omega) (sp_L_asks hf hW1 (zk_nn_of (s := s) hIs (Nat.le_refl _))) (fun E h1 hx => hx.elim) (fun v h1 hq => ?_)
        obtain ⟨xs, R1, I1, L1, z1, rfl, rfl, hW2⟩ := hq
        obtain ⟨hY2, eL2⟩ := hY1.go hW2
        have hL2 := hL1.eq eL2
        refine z_aload ee_law_735 rfl ?_
        refine z_iload ee_law_737 rfl ?_
        refine z_iload ee_law_739 rfl ?_
        refine z_isub ee_law_741 ?_
        -- at 742
        rw [pk_sub (by omega), show hs.length - (hs.length + 1 - (r + 1)) = r by omega]
        refine z_lald ee_law_742 hY2.2.2.1 rfl (by omega) (by omega) ?_
        rw [hL2 r s hs1]
        refine z_lcmp ee_law_743 ?_
        refine z_if_eq ee_law_744 (tgt := 749) (by decide) (fun c_744 => ?_) (fun c_744 => ?_)
        -- at 744
        · refine z_iinc ee_law_749 rfl rfl (by decide) ?_
          refine z_goto ee_law_752 (tgt := 712) (by decide) ?_
          -- at 712
          rw [zz_iinc1, show hs.length + 1 - (r + 1) + 1 = hs.length + 1 - r by omega]
          refine z_lvk (ih _ _ (ow_l (ow_h (ow_s v s) (hs.take r)) xs) _ _ _ _ (by omega) (by omega) (by omega) rfl ?_ hp hfl hL2 hY2) (by repeat (first | exact trivial | refine ⟨rfl, ?_⟩))
          show (hs.take r ++ [s]).head? = some s1
          rw [et] at hd
          cases e : hs.take r ++ [s] with
          | nil => simp at e
          | cons a t => rw [e] at hd; exact hd
        · exact absurd zk_lcmp c_744
/-- eight changes -/
theorem zk_o2 (hf : l.stackTraces = false) (hI1 : zk_I 15 s1) : ∀ (k i ce sl : Nat) (hs : List zz_SV) (v : zz_OV) R I L z, k + i = 8 → ce + 23402 * hs.length ≤ 125000 + 46924 * i → sl + 140412 * hs.length ≤ 840000 + 281824 * i → zk_H i s1 hs v → zk_L L zw hs → zk_Y g K B zw q n v R I L z →
    Zz g l mm_law 600390 7290160 zk_T1 zz_no ce sl 631 [some (.ref q), none, some (.ref B), some (.long (zk_ask s1)), none, some (.int (nI (sv_t s1).length)), some (.ref zw), some (.int (nI hs.length)), some (.int (nI i))] [] (K, R, I, L, z) := by
  intro k
  induction k with
  | zero =>
    intro i ce sl hs v R I L z hi hce hsl hH hL hY
    obtain ⟨h1, h2, h3, h4, h5, h6, h7, h8⟩ := hH
    refine z_iload ee_law_631 rfl ?_
    refine z_bipush ee_law_633 (v := nI 8) (by decide) ?_
    refine z_icmp_ge ee_law_635 (tgt := 709) (by decide) (fun c_635 => ?_) (fun c_635 => ?_)
    -- at 635
    · refine z_iconst ee_law_709 (v := nI 1) (by decide) ?_
      refine z_istore ee_law_710 (by decide) ?_
      -- at 712
      refine z_lvk (?_ : Zz g l mm_law 600390 7290160 zk_T1 zz_no ce sl 712 [some (.ref q), none, some (.ref B), some (.long (zk_ask s1)), none, some (.int (nI (sv_t s1).length)), some (.ref zw), some (.int (nI hs.length)), some (.int (nI 1))] [] (K, R, I, L, z)) (by repeat (first | exact trivial | refine ⟨rfl, ?_⟩))
      have := zk_o3 (zw := zw) (q := q) (n := n) (B := B) (g := g) (K := K) hf hI1 (hs := hs) (by omega) h3 hs.length ce sl v R I L z (Nat.le_refl _) (by omega) (by omega) (by rw [List.take_length]; exact h1) (by rw [List.take_length]; exact h8) h5 h6 hL hY
      rw [show hs.length + 1 - hs.length = 1 by omega] at this
      exact this
    · simp (disch := omega) only [zi_lt, zi_le, zi_eq, zi_n, zi_0, zi_m1] at c_635
      omega
  | succ k ih =>
    intro i ce sl hs v R I L z hi hce hsl hH hL hY
    have hlen := hH.2.1
    have hIv := hH.2.2.2.1
    refine z_iload ee_law_631 rfl ?_
    refine z_bipush ee_law_633 (v := nI 8) (by decide) ?_
    refine z_icmp_ge ee_law_635 (tgt := 709) (by decide) (fun c_635 => ?_) (fun c_635 => ?_)
    -- at 635
    · simp (disch := omega) only [zi_lt, zi_le, zi_eq, zi_n, zi_0, zi_m1] at c_635
      omega
    · refine z_aload_n ee_law_638 rfl ?_
      -- at 639
      refine z_callS (As := [_]) ee_law_639 kk_law_321 rfl rfl (Nat.le_of_ble_eq_true rfl) (by omega) (sp_L_asks hf hY.1 (zk_nn_of hIv (by omega))) (fun E h1 hx => hx.elim) (fun v h1 hq => ?_)
      obtain ⟨xs, R1, I1, L1, z1, rfl, rfl, hW1⟩ := hq
      obtain ⟨hY1, eL1⟩ := hY.go hW1
      have hL1 := hL.eq eL1
      have hH1 : zk_H i s1 hs (ow_l v xs) := hH
      refine z_lstore ee_law_642 (by decide) ?_
      refine z_aload_n ee_law_644 rfl ?_
      refine z_aload_n ee_law_645 rfl ?_
      refine z_bipush ee_law_646 (v := nI 20) (by decide) ?_
      refine z_iload ee_law_648 rfl ?_
      -- at 650
      refine z_iadd ee_law_650 ?_
      rw [nI_add]
      refine z_callS (As := [_, _]) ee_law_651 kk_law_184 rfl rfl (Nat.le_of_ble_eq_true rfl) (by omega) (sp_L_at hf hY1.2.1.2.2.1 hY1.2.1.2.2.2.1 (20 + i) (by omega)) (fun E h1 hx => hx.elim) (fun v h1 hq => ?_)
      obtain ⟨rfl, xv, rfl⟩ := hq
      refine z_iload ee_law_654 rfl ?_
      refine z_sipush ee_law_656 (v := nI 977) (by decide) ?_
      refine z_imul ee_law_659 ?_
      refine z_ixor ee_law_660 ?_
      -- at 661
      refine z_callS (As := [_, _]) ee_law_661 kk_law_375 rfl rfl (Nat.le_of_ble_eq_true rfl) (by omega) (sp_L_changes hf hY1.2.1 hY1.1 (m := 7 + i) (by omega) hIv hH1.2.2.2.2.2.2.1 _) (fun E h1 hx => hx.elim) (fun v h1 hq => ?_)
      obtain ⟨y, w, hy, hD, hb, R2, I2, L2, z2, rfl, rfl, hW2⟩ := hq
      obtain ⟨hY2, eL2⟩ := hY1.go hW2
      have hL2 := hL1.eq eL2
      have hk2 := hY2.1.1.1.1.1
      rcases hy with rfl | rfl
      · have hHn := zk_H_no hH1 hD hb
        have hs2 : ov_s w = ov_s v := by
          obtain ⟨-, -, d3 | ⟨-, -, d4⟩⟩ := hD
          · exact absurd d3.1 (by decide)
          · exact d4
        refine z_if_eq ee_law_664 (tgt := 680) (by decide) (fun c_664 => ?_) (fun c_664 => ?_)
        -- at 664
        · refine z_aload_n ee_law_680 rfl ?_
          -- at 681
          refine z_callS (As := [_]) ee_law_681 kk_law_321 rfl rfl (Nat.le_of_ble_eq_true rfl) (by omega) (sp_L_asks hf hY2.1 (zk_nn_of hHn.2.2.2.1 (by omega))) (fun E h1 hx => hx.elim) (fun v h1 hq => ?_)
          obtain ⟨xs3, R3, I3, L3, z3, rfl, rfl, hW3⟩ := hq
          obtain ⟨hY3, eL3⟩ := hY2.go hW3
          have hL3 := hL2.eq eL3
          have hH3 : zk_H (i + 1) s1 hs (ow_l w xs3) := hHn
          rw [hs2]
          refine z_lload ee_law_684 rfl ?_
          refine z_lcmp ee_law_686 ?_
          refine z_if_eq ee_law_687 (tgt := 692) (by decide) (fun c_687 => ?_) (fun c_687 => ?_)
          -- at 687
          · refine z_aload_n ee_law_692 rfl ?_
            -- at 693
            refine z_callV (As := []) ee_law_693 kk_law_325 rfl (by assumption) rfl rfl (Nat.le_of_ble_eq_true rfl) (by omega) (sx_P_undoCount hf hY3.1) (fun E h1 hx => hx.elim) (fun v h1 hq => ?_)
            obtain ⟨R4, I4, L4, z4, rfl, rfl, hW4⟩ := hq
            obtain ⟨hY4, eL4⟩ := hY3.go hW4
            rw [hH3.1]
            refine z_iload ee_law_696 rfl ?_
            refine z_icmp_eq ee_law_698 (tgt := 703) (by decide) (fun c_698 => ?_) (fun c_698 => ?_)
            -- at 698
            · refine z_iinc ee_law_703 rfl rfl (by decide) ?_
              refine z_goto ee_law_706 (tgt := 631) (by decide) ?_
              -- at 631
              rw [zz_iinc1]
              exact z_lvk (ih (i + 1) _ _ hs _ _ _ _ _ (by omega) (by omega) (by omega) hH3 (hL3.eq eL4) hY4) (by repeat (first | exact trivial | refine ⟨rfl, ?_⟩))
            · exact absurd rfl c_698
          · exact absurd zk_lcmp c_687
        · exact absurd rfl c_664
      · have hHy := zk_H_yes (by omega) hH1 hD hb
        refine z_if_eq ee_law_664 (tgt := 680) (by decide) (fun c_664 => ?_) (fun c_664 => ?_)
        -- at 664
        · exact absurd c_664 (by decide)
        · refine z_aload ee_law_667 rfl ?_
          refine z_iload ee_law_669 rfl ?_
          refine z_iinc ee_law_671 rfl rfl (by decide) ?_
          refine z_lload ee_law_674 rfl ?_
          -- at 676
          rw [zz_iinc1]
          refine z_last ee_law_676 hY2.2.2.1 hY2.2.2.2.1 rfl (by omega) (by omega) ?_
          have hY3 := hY2.up (x := zk_ask (ov_s v)) (j := hs.length)
          have hL3 := zk_L_app (s := ov_s v) hL2
          refine z_goto ee_law_677 (tgt := 692) (by decide) ?_
          -- at 692
          refine z_aload_n ee_law_692 rfl ?_
          -- at 693
          refine z_callV (As := []) ee_law_693 kk_law_325 rfl (by assumption) rfl rfl (Nat.le_of_ble_eq_true rfl) (by omega) (sx_P_undoCount hf hY3.1) (fun E h1 hx => hx.elim) (fun v h1 hq => ?_)
          obtain ⟨R4, I4, L4, z4, rfl, rfl, hW4⟩ := hq
          obtain ⟨hY4, eL4⟩ := hY3.go hW4
          rw [hHy.1, show (hs ++ [ov_s (ow_l v xs)]).length = hs.length + 1 by rw [List.length_append]; rfl]
          refine z_iload ee_law_696 rfl ?_
          refine z_icmp_eq ee_law_698 (tgt := 703) (by decide) (fun c_698 => ?_) (fun c_698 => ?_)
          -- at 698
          · refine z_iinc ee_law_703 rfl rfl (by decide) ?_
            refine z_goto ee_law_706 (tgt := 631) (by decide) ?_
            -- at 631
            rw [zz_iinc1]
            have h2 := ih (i + 1) (ce + 23402 + 110) (sl + 140412 + 900) (hs ++ [ov_s v]) w _ _ _ _ (by omega) (by rw [List.length_append]; show _ + 23402 * (hs.length + 1) ≤ _; omega) (by rw [List.length_append]; show _ + 140412 * (hs.length + 1) ≤ _; omega) hHy (hL3.eq eL4) hY4
            rw [show (hs ++ [ov_s v]).length = hs.length + 1 by rw [List.length_append]; rfl] at h2
            exact z_lvk (z_wid (by omega) (by omega) h2) (by repeat (first | exact trivial | refine ⟨rfl, ?_⟩))
          · exact absurd rfl c_698
/-- from makes on -/
theorem zk_o1 (hf : l.stackTraces = false) (hEv : zz_Ev g K R I q n) (hW : zz_Lw g K B z R I L ov_0 R I L z) (ce sl : Nat) (hce : ce ≤ 3600) (hsl : sl ≤ 92000) :
    Zz g l mm_law 600390 7290160 zk_T1 zz_no ce sl 544 [some (.ref q), none, some (.ref B)] [] (K, R, I, L, z) := by
  have hk := hW.1.1.1.1
  refine z_aload_n ee_law_544 rfl ?_
  refine z_aload_n ee_law_545 rfl ?_
  -- at 546
  refine z_callS (As := [_, _]) ee_law_546 kk_law_367 rfl rfl (Nat.le_of_ble_eq_true rfl) (by omega) (sp_L_makes hf hEv hW zk_M00) (fun E h1 hx => hx.elim) (fun v h1 hq => ?_)
  obtain ⟨w1, hM, R1, I1, L1, z1, rfl, rfl, hW1⟩ := hq
  refine z_if_ne ee_law_549 (tgt := 554) (by decide) (fun c_549 => ?_) (fun c_549 => ?_)
  -- at 549
  · refine z_aload_n ee_law_554 rfl ?_
    -- at 555
    refine z_callS (As := [_]) ee_law_555 kk_law_321 rfl rfl (Nat.le_of_ble_eq_true rfl) (by omega) (sp_L_asks hf hW1 hM.nn) (fun E h1 hx => hx.elim) (fun v h1 hq => ?_)
    obtain ⟨xs1, R1, I1, L1, z1, rfl, rfl, hW1⟩ := hq
    have hM := hM.l (xs := xs1)
    have es : ov_s (ow_l w1 xs1) = ov_s w1 := rfl
    rw [← es]
    clear es
    generalize ow_l w1 xs1 = w1 at hM hW1
    refine z_lstore_m ee_law_558 (j := 3) rfl (by decide) ?_
    refine z_aload_n ee_law_559 rfl ?_
    -- at 560
    refine z_callS (As := [_]) ee_law_560 kk_law_321 rfl rfl (Nat.le_of_ble_eq_true rfl) (by omega) (sp_L_asks hf hW1 hM.nn) (fun E h1 hx => hx.elim) (fun v h1 hq => ?_)
    obtain ⟨xs2, R1, I1, L1, z1, rfl, rfl, hW1⟩ := hq
    refine z_lload_n ee_law_563 rfl ?_
    refine z_lcmp ee_law_564 ?_
    refine z_if_ne ee_law_565 (tgt := 575) (by decide) (fun c_565 => ?_) (fun c_565 => ?_)
    -- at 565
    · exact absurd zk_lcmp c_565
    · refine z_aload_n ee_law_568 rfl ?_
      -- at 569
      refine z_callS (As := [_]) ee_law_569 kk_law_371 rfl rfl (Nat.le_of_ble_eq_true rfl) (by omega) (sp_L_thrown hf hEv (hM.l (xs := xs2)) hM.nn hW1) (fun E h1 hx => hx.elim) (fun v h1 hq => ?_)
      obtain ⟨w2, hU, R1, I1, L1, z1, rfl, rfl, hW2⟩ := hq
      have es : ov_s w2 = ov_s w1 := hU.1
      have hb2 : ov_b w2 = [] := hU.2.2.2.2.1
      have hI7 : zk_I 7 (ov_s w1) := by
        obtain ⟨mk, nr, h1, h2, h3, -⟩ := hM
        exact h1.1.mono h3
      refine z_if_ne ee_law_572 (tgt := 577) (by decide) (fun c_572 => ?_) (fun c_572 => ?_)
      -- at 572
      · refine z_aload_n ee_law_577 rfl ?_
        -- at 578
        refine z_callV (As := []) ee_law_578 kk_law_359 rfl (by assumption) rfl rfl (Nat.le_of_ble_eq_true rfl) (by omega) (sx_P_saveSnapshot hf hW2) (fun E h1 hx => hx.elim) (fun v h1 hq => ?_)
        obtain ⟨R1, I1, L1, z1, rfl, rfl, hW3⟩ := hq
        rw [es] at hW3 ⊢
        have hs3 : ov_s (ow_p w2 (ov_s w1)) = ov_s w1 := es
        have hp3 : ov_p (ow_p w2 (ov_s w1)) = ov_s w1 := rfl
        have hf3 : ov_f (ow_p w2 (ov_s w1)) = true := rfl
        have hb3 : ov_b (ow_p w2 (ov_s w1)) = [] := hb2
        generalize ow_p w2 (ov_s w1) = w3 at hs3 hp3 hf3 hb3 hW3
        generalize ov_s w1 = s1 at hs3 hp3 hI7
        refine z_istore ee_law_581 (by decide) ?_
        refine z_iload ee_law_583 rfl ?_
        refine z_aload_n ee_law_585 rfl ?_
        -- at 586
        refine z_callV (As := []) ee_law_586 kk_law_220 rfl (by assumption) rfl rfl (Nat.le_of_ble_eq_true rfl) (by omega) (sx_P_telegramCount hf hW3) (fun E h1 hx => hx.elim) (fun v h1 hq => ?_)
        obtain ⟨R1, I1, L1, z1, rfl, rfl, hW3⟩ := hq
        rw [hs3]
        refine z_icmp_ne ee_law_589 (tgt := 617) (by decide) (fun c_589 => ?_) (fun c_589 => ?_)
        -- at 589
        · exact absurd rfl c_589
        · refine z_aload_n ee_law_592 rfl ?_
          -- at 593
          refine z_callS (As := [_]) ee_law_593 kk_law_321 rfl rfl (Nat.le_of_ble_eq_true rfl) (by omega) (sp_L_asks hf hW3 (by rw [hs3]; exact zk_nn_of hI7 (by omega))) (fun E h1 hx => hx.elim) (fun v h1 hq => ?_)
          obtain ⟨xs3, R1, I1, L1, z1, rfl, rfl, hW3⟩ := hq
          rw [hs3]
          refine z_lload_n ee_law_596 rfl ?_
          refine z_lcmp ee_law_597 ?_
          refine z_if_ne ee_law_598 (tgt := 617) (by decide) (fun c_598 => ?_) (fun c_598 => ?_)
          -- at 598
          · exact absurd zk_lcmp c_598
          · refine z_aload_n ee_law_601 rfl ?_
            -- at 602
            refine z_callX (As := [_]) ee_law_602 kk_law_356 rfl rfl (Nat.le_of_ble_eq_true rfl) (by omega) (sx_restore hf hW3 (.inl (nI (sv_t s1).length), ow_h (ow_s (ow_l w3 xs3) s1) []) (by unfold po_restore; rw [if_pos (show ov_f (ow_l w3 xs3) = true from hf3), show ov_p (ow_l w3 xs3) = s1 from hp3]) _ rfl (fun E h => by cases h)) (fun E h1 hx => hx.elim) (fun v h1 hq => ?_)
            obtain ⟨R1, I1, L1, z1, rfl, rfl, hW4⟩ := hq
            have hW4 : zz_Lw g K B z R I L (ow_h (ow_s (ow_l w3 xs3) s1) []) R1 I1 L1 z1 := hW4
            refine z_iload ee_law_605 rfl ?_
            refine z_icmp_ne ee_law_607 (tgt := 617) (by decide) (fun c_607 => ?_) (fun c_607 => ?_)
            -- at 607
            · exact absurd rfl c_607
            · refine z_aload_n ee_law_610 rfl ?_
              -- at 611
              refine z_callV (As := []) ee_law_611 kk_law_325 rfl (by assumption) rfl rfl (Nat.le_of_ble_eq_true rfl) (by omega) (sx_P_undoCount hf hW4) (fun E h1 hx => hx.elim) (fun v h1 hq => ?_)
              obtain ⟨R1, I1, L1, z1, rfl, rfl, hW4⟩ := hq
              refine z_if_eq ee_law_614 (tgt := 619) (by decide) (fun c_614 => ?_) (fun c_614 => ?_)
              -- at 614
              · refine z_bipush ee_law_619 (v := nI 9) (by decide) ?_
                refine z_newa (t := 3) ee_law_621 (by omega) cw_long rfl (by omega) (by omega) (by omega) (fun hz621 => ?_)
                -- at 623
                have hz4 := hW4.2.2.2.1
                have hBz := hW4.2.2.2.2.1
                have hA : zz_A g B := hW4.2.2.2.2.2
                have hlk : zz_lk z1 K (zz_K K z1 (zz_a 3 9)) R1 R1 I1 (zz_0 I1 z1 0) L1 (zz_0 L1 z1 0) := ⟨zz_kt.rf.k0 (Nat.le_refl _), zz_kt.rf, zz_kt.rf.z0 (Nat.le_refl _), zz_kt.rf.z0 (Nat.le_refl _)⟩
                have hY : zk_Y g (zz_K K z1 (zz_a 3 9)) B z1 q n (ow_h (ow_s (ow_l w3 xs3) s1) []) R1 (zz_0 I1 z1 0) (zz_0 L1 z1 0) (z1 + 1) := ⟨hW4.lk hlk (by omega), hEv.lk hW4 hlk, zz_K_s, by assumption, by omega⟩
                refine z_astore ee_law_623 (by decide) ?_
                refine z_iconst ee_law_625 (v := nI 0) (by decide) ?_
                refine z_istore ee_law_626 (by decide) ?_
                refine z_iconst ee_law_628 (v := nI 0) (by decide) ?_
                refine z_istore ee_law_629 (by decide) ?_
                -- at 631
                refine z_lvk (z_wid (ce' := 125000) (sl' := 840000) (by omega) (by omega) (zk_o2 hf (s1 := s1) (hI7.mono (by omega)) 8 0 125000 840000 [] (ow_h (ow_s (ow_l w3 xs3) s1) []) R1 _ _ _ rfl (by show _ + 23402 * 0 ≤ _; omega) (by show _ + 140412 * 0 ≤ _; omega) ⟨rfl, Nat.le_refl _, fun s hs => absurd hs List.not_mem_nil, hI7, hp3, hf3, hb3, rfl⟩ (fun j s hj => by simp at hj) hY)) (by repeat (first | exact trivial | refine ⟨rfl, ?_⟩))
              · exact absurd rfl c_614
      · exact absurd c_572 (by decide)
  · exact absurd c_549 (by decide)
end LawP
