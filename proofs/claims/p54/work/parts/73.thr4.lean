/-! THE LAW: thrown, from its start -/
section Thr4
variable {g : zz_G} {l : Launch} {K : Nat → Nat × Nat} {R R0 : Nat → Nat → Option Nat} {I I0 : Nat → Nat → Int32} {L L0 : Nat → Nat → Int64} {z z0 B q n m mk nr : Nat} {u v w : zz_OV} {Q : Option Value → zz_H → Prop} {mc ms : Nat}
/-- from 697 on: questions -/
theorem zk_th3 (hf : l.stackTraces = false) (hEv : zz_Ev g K R0 I0 q n) (hI : zk_I mk (ov_s u)) (hnr : (sv_r (ov_s u)).length = nr) (hnr2 : 2 ≤ nr) (hmk : (sv_t (ov_s u)).length = mk) (hmk0 : 0 < mk) (hmk7 : mk ≤ 7) (hnn : zk_nn (ov_s u)) (hU : zk_U u v) (hW : zz_Lw g K B z0 R0 I0 L0 v R I L z) (ce sl : Nat) (hce : ce ≤ 24100) (hsl : sl ≤ 144700) (lv : List (Option Value)) (hlv : zz_le [some (.ref B), some (.long (zk_ask (ov_s u))), none, some (.int (nI mk)), some (.int (nI nr)), some (.int (nI (ov_h u).length)), some (.int (nI 1))] lv) :
    Zz g l mm_L_thrown 48000 290000 (zk_F g K B z0 R0 I0 L0 u) zz_no ce sl 697 lv [] (K, R, I, L, z) := by
  refine z_lvk ?_ hlv
  have h24 := hI.2.1
  obtain ⟨s6, b6⟩ := hEv.bs hW (k := 6) (by omega)
  have h99 := zk_none hI (n := nI 99) (by rw [zi_n (by omega)]; omega) (by omega)
  have hm1 := zk_none hI (n := -1) (by rw [zi_m1]; omega) (by omega)
  refine z_iload ee_L_thrown_697 rfl ?_
  refine z_if_eq ee_L_thrown_699 (tgt := 982) (by decide) (fun c_699 => ?_) (fun c_699 => ?_)
  -- at 699
  · exact absurd c_699 (by decide)
  · refine z_aload_n ee_L_thrown_702 rfl ?_
    -- at 703
    refine z_ldcS ee_L_thrown_703 ws_L_thrown_182 ?_
    refine z_callS (As := [_, _]) ee_L_thrown_705 kk_L_thrown_213 rfl rfl (Nat.le_of_ble_eq_true rfl) (by omega) (sp_L_types hf hW s6 b6 (fun x hx => absurd hx List.not_mem_nil) (by decide)) (fun E h1 hx => hx.elim) (fun v h1 hq => ?_)
    obtain ⟨R1, I1, L1, z1, rfl, rfl, hW⟩ := hq
    have hU : zk_U u (ow_m v (zz_ct 6)) := hU.m
    have hIv : zk_I mk (ov_s (ow_m v (zz_ct 6))) := by rw [hU.1]; exact hI
    have hr0 : zz_hr (ov_s (ow_m v (zz_ct 6))) (nI 0) := by rw [hU.1]; exact zz_hr_n (by omega) h24
    refine z_if_eq ee_L_thrown_708 (tgt := 982) (by decide) (fun c_708 => ?_) (fun c_708 => ?_)
    -- at 708
    · exact absurd c_708 (by decide)
    · refine z_aload_n ee_L_thrown_711 rfl ?_
      refine z_iconst ee_L_thrown_712 (v := nI 0) (by decide) ?_
      refine z_iconst ee_L_thrown_713 (v := nI 5) (by decide) ?_
      -- at 714
      refine z_callX (As := [_, _, _]) ee_L_thrown_714 kk_L_thrown_217 rfl rfl (Nat.le_of_ble_eq_true rfl) (by omega) (st_carU hf hW hIv (by omega) rfl hr0) (fun E h1 hx => hx.elim) (fun v h1 hq => ?_)
      obtain ⟨R1, I1, L1, z1, rfl, rfl, hW⟩ := hq
      rw [show (sv_t (ov_s (ow_m v (zz_ct 6)))).length = mk by rw [hU.1]; exact hmk] at hW
      have hU := hU.d (x := (nI 2, nI mk, -1))
      generalize ev : ow_d (ow_m v (zz_ct 6)) (nI 2, nI mk, -1) = v2 at hU hW
      have hd2 : ov_d v2 = (nI 2, nI mk, -1) := by rw [← ev]; rfl
      have ht : sv_t (ov_s v2) = sv_t (ov_s u) := by rw [hU.1]
      have h99 : zz_pos (nI 99) 0 (sv_t (ov_s v2)) = none := by rw [ht]; exact h99
      have hm1 : zz_pos (-1) 0 (sv_t (ov_s v2)) = none := by rw [ht]; exact hm1
      refine z_sipush ee_L_thrown_717 (v := -1003) (by decide) ?_
      refine z_icmp_ne ee_L_thrown_720 (tgt := 982) (by decide) (fun c_720 => ?_) (fun c_720 => ?_)
      -- at 720
      · exact absurd rfl c_720
      · refine z_aload_n ee_L_thrown_723 rfl ?_
        refine z_iconst ee_L_thrown_724 (v := nI 2) (by decide) ?_
        refine z_iload_n ee_L_thrown_725 rfl ?_
        -- at 726
        refine z_callS (As := [_, _, _]) ee_L_thrown_726 kk_L_thrown_328 rfl rfl (Nat.le_of_ble_eq_true rfl) (by omega) (sp_L_is hf hW (nI 2) (nI mk) (by decide) hd2) (fun E h1 hx => hx.elim) (fun v h1 hq => ?_)
        obtain ⟨R1, I1, L1, z1, rfl, rfl, hW⟩ := hq
        refine z_if_eq ee_L_thrown_729 (tgt := 982) (by decide) (fun c_729 => ?_) (fun c_729 => ?_)
        -- at 729
        · exact absurd c_729 (by decide)
        · refine z_aload_n ee_L_thrown_732 rfl ?_
          refine z_iload ee_L_thrown_733 rfl ?_
          -- at 735
          refine z_callX (As := [_, _]) ee_L_thrown_735 kk_L_thrown_258 rfl rfl (Nat.le_of_ble_eq_true rfl) (by omega) (sq_dampness hf hW (nI nr)) (fun E h1 hx => hx.elim) (fun v h1 hq => ?_)
          obtain ⟨R1, I1, L1, z1, rfl, rfl, hW⟩ := hq
          rw [show wk_dampness (ov_s v2) (nI nr) = -1001 by unfold wk_dampness; rw [if_neg (by rw [hU.1]; exact zz_hr_o (by omega) (by omega))]; rfl]
          refine z_sipush ee_L_thrown_738 (v := -1001) (by decide) ?_
          refine z_icmp_ne ee_L_thrown_741 (tgt := 982) (by decide) (fun c_741 => ?_) (fun c_741 => ?_)
          -- at 741
          · exact absurd rfl c_741
          · refine z_aload_n ee_L_thrown_744 rfl ?_
            refine z_iconst ee_L_thrown_745 (v := -1) (by decide) ?_
            -- at 746
            refine z_callX (As := [_, _]) ee_L_thrown_746 kk_L_thrown_260 rfl rfl (Nat.le_of_ble_eq_true rfl) (by omega) (sq_pagesIn hf hW (-1)) (fun E h1 hx => hx.elim) (fun v h1 hq => ?_)
            obtain ⟨R1, I1, L1, z1, rfl, rfl, hW⟩ := hq
            rw [show wk_pagesIn (ov_s v2) (-1) = -1001 by unfold wk_pagesIn; rw [if_neg (fun q => by have := q.1; rw [zi_m1] at this; omega)]; rfl]
            refine z_sipush ee_L_thrown_749 (v := -1001) (by decide) ?_
            refine z_icmp_ne ee_L_thrown_752 (tgt := 982) (by decide) (fun c_752 => ?_) (fun c_752 => ?_)
            -- at 752
            · exact absurd rfl c_752
            · refine z_aload_n ee_L_thrown_755 rfl ?_
              refine z_iload_n ee_L_thrown_756 rfl ?_
              -- at 757
              refine z_callX (As := [_, _]) ee_L_thrown_757 kk_L_thrown_262 rfl rfl (Nat.le_of_ble_eq_true rfl) (by omega) (sq_telegramAt hf hW (nI mk)) (fun E h1 hx => hx.elim) (fun v h1 hq => ?_)
              obtain ⟨R1, I1, L1, z1, rfl, rfl, hW⟩ := hq
              rw [show wk_telegramAt (ov_s v2) (nI mk) = -1001 by unfold wk_telegramAt; rw [if_neg (fun q => by have := q.2; rw [zi_n (by omega), ht, hmk] at this; omega)]; rfl]
              refine z_sipush ee_L_thrown_760 (v := -1001) (by decide) ?_
              refine z_icmp_ne ee_L_thrown_763 (tgt := 982) (by decide) (fun c_763 => ?_) (fun c_763 => ?_)
              -- at 763
              · exact absurd rfl c_763
              · refine z_aload_n ee_L_thrown_766 rfl ?_
                refine z_iconst ee_L_thrown_767 (v := -1) (by decide) ?_
                -- at 768
                refine z_callX (As := [_, _]) ee_L_thrown_768 kk_L_thrown_262 rfl rfl (Nat.le_of_ble_eq_true rfl) (by omega) (sq_telegramAt hf hW (-1)) (fun E h1 hx => hx.elim) (fun v h1 hq => ?_)
                obtain ⟨R1, I1, L1, z1, rfl, rfl, hW⟩ := hq
                rw [show wk_telegramAt (ov_s v2) (-1) = -1001 by unfold wk_telegramAt; rw [if_neg (fun q => by have := q.1; rw [zi_m1] at this; omega)]; rfl]
                refine z_sipush ee_L_thrown_771 (v := -1001) (by decide) ?_
                refine z_icmp_ne ee_L_thrown_774 (tgt := 982) (by decide) (fun c_774 => ?_) (fun c_774 => ?_)
                -- at 774
                · exact absurd rfl c_774
                · refine z_aload_n ee_L_thrown_777 rfl ?_
                  refine z_iload_n ee_L_thrown_778 rfl ?_
                  -- at 779
                  refine z_callX (As := [_, _]) ee_L_thrown_779 kk_L_thrown_264 rfl rfl (Nat.le_of_ble_eq_true rfl) (by omega) (sq_byPriority hf hW (nI mk)) (fun E h1 hx => hx.elim) (fun v h1 hq => ?_)
                  obtain ⟨R1, I1, L1, z1, rfl, rfl, hW⟩ := hq
                  rw [show wk_byPriority (ov_s v2) (nI mk) = -1001 by have := zk_byp (s := ov_s v2) (by rw [ht]; omega); rw [ht, hmk] at this; exact this]
                  refine z_sipush ee_L_thrown_782 (v := -1001) (by decide) ?_
                  refine z_icmp_ne ee_L_thrown_785 (tgt := 982) (by decide) (fun c_785 => ?_) (fun c_785 => ?_)
                  -- at 785
                  · exact absurd rfl c_785
                  · refine z_aload_n ee_L_thrown_788 rfl ?_
                    refine z_iconst ee_L_thrown_789 (v := -1) (by decide) ?_
                    -- at 790
                    refine z_callX (As := [_, _]) ee_L_thrown_790 kk_L_thrown_267 rfl rfl (Nat.le_of_ble_eq_true rfl) (by omega) (sq_byRot hf hW (-1)) (fun E h1 hx => hx.elim) (fun v h1 hq => ?_)
                    obtain ⟨R1, I1, L1, z1, rfl, rfl, hW⟩ := hq
                    rw [zk_byr (s := ov_s v2) (by rw [ht]; omega)]
                    refine z_sipush ee_L_thrown_793 (v := -1001) (by decide) ?_
                    refine z_icmp_ne ee_L_thrown_796 (tgt := 982) (by decide) (fun c_796 => ?_) (fun c_796 => ?_)
                    -- at 796
                    · exact absurd rfl c_796
                    · refine z_aload_n ee_L_thrown_799 rfl ?_
                      refine z_bipush ee_L_thrown_800 (v := nI 99) (by decide) ?_
                      -- at 802
                      refine z_callX (As := [_, _]) ee_L_thrown_802 kk_L_thrown_334 rfl rfl (Nat.le_of_ble_eq_true rfl) (by omega) (sq_rootOf hf hW (nI 99)) (fun E h1 hx => hx.elim) (fun v h1 hq => ?_)
                      obtain ⟨R1, I1, L1, z1, rfl, rfl, hW⟩ := hq
                      rw [show wk_rootOf (ov_s v2) (nI 99) = -1001 from sn_q h99 rfl]
                      refine z_sipush ee_L_thrown_805 (v := -1001) (by decide) ?_
                      refine z_icmp_ne ee_L_thrown_808 (tgt := 982) (by decide) (fun c_808 => ?_) (fun c_808 => ?_)
                      -- at 808
                      · exact absurd rfl c_808
                      · refine z_aload_n ee_L_thrown_811 rfl ?_
                        refine z_bipush ee_L_thrown_812 (v := nI 99) (by decide) ?_
                        -- at 814
                        refine z_callX (As := [_, _]) ee_L_thrown_814 kk_L_thrown_270 rfl rfl (Nat.le_of_ble_eq_true rfl) (by omega) (sq_checksumOf hf hW (nI 99)) (fun E h1 hx => hx.elim) (fun v h1 hq => ?_)
                        obtain ⟨R1, I1, L1, z1, rfl, rfl, hW⟩ := hq
                        rw [show wk_checksumOf (ov_s v2) (nI 99) = -1001 from sn_q h99 rfl]
                        refine z_sipush ee_L_thrown_817 (v := -1001) (by decide) ?_
                        refine z_icmp_ne ee_L_thrown_820 (tgt := 982) (by decide) (fun c_820 => ?_) (fun c_820 => ?_)
                        -- at 820
                        · exact absurd rfl c_820
                        · refine z_aload_n ee_L_thrown_823 rfl ?_
                          refine z_iconst ee_L_thrown_824 (v := -1) (by decide) ?_
                          -- at 825
                          refine z_callX (As := [_, _]) ee_L_thrown_825 kk_L_thrown_279 rfl rfl (Nat.le_of_ble_eq_true rfl) (by omega) (sq_codeLength hf hW (-1)) (fun E h1 hx => hx.elim) (fun v h1 hq => ?_)
                          obtain ⟨R1, I1, L1, z1, rfl, rfl, hW⟩ := hq
                          rw [show wk_codeLength (ov_s v2) (-1) = -1001 from sn_q hm1 rfl]
                          refine z_sipush ee_L_thrown_828 (v := -1001) (by decide) ?_
                          refine z_icmp_ne ee_L_thrown_831 (tgt := 982) (by decide) (fun c_831 => ?_) (fun c_831 => ?_)
                          -- at 831
                          · exact absurd rfl c_831
                          · refine z_aload_n ee_L_thrown_834 rfl ?_
                            refine z_bipush ee_L_thrown_835 (v := nI 99) (by decide) ?_
                            refine z_iconst ee_L_thrown_837 (v := nI 0) (by decide) ?_
                            -- at 838
                            refine z_callX (As := [_, _, _]) ee_L_thrown_838 kk_L_thrown_281 rfl rfl (Nat.le_of_ble_eq_true rfl) (by omega) (sq_codeChar hf hW (nI 99) (nI 0)) (fun E h1 hx => hx.elim) (fun v h1 hq => ?_)
                            obtain ⟨R1, I1, L1, z1, rfl, rfl, hW⟩ := hq
                            rw [show wk_codeChar (ov_s v2) (nI 99) (nI 0) = -1001 from sn_q h99 zfn1]
                            refine z_sipush ee_L_thrown_841 (v := -1001) (by decide) ?_
                            refine z_icmp_ne ee_L_thrown_844 (tgt := 982) (by decide) (fun c_844 => ?_) (fun c_844 => ?_)
                            -- at 844
                            · exact absurd rfl c_844
                            · refine z_aload_n ee_L_thrown_847 rfl ?_
                              refine z_bipush ee_L_thrown_848 (v := nI 99) (by decide) ?_
                              -- at 850
                              refine z_callX (As := [_, _]) ee_L_thrown_850 kk_L_thrown_277 rfl rfl (Nat.le_of_ble_eq_true rfl) (by omega) (sq_decodedLength hf hW (nI 99)) (fun E h1 hx => hx.elim) (fun v h1 hq => ?_)
                              obtain ⟨R1, I1, L1, z1, rfl, rfl, hW⟩ := hq
                              rw [show wk_decodedLength (ov_s v2) (nI 99) = -1001 from sn_q h99 rfl]
                              refine z_sipush ee_L_thrown_853 (v := -1001) (by decide) ?_
                              refine z_icmp_ne ee_L_thrown_856 (tgt := 982) (by decide) (fun c_856 => ?_) (fun c_856 => ?_)
                              -- at 856
                              · exact absurd rfl c_856
                              · refine z_aload_n ee_L_thrown_859 rfl ?_
                                refine z_bipush ee_L_thrown_860 (v := nI 99) (by decide) ?_
                                -- at 862
                                refine z_callX (As := [_, _]) ee_L_thrown_862 kk_L_thrown_340 rfl rfl (Nat.le_of_ble_eq_true rfl) (by omega) (st_unitsN hf hW h99) (fun E h1 hx => hx.elim) (fun v h1 hq => ?_)
                                obtain ⟨R1, I1, L1, z1, rfl, rfl, hW⟩ := hq
                                refine z_sipush ee_L_thrown_865 (v := -1001) (by decide) ?_
                                refine z_icmp_ne ee_L_thrown_868 (tgt := 982) (by decide) (fun c_868 => ?_) (fun c_868 => ?_)
                                -- at 868
                                · exact absurd rfl c_868
                                · refine z_aload_n ee_L_thrown_871 rfl ?_
                                  refine z_bipush ee_L_thrown_872 (v := nI 99) (by decide) ?_
                                  -- at 874
                                  refine z_callX (As := [_, _]) ee_L_thrown_874 kk_L_thrown_275 rfl rfl (Nat.le_of_ble_eq_true rfl) (by omega) (sq_isReadable hf hW (nI 99)) (fun E h1 hx => hx.elim) (fun v h1 hq => ?_)
                                  obtain ⟨R1, I1, L1, z1, rfl, rfl, hW⟩ := hq
                                  rw [show wk_isReadable (ov_s v2) (nI 99) = -1001 from sn_q h99 rfl]
                                  refine z_sipush ee_L_thrown_877 (v := -1001) (by decide) ?_
                                  refine z_icmp_ne ee_L_thrown_880 (tgt := 982) (by decide) (fun c_880 => ?_) (fun c_880 => ?_)
                                  -- at 880
                                  · exact absurd rfl c_880
                                  · refine z_aload_n ee_L_thrown_883 rfl ?_
                                    refine z_bipush ee_L_thrown_884 (v := nI 99) (by decide) ?_
                                    -- at 886
                                    refine z_callX (As := [_, _]) ee_L_thrown_886 kk_L_thrown_338 rfl rfl (Nat.le_of_ble_eq_true rfl) (by omega) (sq_pageCount hf hW (nI 99)) (fun E h1 hx => hx.elim) (fun v h1 hq => ?_)
                                    obtain ⟨R1, I1, L1, z1, rfl, rfl, hW⟩ := hq
                                    rw [show wk_pageCount (ov_s v2) (nI 99) = -1001 from sn_q h99 rfl]
                                    refine z_sipush ee_L_thrown_889 (v := -1001) (by decide) ?_
                                    refine z_icmp_ne ee_L_thrown_892 (tgt := 982) (by decide) (fun c_892 => ?_) (fun c_892 => ?_)
                                    -- at 892
                                    · exact absurd rfl c_892
                                    · refine z_aload_n ee_L_thrown_895 rfl ?_
                                      refine z_bipush ee_L_thrown_896 (v := nI 99) (by decide) ?_
                                      refine z_iconst ee_L_thrown_898 (v := nI 0) (by decide) ?_
                                      -- at 899
                                      refine z_callX (As := [_, _, _]) ee_L_thrown_899 kk_L_thrown_336 rfl rfl (Nat.le_of_ble_eq_true rfl) (by omega) (sq_rotOf hf hW (nI 99) (nI 0)) (fun E h1 hx => hx.elim) (fun v h1 hq => ?_)
                                      obtain ⟨R1, I1, L1, z1, rfl, rfl, hW⟩ := hq
                                      rw [show wk_rotOf (ov_s v2) (nI 99) (nI 0) = -1001 from sn_q h99 zfn1]
                                      refine z_sipush ee_L_thrown_902 (v := -1001) (by decide) ?_
                                      refine z_icmp_ne ee_L_thrown_905 (tgt := 982) (by decide) (fun c_905 => ?_) (fun c_905 => ?_)
                                      -- at 905
                                      · exact absurd rfl c_905
                                      · refine z_aload_n ee_L_thrown_908 rfl ?_
                                        refine z_bipush ee_L_thrown_909 (v := nI 99) (by decide) ?_
                                        -- at 911
                                        refine z_callX (As := [_, _]) ee_L_thrown_911 kk_L_thrown_272 rfl rfl (Nat.le_of_ble_eq_true rfl) (by omega) (sq_untilRotten hf hW (nI 99)) (fun E h1 hx => hx.elim) (fun v h1 hq => ?_)
                                        obtain ⟨R1, I1, L1, z1, rfl, rfl, hW⟩ := hq
                                        rw [show wk_untilRotten (ov_s v2) (nI 99) = -1001 from sn_q h99 rfl]
                                        refine z_sipush ee_L_thrown_914 (v := -1001) (by decide) ?_
                                        refine z_icmp_ne ee_L_thrown_917 (tgt := 982) (by decide) (fun c_917 => ?_) (fun c_917 => ?_)
                                        -- at 917
                                        · exact absurd rfl c_917
                                        · refine z_aload_n ee_L_thrown_920 rfl ?_
                                          refine z_bipush ee_L_thrown_921 (v := nI 99) (by decide) ?_
                                          -- at 923
                                          refine z_callX (As := [_, _]) ee_L_thrown_923 kk_L_thrown_284 rfl rfl (Nat.le_of_ble_eq_true rfl) (by omega) (st_writeN hf hW h99) (fun E h1 hx => hx.elim) (fun v h1 hq => ?_)
                                          obtain ⟨R1, I1, L1, z1, rfl, rfl, hW⟩ := hq
                                          have hll := hW.line
                                          refine z_sipush ee_L_thrown_926 (v := -1001) (by decide) ?_
                                          refine z_icmp_ne ee_L_thrown_929 (tgt := 982) (by decide) (fun c_929 => ?_) (fun c_929 => ?_)
                                          -- at 929
                                          · exact absurd rfl c_929
                                          · refine z_aload_n ee_L_thrown_932 rfl ?_
                                            refine z_iconst ee_L_thrown_933 (v := -1) (by decide) ?_
                                            -- at 934
                                            refine z_callX (As := [_, _]) ee_L_thrown_934 kk_L_thrown_178 rfl rfl (Nat.le_of_ble_eq_true rfl) (by omega) (st_line hf hW (i := -1) (by rw [zi_m1]; omega)) (fun E h1 hx => hx.elim) (fun v h1 hq => ?_)
                                            obtain ⟨R1, I1, L1, z1, rfl, rfl, hW⟩ := hq
                                            refine z_sipush ee_L_thrown_937 (v := -1001) (by decide) ?_
                                            refine z_icmp_ne ee_L_thrown_940 (tgt := 982) (by decide) (fun c_940 => ?_) (fun c_940 => ?_)
                                            -- at 940
                                            · exact absurd rfl c_940
                                            · refine z_aload_n ee_L_thrown_943 rfl ?_
                                              refine z_sipush ee_L_thrown_944 (v := nI 900) (by decide) ?_
                                              -- at 947
                                              refine z_callX (As := [_, _]) ee_L_thrown_947 kk_L_thrown_178 rfl rfl (Nat.le_of_ble_eq_true rfl) (by omega) (st_line hf hW (i := nI 900) (by rw [zi_n (by omega)]; omega)) (fun E h1 hx => hx.elim) (fun v h1 hq => ?_)
                                              obtain ⟨R1, I1, L1, z1, rfl, rfl, hW⟩ := hq
                                              refine z_sipush ee_L_thrown_950 (v := -1001) (by decide) ?_
                                              refine z_icmp_ne ee_L_thrown_953 (tgt := 982) (by decide) (fun c_953 => ?_) (fun c_953 => ?_)
                                              -- at 953
                                              · exact absurd rfl c_953
                                              · refine z_aload_n ee_L_thrown_956 rfl ?_
                                                refine z_sipush ee_L_thrown_957 (v := nI 200) (by decide) ?_
                                                -- at 960
                                                refine z_callX (As := [_, _]) ee_L_thrown_960 kk_L_thrown_170 rfl rfl (Nat.le_of_ble_eq_true rfl) (by omega) (st_typeA hf hW) (fun E h1 hx => hx.elim) (fun v h1 hq => ?_)
                                                obtain ⟨R1, I1, L1, z1, rfl, rfl, hW⟩ := hq
                                                refine z_sipush ee_L_thrown_963 (v := -1001) (by decide) ?_
                                                refine z_icmp_ne ee_L_thrown_966 (tgt := 982) (by decide) (fun c_966 => ?_) (fun c_966 => ?_)
                                                -- at 966
                                                · exact absurd rfl c_966
                                                · refine z_aload_n ee_L_thrown_969 rfl ?_
                                                  refine z_iconst ee_L_thrown_970 (v := nI 2) (by decide) ?_
                                                  refine z_iload_n ee_L_thrown_971 rfl ?_
                                                  -- at 972
                                                  refine z_callS (As := [_, _, _]) ee_L_thrown_972 kk_L_thrown_328 rfl rfl (Nat.le_of_ble_eq_true rfl) (by omega) (sp_L_is hf hW (nI 2) (nI mk) (by decide) hd2) (fun E h1 hx => hx.elim) (fun v h1 hq => ?_)
                                                  obtain ⟨R1, I1, L1, z1, rfl, rfl, hW⟩ := hq
                                                  refine z_if_eq ee_L_thrown_975 (tgt := 982) (by decide) (fun c_975 => ?_) (fun c_975 => ?_)
                                                  -- at 975
                                                  · exact absurd c_975 (by decide)
                                                  · refine z_iconst ee_L_thrown_978 (v := nI 1) (by decide) ?_
                                                    refine z_goto ee_L_thrown_979 (tgt := 983) (by decide) ?_
                                                    refine z_istore ee_L_thrown_983 (by decide) ?_
                                                    -- at 985
                                                    exact z_wid (by omega) (by omega) (zk_th4 hf hEv hI hnr hmk hmk0 hmk7 hnn hU hW _ _ (Nat.le_refl _) (Nat.le_refl _) _ (by repeat (first | exact trivial | refine ⟨rfl, ?_⟩)))
/-- the law's thrown -/
theorem sp_L_thrown (hf : l.stackTraces = false) (hEv : zz_Ev g K R0 I0 q n) (hM : zk_W u) (hnn : zk_nn (ov_s u)) (hW : zz_Lw g K B z0 R0 I0 L0 u R I L z) : zz_S g l mm_L_thrown 48000 290000 [.ref B] (K, R, I, L, z) (zk_F g K B z0 R0 I0 L0 u) zz_no := by
  obtain ⟨mk, nr, ⟨hI, hn0, hmk, hnr, hne, hb0⟩, hmk0, hmk7, hnr2, hm0⟩ := hM
  have h24 := hI.2.1
  have hk := hW.1.1.1.1
  have hU : zk_U u u := ⟨rfl, rfl, rfl, rfl, hb0, hm0⟩
  obtain ⟨s6, b6⟩ := hEv.bs hW (k := 6) (by omega)
  have h99 := zk_none hI (n := nI 99) (by rw [zi_n (by omega)]; omega) (by omega)
  have hm1 := zk_none hI (n := -1) (by rw [zi_m1]; omega) (by omega)
  refine z_start hf rfl (by decide +kernel) (Nat.le_of_ble_eq_true rfl) ?_
  dsimp only [zz_lv0]
  refine z_aload_n ee_L_thrown_0 rfl ?_
  -- at 1
  refine z_callS (As := [_]) ee_L_thrown_1 kk_L_thrown_321 rfl rfl (Nat.le_of_ble_eq_true rfl) (by omega) (sp_L_asks hf hW hnn) (fun E h1 hx => hx.elim) (fun v h1 hq => ?_)
  obtain ⟨xs, R1, I1, L1, z1, rfl, rfl, hW⟩ := hq
  have hU := hU.l (x := xs)
  have hP := hU
  generalize ow_l u xs = v at hU hW
  clear hP
  refine z_lstore_m ee_L_thrown_4 (j := 1) rfl (by decide) ?_
  refine z_aload_n ee_L_thrown_5 rfl ?_
  -- at 6
  refine z_callV (As := []) ee_L_thrown_6 kk_L_thrown_220 rfl (by assumption) rfl rfl (Nat.le_of_ble_eq_true rfl) (by omega) (sx_P_telegramCount hf hW) (fun E h1 hx => hx.elim) (fun v h1 hq => ?_)
  obtain ⟨R1, I1, L1, z1, rfl, rfl, hW⟩ := hq
  rw [show (sv_t (ov_s v)).length = mk by rw [hU.1]; exact hmk]
  refine z_istore_m ee_L_thrown_9 (j := 3) rfl (by decide) ?_
  refine z_aload_n ee_L_thrown_10 rfl ?_
  -- at 11
  refine z_callV (As := []) ee_L_thrown_11 kk_L_thrown_246 rfl (by assumption) rfl rfl (Nat.le_of_ble_eq_true rfl) (by omega) (sx_P_rootCount hf hW) (fun E h1 hx => hx.elim) (fun v h1 hq => ?_)
  obtain ⟨R1, I1, L1, z1, rfl, rfl, hW⟩ := hq
  rw [show (sv_r (ov_s v)).length = nr by rw [hU.1]; exact hnr]
  refine z_istore ee_L_thrown_14 (by decide) ?_
  refine z_aload_n ee_L_thrown_16 rfl ?_
  -- at 17
  refine z_callV (As := []) ee_L_thrown_17 kk_L_thrown_325 rfl (by assumption) rfl rfl (Nat.le_of_ble_eq_true rfl) (by omega) (sx_P_undoCount hf hW) (fun E h1 hx => hx.elim) (fun v h1 hq => ?_)
  obtain ⟨R1, I1, L1, z1, rfl, rfl, hW⟩ := hq
  rw [show (ov_h v).length = (ov_h u).length by rw [hU.2.1]]
  have hIv : zk_I mk (ov_s v) := by rw [hU.1]; exact hI
  have rest : ∀ (v : zz_OV) R I L z, zk_U u v → zz_Lw g K B z0 R0 I0 L0 v R I L z → Zz g l mm_L_thrown 48000 290000 (zk_F g K B z0 R0 I0 L0 u) zz_no 23410 140500 71 [some (.ref B), some (.long (zk_ask (ov_s u))), none, some (.int (nI mk)), some (.int (nI nr)), some (.int (nI (ov_h u).length))] [] (K, R, I, L, z) := by
    intro v R I L z hU hW
    have hIv : zk_I mk (ov_s v) := by rw [hU.1]; exact hI
    have hrn : ¬ zz_hr (ov_s v) (nI nr) := by rw [hU.1]; exact zz_hr_o (by omega) (by omega)
    refine z_aload_n ee_L_thrown_71 rfl ?_
    refine z_iload ee_L_thrown_72 rfl ?_
    -- at 74
    refine z_callX (As := [_, _]) ee_L_thrown_74 kk_L_thrown_287 rfl rfl (Nat.le_of_ble_eq_true rfl) (by omega) (st_dryI hf hW hIv hrn) (fun E h1 hx => hx.elim) (fun v h1 hq => ?_)
    obtain ⟨R1, I1, L1, z1, rfl, rfl, hW⟩ := hq
    refine z_sipush ee_L_thrown_77 (v := -1001) (by decide) ?_
    refine z_icmp_ne ee_L_thrown_80 (tgt := 243) (by decide) (fun c_80 => ?_) (fun c_80 => ?_)
    -- at 80
    · exact absurd rfl c_80
    · refine z_aload_n ee_L_thrown_83 rfl ?_
      -- at 84
      refine z_ldcS ee_L_thrown_84 ws_L_thrown_182 ?_
      refine z_callS (As := [_, _]) ee_L_thrown_86 kk_L_thrown_213 rfl rfl (Nat.le_of_ble_eq_true rfl) (by omega) (sp_L_types hf hW s6 b6 (fun x hx => absurd hx List.not_mem_nil) (by decide)) (fun E h1 hx => hx.elim) (fun v h1 hq => ?_)
      obtain ⟨R1, I1, L1, z1, rfl, rfl, hW⟩ := hq
      have hU : zk_U u (ow_m v (zz_ct 6)) := hU.m
      generalize ow_m v (zz_ct 6) = v at hU hW
      have hIv : zk_I mk (ov_s v) := by rw [hU.1]; exact hI
      have hx : zz_ax (ov_m v) := by rw [hU.2.2.2.2.2]; exact fun x hx => absurd hx List.not_mem_nil
      have hr0 : zz_hr (ov_s v) (nI 0) := by rw [hU.1]; exact zz_hr_n (by omega) h24
      have hrn : ¬ zz_hr (ov_s v) (nI nr) := by rw [hU.1]; exact zz_hr_o (by omega) (by omega)
      refine z_if_eq ee_L_thrown_89 (tgt := 243) (by decide) (fun c_89 => ?_) (fun c_89 => ?_)
      -- at 89
      · exact absurd c_89 (by decide)
      · refine z_aload_n ee_L_thrown_92 rfl ?_
        refine z_iload ee_L_thrown_93 rfl ?_
        refine z_bipush ee_L_thrown_95 (v := nI 99) (by decide) ?_
        -- at 97
        refine z_callX (As := [_, _, _]) ee_L_thrown_97 kk_L_thrown_217 rfl rfl (Nat.le_of_ble_eq_true rfl) (by omega) (st_carI hf hW hIv (by omega) hx _ hrn) (fun E h1 hx => hx.elim) (fun v h1 hq => ?_)
        obtain ⟨R1, I1, L1, z1, rfl, rfl, hW⟩ := hq
        refine z_sipush ee_L_thrown_100 (v := -1001) (by decide) ?_
        refine z_icmp_ne ee_L_thrown_103 (tgt := 243) (by decide) (fun c_103 => ?_) (fun c_103 => ?_)
        -- at 103
        · exact absurd rfl c_103
        · refine z_aload_n ee_L_thrown_106 rfl ?_
          refine z_iconst ee_L_thrown_107 (v := nI 0) (by decide) ?_
          refine z_bipush ee_L_thrown_108 (v := nI 10) (by decide) ?_
          -- at 110
          refine z_callX (As := [_, _, _]) ee_L_thrown_110 kk_L_thrown_217 rfl rfl (Nat.le_of_ble_eq_true rfl) (by omega) (st_carA hf hW hIv (by omega) hx hr0 (by decide)) (fun E h1 hx => hx.elim) (fun v h1 hq => ?_)
          obtain ⟨R1, I1, L1, z1, rfl, rfl, hW⟩ := hq
          refine z_sipush ee_L_thrown_113 (v := -1002) (by decide) ?_
          refine z_icmp_ne ee_L_thrown_116 (tgt := 243) (by decide) (fun c_116 => ?_) (fun c_116 => ?_)
          -- at 116
          · exact absurd rfl c_116
          · refine z_aload_n ee_L_thrown_119 rfl ?_
            refine z_iconst ee_L_thrown_120 (v := nI 0) (by decide) ?_
            refine z_iconst ee_L_thrown_121 (v := -1) (by decide) ?_
            -- at 122
            refine z_callX (As := [_, _, _]) ee_L_thrown_122 kk_L_thrown_217 rfl rfl (Nat.le_of_ble_eq_true rfl) (by omega) (st_carA hf hW hIv (by omega) hx hr0 (by decide)) (fun E h1 hx => hx.elim) (fun v h1 hq => ?_)
            obtain ⟨R1, I1, L1, z1, rfl, rfl, hW⟩ := hq
            refine z_sipush ee_L_thrown_125 (v := -1002) (by decide) ?_
            refine z_icmp_ne ee_L_thrown_128 (tgt := 243) (by decide) (fun c_128 => ?_) (fun c_128 => ?_)
            -- at 128
            · exact absurd rfl c_128
            · refine z_aload_n ee_L_thrown_131 rfl ?_
              refine z_iconst ee_L_thrown_132 (v := nI 0) (by decide) ?_
              refine z_iconst ee_L_thrown_133 (v := nI 5) (by decide) ?_
              -- at 134
              refine z_callX (As := [_, _, _]) ee_L_thrown_134 kk_L_thrown_217 rfl rfl (Nat.le_of_ble_eq_true rfl) (by omega) (st_carU hf hW hIv (by omega) hU.2.2.2.2.2 hr0) (fun E h1 hx => hx.elim) (fun v h1 hq => ?_)
              obtain ⟨R1, I1, L1, z1, rfl, rfl, hW⟩ := hq
              rw [show (sv_t (ov_s v)).length = mk by rw [hU.1]; exact hmk] at hW
              have hU := hU.d (x := (nI 2, nI mk, -1))
              generalize ev : ow_d v (nI 2, nI mk, -1) = v2 at hU hW
              have hd2 : ov_d v2 = (nI 2, nI mk, -1) := by rw [← ev]; rfl
              have hIv : zk_I mk (ov_s v2) := by rw [hU.1]; exact hI
              have ht : sv_t (ov_s v2) = sv_t (ov_s u) := by rw [hU.1]
              have h99 : zz_pos (nI 99) 0 (sv_t (ov_s v2)) = none := by rw [ht]; exact h99
              have hm1 : zz_pos (-1) 0 (sv_t (ov_s v2)) = none := by rw [ht]; exact hm1
              refine z_sipush ee_L_thrown_137 (v := -1003) (by decide) ?_
              refine z_icmp_ne ee_L_thrown_140 (tgt := 243) (by decide) (fun c_140 => ?_) (fun c_140 => ?_)
              -- at 140
              · exact absurd rfl c_140
              · refine z_aload_n ee_L_thrown_143 rfl ?_
                refine z_iconst ee_L_thrown_144 (v := nI 2) (by decide) ?_
                refine z_iload_n ee_L_thrown_145 rfl ?_
                -- at 146
                refine z_callS (As := [_, _, _]) ee_L_thrown_146 kk_L_thrown_328 rfl rfl (Nat.le_of_ble_eq_true rfl) (by omega) (sp_L_is hf hW (nI 2) (nI mk) (by decide) hd2) (fun E h1 hx => hx.elim) (fun v h1 hq => ?_)
                obtain ⟨R1, I1, L1, z1, rfl, rfl, hW⟩ := hq
                refine z_if_eq ee_L_thrown_149 (tgt := 243) (by decide) (fun c_149 => ?_) (fun c_149 => ?_)
                -- at 149
                · exact absurd c_149 (by decide)
                · refine z_aload_n ee_L_thrown_152 rfl ?_
                  refine z_bipush ee_L_thrown_153 (v := nI 99) (by decide) ?_
                  refine z_bipush ee_L_thrown_155 (v := nI 99) (by decide) ?_
                  refine z_iconst ee_L_thrown_157 (v := nI 5) (by decide) ?_
                  -- at 158
                  refine z_callX (As := [_, _, _, _]) ee_L_thrown_158 kk_L_thrown_297 rfl rfl (Nat.le_of_ble_eq_true rfl) (by omega) (st_dmgN hf hW hIv (zz_ch_n (by omega)) h99) (fun E h1 hx => hx.elim) (fun v h1 hq => ?_)
                  obtain ⟨R1, I1, L1, z1, rfl, rfl, hW⟩ := hq
                  refine z_sipush ee_L_thrown_161 (v := -1001) (by decide) ?_
                  refine z_icmp_ne ee_L_thrown_164 (tgt := 243) (by decide) (fun c_164 => ?_) (fun c_164 => ?_)
                  -- at 164
                  · exact absurd rfl c_164
                  · refine z_aload_n ee_L_thrown_167 rfl ?_
                    refine z_bipush ee_L_thrown_168 (v := nI 99) (by decide) ?_
                    -- at 170
                    refine z_callX (As := [_, _]) ee_L_thrown_170 kk_L_thrown_300 rfl rfl (Nat.le_of_ble_eq_true rfl) (by omega) (st_anewN hf hW hIv h99) (fun E h1 hx => hx.elim) (fun v h1 hq => ?_)
                    obtain ⟨R1, I1, L1, z1, rfl, rfl, hW⟩ := hq
                    refine z_sipush ee_L_thrown_173 (v := -1001) (by decide) ?_
                    refine z_icmp_ne ee_L_thrown_176 (tgt := 243) (by decide) (fun c_176 => ?_) (fun c_176 => ?_)
                    -- at 176
                    · exact absurd rfl c_176
                    · refine z_aload_n ee_L_thrown_179 rfl ?_
                      refine z_bipush ee_L_thrown_180 (v := nI 99) (by decide) ?_
                      refine z_bipush ee_L_thrown_182 (v := nI 99) (by decide) ?_
                      -- at 184
                      refine z_callX (As := [_, _, _]) ee_L_thrown_184 kk_L_thrown_302 rfl rfl (Nat.le_of_ble_eq_true rfl) (by omega) (st_moveN hf hW hIv h99) (fun E h1 hx => hx.elim) (fun v h1 hq => ?_)
                      obtain ⟨R1, I1, L1, z1, rfl, rfl, hW⟩ := hq
                      refine z_sipush ee_L_thrown_187 (v := -1001) (by decide) ?_
                      refine z_icmp_ne ee_L_thrown_190 (tgt := 243) (by decide) (fun c_190 => ?_) (fun c_190 => ?_)
                      -- at 190
                      · exact absurd rfl c_190
                      · refine z_aload_n ee_L_thrown_193 rfl ?_
                        refine z_iconst ee_L_thrown_194 (v := -1) (by decide) ?_
                        -- at 195
                        refine z_callX (As := [_, _]) ee_L_thrown_195 kk_L_thrown_304 rfl rfl (Nat.le_of_ble_eq_true rfl) (by omega) (st_dropN hf hW hIv (by omega) hm1) (fun E h1 hx => hx.elim) (fun v h1 hq => ?_)
                        obtain ⟨R1, I1, L1, z1, rfl, rfl, hW⟩ := hq
                        refine z_sipush ee_L_thrown_198 (v := -1001) (by decide) ?_
                        refine z_icmp_ne ee_L_thrown_201 (tgt := 243) (by decide) (fun c_201 => ?_) (fun c_201 => ?_)
                        -- at 201
                        · exact absurd rfl c_201
                        · refine z_aload_n ee_L_thrown_204 rfl ?_
                          refine z_bipush ee_L_thrown_205 (v := nI 99) (by decide) ?_
                          -- at 207
                          refine z_callX (As := [_, _]) ee_L_thrown_207 kk_L_thrown_332 rfl rfl (Nat.le_of_ble_eq_true rfl) (by omega) (st_readN hf hW h99) (fun E h1 hx => hx.elim) (fun v h1 hq => ?_)
                          obtain ⟨R1, I1, L1, z1, rfl, rfl, hW⟩ := hq
                          refine z_sipush ee_L_thrown_210 (v := -1001) (by decide) ?_
                          refine z_icmp_ne ee_L_thrown_213 (tgt := 243) (by decide) (fun c_213 => ?_) (fun c_213 => ?_)
                          -- at 213
                          · exact absurd rfl c_213
                          · refine z_aload_n ee_L_thrown_216 rfl ?_
                            refine z_iconst ee_L_thrown_217 (v := nI 0) (by decide) ?_
                            -- at 218
                            refine z_callX (As := [_, _]) ee_L_thrown_218 kk_L_thrown_223 rfl rfl (Nat.le_of_ble_eq_true rfl) (by omega) (st_ageA hf hW hIv (by omega) (by decide)) (fun E h1 hx => hx.elim) (fun v h1 hq => ?_)
                            obtain ⟨R1, I1, L1, z1, rfl, rfl, hW⟩ := hq
                            refine z_sipush ee_L_thrown_221 (v := -1001) (by decide) ?_
                            refine z_icmp_ne ee_L_thrown_224 (tgt := 243) (by decide) (fun c_224 => ?_) (fun c_224 => ?_)
                            -- at 224
                            · exact absurd rfl c_224
                            · refine z_aload_n ee_L_thrown_227 rfl ?_
                              refine z_bipush ee_L_thrown_228 (v := nI 21) (by decide) ?_
                              -- at 230
                              refine z_callX (As := [_, _]) ee_L_thrown_230 kk_L_thrown_223 rfl rfl (Nat.le_of_ble_eq_true rfl) (by omega) (st_ageA hf hW hIv (by omega) (by decide)) (fun E h1 hx => hx.elim) (fun v h1 hq => ?_)
                              obtain ⟨R1, I1, L1, z1, rfl, rfl, hW⟩ := hq
                              refine z_sipush ee_L_thrown_233 (v := -1001) (by decide) ?_
                              refine z_icmp_ne ee_L_thrown_236 (tgt := 243) (by decide) (fun c_236 => ?_) (fun c_236 => ?_)
                              -- at 236
                              · exact absurd rfl c_236
                              · refine z_iconst ee_L_thrown_239 (v := nI 1) (by decide) ?_
                                refine z_goto ee_L_thrown_240 (tgt := 244) (by decide) ?_
                                refine z_istore ee_L_thrown_244 (by decide) ?_
                                refine z_iconst ee_L_thrown_246 (v := nI 0) (by decide) ?_
                                refine z_istore ee_L_thrown_247 (by decide) ?_
                                -- at 249
                                refine z_lvk (z_wid (ce' := 23500 + 5 * 0) (sl' := 141040 + 30 * 0) (by omega) (by omega) (zk_thA hf hI hnr 23500 141040 (by omega) ?_ nr 0 v2 _ _ _ _ rfl hU hW)) (by repeat (first | exact trivial | refine ⟨rfl, ?_⟩))
                                intro v R I L z lv hlv hU hW
                                refine z_lvk ?_ hlv
                                refine z_iconst ee_L_thrown_304 (v := nI 0) (by decide) ?_
                                refine z_istore ee_L_thrown_305 (by decide) ?_
                                -- at 307
                                refine z_lvk (z_wid (ce' := 23520 + 70 * 0) (sl' := 141160 + 420 * 0) (by omega) (by omega) (zk_thB hf hI hnr hmk hmk7 hne 23520 141160 (by omega) ?_ mk 0 v _ _ _ _ rfl hU hW)) (by repeat (first | exact trivial | refine ⟨rfl, ?_⟩))
                                intro v R I L z lv hlv hU hW
                                exact zk_th3 hf hEv hI hnr hnr2 hmk hmk0 hmk7 hnn hU hW _ _ (by omega) (by omega) lv hlv
  refine z_istore ee_L_thrown_20 (by decide) ?_
  refine z_aload_n ee_L_thrown_22 rfl ?_
  refine z_bipush ee_L_thrown_23 (v := nI 6) (by decide) ?_
  -- at 25
  refine z_callX (As := [_, _]) ee_L_thrown_25 kk_L_thrown_207 rfl rfl (Nat.le_of_ble_eq_true rfl) (by omega) (st_add hf hW hIv (by decide)) (fun E h1 hx => hx.elim) (fun v h1 hq => ?_)
  obtain ⟨R1, I1, L1, z1, rfl, rfl, hW⟩ := hq
  refine z_sipush ee_L_thrown_28 (v := -1001) (by decide) ?_
  refine z_icmp_ne ee_L_thrown_31 (tgt := 243) (by decide) (fun c_31 => ?_) (fun c_31 => ?_)
  -- at 31
  · exact absurd rfl c_31
  · refine z_aload_n ee_L_thrown_34 rfl ?_
    refine z_iconst ee_L_thrown_35 (v := -1) (by decide) ?_
    -- at 36
    refine z_callX (As := [_, _]) ee_L_thrown_36 kk_L_thrown_207 rfl rfl (Nat.le_of_ble_eq_true rfl) (by omega) (st_add hf hW hIv (by decide)) (fun E h1 hx => hx.elim) (fun v h1 hq => ?_)
    obtain ⟨R1, I1, L1, z1, rfl, rfl, hW⟩ := hq
    refine z_sipush ee_L_thrown_39 (v := -1001) (by decide) ?_
    refine z_icmp_ne ee_L_thrown_42 (tgt := 243) (by decide) (fun c_42 => ?_) (fun c_42 => ?_)
    -- at 42
    · exact absurd rfl c_42
    · refine z_iload ee_L_thrown_45 rfl ?_
      refine z_iconst ee_L_thrown_47 (v := nI 4) (by decide) ?_
      refine z_icmp_lt ee_L_thrown_48 (tgt := 71) (by decide) (fun c_48 => ?_) (fun c_48 => ?_)
      -- at 48
      · exact z_wid (by omega) (by omega) (rest v _ _ _ _ hU hW)
      · simp (disch := omega) only [zi_lt, zi_le, zi_eq, zi_n, zi_0, zi_m1] at c_48
        refine z_aload_n ee_L_thrown_51 rfl ?_
        refine z_iconst ee_L_thrown_52 (v := nI 0) (by decide) ?_
        -- at 53
        refine z_callX (As := [_, _]) ee_L_thrown_53 kk_L_thrown_207 rfl rfl (Nat.le_of_ble_eq_true rfl) (by omega) (st_addU hf hW hIv (by rw [hU.1]; omega)) (fun E h1 hx => hx.elim) (fun v h1 hq => ?_)
        obtain ⟨R1, I1, L1, z1, rfl, rfl, hW⟩ := hq
        refine z_sipush ee_L_thrown_56 (v := -1002) (by decide) ?_
        refine z_icmp_ne ee_L_thrown_59 (tgt := 243) (by decide) (fun c_59 => ?_) (fun c_59 => ?_)
        -- at 59
        · exact absurd rfl c_59
        · refine z_aload_n ee_L_thrown_62 rfl ?_
          refine z_iconst ee_L_thrown_63 (v := nI 1) (by decide) ?_
          refine z_iconst ee_L_thrown_64 (v := nI 4) (by decide) ?_
          -- at 65
          refine z_callS (As := [_, _, _]) ee_L_thrown_65 kk_L_thrown_328 rfl rfl (Nat.le_of_ble_eq_true rfl) (by omega) (sp_L_is hf hW (nI 1) (nI 4) (by decide) rfl) (fun E h1 hx => hx.elim) (fun v h1 hq => ?_)
          obtain ⟨R1, I1, L1, z1, rfl, rfl, hW⟩ := hq
          refine z_if_eq ee_L_thrown_68 (tgt := 243) (by decide) (fun c_68 => ?_) (fun c_68 => ?_)
          -- at 68
          · exact absurd c_68 (by decide)
          · exact z_wid (by omega) (by omega) (rest _ _ _ _ _ hU.d hW)
end Thr4
