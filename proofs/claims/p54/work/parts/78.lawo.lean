/-! THE LAW: first object from its start; the second object -/
section LawO
variable {g : zz_G} {l : Launch} {K : Nat → Nat × Nat} {R R0 : Nat → Nat → Option Nat} {I I0 : Nat → Nat → Int32} {L L0 : Nat → Nat → Int64} {z z0 B q n : Nat} {v w : zz_OV} {Q : Option Value → zz_H → Prop} {mc ms : Nat}
theorem zk_e1 (hf : l.stackTraces = false) (hEv : zz_Ev g K R0 I0 q n) (ce sl : Nat) (hm : ce + 600 ≤ mc ∧ sl + 3600 ≤ ms)
    (kk : ∀ v R I L z (lv : List (Option Value)), zz_le [some (.ref q)] lv → zz_Lw g K B z0 R0 I0 L0 v R I L z → Zz g l mm_law mc ms Q zz_no (ce + 600) (sl + 3600) 536 lv [] (K, R, I, L, z)) (hW : zz_Lw g K B z0 R0 I0 L0 ve0 R I L z) :
    Zz g l mm_law mc ms Q zz_no ce sl 8 [some (.ref q), some (.ref B)] [] (K, R, I, L, z) := by
  have hk := hW.1.1.1.1
  refine z_aload_n ee_law_8 rfl ?_
  -- at 9
  refine z_callX (As := [_]) ee_law_9 kk_law_354 rfl rfl (Nat.le_of_ble_eq_true rfl) (by omega) (sx_undo hf hW _ te1 (-1001) rfl (fun E h => by cases h; rfl)) (fun E h1 hx => hx.elim) (fun v h1 hq => ?_)
  obtain ⟨R1, I1, L1, z1, rfl, rfl, hW⟩ := hq
  refine z_sipush ee_law_12 (v := -1001) (by decide) ?_
  refine z_icmp_ne ee_law_15 (tgt := 53) (by decide) (fun c_15 => ?_) (fun c_15 => ?_)
  -- at 15
  · exact absurd rfl c_15
  · refine z_aload_n ee_law_18 rfl ?_
    -- at 19
    refine z_callX (As := [_]) ee_law_19 kk_law_356 rfl rfl (Nat.le_of_ble_eq_true rfl) (by omega) (sx_restore hf hW _ te2 (-1001) rfl (fun E h => by cases h; rfl)) (fun E h1 hx => hx.elim) (fun v h1 hq => ?_)
    obtain ⟨R1, I1, L1, z1, rfl, rfl, hW⟩ := hq
    refine z_sipush ee_law_22 (v := -1001) (by decide) ?_
    refine z_icmp_ne ee_law_25 (tgt := 53) (by decide) (fun c_25 => ?_) (fun c_25 => ?_)
    -- at 25
    · exact absurd rfl c_25
    · refine z_aload_n ee_law_28 rfl ?_
      -- at 29
      refine z_callV (As := []) ee_law_29 kk_law_359 rfl (by assumption) rfl rfl (Nat.le_of_ble_eq_true rfl) (by omega) (sx_P_saveSnapshot hf hW) (fun E h1 hx => hx.elim) (fun v h1 hq => ?_)
      obtain ⟨R1, I1, L1, z1, rfl, rfl, hW⟩ := hq
      have hW : zz_Lw g K B z0 R0 I0 L0 (ow_p ve0 (ov_s ve0)) R1 I1 L1 z1 := hW
      rw [te3] at hW
      refine z_if_ne ee_law_32 (tgt := 53) (by decide) (fun c_32 => ?_) (fun c_32 => ?_)
      -- at 32
      · exact absurd rfl c_32
      · refine z_aload_n ee_law_35 rfl ?_
        refine z_bipush ee_law_36 (v := nI 20) (by decide) ?_
        -- at 38
        refine z_callX (As := [_, _]) ee_law_38 kk_law_223 rfl rfl (Nat.le_of_ble_eq_true rfl) (by omega) (sx_age hf hW (nI 20) (rs_okb te4_r) _ te4 _ rfl (fun E h => by cases h)) (fun E h1 hx => hx.elim) (fun v h1 hq => ?_)
        obtain ⟨R1, I1, L1, z1, rfl, rfl, hW⟩ := hq
        have hW : zz_Lw g K B z0 R0 I0 L0 ve2 R1 I1 L1 z1 := hW
        refine z_if_ne ee_law_41 (tgt := 53) (by decide) (fun c_41 => ?_) (fun c_41 => ?_)
        -- at 41
        · exact absurd rfl c_41
        · refine z_aload_n ee_law_44 rfl ?_
          -- at 45
          refine z_callV (As := []) ee_law_45 kk_law_249 rfl (by assumption) rfl rfl (Nat.le_of_ble_eq_true rfl) (by omega) (sx_P_day hf hW) (fun E h1 hx => hx.elim) (fun v h1 hq => ?_)
          obtain ⟨R1, I1, L1, z1, rfl, rfl, hW⟩ := hq
          rw [te_day]
          refine z_bipush ee_law_48 (v := nI 20) (by decide) ?_
          refine z_icmp_eq ee_law_50 (tgt := 55) (by decide) (fun c_50 => ?_) (fun c_50 => ?_)
          -- at 50
          · refine z_iconst ee_law_55 (v := nI 0) (by decide) ?_
            refine z_istore_m ee_law_56 (j := 2) rfl (by decide) ?_
            -- at 57
            refine z_lvk (z_wid (ce' := (ce + 3) + 0) (sl' := (sl + 18) + 6 * 0) (by omega) (by omega) (zk_feed60 hf (q := q) (ce + 3) (sl + 18) (by omega) ?_ 60 0 _ _ _ _ rfl (show zz_Lw g K B z0 R0 I0 L0 (ow_b ve2 ((List.range 0).map fun i => nI (65 + i))) _ _ _ _ from hW))) (by repeat (first | exact trivial | refine ⟨rfl, ?_⟩))
            intro R I L z lv hlv hW
            refine z_lvk ?_ hlv
            refine z_aload_n ee_law_86 rfl ?_
            refine z_bipush ee_law_87 (v := nI 100) (by decide) ?_
            -- at 89
            refine z_callX (As := [_, _]) ee_law_89 kk_law_159 rfl rfl (Nat.le_of_ble_eq_true rfl) (by omega) (sx_feed hf hW (nI 100) (zz_ch_n (by omega)) _ te6 (-1001) rfl (fun E h => by cases h; rfl)) (fun E h1 hx => hx.elim) (fun v h1 hq => ?_)
            obtain ⟨R1, I1, L1, z1, rfl, rfl, hW⟩ := hq
            refine z_sipush ee_law_92 (v := -1001) (by decide) ?_
            refine z_icmp_ne ee_law_95 (tgt := 143) (by decide) (fun c_95 => ?_) (fun c_95 => ?_)
            -- at 95
            · exact absurd rfl c_95
            · refine z_aload_n ee_law_98 rfl ?_
              -- at 99
              refine z_callX (As := [_]) ee_law_99 kk_law_164 rfl rfl (Nat.le_of_ble_eq_true rfl) (by omega) (sx_execute hf hW hEv _ te7 (-1001) zfa1 (fun E h => by cases h; exact Or.inl rfl)) (fun E h1 hx => hx.elim) (fun v h1 hq => ?_)
              obtain ⟨R1, I1, L1, z1, rfl, rfl, hW⟩ := hq
              refine z_sipush ee_law_102 (v := -1001) (by decide) ?_
              refine z_icmp_ne ee_law_105 (tgt := 143) (by decide) (fun c_105 => ?_) (fun c_105 => ?_)
              -- at 105
              · exact absurd rfl c_105
              · refine z_aload_n ee_law_108 rfl ?_
                -- at 109
                refine z_callX (As := [_]) ee_law_109 kk_law_345 rfl rfl (Nat.le_of_ble_eq_true rfl) (by omega) (st_fault hf hW (a := nI 0) (by decide) rfl) (fun E h1 hx => hx.elim) (fun v h1 hq => ?_)
                obtain ⟨R1, I1, L1, z1, rfl, rfl, hW⟩ := hq
                refine z_if_ne ee_law_112 (tgt := 143) (by decide) (fun c_112 => ?_) (fun c_112 => ?_)
                -- at 112
                · exact absurd rfl c_112
                · refine z_aload_n ee_law_115 rfl ?_
                  refine z_bipush ee_law_116 (v := nI 100) (by decide) ?_
                  -- at 118
                  refine z_callX (As := [_, _]) ee_law_118 kk_law_159 rfl rfl (Nat.le_of_ble_eq_true rfl) (by omega) (sx_feed hf hW (nI 100) (zz_ch_n (by omega)) _ te8 _ rfl (fun E h => by cases h)) (fun E h1 hx => hx.elim) (fun v h1 hq => ?_)
                  obtain ⟨R1, I1, L1, z1, rfl, rfl, hW⟩ := hq
                  refine z_iconst ee_law_121 (v := nI 1) (by decide) ?_
                  refine z_icmp_ne ee_law_122 (tgt := 143) (by decide) (fun c_122 => ?_) (fun c_122 => ?_)
                  -- at 122
                  · exact absurd rfl c_122
                  · refine z_aload_n ee_law_125 rfl ?_
                    -- at 126
                    refine z_callX (As := [_]) ee_law_126 kk_law_164 rfl rfl (Nat.le_of_ble_eq_true rfl) (by omega) (sx_execute hf hW hEv _ te9 (-1001) zfa1 (fun E h => by cases h; exact Or.inl rfl)) (fun E h1 hx => hx.elim) (fun v h1 hq => ?_)
                    obtain ⟨R1, I1, L1, z1, rfl, rfl, hW⟩ := hq
                    refine z_sipush ee_law_129 (v := -1001) (by decide) ?_
                    refine z_icmp_ne ee_law_132 (tgt := 143) (by decide) (fun c_132 => ?_) (fun c_132 => ?_)
                    -- at 132
                    · exact absurd rfl c_132
                    · refine z_aload_n ee_law_135 rfl ?_
                      -- at 136
                      refine z_callX (As := [_]) ee_law_136 kk_law_345 rfl rfl (Nat.le_of_ble_eq_true rfl) (by omega) (st_fault hf hW (a := nI 1) (by decide) rfl) (fun E h1 hx => hx.elim) (fun v h1 hq => ?_)
                      obtain ⟨R1, I1, L1, z1, rfl, rfl, hW⟩ := hq
                      refine z_iconst ee_law_139 (v := nI 1) (by decide) ?_
                      refine z_icmp_eq ee_law_140 (tgt := 145) (by decide) (fun c_140 => ?_) (fun c_140 => ?_)
                      -- at 140
                      · refine z_iconst ee_law_145 (v := nI 0) (by decide) ?_
                        refine z_istore_m ee_law_146 (j := 2) rfl (by decide) ?_
                        -- at 147
                        refine z_lvk (z_wid (ce' := (ce + 69) + 0) (sl' := (sl + 414) + 6 * 0) (by omega) (by omega) (zk_type40 hf (q := q) (ce + 69) (sl + 414) (by omega) ?_ 40 0 _ _ _ _ rfl (show zz_Lw g K B z0 R0 I0 L0 (ow_m ve6 (List.replicate 0 (nI 120))) _ _ _ _ from hW))) (by repeat (first | exact trivial | refine ⟨rfl, ?_⟩))
                        intro R I L z lv hlv hW
                        refine z_lvk ?_ hlv
                        refine z_aload_n ee_law_173 rfl ?_
                        refine z_bipush ee_law_174 (v := nI 120) (by decide) ?_
                        -- at 176
                        refine z_callX (As := [_, _]) ee_law_176 kk_law_170 rfl rfl (Nat.le_of_ble_eq_true rfl) (by omega) (sx_type hf hW (nI 120) (zz_ch_n (by omega)) _ te11 (-1002) (by decide +kernel) (fun E h => by cases h; exact Or.inr rfl)) (fun E h1 hx => hx.elim) (fun v h1 hq => ?_)
                        obtain ⟨R1, I1, L1, z1, rfl, rfl, hW⟩ := hq
                        refine z_sipush ee_law_179 (v := -1002) (by decide) ?_
                        refine z_icmp_ne ee_law_182 (tgt := 203) (by decide) (fun c_182 => ?_) (fun c_182 => ?_)
                        -- at 182
                        · exact absurd rfl c_182
                        · refine z_aload_n ee_law_185 rfl ?_
                          -- at 186
                          refine z_callV (As := []) ee_law_186 kk_law_362 rfl (by assumption) rfl rfl (Nat.le_of_ble_eq_true rfl) (by omega) (sx_P_encodedLength hf hW) (fun E h1 hx => hx.elim) (fun v h1 hq => ?_)
                          obtain ⟨R1, I1, L1, z1, rfl, rfl, hW⟩ := hq
                          rw [show nI (zz_fold 864 0 (ov_m ((.inr eS, ve7) : zz_PR).2) []).length = nI 10 from te12]
                          refine z_bipush ee_law_189 (v := nI 10) (by decide) ?_
                          refine z_icmp_ne ee_law_191 (tgt := 203) (by decide) (fun c_191 => ?_) (fun c_191 => ?_)
                          -- at 191
                          · exact absurd rfl c_191
                          · refine z_aload_n ee_law_194 rfl ?_
                            -- at 195
                            refine z_callV (As := []) ee_law_195 kk_law_167 rfl (by assumption) rfl rfl (Nat.le_of_ble_eq_true rfl) (by omega) (sx_P_clearMessage hf hW) (fun E h1 hx => hx.elim) (fun v h1 hq => ?_)
                            obtain ⟨R1, I1, L1, z1, rfl, rfl, hW⟩ := hq
                            have hW : zz_Lw g K B z0 R0 I0 L0 (ow_m ve7 []) R1 I1 L1 z1 := hW
                            rw [te13] at hW
                            rw [show nI (ov_m ((.inr eS, ve7) : zz_PR).2).length = nI 40 by decide +kernel]
                            refine z_bipush ee_law_198 (v := nI 40) (by decide) ?_
                            refine z_icmp_eq ee_law_200 (tgt := 205) (by decide) (fun c_200 => ?_) (fun c_200 => ?_)
                            -- at 200
                            · refine z_iconst ee_law_205 (v := nI 0) (by decide) ?_
                              refine z_istore_m ee_law_206 (j := 2) rfl (by decide) ?_
                              -- at 207
                              refine z_lvk (z_wid (ce' := (ce + 111) + 0) (sl' := (sl + 666) + 6 * 0) (by omega) (by omega) (zk_root4 hf (q := q) (ce + 111) (sl + 666) (by omega) ?_ 4 0 _ _ _ _ rfl hW)) (by repeat (first | exact trivial | refine ⟨rfl, ?_⟩))
                              intro R I L z lv hlv hW
                              refine z_lvk ?_ hlv
                              refine z_iconst ee_law_229 (v := nI 0) (by decide) ?_
                              refine z_istore_m ee_law_230 (j := 2) rfl (by decide) ?_
                              -- at 231
                              refine z_lvk (z_wid (ce' := (ce + 115) + 41 * 0) (sl' := (sl + 690) + 246 * 0) (by omega) (by omega) (zk_carve9 hf hEv (ce + 115) (sl + 690) (by omega) ?_ 9 0 _ _ _ _ rfl hW)) (by repeat (first | exact trivial | refine ⟨rfl, ?_⟩))
                              intro R I L z lv hlv hW
                              refine z_lvk ?_ hlv
                              refine zk_e3 hf hEv (ce + 115 + 369) (sl + 690 + 2214) (by omega) ?_ hW
                              intro v R I L z lv hlv hW
                              exact z_wid (by omega) (by omega) (kk v R I L z lv hlv hW)
                            · exact absurd rfl c_200
                      · exact absurd rfl c_140
          · exact absurd rfl c_50
/-! the second object's runs -/
/-- states on the way: the history hs, done = its length, each with its answer in the cell zw -/
def zk_H (i : Nat) (s1 : zz_SV) (hs : List zz_SV) (v : zz_OV) : Prop := ov_h v = hs ∧ hs.length ≤ i ∧ (∀ s ∈ hs, zk_I 15 s) ∧ zk_I (7 + i) (ov_s v) ∧ ov_p v = s1 ∧ ov_f v = true ∧ ov_b v = [] ∧ (hs ++ [ov_s v]).head? = some s1
def zk_L (L : Nat → Nat → Int64) (zw : Nat) (hs : List zz_SV) : Prop := ∀ j s, hs[j]? = some s → L zw j = zk_ask s
theorem zk_H_no {i : Nat} {s1 : zz_SV} {hs : List zz_SV} {v w : zz_OV} (h : zk_H i s1 hs v) (hd : zk_D (7 + i + 1) v w 0) (hb : ov_b w = []) : zk_H (i + 1) s1 hs w := by
  obtain ⟨h1, h2, h3, h4, h5, h6, h7, h8⟩ := h
  obtain ⟨d1, d2, d3 | ⟨-, d3, d4⟩⟩ := hd
  · exact absurd d3.1 (by decide)
  · exact ⟨d3.trans h1, by omega, h3, by rw [d4]; exact h4.mono (by omega), d1.trans h5, d2.trans h6, hb, by rw [d4]; exact h8⟩
theorem zk_H_yes {i : Nat} (hi : i < 8) {s1 : zz_SV} {hs : List zz_SV} {v w : zz_OV} (h : zk_H i s1 hs v) (hd : zk_D (7 + i + 1) v w 1) (hb : ov_b w = []) : zk_H (i + 1) s1 (hs ++ [ov_s v]) w := by
  obtain ⟨h1, h2, h3, h4, h5, h6, h7, h8⟩ := h
  obtain ⟨d1, d2, ⟨-, d3, d4⟩ | d3⟩ := hd
  · refine ⟨?_, by rw [List.length_append]; show hs.length + 1 ≤ _; omega, fun s hs' => ?_, d4.mono (by omega), d1.trans h5, d2.trans h6, hb, ?_⟩
    · rw [d3, h1]
      unfold zz_kp
      rw [if_pos (by omega)]
    · rcases List.mem_append.mp hs' with z | z
      · exact h3 s z
      · rw [List.mem_singleton] at z
        rw [z]
        exact h4.mono (by omega)
    · cases hs with
      | nil => exact h8
      | cons a t => exact h8
  · exact absurd d3.1 (by decide)
theorem zk_L_app {L : Nat → Nat → Int64} {zw : Nat} {hs : List zz_SV} {s : zz_SV} (h : zk_L L zw hs) : zk_L (zz_up L zw hs.length (zk_ask s)) zw (hs ++ [s]) := by
  intro j s' hj
  by_cases q : j < hs.length
  · rw [List.getElem?_append_left q] at hj
    rw [zz_up_k (by omega)]
    exact h j s' hj
  · have e : j = hs.length := by
      have := (List.getElem?_eq_some_iff.mp hj).1
      rw [List.length_append] at this
      have : j < hs.length + 1 := this
      omega
    subst e
    rw [zz_up_s]
    simp at hj
    rw [hj]
/-- the world of the second object, with the answers' row -/
def zk_Y (g : zz_G) (K : Nat → Nat × Nat) (B zw q n : Nat) (v : zz_OV) (R : Nat → Nat → Option Nat) (I : Nat → Nat → Int32) (L : Nat → Nat → Int64) (z : Nat) : Prop := zz_Lw g K B z R I L v R I L z ∧ zz_Ev g K R I q n ∧ K zw = zz_a 3 9 ∧ zz_A g zw ∧ zw < z
theorem zk_Y.go {R1 : Nat → Nat → Option Nat} {I1 : Nat → Nat → Int32} {L1 : Nat → Nat → Int64} {z1 zw : Nat} (h : zk_Y g K B zw q n v R I L z) (hW : zz_Lw g K B z R I L w R1 I1 L1 z1) : zk_Y g K B zw q n w R1 I1 L1 z1 ∧ L1 zw = L zw := by
  obtain ⟨h1, h2, h3, h4, h5⟩ := h
  have := hW.2.2.2.1
  exact ⟨⟨hW.base, h2.lw hW, h3, h4, by omega⟩, hW.2.2.1 zw h5⟩
theorem zk_Y.up {x : Int64} {j zw : Nat} (h : zk_Y g K B zw q n v R I L z) : zk_Y g K B zw q n v R I (zz_up L zw j x) z := by
  obtain ⟨⟨a1, a2, a3, a4, a5, a6⟩, h2, h3, h4, h5⟩ := h
  exact ⟨⟨a1, a2, fun _ _ => rfl, a4, a5, a6⟩, h2, h3, h4, h5⟩
end LawO
