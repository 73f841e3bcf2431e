/-! THE LAW: text -/
/-- a String that is old, or newer than z0 -/
def zz_nw2 (g : zz_G) (z0 s sa : Nat) : Prop := (s < (zz_hb g).size ∨ z0 ≤ s) ∧ (sa < (zz_hb g).size ∨ z0 ≤ sa)
theorem zz_neg3 : ∀ j, j < 3 → nI j + Int32.ofInt (-3) < 0 := by decide +kernel
theorem zz_sub3 (j : Nat) : nI (j + 3) + Int32.ofInt (-3) = nI j := by
  rw [← nI_add, show Int32.ofInt (-3) = -3 by decide, Int32.add_assoc, show nI 3 + (-3 : Int32) = 0 by decide, Int32.add_zero]
theorem zz_ct7 : ∀ j, j < 9 → zz_typ ((zz_ct 7).getD j 0) := by decide +kernel
section Ltext
variable {g : zz_G} {l : Launch} {K0 : Nat → Nat × Nat} {R0 : Nat → Nat → Option Nat} {I0 : Nat → Nat → Int32} {L0 : Nat → Nat → Int64} {z0 q n : Nat}
/-- new StringBuilder().append(x).append(c).toString() -/
theorem zz_concat1 (hf : l.stackTraces = false) {Q : Option Value → zz_H → Prop} {mc ms ce sl s sa kc : Nat} {fr : Int32} {kk0 : Nat} {zv qv : Int32} {xs : List Int32} (K : Nat → Nat × Nat) (R : Nat → Nat → Option Nat) (I : Nat → Nat → Int32) (L : Nat → Nat → Int64) (z : Nat)
    (hz : z0 ≤ z) (hk : zz_lk z0 K0 K R0 R I0 I L0 L) (hG : zz_Sg K R I s sa xs) (hx : zz_ax xs) (hl : xs.length ≤ 33) (hc : zz_typ (nI kc)) (hkc : kc < 128) (hm : ce + 6 ≤ mc ∧ sl + 126 ≤ ms)
    (kk : ∀ (K : Nat → Nat × Nat) (R : Nat → Nat → Option Nat) (I : Nat → Nat → Int32) (L : Nat → Nat → Int64) (z s' sa' : Nat), z0 ≤ z → zz_lk z0 K0 K R0 R I0 I L0 L → zz_Sg K R I s' sa' (xs ++ [nI kc]) → zz_ax (xs ++ [nI kc]) → zz_nw2 g z0 s' sa' → Zz g l mm_L_text mc ms Q zz_no (ce + 6) (sl + 126) 78 [some (.ref q), some (.int fr), some (.ref s), some (.int (nI kk0)), some (.int zv), some (.int (nI kc)), some (.int qv)] [.ref s'] (K, R, I, L, z)) :
    Zz g l mm_L_text mc ms Q zz_no ce sl 59 [some (.ref q), some (.int fr), some (.ref s), some (.int (nI kk0)), some (.int zv), some (.int (nI kc)), some (.int qv)] [] (K, R, I, L, z) := by
  refine z_ltO hG.1 (fun hsz => ?_)
  refine z_ltA hG.2.2.1 (fun hsaz => ?_)
  refine z_new ee_L_text_59 nn_L_text_193 (by omega) (by omega) (fun hz59 => ?_)
  refine z_dup ee_L_text_62 rfl ?_
  -- at 63
  refine z_callI (As := []) ee_L_text_63 kk_L_text_195 rfl rfl (Nat.le_of_ble_eq_true rfl) (by omega) (sp_JB_init hf zz_K_s hz59 (by omega) (by rw [zz_0_s]; rfl) (by rw [zz_0_s]; rfl)) (fun E h1 hx => hx.elim) (fun v h1 hq => ?_)
  obtain ⟨K1, R1, I1, L1, rfl, rfl, hS1, hk1⟩ := hq
  have hkA : zz_lk z K K1 R R1 I I1 L L1 := ⟨(zz_kt.rf.k0 (by omega)).trans hk1.1, (zz_kt.rf.z0 (a := z) (x := none) (by omega)).trans hk1.2.1, (zz_kt.rf.z0 (a := z) (x := 0) (by omega)).trans hk1.2.2.1, hk1.2.2.2⟩
  have hG1 := hkA.Sg hsz hsaz hG
  have hb1 := hS1.1.1
  refine z_aload_n ee_L_text_66 rfl ?_
  -- at 67
  refine z_callV (As := [_]) ee_L_text_67 kk_L_text_196 rfl (by assumption) rfl rfl (Nat.le_of_ble_eq_true rfl) (by omega) (sp_JB_append_Str (lo := z) hf hS1 hG1 (by simp; omega) (by omega) (by omega) hsz hsaz) (fun E h1 hx => hx.elim) (fun v h1 hq => ?_)
  obtain ⟨K2, R2, I2, L2, z2, a2, cap2, rfl, rfl, hS2, -, ha2, hz2, hk2⟩ := hq
  have hb2 := hS2.1.1
  refine z_iload ee_L_text_70 rfl ?_
  -- at 72
  refine z_callV (As := [_]) ee_L_text_72 kk_L_text_200 rfl (by assumption) rfl rfl (Nat.le_of_ble_eq_true rfl) (by omega) (sp_JB_append_C (lo := z) hf hS2 kc hkc (by rw [List.nil_append]; omega) (by omega)) (fun E h1 hx => hx.elim) (fun v h1 hq => ?_)
  obtain ⟨K3, R3, I3, L3, z3, a3, cap3, rfl, rfl, hS3, -, ha3, hz3, hk3⟩ := hq
  have hb3 := hS3.1.1
  refine z_callV (As := []) ee_L_text_75 kk_L_text_203 rfl (by assumption) rfl rfl (Nat.le_of_ble_eq_true rfl) (by omega) (sp_JB_toString hf hS3) (fun E h1 hx => hx.elim) (fun v h1 hq => ?_)
  obtain ⟨K4, R4, I4, L4, rfl, rfl, hG4, hA4, hA5, hk4⟩ := hq
  exact z_wid (by omega) (by omega) (kk K4 R4 I4 L4 _ z3 (z3 + 1) (by omega) (((hk.trans (hkA.wid hz)).trans (hk2.wid hz)).trans ((hk3.wid hz).trans (hk4.wid (by omega)))) (by rw [List.nil_append] at hG4; exact hG4) (fun x hx' => (List.mem_append.mp hx').elim (hx x) (fun h => by rw [List.mem_singleton] at h; rw [h]; exact hc)) ⟨Or.inr (by omega), Or.inr (by omega)⟩)
/-- the appends of one character -/
theorem zz_text_in (hf : l.stackTraces = false) {Q : Option Value → zz_H → Prop} {mc ms kc : Nat} {fr zv : Int32} {kk0 : Nat} (hc : zz_typ (nI kc)) (hkc : kc < 128)
    (kk : ∀ (ce sl : Nat) (K : Nat → Nat × Nat) (R : Nat → Nat → Option Nat) (I : Nat → Nat → Int32) (L : Nat → Nat → Int64) (z s sa : Nat) (xs : List Int32) (qv : Int32), ce ≤ 24 * kk0 + 24 → sl ≤ 504 * kk0 + 504 → z0 ≤ z → zz_lk z0 K0 K R0 R I0 I L0 L → zz_Sg K R I s sa xs → zz_ax xs → zz_nw2 g z0 s sa → xs.length ≤ 31 → 0 < xs.length → Zz g l mm_L_text mc ms Q zz_no ce sl 85 [some (.ref q), some (.int fr), some (.ref s), some (.int (nI kk0))] [] (K, R, I, L, z)) (hm : 24 * kk0 + 24 ≤ mc ∧ 504 * kk0 + 504 ≤ ms) :
    ∀ (m ce sl : Nat) (K : Nat → Nat × Nat) (R : Nat → Nat → Option Nat) (I : Nat → Nat → Int32) (L : Nat → Nat → Int64) (z s sa : Nat) (xs : List Int32) (qv : Int32), ce + 6 * m ≤ 24 * kk0 + 24 → sl + 126 * m ≤ 504 * kk0 + 504 → (qv < 0 ∨ ∃ j, qv = nI j ∧ j < 3 * m) → (0 < xs.length ∨ ¬ qv < 0) → m ≤ 4 → z0 ≤ z → zz_lk z0 K0 K R0 R I0 I L0 L → zz_Sg K R I s sa xs → zz_ax xs → zz_nw2 g z0 s sa → xs.length + m ≤ 31 →
    Zz g l mm_L_text mc ms Q zz_no ce sl 54 [some (.ref q), some (.int fr), some (.ref s), some (.int (nI kk0)), some (.int zv), some (.int (nI kc)), some (.int qv)] [] (K, R, I, L, z) := by
  intro m
  induction m with
  | zero =>
    intro ce sl K R I L z s sa xs qv h1 h2 h3 h4 h5 h6 h7 h8 h9 h10 h11
    have h3 : qv < 0 := h3.elim id (fun ⟨j, _, hj⟩ => absurd hj (by omega))
    refine z_iload ee_L_text_54 rfl ?_
    refine z_if_lt ee_L_text_56 (tgt := 85) (by decide) (fun c_56 => ?_) (fun c_56 => ?_)
    -- at 56
    · exact z_lvk (kk ce sl K R I L z s sa xs qv (by omega) (by omega) h6 h7 h8 h9 h10 (by omega) (h4.elim id (fun q => absurd h3 q))) (by repeat (first | exact trivial | refine ⟨rfl, ?_⟩))
    · exact absurd h3 c_56
  | succ m ih =>
    intro ce sl K R I L z s sa xs qv h1 h2 h3 h4 h5 h6 h7 h8 h9 h10 h11
    refine z_iload ee_L_text_54 rfl ?_
    refine z_if_lt ee_L_text_56 (tgt := 85) (by decide) (fun c_56 => ?_) (fun c_56 => ?_)
    -- at 56
    · exact z_lvk (kk ce sl K R I L z s sa xs qv (by omega) (by omega) h6 h7 h8 h9 h10 (by omega) (h4.elim id (fun q => absurd c_56 q))) (by repeat (first | exact trivial | refine ⟨rfl, ?_⟩))
    · obtain ⟨j, rfl, hj⟩ := h3.resolve_left c_56
      refine zz_concat1 hf K R I L z h6 h7 h8 h9 (by omega) hc hkc (by omega) ?_
      intro K R I L z s' sa' h6 h7 h8 h9 h10
      refine z_astore_m ee_L_text_78 (j := 2) rfl (by decide) ?_
      -- at 79
      by_cases hj3 : j < 3
      · refine z_iinc ee_L_text_79 (v := nI j + Int32.ofInt (-3)) rfl rfl (by decide) ?_
        refine z_goto ee_L_text_82 (tgt := 54) (by decide) ?_
        -- at 54
        exact z_lvk (ih (ce + 6) (sl + 126) K R I L z s' sa' _ _ (by omega) (by omega) (Or.inl (zz_neg3 j hj3)) (Or.inl (by simp)) (by omega) h6 h7 h8 h9 h10 (by rw [List.length_append]; show xs.length + 1 + m ≤ 31; omega)) (by repeat (first | exact trivial | refine ⟨rfl, ?_⟩))
      · refine z_iinc ee_L_text_79 (v := nI (j - 3)) rfl (by have := zz_sub3 (j - 3); rw [show j - 3 + 3 = j by omega] at this; exact this) (by decide) ?_
        refine z_goto ee_L_text_82 (tgt := 54) (by decide) ?_
        -- at 54
        exact z_lvk (ih (ce + 6) (sl + 126) K R I L z s' sa' _ _ (by omega) (by omega) (Or.inr ⟨j - 3, rfl, by omega⟩) (Or.inl (by simp)) (by omega) h6 h7 h8 h9 h10 (by rw [List.length_append]; show xs.length + 1 + m ≤ 31; omega)) (by repeat (first | exact trivial | refine ⟨rfl, ?_⟩))
theorem sp_L_text (hf : l.stackTraces = false) (hEv : zz_Ev g K0 R0 I0 q n) (f0 : Nat) (hf0 : f0 < 1000) : zz_S g l mm_L_text 216 4536 [.ref q, .int (nI f0)] (K0, R0, I0, L0, z0) (fun a h' => ∃ K' R' I' L' z' s sa xs, a = some (.ref s) ∧ h' = (K', R', I', L', z') ∧ z0 ≤ z' ∧ zz_lk z0 K0 K' R0 R' I0 I' L0 L' ∧ zz_Sg K' R' I' s sa xs ∧ zz_ax xs ∧ zz_nw2 g z0 s sa ∧ xs.length ≤ 31 ∧ 0 < xs.length) zz_no := by
  have hq := hEv.2.2.1
  refine z_start hf rfl (by decide +kernel) (Nat.le_of_ble_eq_true rfl) ?_
  dsimp only [zz_lv0]
  refine z_nu (fun hA hnu => ?_)
  have hAz : (zz_hb g).size ≤ z0 := hA
  have loop : ∀ (m ce sl k0 : Nat) (K : Nat → Nat × Nat) (R : Nat → Nat → Option Nat) (I : Nat → Nat → Int32) (L : Nat → Nat → Int64) (z s sa : Nat) (xs : List Int32), m + k0 = 9 → ce ≤ 24 * k0 → sl ≤ 504 * k0 → z0 ≤ z → zz_lk z0 K0 K R0 R I0 I L0 L → zz_Sg K R I s sa xs → zz_ax xs → zz_nw2 g z0 s sa → xs.length ≤ 31 → (k0 = 0 ∧ xs = [] ∨ 0 < xs.length) →
      Zz g l mm_L_text 216 4536 (fun a h' => ∃ K' R' I' L' z' s sa xs, a = some (.ref s) ∧ h' = (K', R', I', L', z') ∧ z0 ≤ z' ∧ zz_lk z0 K0 K' R0 R' I0 I' L0 L' ∧ zz_Sg K' R' I' s sa xs ∧ zz_ax xs ∧ zz_nw2 g z0 s sa ∧ xs.length ≤ 31 ∧ 0 < xs.length) zz_no ce sl 5 [some (.ref q), some (.int (nI f0)), some (.ref s), some (.int (nI k0))] [] (K, R, I, L, z) := by
    intro m
    induction m with
    | zero =>
      intro ce sl k0 K R I L z s sa xs h1 h2 h3 h4 h5 h6 h7 h8 h9 h10
      refine z_iload_n ee_L_text_5 rfl ?_
      refine z_bipush ee_L_text_6 (v := nI 9) (by decide) ?_
      refine z_icmp_ge ee_L_text_8 (tgt := 91) (by decide) (fun c_8 => ?_) (fun c_8 => ?_)
      -- at 8
      · refine z_aload_n ee_L_text_91 rfl ?_
        -- at 92
        refine z_aret ee_L_text_92 rfl (Or.inl ⟨_, rfl⟩) (by omega) (by omega) ?_
        exact ⟨K, R, I, L, z, s, sa, xs, rfl, rfl, h4, h5, h6, h7, h8, h9, h10.resolve_left (by omega)⟩
      · simp (disch := omega) only [zi_lt, zi_le, zi_eq, zi_n, zi_0, zi_m1] at c_8
        omega
    | succ m ih =>
      intro ce sl k0 K R I L z s sa xs h1 h2 h3 h4 h5 h6 h7 h8 h9 h10
      have hEv1 := hEv.kept hAz (fun b hb => ⟨h5.1 b (by omega) hb, h5.2.1 b (by omega) hb, h5.2.2.1 b (by omega) hb⟩)
      have hks := h6.1
      refine z_iload_n ee_L_text_5 rfl ?_
      refine z_bipush ee_L_text_6 (v := nI 9) (by decide) ?_
      refine z_icmp_ge ee_L_text_8 (tgt := 91) (by decide) (fun c_8 => ?_) (fun c_8 => ?_)
      -- at 8
      · simp (disch := omega) only [zi_lt, zi_le, zi_eq, zi_n, zi_0, zi_m1] at c_8
        omega
      · refine z_aload_n ee_L_text_11 rfl ?_
        -- at 12
        refine z_callV (As := []) ee_L_text_12 kk_L_text_151 rfl (by assumption) rfl rfl (Nat.le_of_ble_eq_true rfl) (by omega) (sp_JS_length hf h6) (fun E h1 hx => hx.elim) (fun v h1 hq => ?_)
        obtain ⟨rfl, rfl⟩ := hq
        refine z_bipush ee_L_text_15 (v := nI 28) (by decide) ?_
        refine z_icmp_ge ee_L_text_17 (tgt := 91) (by decide) (fun c_17 => ?_) (fun c_17 => ?_)
        -- at 17
        · refine z_aload_n ee_L_text_91 rfl ?_
          -- at 92
          refine z_aret ee_L_text_92 rfl (Or.inl ⟨_, rfl⟩) (by omega) (by omega) ?_
          simp (disch := omega) only [zi_lt, zi_le, zi_eq, zi_n, zi_0, zi_m1] at c_17
          exact ⟨K, R, I, L, z, s, sa, xs, rfl, rfl, h4, h5, h6, h7, h8, h9, by omega⟩
        · simp (disch := omega) only [zi_lt, zi_le, zi_eq, zi_n, zi_0, zi_m1] at c_17
          refine z_aload_n ee_L_text_20 rfl ?_
          refine z_iload_n ee_L_text_21 rfl ?_
          refine z_iload_n ee_L_text_22 rfl ?_
          -- at 23
          refine z_iadd ee_L_text_23 ?_
          rw [nI_add]
          refine z_callS (As := [_, _]) ee_L_text_24 kk_L_text_184 rfl rfl (Nat.le_of_ble_eq_true rfl) (by omega) (sp_L_at hf hEv1.2.2.1 hEv1.2.2.2.1 (f0 + k0) (by omega)) (fun E h1 hx => hx.elim) (fun v h1 hq => ?_)
          obtain ⟨rfl, zv, rfl⟩ := hq
          refine z_istore ee_L_text_27 (by decide) ?_
          refine z_ldcS ee_L_text_29 ws_L_text_188 ?_
          refine z_iload ee_L_text_31 rfl ?_
          refine z_bipush ee_L_text_33 (v := nI 9) (by decide) ?_
          -- at 35
          refine z_callS (As := [_, _]) ee_L_text_35 kk_L_text_190 rfl rfl (Nat.le_of_ble_eq_true rfl) (by omega) (sp_L_some hf zv 9 (by omega) (by omega)) (fun E h1 hx => hx.elim) (fun v h1 hq => ?_)
          obtain ⟨rfl, j, hj, rfl⟩ := hq
          have hS7 := (hEv1.1 7 (by omega)).1
          have hk7 := hS7.1
          refine z_callV (As := [_]) ee_L_text_38 kk_L_text_156 rfl (by assumption) rfl rfl (Nat.le_of_ble_eq_true rfl) (by omega) (sp_JS_charAt hf hS7 j (by exact hj)) (fun E h1 hx => hx.elim) (fun v h1 hq => ?_)
          obtain ⟨rfl, rfl⟩ := hq
          obtain ⟨-, kc, hkc, -, ekc⟩ := (zz_ct7 j hj).ch
          have htc := zz_ct7 j hj
          rw [ekc] at htc ⊢
          refine z_istore ee_L_text_41 (by decide) ?_
          refine z_iload ee_L_text_43 rfl ?_
          refine z_iconst ee_L_text_45 (v := nI 4) (by decide) ?_
          refine z_ishr ee_L_text_46 ?_
          refine z_bipush ee_L_text_47 (v := nI 12) (by decide) ?_
          -- at 49
          refine z_callS (As := [_, _]) ee_L_text_49 kk_L_text_190 rfl rfl (Nat.le_of_ble_eq_true rfl) (by omega) (sp_L_some hf _ 12 (by omega) (by omega)) (fun E h1 hx => hx.elim) (fun v h1 hq => ?_)
          obtain ⟨rfl, jq, hjq, rfl⟩ := hq
          refine z_istore ee_L_text_52 (by decide) ?_
          -- at 54
          refine zz_text_in hf htc (by omega) ?_ (by omega) 4 ce sl K R I L z s sa xs (nI jq) (by omega) (by omega) (Or.inr ⟨jq, rfl, by omega⟩) (Or.inr (nI_pos (by omega))) (by omega) h4 h5 h6 h7 h8 (by omega)
          intro ce sl K R I L z s sa xs qv h2 h3 h4 h5 h6 h7 h8 h9 h10
          refine z_iinc ee_L_text_85 rfl rfl (by decide) ?_
          refine z_goto ee_L_text_88 (tgt := 5) (by decide) ?_
          -- at 5
          rw [zz_iinc1]
          exact ih ce sl (k0 + 1) K R I L z s sa xs (by omega) (by omega) (by omega) h4 h5 h6 h7 h8 h9 (Or.inr h10)
  have hS6 := hEv.1 6 (by omega)
  refine z_ldcS ee_L_text_0 ws_L_text_182 ?_
  refine z_astore_m ee_L_text_2 (j := 2) rfl (by decide) ?_
  refine z_iconst ee_L_text_3 (v := nI 0) (by decide) ?_
  refine z_istore_m ee_L_text_4 (j := 3) rfl (by decide) ?_
  -- at 5
  exact loop 9 0 0 0 K0 R0 I0 L0 z0 _ _ [] rfl (by omega) (by omega) (Nat.le_refl _) zz_lk.rf hS6.1 (fun x hx => absurd hx List.not_mem_nil) ⟨Or.inl hS6.2.1, Or.inl hS6.2.2⟩ (by simp) (Or.inl ⟨rfl, rfl⟩)
end Ltext
