/-! COMMANDS -/
/-- the words -/
def zz_wds : List (List Int32) := [[nI 114, nI 111, nI 111, nI 116, nI 32], [nI 100, nI 114, nI 121, nI 32], [nI 97, nI 103, nI 101, nI 32], [nI 114, nI 101, nI 99, nI 97, nI 114, nI 118, nI 101, nI 32], [nI 109, nI 111, nI 118, nI 101, nI 32], [nI 100, nI 114, nI 111, nI 112, nI 32]]
def zz_wd (k : Nat) : List Int32 := zz_wds.getD k []
theorem zz_wd_len : ∀ k, k < 6 → (zz_wd k).length ≤ 8 := by decide +kernel
/-- the words stand below the law's own objects -/
def zz_Wd (g : zz_G) (K : Nat → Nat × Nat) (R : Nat → Nat → Option Nat) (I : Nat → Nat → Int32) : Prop := ∀ k, k < 6 → zz_Sg K R I (g.2.2.2.2 k) (g.2.2.2.2 (100 + k)) (zz_wd k) ∧ g.2.2.2.2 k < (zz_hb g).size ∧ g.2.2.2.2 (100 + k) < (zz_hb g).size
theorem zz_Wd.kept {g : zz_G} {K : Nat → Nat × Nat} {R R' : Nat → Nat → Option Nat} {I I' : Nat → Nat → Int32} (h : zz_Wd g K R I) (hR : zz_kt 0 (zz_hb g).size R R') (hI : zz_kt 0 (zz_hb g).size I I') : zz_Wd g K R' I' := fun k hk => by
  obtain ⟨h1, h2, h3⟩ := h k hk
  exact ⟨h1.kept (hR _ (by omega) h2) (hI _ (by omega) h2) (hI _ (by omega) h3), h2, h3⟩
def zc_cm (xs : List Int32) (p : Nat) : List Int32 → Nat → Nat
  | [], i => i
  | c :: t, i => if xs.getD (p + i) 0 = c then zc_cm xs p t (i + 1) else i
def zc_word (xs : List Int32) (p : Nat) : Nat → Nat → Nat → Option Nat × Nat
  | 0, _, f => (none, p + f)
  | n + 1, k, f => if zc_cm xs p (zz_wd k) 0 = (zz_wd k).length then (some k, p + (zz_wd k).length) else zc_word xs p n (k + 1) (max f (zc_cm xs p (zz_wd k) 0))
def zc_digs (xs : List Int32) : Nat → Int32 → Nat → Int32 × Nat
  | 0, v, p => (v, p)
  | k + 1, v, p => if zz_dgt (xs.getD p 0) then zc_digs xs k ((if v < nI 0 then nI 0 else v) * nI 10 + xs.getD p 0 - nI 48) (p + 1) else (v, p)
abbrev zz_CM : Type := Nat × Int32 × Int32
def zc_cmd2 (xs : List Int32) (k : Nat) (d : Int32) (p : Nat) : Option zz_CM × Nat :=
  if k = 4 then
    (if xs.getD p 0 = nI 32 then
      (if (zc_digs xs 1 (-1) (p + 1)).1 = -1 then (none, (zc_digs xs 1 (-1) (p + 1)).2) else (some (k, d, (zc_digs xs 1 (-1) (p + 1)).1), (zc_digs xs 1 (-1) (p + 1)).2))
    else (none, p))
  else (some (k, d, nI 0), p)
def zc_cmd1 (xs : List Int32) (k p : Nat) : Option zz_CM × Nat :=
  if (zc_digs xs (if k = 0 ∨ k = 1 then 1 else 2) (-1) p).1 = -1 then (none, (zc_digs xs (if k = 0 ∨ k = 1 then 1 else 2) (-1) p).2) else zc_cmd2 xs k (zc_digs xs (if k = 0 ∨ k = 1 then 1 else 2) (-1) p).1 (zc_digs xs (if k = 0 ∨ k = 1 then 1 else 2) (-1) p).2
def zc_cmd (xs : List Int32) (p : Nat) : Option zz_CM × Nat :=
  match zc_word xs p 6 0 0 with
  | (none, q) => (none, q)
  | (some k, q) => zc_cmd1 xs k q
def zc_parse (xs : List Int32) : Nat → Nat → List zz_CM → Int32 × List zz_CM
  | 0, p, cs => (nI p, cs)
  | n + 1, p, cs =>
    match zc_cmd xs p with
    | (none, q) => (nI q, cs)
    | (some c, q) => if q = xs.length then (-1, cs ++ [c]) else if xs.getD q 0 = nI 59 then zc_parse xs n (q + 1) (cs ++ [c]) else (nI q, cs ++ [c])
def zz_Cx (g : zz_G) (K : Nat → Nat × Nat) (R : Nat → Nat → Option Nat) (Q : Nat) : Prop := K Q = zz_o 2 ∧ R Q 0 = some (Q + 1) ∧ R Q 1 = some (Q + 2) ∧ R Q 2 = some (Q + 3) ∧ K (Q + 1) = zz_a 0 10 ∧ K (Q + 2) = zz_a 0 10 ∧ K (Q + 3) = zz_a 0 10 ∧ zz_A g Q ∧ zz_A g (Q + 1) ∧ zz_A g (Q + 2) ∧ zz_A g (Q + 3)
def zz_cx (I : Nat → Nat → Int32) (Q : Nat) (cs : List zz_CM) : Prop := I Q 4 = nI cs.length ∧ cs.length ≤ 10 ∧ ∀ j c, cs[j]? = some c → I (Q + 1) j = nI c.1 ∧ I (Q + 2) j = c.2.1 ∧ I (Q + 3) j = c.2.2
theorem zz_cx.kt {I I' : Nat → Nat → Int32} {Q : Nat} {cs : List zz_CM} (h : zz_cx I Q cs) (hI : zz_kt Q (Q + 4) I I') : zz_cx I' Q cs := by
  obtain ⟨h1, h2, h3⟩ := h
  exact ⟨by rw [hI _ (by omega) (by omega)]; exact h1, h2, fun j c hc => by rw [hI _ (by omega) (by omega), hI (Q + 2) (by omega) (by omega), hI (Q + 3) (by omega) (by omega)]; exact h3 j c hc⟩
theorem zz_cx.pos {I : Nat → Nat → Int32} {Q : Nat} {cs : List zz_CM} {x : Int32} (h : zz_cx I Q cs) : zz_cx (zz_up I Q 3 x) Q cs := by
  obtain ⟨h1, h2, h3⟩ := h
  exact ⟨by rw [zz_up_k (by decide)]; exact h1, h2, fun j c hc => by rw [zz_up_r (by omega), zz_up_r (by omega), zz_up_r (by omega)]; exact h3 j c hc⟩
theorem zc_cm_le (xs : List Int32) (p : Nat) : ∀ (ws : List Int32) (i : Nat), zc_cm xs p ws i ≤ i + ws.length
  | [], i => Nat.le_refl _
  | c :: t, i => by
    have := zc_cm_le xs p t (i + 1)
    simp only [zc_cm, List.length_cons]
    split <;> omega
section Cmd
variable {g : zz_G} {l : Launch} {K : Nat → Nat × Nat} {R : Nat → Nat → Option Nat} {I : Nat → Nat → Int32} {L : Nat → Nat → Int64} {z : Nat} {Q T m : Nat} {xs : List Int32} {cs : List zz_CM} {h : zz_H}
theorem sp_C_has (hf : l.stackTraces = false) (hK : K Q = zz_o 2) (j : Nat) (hj : j < 2 ^ 20) : zz_S g l mm_C_has 0 0 [.ref Q, .int (nI j)] (K, R, I, L, z) (zz_is (K, R, I, L, z) (.int (zz_tf (j < 10)))) zz_no := by
  refine z_start hf rfl (by decide +kernel) (Nat.le_of_ble_eq_true rfl) ?_
  dsimp only [zz_lv0]
  refine z_iload_n ee_C_has_0 rfl ?_
  refine z_if_lt ee_C_has_1 (tgt := 14) (by decide) (fun c_1 => ?_) (fun c_1 => ?_)
  -- at 1
  · simp (disch := omega) only [zi_lt, zi_le, zi_eq, zi_n, zi_0, zi_m1] at c_1
    omega
  · refine z_iload_n ee_C_has_4 rfl ?_
    refine z_bipush ee_C_has_5 (v := nI 10) (by decide) ?_
    refine z_icmp_ge ee_C_has_7 (tgt := 14) (by decide) (fun c_7 => ?_) (fun c_7 => ?_)
    -- at 7
    · simp (disch := omega) only [zi_lt, zi_le, zi_eq, zi_n, zi_0, zi_m1] at c_7
      refine z_iconst ee_C_has_14 (v := nI 0) (by decide) ?_
      refine z_zret ee_C_has_15 (ty := .boolean) rfl (by decide) (by omega) (by omega) ?_
      -- at 15
      exact ⟨rfl, by rw [zz_tf_f (by omega)]⟩
    · simp (disch := omega) only [zi_lt, zi_le, zi_eq, zi_n, zi_0, zi_m1] at c_7
      refine z_iconst ee_C_has_10 (v := nI 1) (by decide) ?_
      refine z_goto ee_C_has_11 (tgt := 15) (by decide) ?_
      refine z_zret ee_C_has_15 (ty := .boolean) rfl (by decide) (by omega) (by omega) ?_
      -- at 15
      exact ⟨rfl, by rw [zz_tf_t (by omega)]⟩
theorem sp_C_kindOf (hf : l.stackTraces = false) (hC : zz_Cx g K R Q) (hx : zz_cx I Q cs) {j : Nat} {c : zz_CM} (hc : cs[j]? = some c) : zz_S g l mm_C_kindOf 0 0 [.ref Q, .int (nI j)] (K, R, I, L, z) (zz_is (K, R, I, L, z) (.int (nI c.1))) zz_no := by
  obtain ⟨k1, k2, k3, k4, k5, k6, k7, k8, k9, k10, k11⟩ := hC
  have hl := zz_lt_of hc
  obtain ⟨h1, h2, h3⟩ := hx
  refine z_start hf rfl (by decide +kernel) (Nat.le_of_ble_eq_true rfl) ?_
  dsimp only [zz_lv0]
  refine z_aload_n ee_C_kindOf_0 rfl ?_
  refine z_iload_n ee_C_kindOf_1 rfl ?_
  -- at 2
  refine z_callV (As := [_]) ee_C_kindOf_2 kk_C_kindOf_53 rfl (by assumption) rfl rfl (Nat.le_of_ble_eq_true rfl) (by omega) (sp_C_has hf k1 j (by omega)) (fun E h1 hx => hx.elim) (fun v h1 hq => ?_)
  obtain ⟨rfl, rfl⟩ := hq
  refine z_if_eq ee_C_kindOf_5 (tgt := 17) (by decide) (fun c_5 => ?_) (fun c_5 => ?_)
  -- at 5
  · rw [zz_tf_0] at c_5
    omega
  · refine z_aload_n ee_C_kindOf_8 rfl ?_
    refine z_getR ee_C_kindOf_9 ff_C_kindOf_9 (by assumption) il_2_0 (by assumption) ?_
    refine z_iload_n ee_C_kindOf_12 rfl ?_
    -- at 13
    refine z_iald ee_C_kindOf_13 (by assumption) rfl (by omega) (by omega) ?_
    rw [(h3 j c hc).1]
    refine z_goto ee_C_kindOf_14 (tgt := 18) (by decide) ?_
    refine z_iret ee_C_kindOf_18 rfl (by omega) (by omega) ?_
    -- at 18
    exact ⟨rfl, rfl⟩
theorem sp_C_firstOf (hf : l.stackTraces = false) (hC : zz_Cx g K R Q) (hx : zz_cx I Q cs) {j : Nat} {c : zz_CM} (hc : cs[j]? = some c) : zz_S g l mm_C_firstOf 0 0 [.ref Q, .int (nI j)] (K, R, I, L, z) (zz_is (K, R, I, L, z) (.int c.2.1)) zz_no := by
  obtain ⟨k1, k2, k3, k4, k5, k6, k7, k8, k9, k10, k11⟩ := hC
  have hl := zz_lt_of hc
  obtain ⟨h1, h2, h3⟩ := hx
  refine z_start hf rfl (by decide +kernel) (Nat.le_of_ble_eq_true rfl) ?_
  dsimp only [zz_lv0]
  refine z_aload_n ee_C_firstOf_0 rfl ?_
  refine z_iload_n ee_C_firstOf_1 rfl ?_
  -- at 2
  refine z_callV (As := [_]) ee_C_firstOf_2 kk_C_firstOf_53 rfl (by assumption) rfl rfl (Nat.le_of_ble_eq_true rfl) (by omega) (sp_C_has hf k1 j (by omega)) (fun E h1 hx => hx.elim) (fun v h1 hq => ?_)
  obtain ⟨rfl, rfl⟩ := hq
  refine z_if_eq ee_C_firstOf_5 (tgt := 17) (by decide) (fun c_5 => ?_) (fun c_5 => ?_)
  -- at 5
  · rw [zz_tf_0] at c_5
    omega
  · refine z_aload_n ee_C_firstOf_8 rfl ?_
    refine z_getR ee_C_firstOf_9 ff_C_firstOf_15 (by assumption) il_2_1 (by assumption) ?_
    refine z_iload_n ee_C_firstOf_12 rfl ?_
    -- at 13
    refine z_iald ee_C_firstOf_13 (by assumption) rfl (by omega) (by omega) ?_
    rw [(h3 j c hc).2.1]
    refine z_goto ee_C_firstOf_14 (tgt := 18) (by decide) ?_
    refine z_iret ee_C_firstOf_18 rfl (by omega) (by omega) ?_
    -- at 18
    exact ⟨rfl, rfl⟩
theorem sp_C_secondOf (hf : l.stackTraces = false) (hC : zz_Cx g K R Q) (hx : zz_cx I Q cs) {j : Nat} {c : zz_CM} (hc : cs[j]? = some c) : zz_S g l mm_C_secondOf 0 0 [.ref Q, .int (nI j)] (K, R, I, L, z) (zz_is (K, R, I, L, z) (.int c.2.2)) zz_no := by
  obtain ⟨k1, k2, k3, k4, k5, k6, k7, k8, k9, k10, k11⟩ := hC
  have hl := zz_lt_of hc
  obtain ⟨h1, h2, h3⟩ := hx
  refine z_start hf rfl (by decide +kernel) (Nat.le_of_ble_eq_true rfl) ?_
  dsimp only [zz_lv0]
  refine z_aload_n ee_C_secondOf_0 rfl ?_
  refine z_iload_n ee_C_secondOf_1 rfl ?_
  -- at 2
  refine z_callV (As := [_]) ee_C_secondOf_2 kk_C_secondOf_53 rfl (by assumption) rfl rfl (Nat.le_of_ble_eq_true rfl) (by omega) (sp_C_has hf k1 j (by omega)) (fun E h1 hx => hx.elim) (fun v h1 hq => ?_)
  obtain ⟨rfl, rfl⟩ := hq
  refine z_if_eq ee_C_secondOf_5 (tgt := 17) (by decide) (fun c_5 => ?_) (fun c_5 => ?_)
  -- at 5
  · rw [zz_tf_0] at c_5
    omega
  · refine z_aload_n ee_C_secondOf_8 rfl ?_
    refine z_getR ee_C_secondOf_9 ff_C_secondOf_18 (by assumption) il_2_2 (by assumption) ?_
    refine z_iload_n ee_C_secondOf_12 rfl ?_
    -- at 13
    refine z_iald ee_C_secondOf_13 (by assumption) rfl (by omega) (by omega) ?_
    rw [(h3 j c hc).2.2]
    refine z_goto ee_C_secondOf_14 (tgt := 18) (by decide) ?_
    refine z_iret ee_C_secondOf_18 rfl (by omega) (by omega) ?_
    -- at 18
    exact ⟨rfl, rfl⟩
/-- one more command -/
theorem sp_C_keepCommand (hf : l.stackTraces = false) (hC : zz_Cx g K R Q) (hx : zz_cx I Q cs) (hl : cs.length < 10) (c : zz_CM) : zz_S g l mm_C_keepCommand 0 0 [.ref Q, .int (nI c.1), .int c.2.1, .int c.2.2] (K, R, I, L, z) (fun v h' => ∃ I', h' = (K, R, I', L, z) ∧ v = none ∧ zz_cx I' Q (cs ++ [c]) ∧ I' Q 3 = I Q 3 ∧ zz_fr Q (Q + 4) I I') zz_no := by
  obtain ⟨k1, k2, k3, k4, k5, k6, k7, k8, k9, k10, k11⟩ := hC
  obtain ⟨h1, h2, h3⟩ := hx
  refine z_start hf rfl (by decide +kernel) (Nat.le_of_ble_eq_true rfl) ?_
  dsimp only [zz_lv0]
  refine z_aload_n ee_C_keepCommand_0 rfl ?_
  refine z_aload_n ee_C_keepCommand_1 rfl ?_
  refine z_getI ee_C_keepCommand_2 ff_C_keepCommand_25 (by assumption) il_2_4 ?_
  -- at 5
  rw [h1]
  refine z_callV (As := [_]) ee_C_keepCommand_5 kk_C_keepCommand_53 rfl (by assumption) rfl rfl (Nat.le_of_ble_eq_true rfl) (by omega) (sp_C_has hf k1 cs.length (by omega)) (fun E h1 hx => hx.elim) (fun v h1 hq => ?_)
  obtain ⟨rfl, rfl⟩ := hq
  refine z_if_eq ee_C_keepCommand_8 (tgt := 51) (by decide) (fun c_8 => ?_) (fun c_8 => ?_)
  -- at 8
  · rw [zz_tf_0] at c_8
    omega
  · refine z_aload_n ee_C_keepCommand_11 rfl ?_
    refine z_getR ee_C_keepCommand_12 ff_C_keepCommand_9 (by assumption) il_2_0 (by assumption) ?_
    refine z_aload_n ee_C_keepCommand_15 rfl ?_
    refine z_getI ee_C_keepCommand_16 ff_C_keepCommand_25 (by assumption) il_2_4 ?_
    refine z_iload_n ee_C_keepCommand_19 rfl ?_
    -- at 20
    refine z_iast ee_C_keepCommand_20 (by assumption) (by assumption) h1 (by omega) (by omega) ?_
    refine z_aload_n ee_C_keepCommand_21 rfl ?_
    refine z_getR ee_C_keepCommand_22 ff_C_keepCommand_15 (by assumption) il_2_1 (by assumption) ?_
    refine z_aload_n ee_C_keepCommand_25 rfl ?_
    refine z_getI ee_C_keepCommand_26 ff_C_keepCommand_25 (by assumption) il_2_4 ?_
    refine z_iload_n ee_C_keepCommand_29 rfl ?_
    -- at 30
    refine z_iast ee_C_keepCommand_30 (by assumption) (by assumption) (by rw [zz_up_r (by omega)]; exact h1) (by omega) (by omega) ?_
    refine z_aload_n ee_C_keepCommand_31 rfl ?_
    refine z_getR ee_C_keepCommand_32 ff_C_keepCommand_18 (by assumption) il_2_2 (by assumption) ?_
    refine z_aload_n ee_C_keepCommand_35 rfl ?_
    refine z_getI ee_C_keepCommand_36 ff_C_keepCommand_25 (by assumption) il_2_4 ?_
    refine z_iload_n ee_C_keepCommand_39 rfl ?_
    -- at 40
    refine z_iast ee_C_keepCommand_40 (by assumption) (by assumption) (by rw [zz_up_r (by omega), zz_up_r (by omega)]; exact h1) (by omega) (by omega) ?_
    refine z_aload_n ee_C_keepCommand_41 rfl ?_
    refine z_dup ee_C_keepCommand_42 rfl ?_
    refine z_getI ee_C_keepCommand_43 ff_C_keepCommand_25 (by assumption) il_2_4 ?_
    refine z_iconst ee_C_keepCommand_46 (v := nI 1) (by decide) ?_
    refine z_iadd ee_C_keepCommand_47 ?_
    refine z_putI ee_C_keepCommand_48 ff_C_keepCommand_25 (by assumption) (by assumption) tl_2_4 fl_2_4 ?_
    refine z_vret ee_C_keepCommand_51 rfl (by omega) (by omega) ?_
    -- at 51
    refine ⟨_, rfl, rfl, ⟨?_, ?_, fun j d hd => ?_⟩, ?_, (((zz_fr.rf.up (by omega) (by omega)).up (by omega) (by omega)).up (by omega) (by omega)).up (by omega) (by omega)⟩
    · rw [zz_up_s, zz_up_r (by omega), zz_up_r (by omega), zz_up_r (by omega), h1, nI_add]
      simp
    · simp; omega
    · have hj := zz_lt_of hd
      rw [List.length_append, List.length_singleton] at hj
      have n1 : Q + 1 ≠ Q := by omega
      have n2 : Q + 2 ≠ Q := by omega
      have n3 : Q + 3 ≠ Q := by omega
      have n4 : Q + 1 ≠ Q + 2 := by omega
      have n5 : Q + 1 ≠ Q + 3 := by omega
      have n6 : Q + 2 ≠ Q + 3 := by omega
      have n7 : Q + 2 ≠ Q + 1 := by omega
      have n8 : Q + 3 ≠ Q + 1 := by omega
      have n9 : Q + 3 ≠ Q + 2 := by omega
      simp only [zz_up_r n1, zz_up_r n2, zz_up_r n3, zz_up_r n4, zz_up_r n5, zz_up_r n6]
      by_cases q : j = cs.length
      · subst q
        rw [List.getElem?_concat_length] at hd
        cases hd
        refine ⟨zz_up_s, ?_, ?_⟩
        · rw [zz_up_s]
        · rw [zz_up_s]
      · rw [List.getElem?_append_left (by omega)] at hd
        obtain ⟨e1, e2, e3⟩ := h3 j d hd
        refine ⟨by rw [zz_up_k q]; exact e1, ?_, ?_⟩
        · rw [zz_up_k q, zz_up_r n7]; exact e2
        · rw [zz_up_k q, zz_up_r n9, zz_up_r n8]; exact e3
    · rw [zz_up_k (by decide), zz_up_r (by omega), zz_up_r (by omega), zz_up_r (by omega)]
theorem sp_C_wordOf (hf : l.stackTraces = false) (k : Nat) (hk : k < 6) : zz_S g l mm_C_wordOf 0 0 [.int (nI k)] h (zz_is h (.ref (g.2.2.2.2 k))) zz_no := by
  refine z_start hf rfl (by decide +kernel) (Nat.le_of_ble_eq_true rfl) ?_
  dsimp only [zz_lv0]
  refine z_iload_n ee_C_wordOf_0 rfl ?_
  -- at 1
  have hc : k = 0 ∨ k = 1 ∨ k = 2 ∨ k = 3 ∨ k = 4 ∨ k = 5 := by omega
  rcases hc with rfl | rfl | rfl | rfl | rfl | rfl
  · refine z_tin ee_C_wordOf_1 (off := 35) (tgt := 36) (by decide) (by decide) (by decide) (by decide) ?_
    refine z_ldcS ee_C_wordOf_36 ws_C_wordOf_83 ?_
    refine z_aret ee_C_wordOf_38 rfl (Or.inl ⟨_, rfl⟩) (by omega) (by omega) ?_
    -- at 38
    exact ⟨rfl, rfl⟩
  · refine z_tin ee_C_wordOf_1 (off := 38) (tgt := 39) (by decide) (by decide) (by decide) (by decide) ?_
    refine z_ldcS ee_C_wordOf_39 ws_C_wordOf_85 ?_
    refine z_aret ee_C_wordOf_41 rfl (Or.inl ⟨_, rfl⟩) (by omega) (by omega) ?_
    -- at 41
    exact ⟨rfl, rfl⟩
  · refine z_tin ee_C_wordOf_1 (off := 41) (tgt := 42) (by decide) (by decide) (by decide) (by decide) ?_
    refine z_ldcS ee_C_wordOf_42 ws_C_wordOf_87 ?_
    refine z_aret ee_C_wordOf_44 rfl (Or.inl ⟨_, rfl⟩) (by omega) (by omega) ?_
    -- at 44
    exact ⟨rfl, rfl⟩
  · refine z_tin ee_C_wordOf_1 (off := 44) (tgt := 45) (by decide) (by decide) (by decide) (by decide) ?_
    refine z_ldcS ee_C_wordOf_45 ws_C_wordOf_89 ?_
    refine z_aret ee_C_wordOf_47 rfl (Or.inl ⟨_, rfl⟩) (by omega) (by omega) ?_
    -- at 47
    exact ⟨rfl, rfl⟩
  · refine z_tin ee_C_wordOf_1 (off := 47) (tgt := 48) (by decide) (by decide) (by decide) (by decide) ?_
    refine z_ldcS ee_C_wordOf_48 ws_C_wordOf_91 ?_
    refine z_aret ee_C_wordOf_50 rfl (Or.inl ⟨_, rfl⟩) (by omega) (by omega) ?_
    -- at 50
    exact ⟨rfl, rfl⟩
  · refine z_tout ee_C_wordOf_1 (tgt := 51) (by decide) (by decide) ?_
    refine z_ldcS ee_C_wordOf_51 ws_C_wordOf_93 ?_
    refine z_aret ee_C_wordOf_53 rfl (Or.inl ⟨_, rfl⟩) (by omega) (by omega) ?_
    -- at 53
    exact ⟨rfl, rfl⟩
theorem zc_cm_loop (hf : l.stackTraces = false) (hK : K Q = zz_o 2) (hT : zz_Tx g K R T m) (hx : zz_tx I T m xs) {s a p : Nat} {ws : List Int32} (hS : zz_Sg K R I s a ws) (e : I Q 3 = nI p) (hp : p < 2 ^ 20) : ∀ (ys : List Int32) (i : Nat), ws.drop i = ys → i ≤ ws.length →
    Zz g l mm_C_countMatching 0 0 (zz_is (K, R, I, L, z) (.int (nI (zc_cm xs p ys i)))) zz_no 0 0 2 [some (.ref Q), some (.ref T), some (.ref s), some (.int (nI i))] [] (K, R, I, L, z) := by
  intro ys
  have hS' := hS
  obtain ⟨s1, s2, s3, s4, s5, s6, s7⟩ := hS
  have t1 := hT.1
  induction ys with
  | nil =>
    intro i hi hil
    have h1 := zz_drop_nil hi
    refine z_iload_n ee_C_countMatching_2 rfl ?_
    refine z_aload_n ee_C_countMatching_3 rfl ?_
    -- at 4
    refine z_callV (As := []) ee_C_countMatching_4 kk_C_countMatching_65 rfl (by assumption) rfl rfl (Nat.le_of_ble_eq_true rfl) (by omega) (sp_JS_length hf hS') (fun E h1 hx => hx.elim) (fun v h1 hq => ?_)
    obtain ⟨rfl, rfl⟩ := hq
    refine z_icmp_ge ee_C_countMatching_7 (tgt := 36) (by decide) (fun c_7 => ?_) (fun c_7 => ?_)
    -- at 7
    · refine z_aload_n ee_C_countMatching_36 rfl ?_
      -- at 37
      refine z_callV (As := []) ee_C_countMatching_37 kk_C_countMatching_65 rfl (by assumption) rfl rfl (Nat.le_of_ble_eq_true rfl) (by omega) (sp_JS_length hf hS') (fun E h1 hx => hx.elim) (fun v h1 hq => ?_)
      obtain ⟨rfl, rfl⟩ := hq
      refine z_iret ee_C_countMatching_40 rfl (by omega) (by omega) ?_
      -- at 40
      refine ⟨rfl, ?_⟩
      rw [show i = ws.length by omega]
      rfl
    · simp (disch := omega) only [zi_lt, zi_le, zi_eq, zi_n, zi_0, zi_m1] at c_7
      omega
  | cons c ys ih =>
    intro i hi hil
    obtain ⟨h1, h2, h3⟩ := zz_drop_cons hi
    refine z_iload_n ee_C_countMatching_2 rfl ?_
    refine z_aload_n ee_C_countMatching_3 rfl ?_
    -- at 4
    refine z_callV (As := []) ee_C_countMatching_4 kk_C_countMatching_65 rfl (by assumption) rfl rfl (Nat.le_of_ble_eq_true rfl) (by omega) (sp_JS_length hf hS') (fun E h1 hx => hx.elim) (fun v h1 hq => ?_)
    obtain ⟨rfl, rfl⟩ := hq
    refine z_icmp_ge ee_C_countMatching_7 (tgt := 36) (by decide) (fun c_7 => ?_) (fun c_7 => ?_)
    -- at 7
    · simp (disch := omega) only [zi_lt, zi_le, zi_eq, zi_n, zi_0, zi_m1] at c_7
      omega
    · refine z_aload_n ee_C_countMatching_10 rfl ?_
      refine z_aload_n ee_C_countMatching_11 rfl ?_
      refine z_getI ee_C_countMatching_12 ff_C_countMatching_21 (by assumption) il_2_3 ?_
      refine z_iload_n ee_C_countMatching_15 rfl ?_
      refine z_iadd ee_C_countMatching_16 ?_
      -- at 17
      rw [e, nI_add]
      refine z_callV (As := [_]) ee_C_countMatching_17 kk_C_countMatching_76 rfl (by assumption) rfl rfl (Nat.le_of_ble_eq_true rfl) (by omega) (sp_T_at hf hT hx _) (fun E h1 hx => hx.elim) (fun v h1 hq => ?_)
      obtain ⟨rfl, rfl, hch⟩ := hq
      rw [zz_at0_n (by omega)]
      refine z_aload_n ee_C_countMatching_20 rfl ?_
      refine z_iload_n ee_C_countMatching_21 rfl ?_
      -- at 22
      refine z_callV (As := [_]) ee_C_countMatching_22 kk_C_countMatching_80 rfl (by assumption) rfl rfl (Nat.le_of_ble_eq_true rfl) (by omega) (sp_JS_charAt hf hS' i h1) (fun E h1 hx => hx.elim) (fun v h1 hq => ?_)
      obtain ⟨rfl, rfl⟩ := hq
      rw [h2]
      simp only [zc_cm]
      refine z_icmp_eq ee_C_countMatching_25 (tgt := 30) (by decide) (fun c_25 => ?_) (fun c_25 => ?_)
      -- at 25
      · rw [if_pos c_25]
        refine z_iinc ee_C_countMatching_30 rfl rfl (by decide) ?_
        refine z_goto ee_C_countMatching_33 (tgt := 2) (by decide) ?_
        -- at 2
        rw [zz_iinc1]
        exact ih (i + 1) h3 (by omega)
      · rw [if_neg c_25]
        refine z_iload_n ee_C_countMatching_28 rfl ?_
        refine z_iret ee_C_countMatching_29 rfl (by omega) (by omega) ?_
        -- at 29
        exact ⟨rfl, rfl⟩
theorem sp_C_countMatching (hf : l.stackTraces = false) (hK : K Q = zz_o 2) (hT : zz_Tx g K R T m) (hx : zz_tx I T m xs) {s a p : Nat} {ws : List Int32} (hS : zz_Sg K R I s a ws) (e : I Q 3 = nI p) (hp : p < 2 ^ 20) : zz_S g l mm_C_countMatching 0 0 [.ref Q, .ref T, .ref s] (K, R, I, L, z) (zz_is (K, R, I, L, z) (.int (nI (zc_cm xs p ws 0)))) zz_no := by
  refine z_start hf rfl (by decide +kernel) (Nat.le_of_ble_eq_true rfl) ?_
  dsimp only [zz_lv0]
  refine z_iconst ee_C_countMatching_0 (v := nI 0) (by decide) ?_
  refine z_istore_m ee_C_countMatching_1 (j := 3) rfl (by decide) ?_
  -- at 2
  exact zc_cm_loop hf hK hT hx hS e hp ws 0 rfl (Nat.zero_le _)
end Cmd
