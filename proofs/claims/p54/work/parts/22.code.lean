/-! CODE -/
abbrev zz_dgt (c : Int32) : Prop := nI 48 ≤ c ∧ c ≤ nI 57
abbrev zz_esc (c : Int32) : Prop := c = nI 92 ∨ zz_dgt c
abbrev zz_typ (c : Int32) : Prop := nI 32 ≤ c ∧ c ≤ nI 126
theorem zz_i2c {j : Nat} (h : j < 65536) : ((nI j).toUInt32 % 65536).toInt32 = nI j := by
  rw [pk_char, pk_tn (by omega), Nat.mod_eq_of_lt h]
theorem zz_drop_nil {xs : List Int32} {i : Nat} (h : xs.drop i = []) : xs.length ≤ i := List.drop_eq_nil_iff.mp h
theorem zz_drop_cons {xs t : List Int32} {c : Int32} {i : Nat} (h : xs.drop i = c :: t) : i < xs.length ∧ xs.getD i 0 = c ∧ xs.drop (i + 1) = t := by
  have h1 : i < xs.length := by
    rcases Nat.lt_or_ge i xs.length with q | q
    · exact q
    · rw [List.drop_eq_nil_of_le q] at h; cases h
  have h2 := List.drop_eq_getElem_cons h1
  rw [h] at h2
  injection h2 with e1 e2
  exact ⟨h1, by rw [List.getD_eq_getElem?_getD, List.getElem?_eq_getElem h1]; exact e1.symm, e2.symm⟩
/-- the character once or more, each with its backslash where it needs one -/
def zz_rep (n : Nat) (c : Int32) : Nat → List Int32 → List Int32
  | 0, out => out
  | k + 1, out => zz_rep n c k (zz_add n (if zz_esc c then zz_add n out (nI 92) else out) c)
def zz_wr (n : Nat) (c : Int32) (run : Nat) (out : List Int32) : List Int32 :=
  if 3 ≤ run then zz_rep n c 1 (zz_add n out (nI (48 + run))) else zz_rep n c run out
def zz_fold (n : Nat) : Nat → List Int32 → List Int32 → List Int32
  | _, [], out => out
  | run, c :: t, out => if run + 1 = 9 ∨ t.head? ≠ some c then zz_fold n 0 t (zz_wr n c (run + 1) out) else zz_fold n (run + 1) t out
/-- the fault position, or -1 -/
def zz_flt : Nat → Bool → Bool → List Int32 → Int32
  | i, cnt, esc, [] => if cnt = true ∨ esc = true then nI i else -1
  | i, cnt, true, c :: t => if zz_esc c then zz_flt (i + 1) false false t else nI i
  | i, cnt, false, c :: t => if c = nI 92 then zz_flt (i + 1) cnt true t else if zz_dgt c then (if cnt = true ∨ c < nI 51 then nI i else zz_flt (i + 1) true false t) else zz_flt (i + 1) false false t
def zz_repc (n : Nat) (c : Int32) : Nat → List Int32 → List Int32
  | 0, out => out
  | k + 1, out => zz_repc n c k (zz_add n out c)
def zz_unf (n : Nat) : Nat → Bool → List Int32 → List Int32 → List Int32
  | _, _, [], out => out
  | k, true, c :: t, out => zz_unf n 1 false t (zz_repc n c k out)
  | k, false, c :: t, out => if c = nI 92 then zz_unf n k true t out else if zz_dgt c then zz_unf n (c.toInt - 48).toNat false t out else zz_unf n 1 false t (zz_repc n c k out)
def zz_sm : Nat → Int32 → List Int32 → Int32
  | _, s, [] => s
  | i, s, c :: t => zz_sm (i + 1) (s + c * nI (i + 1)) t
def zz_sum (xs : List Int32) : Int32 := let s := zz_sm 0 (nI 0) xs; s - s / nI 97 * nI 97
section Code
variable {g : zz_G} {l : Launch} {K : Nat → Nat × Nat} {R : Nat → Nat → Option Nat} {I : Nat → Nat → Int32} {L : Nat → Nat → Int64} {z : Nat} {t n u m : Nat} {xs ys : List Int32} {h : zz_H}
theorem sp_P_isDigit (hf : l.stackTraces = false) (c : Int32) : zz_S g l mm_P_isDigit 0 0 [.int c] h (zz_is h (.int (zz_tf (zz_dgt c)))) zz_no := by
  refine z_start hf rfl (by decide +kernel) (Nat.le_of_ble_eq_true rfl) ?_
  dsimp only [zz_lv0]
  refine z_iload_n ee_P_isDigit_0 rfl ?_
  refine z_bipush ee_P_isDigit_1 (v := nI 48) (by decide) ?_
  refine z_icmp_lt ee_P_isDigit_3 (tgt := 16) (by decide) (fun c_3 => ?_) (fun c_3 => ?_)
  -- at 3
  · refine z_iconst ee_P_isDigit_16 (v := nI 0) (by decide) ?_
    refine z_zret ee_P_isDigit_17 (ty := .boolean) rfl (by decide) (by omega) (by omega) ?_
    -- at 17
    exact ⟨rfl, by rw [zz_tf_f (fun q => absurd q.1 (Int32.not_le.mpr c_3))]⟩
  · refine z_iload_n ee_P_isDigit_6 rfl ?_
    refine z_bipush ee_P_isDigit_7 (v := nI 57) (by decide) ?_
    refine z_icmp_gt ee_P_isDigit_9 (tgt := 16) (by decide) (fun c_9 => ?_) (fun c_9 => ?_)
    -- at 9
    · refine z_iconst ee_P_isDigit_16 (v := nI 0) (by decide) ?_
      refine z_zret ee_P_isDigit_17 (ty := .boolean) rfl (by decide) (by omega) (by omega) ?_
      -- at 17
      exact ⟨rfl, by rw [zz_tf_f (fun q => absurd q.2 (Int32.not_le.mpr c_9))]⟩
    · refine z_iconst ee_P_isDigit_12 (v := nI 1) (by decide) ?_
      refine z_goto ee_P_isDigit_13 (tgt := 17) (by decide) ?_
      refine z_zret ee_P_isDigit_17 (ty := .boolean) rfl (by decide) (by omega) (by omega) ?_
      -- at 17
      exact ⟨rfl, by rw [zz_tf_t ⟨Int32.not_lt.mp c_3, Int32.not_lt.mp c_9⟩]⟩
theorem sp_P_isTypeable (hf : l.stackTraces = false) (c : Int32) : zz_S g l mm_P_isTypeable 0 0 [.int c] h (zz_is h (.int (zz_tf (zz_typ c)))) zz_no := by
  refine z_start hf rfl (by decide +kernel) (Nat.le_of_ble_eq_true rfl) ?_
  dsimp only [zz_lv0]
  refine z_iload_n ee_P_isTypeable_0 rfl ?_
  refine z_bipush ee_P_isTypeable_1 (v := nI 32) (by decide) ?_
  refine z_icmp_lt ee_P_isTypeable_3 (tgt := 16) (by decide) (fun c_3 => ?_) (fun c_3 => ?_)
  -- at 3
  · refine z_iconst ee_P_isTypeable_16 (v := nI 0) (by decide) ?_
    refine z_zret ee_P_isTypeable_17 (ty := .boolean) rfl (by decide) (by omega) (by omega) ?_
    -- at 17
    exact ⟨rfl, by rw [zz_tf_f (fun q => absurd q.1 (Int32.not_le.mpr c_3))]⟩
  · refine z_iload_n ee_P_isTypeable_6 rfl ?_
    refine z_bipush ee_P_isTypeable_7 (v := nI 126) (by decide) ?_
    refine z_icmp_gt ee_P_isTypeable_9 (tgt := 16) (by decide) (fun c_9 => ?_) (fun c_9 => ?_)
    -- at 9
    · refine z_iconst ee_P_isTypeable_16 (v := nI 0) (by decide) ?_
      refine z_zret ee_P_isTypeable_17 (ty := .boolean) rfl (by decide) (by omega) (by omega) ?_
      -- at 17
      exact ⟨rfl, by rw [zz_tf_f (fun q => absurd q.2 (Int32.not_le.mpr c_9))]⟩
    · refine z_iconst ee_P_isTypeable_12 (v := nI 1) (by decide) ?_
      refine z_goto ee_P_isTypeable_13 (tgt := 17) (by decide) ?_
      refine z_zret ee_P_isTypeable_17 (ty := .boolean) rfl (by decide) (by omega) (by omega) ?_
      -- at 17
      exact ⟨rfl, by rw [zz_tf_t ⟨Int32.not_lt.mp c_3, Int32.not_lt.mp c_9⟩]⟩
theorem sp_O_needsEscape (hf : l.stackTraces = false) (c : Int32) : zz_S g l mm_O_needsEscape 0 0 [.int c] h (zz_is h (.int (zz_tf (zz_esc c)))) zz_no := by
  refine z_start hf rfl (by decide +kernel) (Nat.le_of_ble_eq_true rfl) ?_
  dsimp only [zz_lv0]
  refine z_iload_n ee_O_needsEscape_0 rfl ?_
  refine z_bipush ee_O_needsEscape_1 (v := nI 92) (by decide) ?_
  refine z_icmp_eq ee_O_needsEscape_3 (tgt := 13) (by decide) (fun c_3 => ?_) (fun c_3 => ?_)
  -- at 3
  · refine z_iconst ee_O_needsEscape_13 (v := nI 1) (by decide) ?_
    refine z_goto ee_O_needsEscape_14 (tgt := 18) (by decide) ?_
    refine z_zret ee_O_needsEscape_18 (ty := .boolean) rfl (by decide) (by omega) (by omega) ?_
    -- at 18
    exact ⟨rfl, by rw [zz_tf_t (Or.inl c_3)]⟩
  · refine z_iload_n ee_O_needsEscape_6 rfl ?_
    -- at 7
    refine z_callSN (As := [_]) ee_O_needsEscape_7 kk_O_needsEscape_40 rfl rfl (Nat.le_of_ble_eq_true rfl) (by omega) (sp_P_isDigit hf c) (fun E h1 hx => hx.elim) (fun v h1 hq => ?_)
    obtain ⟨rfl, rfl⟩ := hq
    refine z_if_eq ee_O_needsEscape_10 (tgt := 17) (by decide) (fun c_10 => ?_) (fun c_10 => ?_)
    -- at 10
    · rw [zz_tf_0] at c_10
      refine z_iconst ee_O_needsEscape_17 (v := nI 0) (by decide) ?_
      refine z_zret ee_O_needsEscape_18 (ty := .boolean) rfl (by decide) (by omega) (by omega) ?_
      -- at 18
      exact ⟨rfl, by rw [zz_tf_f (fun q => q.elim c_3 c_10)]⟩
    · rw [zz_tf_n0] at c_10
      refine z_iconst ee_O_needsEscape_13 (v := nI 1) (by decide) ?_
      refine z_goto ee_O_needsEscape_14 (tgt := 18) (by decide) ?_
      refine z_zret ee_O_needsEscape_18 (ty := .boolean) rfl (by decide) (by omega) (by omega) ?_
      -- at 18
      exact ⟨rfl, by rw [zz_tf_t (Or.inr c_10)]⟩
theorem sp_O_endsRun (hf : l.stackTraces = false) (hT : zz_Tx g K R t n) (hx : zz_tx I t n xs) (i r : Nat) (hi : i < xs.length) (hr : r < 100) : zz_S g l mm_O_endsRun 0 0 [.ref t, .int (nI i), .int (nI r)] (K, R, I, L, z) (zz_is (K, R, I, L, z) (.int (zz_tf (r = 9 ∨ (xs.drop (i + 1)).head? ≠ some (xs.getD i 0))))) zz_no := by
  have k1 := hT.1
  have k6 := hT.2.2.2.2.2
  have hl := hx.2.1
  have hh : (xs.drop (i + 1)).head? = if i + 1 < xs.length then some (xs.getD (i + 1) 0) else none := by
    rw [List.head?_drop]
    by_cases q : i + 1 < xs.length
    · rw [if_pos q, List.getElem?_eq_getElem q, List.getD_eq_getElem?_getD, List.getElem?_eq_getElem q]; rfl
    · rw [if_neg q, List.getElem?_eq_none (by omega)]
  have yes : (r = 9 ∨ (xs.drop (i + 1)).head? ≠ some (xs.getD i 0)) → Zz g l mm_O_endsRun 0 0 (zz_is (K, R, I, L, z) (.int (zz_tf (r = 9 ∨ (xs.drop (i + 1)).head? ≠ some (xs.getD i 0))))) zz_no 0 0 31 [some (.ref t), some (.int (nI i)), some (.int (nI r))] [] (K, R, I, L, z) := by
    intro q
    refine z_iconst ee_O_endsRun_31 (v := nI 1) (by decide) ?_
    refine z_goto ee_O_endsRun_32 (tgt := 36) (by decide) ?_
    refine z_zret ee_O_endsRun_36 (ty := .boolean) rfl (by decide) (by omega) (by omega) ?_
    -- at 36
    exact ⟨rfl, by rw [zz_tf_t q]⟩
  refine z_start hf rfl (by decide +kernel) (Nat.le_of_ble_eq_true rfl) ?_
  dsimp only [zz_lv0]
  refine z_iload_n ee_O_endsRun_0 rfl ?_
  refine z_bipush ee_O_endsRun_1 (v := nI 9) (by decide) ?_
  refine z_icmp_eq ee_O_endsRun_3 (tgt := 31) (by decide) (fun c_3 => ?_) (fun c_3 => ?_)
  -- at 3
  · refine yes (Or.inl ((nI_eq (by omega) (by omega)).mp c_3))
  · have c_4 : ¬ r = 9 := fun q => c_3 (by rw [q])
    refine z_iload_n ee_O_endsRun_6 rfl ?_
    refine z_iconst ee_O_endsRun_7 (v := nI 1) (by decide) ?_
    refine z_iadd ee_O_endsRun_8 ?_
    refine z_aload_n ee_O_endsRun_9 rfl ?_
    refine z_getI ee_O_endsRun_10 ff_O_endsRun_14 (by assumption) il_7_1 ?_
    refine z_icmp_eq ee_O_endsRun_13 (tgt := 31) (by decide) (fun c_13 => ?_) (fun c_13 => ?_)
    -- at 13
    · rw [nI_add, hx.1] at c_13
      have c_14 := (nI_eq (by omega) (by omega)).mp c_13
      refine yes (Or.inr ?_)
      rw [hh, if_neg (by omega)]
      exact fun q => by cases q
    · have c_14 : i + 1 < xs.length := by
        rcases Nat.lt_or_ge (i + 1) xs.length with q | q
        · exact q
        · have : i + 1 = xs.length := by omega
          exact absurd (by rw [nI_add, hx.1, this]) c_13
      refine z_aload_n ee_O_endsRun_16 rfl ?_
      refine z_iload_n ee_O_endsRun_17 rfl ?_
      refine z_iconst ee_O_endsRun_18 (v := nI 1) (by decide) ?_
      refine z_iadd ee_O_endsRun_19 ?_
      -- at 20
      refine z_callV (As := [_]) ee_O_endsRun_20 kk_O_endsRun_24 rfl (by assumption) rfl rfl (Nat.le_of_ble_eq_true rfl) (by omega) (sp_T_at hf hT hx _) (fun E h1 hx => hx.elim) (fun v h1 hq => ?_)
      obtain ⟨rfl, rfl, -⟩ := hq
      refine z_aload_n ee_O_endsRun_23 rfl ?_
      refine z_iload_n ee_O_endsRun_24 rfl ?_
      -- at 25
      refine z_callV (As := [_]) ee_O_endsRun_25 kk_O_endsRun_24 rfl (by assumption) rfl rfl (Nat.le_of_ble_eq_true rfl) (by omega) (sp_T_at hf hT hx _) (fun E h1 hx => hx.elim) (fun v h1 hq => ?_)
      obtain ⟨rfl, rfl, -⟩ := hq
      rw [nI_add, zz_at0_n (by omega), zz_at0_n (by omega)]
      refine z_icmp_eq ee_O_endsRun_28 (tgt := 35) (by decide) (fun c_28 => ?_) (fun c_28 => ?_)
      -- at 28
      · refine z_iconst ee_O_endsRun_35 (v := nI 0) (by decide) ?_
        refine z_zret ee_O_endsRun_36 (ty := .boolean) rfl (by decide) (by omega) (by omega) ?_
        -- at 36
        have c9 : ¬ (r = 9 ∨ (xs.drop (i + 1)).head? ≠ some (xs.getD i 0)) := by
          rintro (q | q)
          · exact c_4 q
          · rw [hh, if_pos c_14, c_28] at q
            exact q rfl
        exact ⟨rfl, by rw [zz_tf_f c9]⟩
      · refine yes (Or.inr ?_)
        rw [hh, if_pos c_14]
        intro q
        injection q with q
        exact c_28 q
theorem zz_wr_loop (hf : l.stackTraces = false) (hU : zz_Tx g K R u m) (c : Int32) (hc : zz_ch c) {r k3 : Int32} (times : Nat) (ht : times < 100) {I0 : Nat → Nat → Int32} : ∀ (k i : Nat) (out : List Int32) (I : Nat → Nat → Int32), i + k = times → zz_tx I u m out → zz_fr u (u + 2) I0 I →
    Zz g l mm_O_writeRun 0 0 (fun v h' => ∃ I', h' = (K, R, I', L, z) ∧ v = none ∧ zz_tx I' u m (zz_rep m c k out) ∧ zz_fr u (u + 2) I0 I') zz_no 0 0 44 [some (.int c), some (.int r), some (.ref u), some (.int k3), some (.int (zz_tf (zz_esc c))), some (.int (nI times)), some (.int (nI i))] [] (K, R, I, L, z) := by
  intro k
  have k1 := hU.1
  induction k with
  | zero =>
    intro i out I hi hx hfr
    refine z_iload ee_O_writeRun_44 rfl ?_
    refine z_iload ee_O_writeRun_46 rfl ?_
    refine z_icmp_ge ee_O_writeRun_48 (tgt := 73) (by decide) (fun c_48 => ?_) (fun c_48 => ?_)
    -- at 48
    · refine z_vret ee_O_writeRun_73 rfl (by omega) (by omega) ?_
      -- at 73
      exact ⟨_, rfl, rfl, hx, hfr⟩
    · simp (disch := omega) only [zi_lt, zi_le, zi_eq, zi_n, zi_0, zi_m1] at c_48
      omega
  | succ k ih =>
    intro i out I hi hx hfr
    have tail : ∀ (out' : List Int32) (I' : Nat → Nat → Int32), zz_tx I' u m out' → zz_fr u (u + 2) I0 I' → out' = (if zz_esc c then zz_add m out (nI 92) else out) → Zz g l mm_O_writeRun 0 0 (fun v h' => ∃ I', h' = (K, R, I', L, z) ∧ v = none ∧ zz_tx I' u m (zz_rep m c (k + 1) out) ∧ zz_fr u (u + 2) I0 I') zz_no 0 0 62 [some (.int c), some (.int r), some (.ref u), some (.int k3), some (.int (zz_tf (zz_esc c))), some (.int (nI times)), some (.int (nI i))] [] (K, R, I', L, z) := by
      intro out' I' hx' hfr' e
      refine z_aload_n ee_O_writeRun_62 rfl ?_
      refine z_iload_n ee_O_writeRun_63 rfl ?_
      -- at 64
      refine z_callV (As := [_]) ee_O_writeRun_64 kk_O_writeRun_36 rfl (by assumption) rfl rfl (Nat.le_of_ble_eq_true rfl) (by omega) (sp_T_add hf hU hx' c hc) (fun E h1 hx => hx.elim) (fun v h1 hq => ?_)
      obtain ⟨I2, rfl, rfl, hx2, hfr2⟩ := hq
      refine z_iinc ee_O_writeRun_67 rfl rfl (by decide) ?_
      refine z_goto ee_O_writeRun_70 (tgt := 44) (by decide) ?_
      -- at 44
      have e2 : nI i + Int32.ofInt 1 = nI (i + 1) := nI_1 i
      rw [e2]
      have h9 := ih (i + 1) _ I2 (by omega) hx2 (hfr'.trans hfr2)
      unfold zz_rep
      rw [← e]
      exact h9
    refine z_iload ee_O_writeRun_44 rfl ?_
    refine z_iload ee_O_writeRun_46 rfl ?_
    refine z_icmp_ge ee_O_writeRun_48 (tgt := 73) (by decide) (fun c_48 => ?_) (fun c_48 => ?_)
    -- at 48
    · simp (disch := omega) only [zi_lt, zi_le, zi_eq, zi_n, zi_0, zi_m1] at c_48
      omega
    · refine z_iload ee_O_writeRun_51 rfl ?_
      refine z_if_eq ee_O_writeRun_53 (tgt := 62) (by decide) (fun c_53 => ?_) (fun c_53 => ?_)
      -- at 53
      · rw [zz_tf_0] at c_53
        exact tail out I hx hfr (by rw [if_neg c_53])
      · rw [zz_tf_n0] at c_53
        refine z_aload_n ee_O_writeRun_56 rfl ?_
        refine z_bipush ee_O_writeRun_57 (v := nI 92) (by decide) ?_
        -- at 59
        refine z_callV (As := [_]) ee_O_writeRun_59 kk_O_writeRun_36 rfl (by assumption) rfl rfl (Nat.le_of_ble_eq_true rfl) (by omega) (sp_T_add hf hU hx (nI 92) (zz_ch_n (by omega))) (fun E h1 hx => hx.elim) (fun v h1 hq => ?_)
        obtain ⟨I2, rfl, rfl, hx2, hfr2⟩ := hq
        exact tail _ I2 hx2 (hfr.trans hfr2) (by rw [if_pos c_53])
theorem sp_O_writeRun (hf : l.stackTraces = false) (hU : zz_Tx g K R u m) (hx : zz_tx I u m ys) (c : Int32) (hc : zz_ch c) (r : Nat) (hr : r < 10) : zz_S g l mm_O_writeRun 0 0 [.int c, .int (nI r), .ref u] (K, R, I, L, z) (fun v h' => ∃ I', h' = (K, R, I', L, z) ∧ v = none ∧ zz_tx I' u m (zz_wr m c r ys) ∧ zz_fr u (u + 2) I I') zz_no := by
  have k1 := hU.1
  refine z_start hf rfl (by decide +kernel) (Nat.le_of_ble_eq_true rfl) ?_
  dsimp only [zz_lv0]
  refine z_iload_n ee_O_writeRun_0 rfl ?_
  refine z_iconst ee_O_writeRun_1 (v := nI 3) (by decide) ?_
  refine z_icmp_lt ee_O_writeRun_2 (tgt := 9) (by decide) (fun c_2 => ?_) (fun c_2 => ?_)
  -- at 2
  · simp (disch := omega) only [zi_lt, zi_le, zi_eq, zi_n, zi_0, zi_m1] at c_2
    have e : zz_wr m c r ys = zz_rep m c r ys := if_neg (by omega)
    rw [e]
    refine z_iconst ee_O_writeRun_9 (v := nI 0) (by decide) ?_
    refine z_istore_m ee_O_writeRun_10 (j := 3) rfl (by decide) ?_
    refine z_iload_n ee_O_writeRun_11 rfl ?_
    -- at 12
    refine z_callS (As := [_]) ee_O_writeRun_12 kk_O_writeRun_32 rfl rfl (Nat.le_of_ble_eq_true rfl) (by omega) (sp_O_needsEscape hf c) (fun E h1 hx => hx.elim) (fun v h1 hq => ?_)
    obtain ⟨rfl, rfl⟩ := hq
    refine z_istore ee_O_writeRun_15 (by decide) ?_
    refine z_iload_n ee_O_writeRun_17 rfl ?_
    refine z_if_eq ee_O_writeRun_18 (tgt := 30) (by decide) (fun c_18 => ?_) (fun c_18 => ?_)
    -- at 18
    · refine z_iload_n ee_O_writeRun_30 rfl ?_
      refine z_if_eq ee_O_writeRun_31 (tgt := 38) (by decide) (fun c_31 => ?_) (fun c_31 => ?_)
      -- at 31
      · refine z_iload_n ee_O_writeRun_38 rfl ?_
        refine z_istore ee_O_writeRun_39 (by decide) ?_
        refine z_iconst ee_O_writeRun_41 (v := nI 0) (by decide) ?_
        refine z_istore ee_O_writeRun_42 (by decide) ?_
        -- at 44
        exact zz_wr_loop hf hU c hc r (by omega) r 0 ys I (by omega) hx zz_fr.rf
      · exact absurd rfl c_31
    · exact absurd rfl c_18
  · simp (disch := omega) only [zi_lt, zi_le, zi_eq, zi_n, zi_0, zi_m1] at c_2
    have e : zz_wr m c r ys = zz_rep m c 1 (zz_add m ys (nI (48 + r))) := if_pos (by omega)
    rw [e]
    refine z_iconst ee_O_writeRun_5 (v := nI 1) (by decide) ?_
    refine z_goto ee_O_writeRun_6 (tgt := 10) (by decide) ?_
    refine z_istore_m ee_O_writeRun_10 (j := 3) rfl (by decide) ?_
    refine z_iload_n ee_O_writeRun_11 rfl ?_
    -- at 12
    refine z_callS (As := [_]) ee_O_writeRun_12 kk_O_writeRun_32 rfl rfl (Nat.le_of_ble_eq_true rfl) (by omega) (sp_O_needsEscape hf c) (fun E h1 hx => hx.elim) (fun v h1 hq => ?_)
    obtain ⟨rfl, rfl⟩ := hq
    refine z_istore ee_O_writeRun_15 (by decide) ?_
    refine z_iload_n ee_O_writeRun_17 rfl ?_
    refine z_if_eq ee_O_writeRun_18 (tgt := 30) (by decide) (fun c_18 => ?_) (fun c_18 => ?_)
    -- at 18
    · exact absurd c_18 (by decide)
    · refine z_aload_n ee_O_writeRun_21 rfl ?_
      refine z_bipush ee_O_writeRun_22 (v := nI 48) (by decide) ?_
      refine z_iload_n ee_O_writeRun_24 rfl ?_
      refine z_iadd ee_O_writeRun_25 ?_
      refine z_i2c ee_O_writeRun_26 rfl ?_
      -- at 27
      rw [nI_add, zz_i2c (by omega)]
      refine z_callV (As := [_]) ee_O_writeRun_27 kk_O_writeRun_36 rfl (by assumption) rfl rfl (Nat.le_of_ble_eq_true rfl) (by omega) (sp_T_add hf hU hx (nI (48 + r)) (zz_ch_n (by omega))) (fun E h1 hx => hx.elim) (fun v h1 hq => ?_)
      obtain ⟨I2, rfl, rfl, hx2, hfr2⟩ := hq
      refine z_iload_n ee_O_writeRun_30 rfl ?_
      refine z_if_eq ee_O_writeRun_31 (tgt := 38) (by decide) (fun c_31 => ?_) (fun c_31 => ?_)
      -- at 31
      · exact absurd c_31 (by decide)
      · refine z_iconst ee_O_writeRun_34 (v := nI 1) (by decide) ?_
        refine z_goto ee_O_writeRun_35 (tgt := 39) (by decide) ?_
        refine z_istore ee_O_writeRun_39 (by decide) ?_
        refine z_iconst ee_O_writeRun_41 (v := nI 0) (by decide) ?_
        refine z_istore ee_O_writeRun_42 (by decide) ?_
        -- at 44
        exact zz_wr_loop hf hU c hc 1 (by omega) 1 0 _ I2 (by omega) hx2 hfr2
end Code
