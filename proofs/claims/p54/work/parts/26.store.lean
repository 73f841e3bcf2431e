/-! STORE: dampnesses, telegrams, next number, day, carved -/
abbrev zz_SV : Type := List Int32 × List zz_TG × Int32 × Int32 × Int32
abbrev sv_r (v : zz_SV) : List Int32 := v.1
abbrev sv_t (v : zz_SV) : List zz_TG := v.2.1
abbrev sv_n (v : zz_SV) : Int32 := v.2.2.1
abbrev sv_d (v : zz_SV) : Int32 := v.2.2.2.1
abbrev sv_c (v : zz_SV) : Int32 := v.2.2.2.2
def zz_Sx (g : zz_G) (K : Nat → Nat × Nat) (R : Nat → Nat → Option Nat) (S : Nat) (σ : Nat → Nat) : Prop :=
  (K S = zz_o 5 ∧ R S 0 = some (S + 1) ∧ R S 1 = some (S + 2) ∧ K (S + 1) = zz_a 0 4 ∧ K (S + 2) = zz_a 4 32 ∧ zz_A g S ∧ zz_A g (S + 1) ∧ zz_A g (S + 2)) ∧ (∀ j, j < 32 → zz_Gx g K R (S + 3 + 4 * j)) ∧ (∀ i, i < 32 → R (S + 2) i = some (S + 3 + 4 * σ i)) ∧ (∀ i, i < 32 → σ i < 32) ∧ ∀ i j, i < 32 → j < 32 → σ i = σ j → i = j
def zz_sx (I : Nat → Nat → Int32) (σ : Nat → Nat) (S : Nat) (v : zz_SV) : Prop :=
  (I S 2 = nI (sv_r v).length ∧ (sv_r v).length ≤ 4 ∧ ∀ j, j < (sv_r v).length → I (S + 1) j = (sv_r v).getD j 0) ∧ (I S 3 = nI (sv_t v).length ∧ (sv_t v).length ≤ 32 ∧ ∀ i x, (sv_t v)[i]? = some x → zz_gx I (S + 3 + 4 * σ i) x) ∧ I S 4 = sv_n v ∧ I S 5 = sv_d v ∧ I S 6 = sv_c v
theorem zz_lt_of {α : Type} {xs : List α} {i : Nat} {x : α} (h : xs[i]? = some x) : i < xs.length := (List.getElem?_eq_some_iff.mp h).1
theorem zz_drop_nilG {xs : List zz_TG} {i : Nat} (h : xs.drop i = []) : xs.length ≤ i := List.drop_eq_nil_iff.mp h
theorem zz_drop_consG {xs t : List zz_TG} {c : zz_TG} {i : Nat} (h : xs.drop i = c :: t) : i < xs.length ∧ xs[i]? = some c ∧ xs.drop (i + 1) = t := by
  have h1 : xs[i]? = some c := by
    have := congrArg (fun l => l[0]?) h
    simpa [List.getElem?_drop] using this
  refine ⟨zz_lt_of h1, h1, ?_⟩
  have := congrArg List.tail h
  simpa [List.tail_drop] using this
theorem zz_set_s {xs : List Int32} {j : Nat} {d : Int32} (h : j < xs.length) : (xs.set j d).getD j 0 = d := by
  simp [List.getD_eq_getElem?_getD, h]
theorem zz_set_k {xs : List Int32} {i j : Nat} {d : Int32} (h : i ≠ j) : (xs.set j d).getD i 0 = xs.getD i 0 := by
  simp [List.getD_eq_getElem?_getD, List.getElem?_set, Ne.symm h]
theorem zz_sx.fr {I I' : Nat → Nat → Int32} {σ : Nat → Nat} {S lo hi : Nat} {v : zz_SV} (h : zz_sx I σ S v) (hσ : ∀ i, i < 32 → σ i < 32) (hf : zz_fr lo hi I I') (hd : S + 131 ≤ lo ∨ hi ≤ S) : zz_sx I' σ S v := by
  obtain ⟨⟨a1, a2, a3⟩, ⟨b1, b2, b3⟩, c1, c2, c3⟩ := h
  have e : I' S = I S := hf _ (by omega)
  have e1 : I' (S + 1) = I (S + 1) := hf _ (by omega)
  refine ⟨⟨by rw [e]; exact a1, a2, fun j hj => by rw [e1]; exact a3 j hj⟩, ⟨by rw [e]; exact b1, b2, fun i x hx => ?_⟩, by rw [e]; exact c1, by rw [e]; exact c2, by rw [e]; exact c3⟩
  have h1 := zz_lt_of hx
  have h2 := hσ i (by omega)
  exact (b3 i x hx).fr hf (by omega)
/-- one telegram is another -/
theorem zz_sx.tel {I I' : Nat → Nat → Int32} {σ : Nat → Nat} {S i : Nat} {v : zz_SV} {x : zz_TG} (h : zz_sx I σ S v) (hσ : ∀ i, i < 32 → σ i < 32) (hj : ∀ i j, i < 32 → j < 32 → σ i = σ j → i = j) (hi : i < (sv_t v).length) (hf : zz_fr (S + 3 + 4 * σ i) (S + 3 + 4 * σ i + 4) I I') (hx : zz_gx I' (S + 3 + 4 * σ i) x) : zz_sx I' σ S (sv_r v, (sv_t v).set i x, sv_n v, sv_d v, sv_c v) := by
  obtain ⟨⟨a1, a2, a3⟩, ⟨b1, b2, b3⟩, c1, c2, c3⟩ := h
  have h2 := hσ i (by omega)
  have e : I' S = I S := hf _ (by omega)
  have e1 : I' (S + 1) = I (S + 1) := hf _ (by omega)
  refine ⟨⟨by rw [e]; exact a1, a2, fun j hj => by rw [e1]; exact a3 j hj⟩, ⟨?_, ?_, fun k y hy => ?_⟩, by rw [e]; exact c1, by rw [e]; exact c2, by rw [e]; exact c3⟩
  · rw [e]
    show _ = nI ((sv_t v).set i x).length
    rw [List.length_set]; exact b1
  · show ((sv_t v).set i x).length ≤ 32
    rw [List.length_set]; exact b2
  · have hy : ((sv_t v).set i x)[k]? = some y := hy
    rw [List.getElem?_set] at hy
    by_cases q : i = k
    · subst q
      rw [if_pos rfl, if_pos hi] at hy
      cases hy
      exact hx
    · rw [if_neg q] at hy
      have h3 := zz_lt_of hy
      have h4 := hσ k (by omega)
      have h5 : σ i ≠ σ k := fun e => q (hj i k (by omega) (by omega) e)
      exact (b3 k y hy).fr hf (by omega)
def zz_dmp (v : zz_SV) (i : Int32) : Int32 := if 0 ≤ i.toInt ∧ i.toInt < (sv_r v).length then (sv_r v).getD i.toInt.toNat 0 else nI 0
def zz_pos (n : Int32) : Nat → List zz_TG → Option Nat
  | _, [] => none
  | i, x :: t => if tg_n x = n then some i else zz_pos n (i + 1) t
def zz_oi : Option Nat → Int32
  | none => -1
  | some i => nI i
def zz_or (S : Nat) (σ : Nat → Nat) : Option Nat → Value
  | none => .null
  | some i => .ref (S + 3 + 4 * σ i)
theorem zz_pos_lt {n : Int32} : ∀ {ts : List zz_TG} {i j : Nat}, zz_pos n i ts = some j → i ≤ j ∧ j < i + ts.length ∧ ∃ x, ts[j - i]? = some x ∧ tg_n x = n
  | [], i, j, h => by simp [zz_pos] at h
  | x :: t, i, j, h => by
    simp only [zz_pos] at h
    by_cases q : tg_n x = n
    · rw [if_pos q] at h
      cases h
      exact ⟨Nat.le_refl _, by simp, x, by simp, q⟩
    · rw [if_neg q] at h
      obtain ⟨h1, h2, y, h3, h4⟩ := zz_pos_lt h
      refine ⟨by omega, by simp; omega, y, ?_, h4⟩
      have e : j - i = (j - (i + 1)) + 1 := by omega
      rw [e, List.getElem?_cons_succ]
      exact h3
theorem zz_pos_at {n : Int32} {ts : List zz_TG} {j : Nat} (h : zz_pos n 0 ts = some j) : j < ts.length ∧ ∃ x, ts[j]? = some x ∧ tg_n x = n := by
  obtain ⟨h1, h2, h3⟩ := zz_pos_lt h
  exact ⟨by omega, h3⟩
/-- a sum over telegrams -/
def zz_fs (f : zz_TG → Int32) : Int32 → List zz_TG → Int32
  | s, [] => s
  | s, x :: t => zz_fs f (s + f x) t
section Store
variable {g : zz_G} {l : Launch} {K : Nat → Nat × Nat} {R : Nat → Nat → Option Nat} {I : Nat → Nat → Int32} {L : Nat → Nat → Int64} {z : Nat} {S U : Nat} {v w : zz_SV} {σ τ : Nat → Nat}
theorem sp_S_hasRoot (hf : l.stackTraces = false) (hS : zz_Sx g K R S σ) (hv : zz_sx I σ S v) (i : Int32) : zz_S g l mm_S_hasRoot 0 0 [.ref S, .int i] (K, R, I, L, z) (zz_is (K, R, I, L, z) (.int (zz_tf (0 ≤ i.toInt ∧ i.toInt < (sv_r v).length)))) zz_no := by
  obtain ⟨⟨k1, k2, k3, k4, k5, k6, k7, k8⟩, -⟩ := hS
  obtain ⟨⟨a1, a2, a3⟩, -⟩ := hv
  refine z_start hf rfl (by decide +kernel) (Nat.le_of_ble_eq_true rfl) ?_
  dsimp only [zz_lv0]
  refine z_iload_n ee_S_hasRoot_0 rfl ?_
  refine z_if_lt ee_S_hasRoot_1 (tgt := 25) (by decide) (fun c_1 => ?_) (fun c_1 => ?_)
  -- at 1
  · simp (disch := omega) only [zi_lt, zi_le, zi_eq, zi_n, zi_0, zi_m1] at c_1
    refine z_iconst ee_S_hasRoot_25 (v := nI 0) (by decide) ?_
    refine z_zret ee_S_hasRoot_26 (ty := .boolean) rfl (by decide) (by omega) (by omega) ?_
    -- at 26
    exact ⟨rfl, by rw [zz_tf_f (by omega)]⟩
  · simp (disch := omega) only [zi_lt, zi_le, zi_eq, zi_n, zi_0, zi_m1] at c_1
    refine z_iload_n ee_S_hasRoot_4 rfl ?_
    refine z_aload_n ee_S_hasRoot_5 rfl ?_
    refine z_getI ee_S_hasRoot_6 ff_S_hasRoot_21 (by assumption) il_5_2 ?_
    refine z_icmp_ge ee_S_hasRoot_9 (tgt := 25) (by decide) (fun c_9 => ?_) (fun c_9 => ?_)
    -- at 9
    · rw [a1] at c_9
      simp (disch := omega) only [zi_lt, zi_le, zi_eq, zi_n, zi_0, zi_m1] at c_9
      refine z_iconst ee_S_hasRoot_25 (v := nI 0) (by decide) ?_
      refine z_zret ee_S_hasRoot_26 (ty := .boolean) rfl (by decide) (by omega) (by omega) ?_
      -- at 26
      exact ⟨rfl, by rw [zz_tf_f (by omega)]⟩
    · rw [a1] at c_9
      simp (disch := omega) only [zi_lt, zi_le, zi_eq, zi_n, zi_0, zi_m1] at c_9
      refine z_iload_n ee_S_hasRoot_12 rfl ?_
      refine z_aload_n ee_S_hasRoot_13 rfl ?_
      refine z_getR ee_S_hasRoot_14 ff_S_hasRoot_9 (by assumption) il_5_0 (by assumption) ?_
      refine z_alen ee_S_hasRoot_17 (by assumption) ?_
      refine z_icmp_ge ee_S_hasRoot_18 (tgt := 25) (by decide) (fun c_18 => ?_) (fun c_18 => ?_)
      -- at 18
      · simp (disch := omega) only [zi_lt, zi_le, zi_eq, zi_n, zi_0, zi_m1] at c_18
        omega
      · refine z_iconst ee_S_hasRoot_21 (v := nI 1) (by decide) ?_
        refine z_goto ee_S_hasRoot_22 (tgt := 26) (by decide) ?_
        refine z_zret ee_S_hasRoot_26 (ty := .boolean) rfl (by decide) (by omega) (by omega) ?_
        -- at 26
        exact ⟨rfl, by rw [zz_tf_t (by omega)]⟩
theorem sp_S_dampnessAt (hf : l.stackTraces = false) (hS : zz_Sx g K R S σ) (hv : zz_sx I σ S v) (i : Int32) : zz_S g l mm_S_dampnessAt 0 0 [.ref S, .int i] (K, R, I, L, z) (zz_is (K, R, I, L, z) (.int (zz_dmp v i))) zz_no := by
  have hS' := hS
  obtain ⟨⟨k1, k2, k3, k4, k5, k6, k7, k8⟩, -⟩ := hS
  obtain ⟨a1, a2, a3⟩ := hv.1
  refine z_start hf rfl (by decide +kernel) (Nat.le_of_ble_eq_true rfl) ?_
  dsimp only [zz_lv0]
  refine z_aload_n ee_S_dampnessAt_0 rfl ?_
  refine z_iload_n ee_S_dampnessAt_1 rfl ?_
  -- at 2
  refine z_callV (As := [_]) ee_S_dampnessAt_2 kk_S_dampnessAt_50 rfl (by assumption) rfl rfl (Nat.le_of_ble_eq_true rfl) (by omega) (sp_S_hasRoot hf hS' hv i) (fun E h1 hx => hx.elim) (fun v h1 hq => ?_)
  obtain ⟨rfl, rfl⟩ := hq
  refine z_if_eq ee_S_dampnessAt_5 (tgt := 17) (by decide) (fun c_5 => ?_) (fun c_5 => ?_)
  -- at 5
  · rw [zz_tf_0] at c_5
    refine z_iconst ee_S_dampnessAt_17 (v := nI 0) (by decide) ?_
    refine z_iret ee_S_dampnessAt_18 rfl (by omega) (by omega) ?_
    -- at 18
    exact ⟨rfl, by unfold zz_dmp; rw [if_neg c_5]⟩
  · rw [zz_tf_n0] at c_5
    refine z_aload_n ee_S_dampnessAt_8 rfl ?_
    refine z_getR ee_S_dampnessAt_9 ff_S_dampnessAt_9 (by assumption) il_5_0 (by assumption) ?_
    refine z_iload_n ee_S_dampnessAt_12 rfl ?_
    -- at 13
    refine z_iald ee_S_dampnessAt_13 (by assumption) (zi_of c_5.1) (by omega) (by omega) ?_
    refine z_goto ee_S_dampnessAt_14 (tgt := 18) (by decide) ?_
    refine z_iret ee_S_dampnessAt_18 rfl (by omega) (by omega) ?_
    -- at 18
    refine ⟨rfl, ?_⟩
    unfold zz_dmp
    rw [if_pos c_5, a3 _ (by omega)]
theorem sp_S_putDampness (hf : l.stackTraces = false) (hS : zz_Sx g K R S σ) (hv : zz_sx I σ S v) (j : Nat) (hj : j < (sv_r v).length) (d : Int32) : zz_S g l mm_S_putDampness 0 0 [.ref S, .int (nI j), .int d] (K, R, I, L, z) (fun a h' => ∃ I', h' = (K, R, I', L, z) ∧ a = none ∧ zz_sx I' σ S ((sv_r v).set j d, sv_t v, sv_n v, sv_d v, sv_c v) ∧ zz_fr S (S + 131) I I') zz_no := by
  have hS' := hS
  obtain ⟨⟨k1, k2, k3, k4, k5, k6, k7, k8⟩, -, -, hσ, -⟩ := hS
  have hv' := hv
  obtain ⟨⟨a1, a2, a3⟩, ⟨b1, b2, b3⟩, c1, c2, c3⟩ := hv
  refine z_start hf rfl (by decide +kernel) (Nat.le_of_ble_eq_true rfl) ?_
  dsimp only [zz_lv0]
  refine z_aload_n ee_S_putDampness_0 rfl ?_
  refine z_iload_n ee_S_putDampness_1 rfl ?_
  -- at 2
  refine z_callV (As := [_]) ee_S_putDampness_2 kk_S_putDampness_50 rfl (by assumption) rfl rfl (Nat.le_of_ble_eq_true rfl) (by omega) (sp_S_hasRoot hf hS' hv' (nI j)) (fun E h1 hx => hx.elim) (fun v h1 hq => ?_)
  obtain ⟨rfl, rfl⟩ := hq
  refine z_if_eq ee_S_putDampness_5 (tgt := 15) (by decide) (fun c_5 => ?_) (fun c_5 => ?_)
  -- at 5
  · rw [zz_tf_0, zi_n (by omega)] at c_5
    exact absurd ⟨by omega, by omega⟩ c_5
  · refine z_aload_n ee_S_putDampness_8 rfl ?_
    refine z_getR ee_S_putDampness_9 ff_S_putDampness_9 (by assumption) il_5_0 (by assumption) ?_
    refine z_iload_n ee_S_putDampness_12 rfl ?_
    refine z_iload_n ee_S_putDampness_13 rfl ?_
    -- at 14
    refine z_iast ee_S_putDampness_14 (by assumption) (by assumption) rfl (by omega) (by omega) ?_
    refine z_vret ee_S_putDampness_15 rfl (by omega) (by omega) ?_
    -- at 15
    have hfr : zz_fr (S + 1) (S + 2) I (zz_up I (S + 1) j d) := zz_fr.rf.up (by omega) (by omega)
    have e : zz_up I (S + 1) j d S = I S := hfr S (by omega)
    refine ⟨_, rfl, rfl, ⟨⟨?_, ?_, fun i hi => ?_⟩, ⟨by rw [e]; exact b1, b2, fun i x hx => ?_⟩, by rw [e]; exact c1, by rw [e]; exact c2, by rw [e]; exact c3⟩, hfr.wid (by omega) (by omega)⟩
    · rw [e]
      show _ = nI ((sv_r v).set j d).length
      rw [List.length_set]; exact a1
    · show ((sv_r v).set j d).length ≤ 4
      rw [List.length_set]; exact a2
    · have hi : i < ((sv_r v).set j d).length := hi
      rw [List.length_set] at hi
      show _ = ((sv_r v).set j d).getD i 0
      by_cases q : i = j
      · subst q
        rw [zz_up_s, zz_set_s hj]
      · rw [zz_up_k q, a3 i hi, zz_set_k q]
    · exact (b3 i x hx).fr hfr (by omega)
theorem sp_S_telegramIn (hf : l.stackTraces = false) (hS : zz_Sx g K R S σ) (hv : zz_sx I σ S v) (i : Int32) : zz_S g l mm_S_telegramIn 0 0 [.ref S, .int i] (K, R, I, L, z) (zz_is (K, R, I, L, z) (zz_or S σ (if 0 ≤ i.toInt ∧ i.toInt < (sv_t v).length then some i.toInt.toNat else none))) zz_no := by
  obtain ⟨⟨k1, k2, k3, k4, k5, k6, k7, k8⟩, hG, hr, hσ, -⟩ := hS
  obtain ⟨-, ⟨b1, b2, b3⟩, -⟩ := hv
  have nope : ¬ (0 ≤ i.toInt ∧ i.toInt < (sv_t v).length) → Zz g l mm_S_telegramIn 0 0 (zz_is (K, R, I, L, z) (zz_or S σ (if 0 ≤ i.toInt ∧ i.toInt < (sv_t v).length then some i.toInt.toNat else none))) zz_no 0 0 25 [some (.ref S), some (.int i)] [] (K, R, I, L, z) := by
    intro hn
    rw [if_neg hn]
    refine z_iconst ee_S_telegramIn_25 (v := nI 0) (by decide) ?_
    refine z_istore_m ee_S_telegramIn_26 (j := 2) rfl (by decide) ?_
    refine z_iload_n ee_S_telegramIn_27 rfl ?_
    refine z_if_eq ee_S_telegramIn_28 (tgt := 40) (by decide) (fun c_28 => ?_) (fun c_28 => ?_)
    -- at 28
    · refine z_null ee_S_telegramIn_40 ?_
      refine z_aretN ee_S_telegramIn_41 rfl (Or.inl ⟨_, rfl⟩) (by omega) (by omega) ?_
      -- at 41
      exact ⟨rfl, rfl⟩
    · exact absurd rfl c_28
  refine z_start hf rfl (by decide +kernel) (Nat.le_of_ble_eq_true rfl) ?_
  dsimp only [zz_lv0]
  refine z_iload_n ee_S_telegramIn_0 rfl ?_
  refine z_if_lt ee_S_telegramIn_1 (tgt := 25) (by decide) (fun c_1 => ?_) (fun c_1 => ?_)
  -- at 1
  · simp (disch := omega) only [zi_lt, zi_le, zi_eq, zi_n, zi_0, zi_m1] at c_1
    exact nope (by omega)
  · simp (disch := omega) only [zi_lt, zi_le, zi_eq, zi_n, zi_0, zi_m1] at c_1
    refine z_iload_n ee_S_telegramIn_4 rfl ?_
    refine z_aload_n ee_S_telegramIn_5 rfl ?_
    refine z_getI ee_S_telegramIn_6 ff_S_telegramIn_25 (by assumption) il_5_3 ?_
    refine z_icmp_ge ee_S_telegramIn_9 (tgt := 25) (by decide) (fun c_9 => ?_) (fun c_9 => ?_)
    -- at 9
    · rw [b1] at c_9
      simp (disch := omega) only [zi_lt, zi_le, zi_eq, zi_n, zi_0, zi_m1] at c_9
      exact nope (by omega)
    · rw [b1] at c_9
      simp (disch := omega) only [zi_lt, zi_le, zi_eq, zi_n, zi_0, zi_m1] at c_9
      refine z_iload_n ee_S_telegramIn_12 rfl ?_
      refine z_aload_n ee_S_telegramIn_13 rfl ?_
      refine z_getR ee_S_telegramIn_14 ff_S_telegramIn_17 (by assumption) il_5_1 (by assumption) ?_
      refine z_alen ee_S_telegramIn_17 (by assumption) ?_
      refine z_icmp_ge ee_S_telegramIn_18 (tgt := 25) (by decide) (fun c_18 => ?_) (fun c_18 => ?_)
      -- at 18
      · simp (disch := omega) only [zi_lt, zi_le, zi_eq, zi_n, zi_0, zi_m1] at c_18
        omega
      · refine z_iconst ee_S_telegramIn_21 (v := nI 1) (by decide) ?_
        refine z_goto ee_S_telegramIn_22 (tgt := 26) (by decide) ?_
        refine z_istore_m ee_S_telegramIn_26 (j := 2) rfl (by decide) ?_
        refine z_iload_n ee_S_telegramIn_27 rfl ?_
        refine z_if_eq ee_S_telegramIn_28 (tgt := 40) (by decide) (fun c_28 => ?_) (fun c_28 => ?_)
        -- at 28
        · exact absurd c_28 (by decide)
        · refine z_aload_n ee_S_telegramIn_31 rfl ?_
          refine z_getR ee_S_telegramIn_32 ff_S_telegramIn_17 (by assumption) il_5_1 (by assumption) ?_
          refine z_iload_n ee_S_telegramIn_35 rfl ?_
          -- at 36
          refine z_aald ee_S_telegramIn_36 (by assumption) (by decide) (zi_of (by omega)) (by omega) (by omega) (hr _ (by omega)) ?_
          refine z_goto ee_S_telegramIn_37 (tgt := 41) (by decide) ?_
          refine z_aret ee_S_telegramIn_41 rfl (Or.inl ⟨_, rfl⟩) (by omega) (by omega) ?_
          -- at 41
          refine ⟨rfl, ?_⟩
          rw [if_pos (by omega)]
          rfl
theorem zz_pos_loop (hf : l.stackTraces = false) (hS : zz_Sx g K R S σ) (hv : zz_sx I σ S v) (n : Int32) : ∀ (ys : List zz_TG) (i : Nat), (sv_t v).drop i = ys → i ≤ (sv_t v).length →
    Zz g l mm_S_positionOf 0 0 (zz_is (K, R, I, L, z) (.int (zz_oi (zz_pos n i ys)))) zz_no 0 0 2 [some (.ref S), some (.int n), some (.int (nI i))] [] (K, R, I, L, z) := by
  intro ys
  obtain ⟨⟨k1, k2, k3, k4, k5, k6, k7, k8⟩, hG, hr, hσ, -⟩ := hS
  obtain ⟨-, ⟨b1, b2, b3⟩, -⟩ := hv
  induction ys with
  | nil =>
    intro i hi hil
    have h1 := zz_drop_nilG hi
    refine z_iload_n ee_S_positionOf_2 rfl ?_
    refine z_aload_n ee_S_positionOf_3 rfl ?_
    refine z_getI ee_S_positionOf_4 ff_S_positionOf_25 (by assumption) il_5_3 ?_
    refine z_icmp_ge ee_S_positionOf_7 (tgt := 40) (by decide) (fun c_7 => ?_) (fun c_7 => ?_)
    -- at 7
    · refine z_iconst ee_S_positionOf_40 (v := -1) (by decide) ?_
      refine z_iret ee_S_positionOf_41 rfl (by omega) (by omega) ?_
      -- at 41
      exact ⟨rfl, rfl⟩
    · rw [b1] at c_7
      simp (disch := omega) only [zi_lt, zi_le, zi_eq, zi_n, zi_0, zi_m1] at c_7
      omega
  | cons x ys ih =>
    intro i hi hil
    obtain ⟨h1, h2, h3⟩ := zz_drop_consG hi
    refine z_iload_n ee_S_positionOf_2 rfl ?_
    refine z_aload_n ee_S_positionOf_3 rfl ?_
    refine z_getI ee_S_positionOf_4 ff_S_positionOf_25 (by assumption) il_5_3 ?_
    refine z_icmp_ge ee_S_positionOf_7 (tgt := 40) (by decide) (fun c_7 => ?_) (fun c_7 => ?_)
    -- at 7
    · rw [b1] at c_7
      simp (disch := omega) only [zi_lt, zi_le, zi_eq, zi_n, zi_0, zi_m1] at c_7
      omega
    · refine z_iload_n ee_S_positionOf_10 rfl ?_
      refine z_aload_n ee_S_positionOf_11 rfl ?_
      refine z_getR ee_S_positionOf_12 ff_S_positionOf_17 (by assumption) il_5_1 (by assumption) ?_
      refine z_alen ee_S_positionOf_15 (by assumption) ?_
      refine z_icmp_ge ee_S_positionOf_16 (tgt := 40) (by decide) (fun c_16 => ?_) (fun c_16 => ?_)
      -- at 16
      · simp (disch := omega) only [zi_lt, zi_le, zi_eq, zi_n, zi_0, zi_m1] at c_16
        omega
      · refine z_aload_n ee_S_positionOf_19 rfl ?_
        refine z_getR ee_S_positionOf_20 ff_S_positionOf_17 (by assumption) il_5_1 (by assumption) ?_
        refine z_iload_n ee_S_positionOf_23 rfl ?_
        -- at 24
        have hk := (hG (σ i) (hσ i (by omega))).1
        have hx := (b3 i x h2).2.2.2.2.2.1
        refine z_aald ee_S_positionOf_24 (by assumption) (by decide) rfl (by omega) (by omega) (hr _ (by omega)) ?_
        refine z_getI ee_S_positionOf_25 ff_S_positionOf_54 (by assumption) il_6_3 ?_
        refine z_iload_n ee_S_positionOf_28 rfl ?_
        refine z_icmp_ne ee_S_positionOf_29 (tgt := 34) (by decide) (fun c_29 => ?_) (fun c_29 => ?_)
        -- at 29
        · rw [hx] at c_29
          refine z_iinc ee_S_positionOf_34 rfl rfl (by decide) ?_
          refine z_goto ee_S_positionOf_37 (tgt := 2) (by decide) ?_
          -- at 2
          rw [zz_iinc1]
          have h9 := ih (i + 1) h3 (by omega)
          simp only [zz_pos]
          rw [if_neg c_29]
          exact h9
        · rw [hx] at c_29
          refine z_iload_n ee_S_positionOf_32 rfl ?_
          refine z_iret ee_S_positionOf_33 rfl (by omega) (by omega) ?_
          -- at 33
          refine ⟨rfl, ?_⟩
          simp only [zz_pos]
          rw [if_pos c_29]
          rfl
theorem sp_S_positionOf (hf : l.stackTraces = false) (hS : zz_Sx g K R S σ) (hv : zz_sx I σ S v) (n : Int32) : zz_S g l mm_S_positionOf 0 0 [.ref S, .int n] (K, R, I, L, z) (zz_is (K, R, I, L, z) (.int (zz_oi (zz_pos n 0 (sv_t v))))) zz_no := by
  refine z_start hf rfl (by decide +kernel) (Nat.le_of_ble_eq_true rfl) ?_
  dsimp only [zz_lv0]
  refine z_iconst ee_S_positionOf_0 (v := nI 0) (by decide) ?_
  refine z_istore_m ee_S_positionOf_1 (j := 2) rfl (by decide) ?_
  -- at 2
  exact zz_pos_loop hf hS hv n (sv_t v) 0 rfl (Nat.zero_le _)
theorem zz_oi_in {n : Int32} {ts : List zz_TG} (h : ts.length ≤ 32) : (if 0 ≤ (zz_oi (zz_pos n 0 ts)).toInt ∧ (zz_oi (zz_pos n 0 ts)).toInt < ts.length then some (zz_oi (zz_pos n 0 ts)).toInt.toNat else none) = zz_pos n 0 ts := by
  cases hp : zz_pos n 0 ts with
  | none =>
    simp only [zz_oi, zi_m1]
    rw [if_neg (by omega)]
  | some i =>
    obtain ⟨h1, -⟩ := zz_pos_at hp
    simp only [zz_oi, zi_n (show i < 2 ^ 31 by omega)]
    rw [if_pos (by omega)]
    simp
theorem sp_S_find (hf : l.stackTraces = false) (hS : zz_Sx g K R S σ) (hv : zz_sx I σ S v) (n : Int32) : zz_S g l mm_S_find 0 0 [.ref S, .int n] (K, R, I, L, z) (zz_is (K, R, I, L, z) (zz_or S σ (zz_pos n 0 (sv_t v)))) zz_no := by
  have k1 := hS.1.1
  have b2 := hv.2.1.2.1
  refine z_start hf rfl (by decide +kernel) (Nat.le_of_ble_eq_true rfl) ?_
  dsimp only [zz_lv0]
  refine z_aload_n ee_S_find_0 rfl ?_
  refine z_aload_n ee_S_find_1 rfl ?_
  refine z_iload_n ee_S_find_2 rfl ?_
  -- at 3
  refine z_callV (As := [_]) ee_S_find_3 kk_S_find_57 rfl (by assumption) rfl rfl (Nat.le_of_ble_eq_true rfl) (by omega) (sp_S_positionOf hf hS hv n) (fun E h1 hx => hx.elim) (fun v h1 hq => ?_)
  obtain ⟨rfl, rfl⟩ := hq
  refine z_callV (As := [_]) ee_S_find_6 kk_S_find_42 rfl (by assumption) rfl rfl (Nat.le_of_ble_eq_true rfl) (by omega) (sp_S_telegramIn hf hS hv _) (fun E h1 hx => hx.elim) (fun v h1 hq => ?_)
  obtain ⟨rfl, rfl⟩ := hq
  rw [zz_oi_in b2]
  cases hp : zz_pos n 0 (sv_t v) with
  | none => exact z_aretN ee_S_find_9 rfl (Or.inl ⟨_, rfl⟩) (by omega) (by omega) ⟨rfl, rfl⟩
  | some i => exact z_aret ee_S_find_9 rfl (Or.inl ⟨_, rfl⟩) (by omega) (by omega) ⟨rfl, rfl⟩
theorem zz_cpi_loop (hf : l.stackTraces = false) (hS : zz_Sx g K R S σ) (hv : zz_sx I σ S v) (r : Int32) : ∀ (ys : List zz_TG) (i : Nat) (s : Int32), (sv_t v).drop i = ys → i ≤ (sv_t v).length →
    Zz g l mm_S_countPagesIn 0 0 (zz_is (K, R, I, L, z) (.int (zz_fs (fun x => if tg_o x = r then nI (tg_p x) else nI 0) s ys))) zz_no 0 0 4 [some (.ref S), some (.int r), some (.int s), some (.int (nI i))] [] (K, R, I, L, z) := by
  intro ys
  obtain ⟨⟨k1, k2, k3, k4, k5, k6, k7, k8⟩, hG, hr, hσ, -⟩ := hS
  obtain ⟨-, ⟨b1, b2, b3⟩, -⟩ := hv
  induction ys with
  | nil =>
    intro i s hi hil
    have h1 := zz_drop_nilG hi
    refine z_iload_n ee_S_countPagesIn_4 rfl ?_
    refine z_aload_n ee_S_countPagesIn_5 rfl ?_
    refine z_getI ee_S_countPagesIn_6 ff_S_countPagesIn_25 (by assumption) il_5_3 ?_
    refine z_icmp_ge ee_S_countPagesIn_9 (tgt := 56) (by decide) (fun c_9 => ?_) (fun c_9 => ?_)
    -- at 9
    · refine z_iload_n ee_S_countPagesIn_56 rfl ?_
      refine z_iret ee_S_countPagesIn_57 rfl (by omega) (by omega) ?_
      -- at 57
      exact ⟨rfl, rfl⟩
    · rw [b1] at c_9
      simp (disch := omega) only [zi_lt, zi_le, zi_eq, zi_n, zi_0, zi_m1] at c_9
      omega
  | cons x ys ih =>
    intro i s hi hil
    obtain ⟨h1, h2, h3⟩ := zz_drop_consG hi
    refine z_iload_n ee_S_countPagesIn_4 rfl ?_
    refine z_aload_n ee_S_countPagesIn_5 rfl ?_
    refine z_getI ee_S_countPagesIn_6 ff_S_countPagesIn_25 (by assumption) il_5_3 ?_
    refine z_icmp_ge ee_S_countPagesIn_9 (tgt := 56) (by decide) (fun c_9 => ?_) (fun c_9 => ?_)
    -- at 9
    · rw [b1] at c_9
      simp (disch := omega) only [zi_lt, zi_le, zi_eq, zi_n, zi_0, zi_m1] at c_9
      omega
    · refine z_iload_n ee_S_countPagesIn_12 rfl ?_
      refine z_aload_n ee_S_countPagesIn_13 rfl ?_
      refine z_getR ee_S_countPagesIn_14 ff_S_countPagesIn_17 (by assumption) il_5_1 (by assumption) ?_
      refine z_alen ee_S_countPagesIn_17 (by assumption) ?_
      refine z_icmp_ge ee_S_countPagesIn_18 (tgt := 56) (by decide) (fun c_18 => ?_) (fun c_18 => ?_)
      -- at 18
      · simp (disch := omega) only [zi_lt, zi_le, zi_eq, zi_n, zi_0, zi_m1] at c_18
        omega
      · refine z_iload_n ee_S_countPagesIn_21 rfl ?_
        refine z_aload_n ee_S_countPagesIn_22 rfl ?_
        refine z_getR ee_S_countPagesIn_23 ff_S_countPagesIn_17 (by assumption) il_5_1 (by assumption) ?_
        refine z_iload_n ee_S_countPagesIn_26 rfl ?_
        -- at 27
        have hk := (hG (σ i) (hσ i (by omega))).1
        have hx := (b3 i x h2).2.2.2.2.2.2.1
        have hp := (b3 i x h2).2.2.2.1
        refine z_aald ee_S_countPagesIn_27 (by assumption) (by decide) rfl (by omega) (by omega) (hr _ (by omega)) ?_
        refine z_getI ee_S_countPagesIn_28 ff_S_countPagesIn_70 (by assumption) il_6_4 ?_
        refine z_iload_n ee_S_countPagesIn_31 rfl ?_
        refine z_icmp_ne ee_S_countPagesIn_32 (tgt := 47) (by decide) (fun c_32 => ?_) (fun c_32 => ?_)
        -- at 32
        · rw [hx] at c_32
          refine z_iconst ee_S_countPagesIn_47 (v := nI 0) (by decide) ?_
          refine z_iadd ee_S_countPagesIn_48 ?_
          refine z_istore_m ee_S_countPagesIn_49 (j := 2) rfl (by decide) ?_
          refine z_iinc ee_S_countPagesIn_50 rfl rfl (by decide) ?_
          refine z_goto ee_S_countPagesIn_53 (tgt := 4) (by decide) ?_
          -- at 4
          rw [zz_iinc1]
          have h9 := ih (i + 1) (s + nI 0) h3 (by omega)
          simp only [zz_fs]
          rw [if_neg c_32]
          exact h9
        · rw [hx] at c_32
          refine z_aload_n ee_S_countPagesIn_35 rfl ?_
          refine z_getR ee_S_countPagesIn_36 ff_S_countPagesIn_17 (by assumption) il_5_1 (by assumption) ?_
          refine z_iload_n ee_S_countPagesIn_39 rfl ?_
          -- at 40
          refine z_aald ee_S_countPagesIn_40 (by assumption) (by decide) rfl (by omega) (by omega) (hr _ (by omega)) ?_
          refine z_getI ee_S_countPagesIn_41 ff_S_countPagesIn_73 (by assumption) il_6_2 ?_
          refine z_goto ee_S_countPagesIn_44 (tgt := 48) (by decide) ?_
          refine z_iadd ee_S_countPagesIn_48 ?_
          refine z_istore_m ee_S_countPagesIn_49 (j := 2) rfl (by decide) ?_
          refine z_iinc ee_S_countPagesIn_50 rfl rfl (by decide) ?_
          refine z_goto ee_S_countPagesIn_53 (tgt := 4) (by decide) ?_
          -- at 4
          rw [zz_iinc1, hp]
          have h9 := ih (i + 1) (s + nI (tg_p x)) h3 (by omega)
          simp only [zz_fs]
          rw [if_pos c_32]
          exact h9
/-- the pages in a root -/
def zz_cpi (v : zz_SV) (r : Int32) : Int32 := zz_fs (fun x => if tg_o x = r then nI (tg_p x) else nI 0) (nI 0) (sv_t v)
theorem sp_S_countPagesIn (hf : l.stackTraces = false) (hS : zz_Sx g K R S σ) (hv : zz_sx I σ S v) (r : Int32) : zz_S g l mm_S_countPagesIn 0 0 [.ref S, .int r] (K, R, I, L, z) (zz_is (K, R, I, L, z) (.int (zz_cpi v r))) zz_no := by
  refine z_start hf rfl (by decide +kernel) (Nat.le_of_ble_eq_true rfl) ?_
  dsimp only [zz_lv0]
  refine z_iconst ee_S_countPagesIn_0 (v := nI 0) (by decide) ?_
  refine z_istore_m ee_S_countPagesIn_1 (j := 2) rfl (by decide) ?_
  refine z_iconst ee_S_countPagesIn_2 (v := nI 0) (by decide) ?_
  refine z_istore_m ee_S_countPagesIn_3 (j := 3) rfl (by decide) ?_
  -- at 4
  exact zz_cpi_loop hf hS hv r (sv_t v) 0 (nI 0) rfl (Nat.zero_le _)
theorem sp_S_hasRoomFor (hf : l.stackTraces = false) (hS : zz_Sx g K R S σ) (hv : zz_sx I σ S v) (r p : Int32) : zz_S g l mm_S_hasRoomFor 0 0 [.ref S, .int r, .int p] (K, R, I, L, z) (zz_is (K, R, I, L, z) (.int (zz_tf (zz_cpi v r + p ≤ nI 8)))) zz_no := by
  have k1 := hS.1.1
  refine z_start hf rfl (by decide +kernel) (Nat.le_of_ble_eq_true rfl) ?_
  dsimp only [zz_lv0]
  refine z_aload_n ee_S_hasRoomFor_0 rfl ?_
  refine z_iload_n ee_S_hasRoomFor_1 rfl ?_
  -- at 2
  refine z_callV (As := [_]) ee_S_hasRoomFor_2 kk_S_hasRoomFor_60 rfl (by assumption) rfl rfl (Nat.le_of_ble_eq_true rfl) (by omega) (sp_S_countPagesIn hf hS hv r) (fun E h1 hx => hx.elim) (fun v h1 hq => ?_)
  obtain ⟨rfl, rfl⟩ := hq
  refine z_iload_n ee_S_hasRoomFor_5 rfl ?_
  refine z_iadd ee_S_hasRoomFor_6 ?_
  refine z_bipush ee_S_hasRoomFor_7 (v := nI 8) (by decide) ?_
  refine z_icmp_gt ee_S_hasRoomFor_9 (tgt := 16) (by decide) (fun c_9 => ?_) (fun c_9 => ?_)
  -- at 9
  · refine z_iconst ee_S_hasRoomFor_16 (v := nI 0) (by decide) ?_
    refine z_zret ee_S_hasRoomFor_17 (ty := .boolean) rfl (by decide) (by omega) (by omega) ?_
    -- at 17
    exact ⟨rfl, by rw [zz_tf_f (Int32.not_le.mpr c_9)]⟩
  · refine z_iconst ee_S_hasRoomFor_12 (v := nI 1) (by decide) ?_
    refine z_goto ee_S_hasRoomFor_13 (tgt := 17) (by decide) ?_
    refine z_zret ee_S_hasRoomFor_17 (ty := .boolean) rfl (by decide) (by omega) (by omega) ?_
    -- at 17
    exact ⟨rfl, by rw [zz_tf_t (Int32.not_lt.mp c_9)]⟩
theorem zz_cps_loop (hf : l.stackTraces = false) (hS : zz_Sx g K R S σ) (hv : zz_sx I σ S v) : ∀ (ys : List zz_TG) (i : Nat) (s : Int32), (sv_t v).drop i = ys → i ≤ (sv_t v).length →
    Zz g l mm_S_countPages 0 0 (zz_is (K, R, I, L, z) (.int (zz_fs (fun x => nI (tg_p x)) s ys))) zz_no 0 0 4 [some (.ref S), some (.int s), some (.int (nI i))] [] (K, R, I, L, z) := by
  intro ys
  obtain ⟨⟨k1, k2, k3, k4, k5, k6, k7, k8⟩, hG, hr, hσ, -⟩ := hS
  obtain ⟨-, ⟨b1, b2, b3⟩, -⟩ := hv
  induction ys with
  | nil =>
    intro i s hi hil
    have h1 := zz_drop_nilG hi
    refine z_iload_n ee_S_countPages_4 rfl ?_
    refine z_aload_n ee_S_countPages_5 rfl ?_
    refine z_getI ee_S_countPages_6 ff_S_countPages_25 (by assumption) il_5_3 ?_
    refine z_icmp_ge ee_S_countPages_9 (tgt := 39) (by decide) (fun c_9 => ?_) (fun c_9 => ?_)
    -- at 9
    · refine z_iload_n ee_S_countPages_39 rfl ?_
      refine z_iret ee_S_countPages_40 rfl (by omega) (by omega) ?_
      -- at 40
      exact ⟨rfl, rfl⟩
    · rw [b1] at c_9
      simp (disch := omega) only [zi_lt, zi_le, zi_eq, zi_n, zi_0, zi_m1] at c_9
      omega
  | cons x ys ih =>
    intro i s hi hil
    obtain ⟨h1, h2, h3⟩ := zz_drop_consG hi
    refine z_iload_n ee_S_countPages_4 rfl ?_
    refine z_aload_n ee_S_countPages_5 rfl ?_
    refine z_getI ee_S_countPages_6 ff_S_countPages_25 (by assumption) il_5_3 ?_
    refine z_icmp_ge ee_S_countPages_9 (tgt := 39) (by decide) (fun c_9 => ?_) (fun c_9 => ?_)
    -- at 9
    · rw [b1] at c_9
      simp (disch := omega) only [zi_lt, zi_le, zi_eq, zi_n, zi_0, zi_m1] at c_9
      omega
    · refine z_iload_n ee_S_countPages_12 rfl ?_
      refine z_aload_n ee_S_countPages_13 rfl ?_
      refine z_getR ee_S_countPages_14 ff_S_countPages_17 (by assumption) il_5_1 (by assumption) ?_
      refine z_alen ee_S_countPages_17 (by assumption) ?_
      refine z_icmp_ge ee_S_countPages_18 (tgt := 39) (by decide) (fun c_18 => ?_) (fun c_18 => ?_)
      -- at 18
      · simp (disch := omega) only [zi_lt, zi_le, zi_eq, zi_n, zi_0, zi_m1] at c_18
        omega
      · refine z_iload_n ee_S_countPages_21 rfl ?_
        refine z_aload_n ee_S_countPages_22 rfl ?_
        refine z_getR ee_S_countPages_23 ff_S_countPages_17 (by assumption) il_5_1 (by assumption) ?_
        refine z_iload_n ee_S_countPages_26 rfl ?_
        -- at 27
        have hk := (hG (σ i) (hσ i (by omega))).1
        have hp := (b3 i x h2).2.2.2.1
        refine z_aald ee_S_countPages_27 (by assumption) (by decide) rfl (by omega) (by omega) (hr _ (by omega)) ?_
        refine z_getI ee_S_countPages_28 ff_S_countPages_73 (by assumption) il_6_2 ?_
        refine z_iadd ee_S_countPages_31 ?_
        refine z_istore_m ee_S_countPages_32 (j := 1) rfl (by decide) ?_
        refine z_iinc ee_S_countPages_33 rfl rfl (by decide) ?_
        refine z_goto ee_S_countPages_36 (tgt := 4) (by decide) ?_
        -- at 4
        rw [zz_iinc1, hp]
        exact ih (i + 1) (s + nI (tg_p x)) h3 (by omega)
def zz_cps (v : zz_SV) : Int32 := zz_fs (fun x => nI (tg_p x)) (nI 0) (sv_t v)
theorem sp_S_countPages (hf : l.stackTraces = false) (hS : zz_Sx g K R S σ) (hv : zz_sx I σ S v) : zz_S g l mm_S_countPages 0 0 [.ref S] (K, R, I, L, z) (zz_is (K, R, I, L, z) (.int (zz_cps v))) zz_no := by
  refine z_start hf rfl (by decide +kernel) (Nat.le_of_ble_eq_true rfl) ?_
  dsimp only [zz_lv0]
  refine z_iconst ee_S_countPages_0 (v := nI 0) (by decide) ?_
  refine z_istore_m ee_S_countPages_1 (j := 1) rfl (by decide) ?_
  refine z_iconst ee_S_countPages_2 (v := nI 0) (by decide) ?_
  refine z_istore_m ee_S_countPages_3 (j := 2) rfl (by decide) ?_
  -- at 4
  exact zz_cps_loop hf hS hv (sv_t v) 0 (nI 0) rfl (Nat.zero_le _)
theorem zz_crp_loop (hf : l.stackTraces = false) (hS : zz_Sx g K R S σ) (hv : zz_sx I σ S v) : ∀ (ys : List zz_TG) (i : Nat) (s : Int32), (sv_t v).drop i = ys → i ≤ (sv_t v).length →
    Zz g l mm_S_countRottenPages 0 0 (zz_is (K, R, I, L, z) (.int (zz_fs (fun x => nI (zz_cnt (tg_s x))) s ys))) zz_no 0 0 4 [some (.ref S), some (.int s), some (.int (nI i))] [] (K, R, I, L, z) := by
  intro ys
  obtain ⟨⟨k1, k2, k3, k4, k5, k6, k7, k8⟩, hG, hr, hσ, -⟩ := hS
  obtain ⟨-, ⟨b1, b2, b3⟩, -⟩ := hv
  induction ys with
  | nil =>
    intro i s hi hil
    have h1 := zz_drop_nilG hi
    refine z_iload_n ee_S_countRottenPages_4 rfl ?_
    refine z_aload_n ee_S_countRottenPages_5 rfl ?_
    refine z_getI ee_S_countRottenPages_6 ff_S_countRottenPages_25 (by assumption) il_5_3 ?_
    refine z_icmp_ge ee_S_countRottenPages_9 (tgt := 39) (by decide) (fun c_9 => ?_) (fun c_9 => ?_)
    -- at 9
    · refine z_iload_n ee_S_countRottenPages_39 rfl ?_
      refine z_iret ee_S_countRottenPages_40 rfl (by omega) (by omega) ?_
      -- at 40
      exact ⟨rfl, rfl⟩
    · rw [b1] at c_9
      simp (disch := omega) only [zi_lt, zi_le, zi_eq, zi_n, zi_0, zi_m1] at c_9
      omega
  | cons x ys ih =>
    intro i s hi hil
    obtain ⟨h1, h2, h3⟩ := zz_drop_consG hi
    refine z_iload_n ee_S_countRottenPages_4 rfl ?_
    refine z_aload_n ee_S_countRottenPages_5 rfl ?_
    refine z_getI ee_S_countRottenPages_6 ff_S_countRottenPages_25 (by assumption) il_5_3 ?_
    refine z_icmp_ge ee_S_countRottenPages_9 (tgt := 39) (by decide) (fun c_9 => ?_) (fun c_9 => ?_)
    -- at 9
    · rw [b1] at c_9
      simp (disch := omega) only [zi_lt, zi_le, zi_eq, zi_n, zi_0, zi_m1] at c_9
      omega
    · refine z_iload_n ee_S_countRottenPages_12 rfl ?_
      refine z_aload_n ee_S_countRottenPages_13 rfl ?_
      refine z_getR ee_S_countRottenPages_14 ff_S_countRottenPages_17 (by assumption) il_5_1 (by assumption) ?_
      refine z_alen ee_S_countRottenPages_17 (by assumption) ?_
      refine z_icmp_ge ee_S_countRottenPages_18 (tgt := 39) (by decide) (fun c_18 => ?_) (fun c_18 => ?_)
      -- at 18
      · simp (disch := omega) only [zi_lt, zi_le, zi_eq, zi_n, zi_0, zi_m1] at c_18
        omega
      · refine z_iload_n ee_S_countRottenPages_21 rfl ?_
        refine z_aload_n ee_S_countRottenPages_22 rfl ?_
        refine z_getR ee_S_countRottenPages_23 ff_S_countRottenPages_17 (by assumption) il_5_1 (by assumption) ?_
        refine z_iload_n ee_S_countRottenPages_26 rfl ?_
        -- at 27
        have hg := hG (σ i) (hσ i (by omega))
        have hk := hg.1
        have hp := b3 i x h2
        refine z_aald ee_S_countRottenPages_27 (by assumption) (by decide) rfl (by omega) (by omega) (hr _ (by omega)) ?_
        refine z_callV (As := []) ee_S_countRottenPages_28 kk_S_countRottenPages_76 rfl (by assumption) rfl rfl (Nat.le_of_ble_eq_true rfl) (by omega) (sp_G_countRottenPages hf hg hp) (fun E h1 hx => hx.elim) (fun v h1 hq => ?_)
        obtain ⟨rfl, rfl⟩ := hq
        refine z_iadd ee_S_countRottenPages_31 ?_
        refine z_istore_m ee_S_countRottenPages_32 (j := 1) rfl (by decide) ?_
        refine z_iinc ee_S_countRottenPages_33 rfl rfl (by decide) ?_
        refine z_goto ee_S_countRottenPages_36 (tgt := 4) (by decide) ?_
        -- at 4
        rw [zz_iinc1]
        exact ih (i + 1) _ h3 (by omega)
def zz_crp (v : zz_SV) : Int32 := zz_fs (fun x => nI (zz_cnt (tg_s x))) (nI 0) (sv_t v)
theorem sp_S_countRottenPages (hf : l.stackTraces = false) (hS : zz_Sx g K R S σ) (hv : zz_sx I σ S v) : zz_S g l mm_S_countRottenPages 0 0 [.ref S] (K, R, I, L, z) (zz_is (K, R, I, L, z) (.int (zz_crp v))) zz_no := by
  refine z_start hf rfl (by decide +kernel) (Nat.le_of_ble_eq_true rfl) ?_
  dsimp only [zz_lv0]
  refine z_iconst ee_S_countRottenPages_0 (v := nI 0) (by decide) ?_
  refine z_istore_m ee_S_countRottenPages_1 (j := 1) rfl (by decide) ?_
  refine z_iconst ee_S_countRottenPages_2 (v := nI 0) (by decide) ?_
  refine z_istore_m ee_S_countRottenPages_3 (j := 2) rfl (by decide) ?_
  -- at 4
  exact zz_crp_loop hf hS hv (sv_t v) 0 (nI 0) rfl (Nat.zero_le _)
theorem zz_scl_loop (hf : l.stackTraces = false) (hS : zz_Sx g K R S σ) (hv : zz_sx I σ S v) : ∀ (ys : List zz_TG) (i : Nat) (s : Int32), (sv_t v).drop i = ys → i ≤ (sv_t v).length →
    Zz g l mm_S_sumCodeLengths 0 0 (zz_is (K, R, I, L, z) (.int (zz_fs (fun x => nI (tg_c x).length) s ys))) zz_no 0 0 4 [some (.ref S), some (.int s), some (.int (nI i))] [] (K, R, I, L, z) := by
  intro ys
  obtain ⟨⟨k1, k2, k3, k4, k5, k6, k7, k8⟩, hG, hr, hσ, -⟩ := hS
  obtain ⟨-, ⟨b1, b2, b3⟩, -⟩ := hv
  induction ys with
  | nil =>
    intro i s hi hil
    have h1 := zz_drop_nilG hi
    refine z_iload_n ee_S_sumCodeLengths_4 rfl ?_
    refine z_aload_n ee_S_sumCodeLengths_5 rfl ?_
    refine z_getI ee_S_sumCodeLengths_6 ff_S_sumCodeLengths_25 (by assumption) il_5_3 ?_
    refine z_icmp_ge ee_S_sumCodeLengths_9 (tgt := 42) (by decide) (fun c_9 => ?_) (fun c_9 => ?_)
    -- at 9
    · refine z_iload_n ee_S_sumCodeLengths_42 rfl ?_
      refine z_iret ee_S_sumCodeLengths_43 rfl (by omega) (by omega) ?_
      -- at 43
      exact ⟨rfl, rfl⟩
    · rw [b1] at c_9
      simp (disch := omega) only [zi_lt, zi_le, zi_eq, zi_n, zi_0, zi_m1] at c_9
      omega
  | cons x ys ih =>
    intro i s hi hil
    obtain ⟨h1, h2, h3⟩ := zz_drop_consG hi
    refine z_iload_n ee_S_sumCodeLengths_4 rfl ?_
    refine z_aload_n ee_S_sumCodeLengths_5 rfl ?_
    refine z_getI ee_S_sumCodeLengths_6 ff_S_sumCodeLengths_25 (by assumption) il_5_3 ?_
    refine z_icmp_ge ee_S_sumCodeLengths_9 (tgt := 42) (by decide) (fun c_9 => ?_) (fun c_9 => ?_)
    -- at 9
    · rw [b1] at c_9
      simp (disch := omega) only [zi_lt, zi_le, zi_eq, zi_n, zi_0, zi_m1] at c_9
      omega
    · refine z_iload_n ee_S_sumCodeLengths_12 rfl ?_
      refine z_aload_n ee_S_sumCodeLengths_13 rfl ?_
      refine z_getR ee_S_sumCodeLengths_14 ff_S_sumCodeLengths_17 (by assumption) il_5_1 (by assumption) ?_
      refine z_alen ee_S_sumCodeLengths_17 (by assumption) ?_
      refine z_icmp_ge ee_S_sumCodeLengths_18 (tgt := 42) (by decide) (fun c_18 => ?_) (fun c_18 => ?_)
      -- at 18
      · simp (disch := omega) only [zi_lt, zi_le, zi_eq, zi_n, zi_0, zi_m1] at c_18
        omega
      · refine z_iload_n ee_S_sumCodeLengths_21 rfl ?_
        refine z_aload_n ee_S_sumCodeLengths_22 rfl ?_
        refine z_getR ee_S_sumCodeLengths_23 ff_S_sumCodeLengths_17 (by assumption) il_5_1 (by assumption) ?_
        refine z_iload_n ee_S_sumCodeLengths_26 rfl ?_
        -- at 27
        obtain ⟨g1, g2, g3, -⟩ := hG (σ i) (hσ i (by omega))
        have g4 := g3.1
        have hp := (b3 i x h2).1.1
        refine z_aald ee_S_sumCodeLengths_27 (by assumption) (by decide) rfl (by omega) (by omega) (hr _ (by omega)) ?_
        refine z_getR ee_S_sumCodeLengths_28 ff_S_sumCodeLengths_80 (by assumption) il_6_0 (by assumption) ?_
        refine z_getI ee_S_sumCodeLengths_31 ff_S_sumCodeLengths_84 (by assumption) il_7_1 ?_
        refine z_iadd ee_S_sumCodeLengths_34 ?_
        refine z_istore_m ee_S_sumCodeLengths_35 (j := 1) rfl (by decide) ?_
        refine z_iinc ee_S_sumCodeLengths_36 rfl rfl (by decide) ?_
        refine z_goto ee_S_sumCodeLengths_39 (tgt := 4) (by decide) ?_
        -- at 4
        rw [zz_iinc1, hp]
        exact ih (i + 1) (s + nI (tg_c x).length) h3 (by omega)
def zz_scl (v : zz_SV) : Int32 := zz_fs (fun x => nI (tg_c x).length) (nI 0) (sv_t v)
theorem sp_S_sumCodeLengths (hf : l.stackTraces = false) (hS : zz_Sx g K R S σ) (hv : zz_sx I σ S v) : zz_S g l mm_S_sumCodeLengths 0 0 [.ref S] (K, R, I, L, z) (zz_is (K, R, I, L, z) (.int (zz_scl v))) zz_no := by
  refine z_start hf rfl (by decide +kernel) (Nat.le_of_ble_eq_true rfl) ?_
  dsimp only [zz_lv0]
  refine z_iconst ee_S_sumCodeLengths_0 (v := nI 0) (by decide) ?_
  refine z_istore_m ee_S_sumCodeLengths_1 (j := 1) rfl (by decide) ?_
  refine z_iconst ee_S_sumCodeLengths_2 (v := nI 0) (by decide) ?_
  refine z_istore_m ee_S_sumCodeLengths_3 (j := 2) rfl (by decide) ?_
  -- at 4
  exact zz_scl_loop hf hS hv (sv_t v) 0 (nI 0) rfl (Nat.zero_le _)
end Store
