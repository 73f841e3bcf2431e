/-! STORE: changes -/
def zz_rby (v : zz_SV) (d : Int32) : zz_TG → zz_TG := fun x => zz_rotl (d * zz_dmp v (tg_o x)) x
def zz_rbs (v : zz_SV) (d : Int32) : zz_TG → Int32 := fun x => nI (zz_cnt (tg_s (zz_rby v d x))) - nI (zz_cnt (tg_s x))
section Store3
variable {g : zz_G} {l : Launch} {K : Nat → Nat × Nat} {R : Nat → Nat → Option Nat} {I : Nat → Nat → Int32} {L : Nat → Nat → Int64} {z : Nat} {S U : Nat} {v w : zz_SV} {σ τ : Nat → Nat}
theorem zz_set_mid {α : Type} (ds : List α) (x y : α) (ys : List α) : (ds ++ x :: ys).set ds.length y = (ds ++ [y]) ++ ys := by
  rw [List.set_append_right _ _ (Nat.le_refl _)]
  simp
theorem zz_rby_loop (hf : l.stackTraces = false) (hS : zz_Sx g K R S σ) (v : zz_SV) (d : Int32) {I0 : Nat → Nat → Int32} : ∀ (ys ds : List zz_TG) (s : Int32) (I : Nat → Nat → Int32), zz_sx I σ S (sv_r v, ds ++ ys, sv_n v, sv_d v, sv_c v) → zz_fr S (S + 131) I0 I →
    Zz g l mm_S_rotBy 0 0 (fun a h' => ∃ I', h' = (K, R, I', L, z) ∧ a = some (.int (zz_fs (zz_rbs v d) s ys)) ∧ zz_sx I' σ S (sv_r v, ds ++ ys.map (zz_rby v d), sv_n v, sv_d v, sv_c v) ∧ zz_fr S (S + 131) I0 I') zz_no 0 0 4 [some (.ref S), some (.int d), some (.int s), some (.int (nI ds.length))] [] (K, R, I, L, z) := by
  intro ys
  have hS' := hS
  obtain ⟨⟨k1, k2, k3, k4, k5, k6, k7, k8⟩, hG, hr, hσ, hj⟩ := hS
  induction ys with
  | nil =>
    intro ds s I hv hfr
    have hv' := hv
    obtain ⟨-, ⟨b1, b2, b3⟩, -⟩ := hv
    rw [List.append_nil] at b1 b2
    refine z_iload_n ee_S_rotBy_4 rfl ?_
    refine z_aload_n ee_S_rotBy_5 rfl ?_
    refine z_getI ee_S_rotBy_6 ff_S_rotBy_25 (by assumption) il_5_3 ?_
    refine z_icmp_ge ee_S_rotBy_9 (tgt := 54) (by decide) (fun c_9 => ?_) (fun c_9 => ?_)
    -- at 9
    · refine z_iload_n ee_S_rotBy_54 rfl ?_
      refine z_iret ee_S_rotBy_55 rfl (by omega) (by omega) ?_
      -- at 55
      exact ⟨_, rfl, rfl, hv', hfr⟩
    · rw [b1] at c_9
      have c_10 : ¬ nI ds.length ≤ nI ds.length := c_9
      exact absurd (Int32.le_refl _) c_10
  | cons x ys ih =>
    intro ds s I hv hfr
    have hv' := hv
    obtain ⟨-, ⟨b1, b2, b3⟩, -⟩ := hv
    have e : (ds ++ x :: ys).length = ds.length + ys.length + 1 := by simp; omega
    have b2 : (ds ++ x :: ys).length ≤ 32 := b2
    have b1 : I S 3 = nI (ds ++ x :: ys).length := b1
    rw [e] at b1 b2
    have hi : (ds ++ x :: ys)[ds.length]? = some x := by simp
    have hg := hG (σ ds.length) (hσ _ (by omega))
    have hk := hg.1
    have hx := b3 _ x hi
    refine z_iload_n ee_S_rotBy_4 rfl ?_
    refine z_aload_n ee_S_rotBy_5 rfl ?_
    refine z_getI ee_S_rotBy_6 ff_S_rotBy_25 (by assumption) il_5_3 ?_
    refine z_icmp_ge ee_S_rotBy_9 (tgt := 54) (by decide) (fun c_9 => ?_) (fun c_9 => ?_)
    -- at 9
    · rw [b1] at c_9
      simp (disch := omega) only [zi_lt, zi_le, zi_eq, zi_n, zi_0, zi_m1] at c_9
      omega
    · refine z_iload_n ee_S_rotBy_12 rfl ?_
      refine z_aload_n ee_S_rotBy_13 rfl ?_
      refine z_getR ee_S_rotBy_14 ff_S_rotBy_17 (by assumption) il_5_1 (by assumption) ?_
      refine z_alen ee_S_rotBy_17 (by assumption) ?_
      refine z_icmp_ge ee_S_rotBy_18 (tgt := 54) (by decide) (fun c_18 => ?_) (fun c_18 => ?_)
      -- at 18
      · simp (disch := omega) only [zi_lt, zi_le, zi_eq, zi_n, zi_0, zi_m1] at c_18
        omega
      · refine z_iload_n ee_S_rotBy_21 rfl ?_
        refine z_aload_n ee_S_rotBy_22 rfl ?_
        refine z_getR ee_S_rotBy_23 ff_S_rotBy_17 (by assumption) il_5_1 (by assumption) ?_
        refine z_iload_n ee_S_rotBy_26 rfl ?_
        -- at 27
        refine z_aald ee_S_rotBy_27 (by assumption) (by decide) rfl (by omega) (by omega) (hr _ (by omega)) ?_
        refine z_iload_n ee_S_rotBy_28 rfl ?_
        refine z_aload_n ee_S_rotBy_29 rfl ?_
        refine z_aload_n ee_S_rotBy_30 rfl ?_
        refine z_getR ee_S_rotBy_31 ff_S_rotBy_17 (by assumption) il_5_1 (by assumption) ?_
        refine z_iload_n ee_S_rotBy_34 rfl ?_
        -- at 35
        refine z_aald ee_S_rotBy_35 (by assumption) (by decide) rfl (by omega) (by omega) (hr _ (by omega)) ?_
        refine z_getI ee_S_rotBy_36 ff_S_rotBy_70 (by assumption) il_6_4 ?_
        -- at 39
        rw [hx.2.2.2.2.2.2.1]
        refine z_callV (As := [_]) ee_S_rotBy_39 kk_S_rotBy_38 rfl (by assumption) rfl rfl (Nat.le_of_ble_eq_true rfl) (by omega) (sp_S_dampnessAt hf hS' hv' _) (fun E h1 hx => hx.elim) (fun v h1 hq => ?_)
        obtain ⟨rfl, rfl⟩ := hq
        refine z_imul ee_S_rotBy_42 ?_
        -- at 43
        refine z_callV (As := [_]) ee_S_rotBy_43 kk_S_rotBy_89 rfl (by assumption) rfl rfl (Nat.le_of_ble_eq_true rfl) (by omega) (sp_G_rotBy hf hg hx _) (fun E h1 hx => hx.elim) (fun v h1 hq => ?_)
        obtain ⟨I2, rfl, rfl, hx2, hfr2⟩ := hq
        refine z_iadd ee_S_rotBy_46 ?_
        refine z_istore_m ee_S_rotBy_47 (j := 2) rfl (by decide) ?_
        refine z_iinc ee_S_rotBy_48 rfl rfl (by decide) ?_
        refine z_goto ee_S_rotBy_51 (tgt := 4) (by decide) ?_
        -- at 4
        rw [zz_iinc1]
        have h2 := hσ ds.length (by omega)
        have hv2 := hv'.tel hσ hj (by show ds.length < (ds ++ x :: ys).length; omega) hfr2 hx2
        have hv2 : zz_sx I2 σ S (sv_r v, (ds ++ x :: ys).set ds.length (zz_rby v d x), sv_n v, sv_d v, sv_c v) := hv2
        rw [zz_set_mid] at hv2
        have h9 := ih (ds ++ [zz_rby v d x]) (s + zz_rbs v d x) I2 hv2 (hfr.trans (hfr2.wid (by omega) (by omega)))
        rw [List.append_assoc, show (ds ++ [zz_rby v d x]).length = ds.length + 1 by simp] at h9
        exact h9
theorem sp_S_rotBy (hf : l.stackTraces = false) (hS : zz_Sx g K R S σ) (hv : zz_sx I σ S v) (d : Int32) : zz_S g l mm_S_rotBy 0 0 [.ref S, .int d] (K, R, I, L, z) (fun a h' => ∃ I', h' = (K, R, I', L, z) ∧ a = some (.int (zz_fs (zz_rbs v d) (nI 0) (sv_t v))) ∧ zz_sx I' σ S (sv_r v, (sv_t v).map (zz_rby v d), sv_n v, sv_d v, sv_c v) ∧ zz_fr S (S + 131) I I') zz_no := by
  refine z_start hf rfl (by decide +kernel) (Nat.le_of_ble_eq_true rfl) ?_
  dsimp only [zz_lv0]
  refine z_iconst ee_S_rotBy_0 (v := nI 0) (by decide) ?_
  refine z_istore_m ee_S_rotBy_1 (j := 2) rfl (by decide) ?_
  refine z_iconst ee_S_rotBy_2 (v := nI 0) (by decide) ?_
  refine z_istore_m ee_S_rotBy_3 (j := 3) rfl (by decide) ?_
  -- at 4
  exact zz_rby_loop hf hS v d (sv_t v) [] (nI 0) I hv zz_fr.rf
/-- room for one telegram more: its number is set, the counts go up; what it holds is another's business -/
theorem sp_S_addTelegram (hf : l.stackTraces = false) (hS : zz_Sx g K R S σ) (hv : zz_sx I σ S v) : zz_S g l mm_S_addTelegram 0 0 [.ref S] (K, R, I, L, z) (fun a h' => ((sv_t v).length = 32 ∧ h' = (K, R, I, L, z) ∧ a = some .null) ∨
    ((sv_t v).length < 32 ∧ a = some (.ref (S + 3 + 4 * σ (sv_t v).length)) ∧ h' = (K, R, zz_up (zz_up (zz_up I (S + 3 + 4 * σ (sv_t v).length) 3 (sv_n v)) S 3 (nI ((sv_t v).length + 1))) S 4 (sv_n v + nI 1), L, z))) zz_no := by
  have hS' := hS
  obtain ⟨⟨k1, k2, k3, k4, k5, k6, k7, k8⟩, hG, hr, hσ, hj⟩ := hS
  obtain ⟨-, ⟨b1, b2, b3⟩, c1, c2, c3⟩ := hv
  refine z_start hf rfl (by decide +kernel) (Nat.le_of_ble_eq_true rfl) ?_
  dsimp only [zz_lv0]
  refine z_aload_n ee_S_addTelegram_0 rfl ?_
  refine z_getI ee_S_addTelegram_1 ff_S_addTelegram_25 (by assumption) il_5_3 ?_
  refine z_if_lt ee_S_addTelegram_4 (tgt := 19) (by decide) (fun c_4 => ?_) (fun c_4 => ?_)
  -- at 4
  · rw [b1] at c_4
    simp (disch := omega) only [zi_lt, zi_le, zi_eq, zi_n, zi_0, zi_m1] at c_4
    omega
  · refine z_aload_n ee_S_addTelegram_7 rfl ?_
    refine z_getI ee_S_addTelegram_8 ff_S_addTelegram_25 (by assumption) il_5_3 ?_
    refine z_aload_n ee_S_addTelegram_11 rfl ?_
    refine z_getR ee_S_addTelegram_12 ff_S_addTelegram_17 (by assumption) il_5_1 (by assumption) ?_
    refine z_alen ee_S_addTelegram_15 (by assumption) ?_
    refine z_icmp_lt ee_S_addTelegram_16 (tgt := 21) (by decide) (fun c_16 => ?_) (fun c_16 => ?_)
    -- at 16
    · rw [b1] at c_16
      simp (disch := omega) only [zi_lt, zi_le, zi_eq, zi_n, zi_0, zi_m1] at c_16
      refine z_aload_n ee_S_addTelegram_21 rfl ?_
      refine z_getR ee_S_addTelegram_22 ff_S_addTelegram_17 (by assumption) il_5_1 (by assumption) ?_
      refine z_aload_n ee_S_addTelegram_25 rfl ?_
      refine z_getI ee_S_addTelegram_26 ff_S_addTelegram_25 (by assumption) il_5_3 ?_
      -- at 29
      rw [b1]
      refine z_aald ee_S_addTelegram_29 (by assumption) (by decide) rfl (by omega) (by omega) (hr _ (by omega)) ?_
      have h2 := hσ (sv_t v).length (by omega)
      obtain ⟨g1, -, -, -, -, g6, -⟩ := hG (σ (sv_t v).length) h2
      refine z_astore_m ee_S_addTelegram_30 (j := 1) rfl (by decide) ?_
      refine z_aload_n ee_S_addTelegram_31 rfl ?_
      refine z_aload_n ee_S_addTelegram_32 rfl ?_
      refine z_getI ee_S_addTelegram_33 ff_S_addTelegram_28 (by assumption) il_5_4 ?_
      refine z_putI ee_S_addTelegram_36 ff_S_addTelegram_54 (by assumption) (by assumption) tl_6_3 fl_6_3 ?_
      refine z_aload_n ee_S_addTelegram_39 rfl ?_
      refine z_dup ee_S_addTelegram_40 rfl ?_
      refine z_getI ee_S_addTelegram_41 ff_S_addTelegram_25 (by assumption) il_5_3 ?_
      refine z_iconst ee_S_addTelegram_44 (v := nI 1) (by decide) ?_
      refine z_iadd ee_S_addTelegram_45 ?_
      refine z_putI ee_S_addTelegram_46 ff_S_addTelegram_25 (by assumption) (by assumption) tl_5_3 fl_5_3 ?_
      refine z_aload_n ee_S_addTelegram_49 rfl ?_
      refine z_dup ee_S_addTelegram_50 rfl ?_
      refine z_getI ee_S_addTelegram_51 ff_S_addTelegram_28 (by assumption) il_5_4 ?_
      refine z_iconst ee_S_addTelegram_54 (v := nI 1) (by decide) ?_
      refine z_iadd ee_S_addTelegram_55 ?_
      refine z_putI ee_S_addTelegram_56 ff_S_addTelegram_28 (by assumption) (by assumption) tl_5_4 fl_5_4 ?_
      refine z_aload_n ee_S_addTelegram_59 rfl ?_
      refine z_aret ee_S_addTelegram_60 rfl (Or.inl ⟨_, rfl⟩) (by omega) (by omega) ?_
      -- at 60
      refine Or.inr ⟨by omega, rfl, ?_⟩
      have e1 : ∀ (x : Int32), zz_up I (S + 3 + 4 * σ (sv_t v).length) 3 x S = I S := fun x => zz_up_r (by omega)
      simp only [e1, b1, c1]
      rw [zz_up_k (show (4 : Nat) ≠ 3 by decide), e1, c1, nI_add]
    · rw [b1] at c_16
      simp (disch := omega) only [zi_lt, zi_le, zi_eq, zi_n, zi_0, zi_m1] at c_16
      refine z_null ee_S_addTelegram_19 ?_
      refine z_aretN ee_S_addTelegram_20 rfl (Or.inl ⟨_, rfl⟩) (by omega) (by omega) ?_
      -- at 20
      exact Or.inl ⟨by omega, rfl, rfl⟩
/-- the order when the telegram at p has gone behind the others -/
def zz_rmo (σ : Nat → Nat) (p : Nat) : Nat → Nat := fun j => if j = 31 then σ p else if p ≤ j then σ (j + 1) else σ j
theorem zz_rm_loop (hf : l.stackTraces = false) (hS : zz_Sx g K R S σ) {n : Int32} {p x : Nat} {a : Int32} {Q : Option Value → zz_H → Prop} (hp : p < 32) (hx : x = S + 3 + 4 * σ p) (ha : I S 3 = a) (hQ : ∀ R' : Nat → Nat → Option Nat, (∀ b, b ≠ S + 2 → R' b = R b) → (∀ j, j < 32 → R' (S + 2) j = some (S + 3 + 4 * zz_rmo σ p j)) → Q (some (.int (nI 1))) (K, R', zz_up I S 3 (a - nI 1), L, z)) : ∀ (k i : Nat) (R' : Nat → Nat → Option Nat), i + k = 31 → p ≤ i → (∀ b, b ≠ S + 2 → R' b = R b) → (∀ j, j < 32 → R' (S + 2) j = some (S + 3 + 4 * (if p ≤ j ∧ j < i then σ (j + 1) else σ j))) →
    Zz g l mm_S_removeTelegram 0 0 Q zz_no 0 0 21 [some (.ref S), some (.int n), some (.int (nI p)), some (.ref x), some (.int (nI i))] [] (K, R', I, L, z) := by
  intro k
  obtain ⟨⟨k1, k2, k3, k4, k5, k6, k7, k8⟩, hG, hr, hσ, hj⟩ := hS
  have hs := hσ p hp
  obtain ⟨x1, -, -, -, -, x6, -⟩ := hG (σ p) hs
  rw [← hx] at x1 x6
  induction k with
  | zero =>
    intro i R' hi hpi hR hrow
    have e1 : R' S 1 = some (S + 2) := by rw [hR _ (by omega)]; exact k3
    refine z_iload ee_S_removeTelegram_21 rfl ?_
    refine z_iconst ee_S_removeTelegram_23 (v := nI 1) (by decide) ?_
    refine z_iadd ee_S_removeTelegram_24 ?_
    refine z_aload_n ee_S_removeTelegram_25 rfl ?_
    refine z_getR ee_S_removeTelegram_26 ff_S_removeTelegram_17 (by assumption) il_5_1 (by assumption) ?_
    refine z_alen ee_S_removeTelegram_29 (by assumption) ?_
    refine z_icmp_ge ee_S_removeTelegram_30 (tgt := 55) (by decide) (fun c_30 => ?_) (fun c_30 => ?_)
    -- at 30
    · refine z_aload_n ee_S_removeTelegram_55 rfl ?_
      refine z_getR ee_S_removeTelegram_56 ff_S_removeTelegram_17 (by assumption) il_5_1 (by assumption) ?_
      refine z_aload_n ee_S_removeTelegram_59 rfl ?_
      refine z_getR ee_S_removeTelegram_60 ff_S_removeTelegram_17 (by assumption) il_5_1 (by assumption) ?_
      refine z_alen ee_S_removeTelegram_63 (by assumption) ?_
      refine z_iconst ee_S_removeTelegram_64 (v := nI 1) (by decide) ?_
      refine z_isub ee_S_removeTelegram_65 ?_
      refine z_aload_n ee_S_removeTelegram_66 rfl ?_
      -- at 67
      rw [pk_sub (by omega)]
      refine z_aast ee_S_removeTelegram_67 (by assumption) (by assumption) (Or.inl ⟨rfl, x1⟩) x6 rfl (by omega) (by omega) ?_
      refine z_aload_n ee_S_removeTelegram_68 rfl ?_
      refine z_dup ee_S_removeTelegram_69 rfl ?_
      refine z_getI ee_S_removeTelegram_70 ff_S_removeTelegram_25 (by assumption) il_5_3 ?_
      refine z_iconst ee_S_removeTelegram_73 (v := nI 1) (by decide) ?_
      refine z_isub ee_S_removeTelegram_74 ?_
      refine z_putI ee_S_removeTelegram_75 ff_S_removeTelegram_25 (by assumption) (by assumption) tl_5_3 fl_5_3 ?_
      refine z_iconst ee_S_removeTelegram_78 (v := nI 1) (by decide) ?_
      refine z_zret ee_S_removeTelegram_79 (ty := .boolean) rfl (by decide) (by omega) (by omega) ?_
      -- at 79
      rw [ha]
      refine hQ _ (fun b hb => (zz_up_r hb).trans (hR b hb)) (fun j hj => ?_)
      unfold zz_rmo
      by_cases q : j = 31
      · subst q
        rw [if_pos rfl, zz_up_s, hx]
      · rw [if_neg q, zz_up_k q, hrow j hj]
        congr 3
        by_cases q2 : p ≤ j
        · rw [if_pos (by omega), if_pos q2]
        · rw [if_neg (by omega), if_neg q2]
    · rw [nI_add] at c_30
      simp (disch := omega) only [zi_lt, zi_le, zi_eq, zi_n, zi_0, zi_m1] at c_30
      omega
  | succ k ih =>
    intro i R' hi hpi hR hrow
    have e1 : R' S 1 = some (S + 2) := by rw [hR _ (by omega)]; exact k3
    have h1 := hrow (i + 1) (by omega)
    rw [if_neg (by omega)] at h1
    have h2 := hσ (i + 1) (by omega)
    obtain ⟨y1, -, -, -, -, y6, -⟩ := hG (σ (i + 1)) h2
    refine z_iload ee_S_removeTelegram_21 rfl ?_
    refine z_iconst ee_S_removeTelegram_23 (v := nI 1) (by decide) ?_
    refine z_iadd ee_S_removeTelegram_24 ?_
    refine z_aload_n ee_S_removeTelegram_25 rfl ?_
    refine z_getR ee_S_removeTelegram_26 ff_S_removeTelegram_17 (by assumption) il_5_1 (by assumption) ?_
    refine z_alen ee_S_removeTelegram_29 (by assumption) ?_
    refine z_icmp_ge ee_S_removeTelegram_30 (tgt := 55) (by decide) (fun c_30 => ?_) (fun c_30 => ?_)
    -- at 30
    · rw [nI_add] at c_30
      simp (disch := omega) only [zi_lt, zi_le, zi_eq, zi_n, zi_0, zi_m1] at c_30
      omega
    · refine z_aload_n ee_S_removeTelegram_33 rfl ?_
      refine z_getR ee_S_removeTelegram_34 ff_S_removeTelegram_17 (by assumption) il_5_1 (by assumption) ?_
      refine z_iload ee_S_removeTelegram_37 rfl ?_
      refine z_aload_n ee_S_removeTelegram_39 rfl ?_
      refine z_getR ee_S_removeTelegram_40 ff_S_removeTelegram_17 (by assumption) il_5_1 (by assumption) ?_
      refine z_iload ee_S_removeTelegram_43 rfl ?_
      refine z_iconst ee_S_removeTelegram_45 (v := nI 1) (by decide) ?_
      refine z_iadd ee_S_removeTelegram_46 ?_
      -- at 47
      rw [nI_add]
      refine z_aald ee_S_removeTelegram_47 (by assumption) (by decide) rfl (by omega) (by omega) h1 ?_
      refine z_aast ee_S_removeTelegram_48 (by assumption) (by assumption) (Or.inl ⟨rfl, y1⟩) y6 rfl (by omega) (by omega) ?_
      refine z_iinc ee_S_removeTelegram_49 rfl rfl (by decide) ?_
      refine z_goto ee_S_removeTelegram_52 (tgt := 21) (by decide) ?_
      -- at 21
      rw [zz_iinc1]
      refine ih (i + 1) _ (by omega) (by omega) (fun b hb => (zz_up_r hb).trans (hR b hb)) (fun j hj => ?_)
      by_cases q : j = i
      · subst q
        rw [zz_up_s, if_pos (by omega)]
      · rw [zz_up_k q, hrow j hj]
        congr 3
        by_cases q2 : p ≤ j ∧ j < i
        · rw [if_pos q2, if_pos (by omega)]
        · rw [if_neg q2, if_neg (by omega)]
theorem zz_rm_sx {R' : Nat → Nat → Option Nat} (hS : zz_Sx g K R S σ) (hv : zz_sx I σ S v) {p : Nat} (hp : p < (sv_t v).length) (hR : ∀ b, b ≠ S + 2 → R' b = R b) (hrow : ∀ j, j < 32 → R' (S + 2) j = some (S + 3 + 4 * zz_rmo σ p j)) : zz_Sx g K R' S (zz_rmo σ p) ∧ zz_sx (zz_up I S 3 (nI (sv_t v).length - nI 1)) (zz_rmo σ p) S (sv_r v, (sv_t v).eraseIdx p, sv_n v, sv_d v, sv_c v) := by
  obtain ⟨⟨k1, k2, k3, k4, k5, k6, k7, k8⟩, hG, hr, hσ, hj⟩ := hS
  obtain ⟨⟨a1, a2, a3⟩, ⟨b1, b2, b3⟩, c1, c2, c3⟩ := hv
  have hfr : zz_fr S (S + 1) I (zz_up I S 3 (nI (sv_t v).length - nI 1)) := zz_fr.rf.up (by omega) (by omega)
  have hσ' : ∀ i, i < 32 → zz_rmo σ p i < 32 := by
    intro i hi
    unfold zz_rmo
    split
    · exact hσ p (by omega)
    · split
      · exact hσ _ (by omega)
      · exact hσ _ hi
  refine ⟨⟨⟨k1, by rw [hR _ (by omega)]; exact k2, by rw [hR _ (by omega)]; exact k3, k4, k5, k6, k7, k8⟩, fun j hj => (hG j hj).fr hR (by omega), hrow, hσ', fun i j hi hj2 he => ?_⟩, ⟨⟨?_, a2, fun j hj2 => ?_⟩, ⟨?_, ?_, fun i x hx => ?_⟩, ?_, ?_, ?_⟩⟩
  · unfold zz_rmo at he
    by_cases q1 : i = 31
    · by_cases q2 : j = 31
      · omega
      · rw [if_pos q1, if_neg q2] at he
        by_cases q3 : p ≤ j
        · rw [if_pos q3] at he
          have := hj _ _ (by omega) (by omega) he
          omega
        · rw [if_neg q3] at he
          have := hj _ _ (by omega) (by omega) he
          omega
    · rw [if_neg q1] at he
      by_cases q2 : j = 31
      · rw [if_pos q2] at he
        by_cases q3 : p ≤ i
        · rw [if_pos q3] at he
          have := hj _ _ (by omega) (by omega) he
          omega
        · rw [if_neg q3] at he
          have := hj _ _ (by omega) (by omega) he
          omega
      · rw [if_neg q2] at he
        by_cases q3 : p ≤ i
        · rw [if_pos q3] at he
          by_cases q4 : p ≤ j
          · rw [if_pos q4] at he
            have := hj _ _ (by omega) (by omega) he
            omega
          · rw [if_neg q4] at he
            have := hj _ _ (by omega) (by omega) he
            omega
        · rw [if_neg q3] at he
          by_cases q4 : p ≤ j
          · rw [if_pos q4] at he
            have := hj _ _ (by omega) (by omega) he
            omega
          · rw [if_neg q4] at he
            have := hj _ _ (by omega) (by omega) he
            omega
  · rw [zz_up_k (by decide)]; exact a1
  · rw [hfr _ (by omega)]; exact a3 j hj2
  · rw [zz_up_s]
    show _ = nI ((sv_t v).eraseIdx p).length
    rw [pk_sub (by omega), List.length_eraseIdx, if_pos hp]
  · show ((sv_t v).eraseIdx p).length ≤ 32
    rw [List.length_eraseIdx, if_pos hp]
    omega
  · have hx : ((sv_t v).eraseIdx p)[i]? = some x := hx
    have h3 := zz_lt_of hx
    rw [List.length_eraseIdx, if_pos hp] at h3
    rw [List.getElem?_eraseIdx] at hx
    unfold zz_rmo
    rw [if_neg (show ¬ i = 31 by omega)]
    by_cases q : i < p
    · rw [if_pos q] at hx
      rw [if_neg (by omega)]
      exact (b3 i x hx).fr hfr (by omega)
    · rw [if_neg q] at hx
      rw [if_pos (by omega)]
      exact (b3 (i + 1) x hx).fr hfr (by omega)
  · rw [zz_up_k (by decide)]; exact c1
  · rw [zz_up_k (by decide)]; exact c2
  · rw [zz_up_k (by decide)]; exact c3
theorem sp_S_removeTelegram (hf : l.stackTraces = false) (hS : zz_Sx g K R S σ) (hv : zz_sx I σ S v) (n : Int32) : zz_S g l mm_S_removeTelegram 0 0 [.ref S, .int n] (K, R, I, L, z) (fun a h' => (zz_pos n 0 (sv_t v) = none ∧ h' = (K, R, I, L, z) ∧ a = some (.int (nI 0))) ∨
    ∃ p R' I', zz_pos n 0 (sv_t v) = some p ∧ h' = (K, R', I', L, z) ∧ a = some (.int (nI 1)) ∧ zz_Sx g K R' S (zz_rmo σ p) ∧ zz_sx I' (zz_rmo σ p) S (sv_r v, (sv_t v).eraseIdx p, sv_n v, sv_d v, sv_c v) ∧ (∀ b, b ≠ S + 2 → R' b = R b) ∧ zz_fr S (S + 131) I I') zz_no := by
  have hS' := hS
  obtain ⟨⟨k1, k2, k3, k4, k5, k6, k7, k8⟩, hG, hr, hσ, hj⟩ := hS
  have b1 := hv.2.1.1
  have b2 := hv.2.1.2.1
  refine z_start hf rfl (by decide +kernel) (Nat.le_of_ble_eq_true rfl) ?_
  dsimp only [zz_lv0]
  refine z_aload_n ee_S_removeTelegram_0 rfl ?_
  refine z_iload_n ee_S_removeTelegram_1 rfl ?_
  -- at 2
  refine z_callV (As := [_]) ee_S_removeTelegram_2 kk_S_removeTelegram_57 rfl (by assumption) rfl rfl (Nat.le_of_ble_eq_true rfl) (by omega) (sp_S_positionOf hf hS' hv n) (fun E h1 hx => hx.elim) (fun v h1 hq => ?_)
  obtain ⟨rfl, rfl⟩ := hq
  refine z_istore_m ee_S_removeTelegram_5 (j := 2) rfl (by decide) ?_
  refine z_aload_n ee_S_removeTelegram_6 rfl ?_
  refine z_iload_n ee_S_removeTelegram_7 rfl ?_
  -- at 8
  refine z_callV (As := [_]) ee_S_removeTelegram_8 kk_S_removeTelegram_42 rfl (by assumption) rfl rfl (Nat.le_of_ble_eq_true rfl) (by omega) (sp_S_telegramIn hf hS' hv _) (fun E h1 hx => hx.elim) (fun v h1 hq => ?_)
  obtain ⟨rfl, rfl⟩ := hq
  rw [zz_oi_in b2]
  cases hp : zz_pos n 0 (sv_t v) with
  | none =>
    refine z_astoreN_m ee_S_removeTelegram_11 (j := 3) rfl (by decide) ?_
    refine z_aloadN_n ee_S_removeTelegram_12 rfl ?_
    refine z_ifnonnullN ee_S_removeTelegram_13 ?_
    refine z_iconst ee_S_removeTelegram_16 (v := nI 0) (by decide) ?_
    refine z_zret ee_S_removeTelegram_17 (ty := .boolean) rfl (by decide) (by omega) (by omega) ?_
    -- at 17
    exact Or.inl ⟨rfl, rfl, rfl⟩
  | some p =>
    obtain ⟨hp1, -⟩ := zz_pos_at hp
    refine z_astore_m ee_S_removeTelegram_11 (j := 3) rfl (by decide) ?_
    refine z_aload_n ee_S_removeTelegram_12 rfl ?_
    refine z_ifnonnull ee_S_removeTelegram_13 (tgt := 18) (by decide) ?_
    refine z_iload_n ee_S_removeTelegram_18 rfl ?_
    refine z_istore ee_S_removeTelegram_19 (by decide) ?_
    -- at 21
    refine zz_rm_loop (z := z) (L := L) (I := I) (n := n) (x := S + 3 + 4 * σ p) hf hS' (show p < 32 by omega) rfl b1 (fun R' hR hrow => ?_) (31 - p) p R (by omega) (Nat.le_refl _) (fun b _ => rfl) (fun j hj => by rw [if_neg (by omega)]; exact hr j hj)
    obtain ⟨r1, r2⟩ := zz_rm_sx hS' hv hp1 hR hrow
    exact Or.inr ⟨p, R', _, rfl, rfl, rfl, r1, r2, hR, zz_fr.rf.up (by omega) (by omega)⟩
end Store3
