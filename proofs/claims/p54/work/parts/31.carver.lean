/-! CARVER -/
/-- rows lo .. hi are kept -/
def zz_kt {α : Type} (lo hi : Nat) (f f' : Nat → α) : Prop := ∀ b, lo ≤ b → b < hi → f' b = f b
theorem zz_kt.rf {α : Type} {lo hi : Nat} {f : Nat → α} : zz_kt lo hi f f := fun _ _ _ => rfl
theorem zz_kt.trans {α : Type} {lo hi : Nat} {f f1 f2 : Nat → α} (h : zz_kt lo hi f f1) (h' : zz_kt lo hi f1 f2) : zz_kt lo hi f f2 := fun b h1 h2 => (h' b h1 h2).trans (h b h1 h2)
theorem zz_kt.wid {α : Type} {lo hi lo' hi' : Nat} {f f' : Nat → α} (h : zz_kt lo hi f f') (h1 : lo ≤ lo') (h2 : hi' ≤ hi) : zz_kt lo' hi' f f' := fun b q1 q2 => h b (by omega) (by omega)
theorem zz_fr.in {lo hi lo' hi' : Nat} {I I' : Nat → Nat → Int32} (h : zz_fr lo hi I I') (hd : hi' ≤ lo ∨ hi ≤ lo') : zz_kt lo' hi' I I' := fun b h1 h2 => h b (by omega)
theorem zz_fq.in {lo hi lo' hi' : Nat} {I I' : Nat → Nat → Option Nat} (h : zz_fq lo hi I I') (hd : hi' ≤ lo ∨ hi ≤ lo') : zz_kt lo' hi' I I' := fun b h1 h2 => h b (by omega)
theorem zz_kt.up {lo hi a k : Nat} {x : Int32} {I I' : Nat → Nat → Int32} (h : zz_kt lo hi I I') (h1 : a < lo ∨ hi ≤ a) : zz_kt lo hi I (zz_up I' a k x) := fun b q1 q2 => (zz_up_r (by omega)).trans (h b q1 q2)
theorem zz_Tx.in {g : zz_G} {K : Nat → Nat × Nat} {R R' : Nat → Nat → Option Nat} {t n : Nat} (h : zz_Tx g K R t n) (hR : zz_kt t (t + 2) R R') : zz_Tx g K R' t n := by
  obtain ⟨k1, k2, k3, k4, k5, k6⟩ := h
  exact ⟨k1, by rw [hR _ (by omega) (by omega)]; exact k2, k3, k4, k5, k6⟩
theorem zz_Gx.in {g : zz_G} {K : Nat → Nat × Nat} {R R' : Nat → Nat → Option Nat} {t : Nat} (h : zz_Gx g K R t) (hR : zz_kt t (t + 4) R R') : zz_Gx g K R' t := by
  obtain ⟨k1, k2, k3, k4, k5, k6, k7⟩ := h
  exact ⟨k1, by rw [hR _ (by omega) (by omega)]; exact k2, k3.in (hR.wid (by omega) (by omega)), by rw [hR _ (by omega) (by omega)]; exact k4, k5, k6, k7⟩
theorem zz_Sx.in {g : zz_G} {K : Nat → Nat × Nat} {R R' : Nat → Nat → Option Nat} {S : Nat} {σ : Nat → Nat} (h : zz_Sx g K R S σ) (hR : zz_kt S (S + 131) R R') : zz_Sx g K R' S σ := by
  obtain ⟨⟨k1, k2, k3, k4, k5, k6, k7, k8⟩, hG, hr, hσ, hj⟩ := h
  exact ⟨⟨k1, by rw [hR _ (by omega) (by omega)]; exact k2, by rw [hR _ (by omega) (by omega)]; exact k3, k4, k5, k6, k7, k8⟩, fun j hj => (hG j hj).in (hR.wid (by omega) (by omega)), fun i hi => by rw [hR _ (by omega) (by omega)]; exact hr i hi, hσ, hj⟩
theorem zz_tx.in {I I' : Nat → Nat → Int32} {t n : Nat} {xs : List Int32} (h : zz_tx I t n xs) (hI : zz_kt t (t + 2) I I') : zz_tx I' t n xs := h.kept (hI _ (by omega) (by omega)) (hI _ (by omega) (by omega))
theorem zz_gx.in {I I' : Nat → Nat → Int32} {t : Nat} {x : zz_TG} (h : zz_gx I t x) (hI : zz_kt t (t + 4) I I') : zz_gx I' t x := by
  obtain ⟨h1, h2, h3, h4, h5, h6, h7, h8, h9⟩ := h
  have e : I' t = I t := hI _ (by omega) (by omega)
  exact ⟨h1.in (hI.wid (by omega) (by omega)), h2, fun j hj => by rw [hI _ (by omega) (by omega)]; exact h3 j hj, by rw [e]; exact h4, h5, by rw [e]; exact h6, by rw [e]; exact h7, by rw [e]; exact h8, by rw [e]; exact h9⟩
theorem zz_sx.in {I I' : Nat → Nat → Int32} {σ : Nat → Nat} {S : Nat} {v : zz_SV} (h : zz_sx I σ S v) (hσ : ∀ i, i < 32 → σ i < 32) (hI : zz_kt S (S + 131) I I') : zz_sx I' σ S v := by
  obtain ⟨⟨a1, a2, a3⟩, ⟨b1, b2, b3⟩, c1, c2, c3⟩ := h
  have e : I' S = I S := hI _ (by omega) (by omega)
  have e1 : I' (S + 1) = I (S + 1) := hI _ (by omega) (by omega)
  refine ⟨⟨by rw [e]; exact a1, a2, fun j hj => by rw [e1]; exact a3 j hj⟩, ⟨by rw [e]; exact b1, b2, fun i x hx => ?_⟩, by rw [e]; exact c1, by rw [e]; exact c2, by rw [e]; exact c3⟩
  have h1 := zz_lt_of hx
  have h2 := hσ i (by omega)
  exact (b3 i x hx).in (hI.wid (by omega) (by omega))
theorem zz_Ss.in {g : zz_G} {K : Nat → Nat × Nat} {R R' : Nat → Nat → Option Nat} {S : Nat} (h : zz_Ss g K R S) (hR : zz_kt S (S + 131) R R') : zz_Ss g K R' S := by
  obtain ⟨σ, h⟩ := h
  exact ⟨σ, h.in hR⟩
theorem zz_So.in {g : zz_G} {K : Nat → Nat × Nat} {R R' : Nat → Nat → Option Nat} {I I' : Nat → Nat → Int32} {S : Nat} {v : zz_SV} (h : zz_So g K R I S v) (hR : zz_kt S (S + 131) R R') (hI : zz_kt S (S + 131) I I') : zz_So g K R' I' S v := by
  obtain ⟨σ, h1, h2⟩ := h
  exact ⟨σ, h1.in hR, h2.in h1.2.2.2.1 hI⟩
theorem zz_Hx.in {g : zz_G} {K : Nat → Nat × Nat} {R R' : Nat → Nat → Option Nat} {H : Nat} (h : zz_Hx g K R H) (hR : zz_kt H (H + 1181) R R') : zz_Hx g K R' H := by
  obtain ⟨⟨k1, k2, k3, k4⟩, hr, hs⟩ := h
  exact ⟨⟨k1, by rw [hR _ (by omega) (by omega)]; exact k2, k3, k4⟩, fun j hj => by rw [hR _ (by omega) (by omega)]; exact hr j hj, fun j hj => (hs j hj).in (hR.wid (by omega) (by omega))⟩
theorem zz_hx.in {g : zz_G} {K : Nat → Nat × Nat} {R R' : Nat → Nat → Option Nat} {I I' : Nat → Nat → Int32} {H f : Nat} {hs : List zz_SV} (h : zz_hx g K R I H f hs) (hR : zz_kt H (H + 1181) R R') (hI : zz_kt H (H + 1181) I I') : zz_hx g K R' I' H f hs := by
  obtain ⟨h1, h2, h3, h4, h5⟩ := h
  have e : I' H = I H := hI _ (by omega) (by omega)
  refine ⟨by rw [e]; exact h1, h2, by rw [e]; exact h3, h4, fun i v hi => ?_⟩
  have h6 := Nat.mod_lt (f + i) (show 0 < 9 by decide)
  exact (h5 i v hi).in (hR.wid (by omega) (by omega)) (hI.wid (by omega) (by omega))
/-- outcomes: a denial (number, detail), or an answer or another exception -/
abbrev zz_RS : Type := (Int32 × Int32) ⊕ Int32
def zz_oc : zz_RS → Int32
  | .inl q => -q.1
  | .inr o => o
def zz_Vx (g : zz_G) (K : Nat → Nat × Nat) (R : Nat → Nat → Option Nat) (C : Nat) : Prop := K C = zz_o 1 ∧ R C 0 = some (C + 1) ∧ R C 1 = some (C + 132) ∧ R C 2 = some (C + 134) ∧ zz_Tx g K R (C + 132) 432 ∧ zz_Tx g K R (C + 134) 864 ∧ zz_A g C
/-- what a carver's change leaves -/
def zz_VQ (g : zz_G) (K : Nat → Nat × Nat) (R : Nat → Nat → Option Nat) (I : Nat → Nat → Int32) (L : Nat → Nat → Int64) (z C : Nat) (r : zz_RS × zz_SV) : Option Value → zz_H → Prop := fun a h' => ∃ R' I', h' = (K, R', I', L, z) ∧ a = some (.int (zz_oc r.1)) ∧ (∀ q, r.1 = .inl q → I' C 3 = q.2) ∧ zz_So g K R' I' (C + 1) r.2 ∧ zz_fq (C + 1) (C + 132) R R' ∧ zz_fr C (C + 136) I I'
abbrev zz_hr (v : zz_SV) (r : Int32) : Prop := 0 ≤ r.toInt ∧ r.toInt < (sv_r v).length
def zv_plant (v : zz_SV) (d : Int32) : zz_RS × zz_SV :=
  if d < 0 ∨ nI 5 < d then (.inr (-13), v) else if (sv_r v).length = 4 then (.inl (nI 1, nI 4), v) else (.inr (nI (sv_r v).length), (sv_r v ++ [d], sv_t v, sv_n v, sv_d v, sv_c v))
def zv_dry (v : zz_SV) (r : Int32) : zz_RS × zz_SV :=
  if ¬ zz_hr v r then (.inr (-12), v) else if zz_dmp v r = 0 then (.inl (nI 4, zz_dmp v r), v) else (.inr (zz_dmp v r - nI 1), ((sv_r v).set r.toInt.toNat (zz_dmp v r - nI 1), sv_t v, sv_n v, sv_d v, sv_c v))
def zv_pass (v : zz_SV) (d : Int32) : zz_RS × zz_SV :=
  if d < nI 1 ∨ nI 20 < d then (.inr (-13), v) else (.inr (zz_fs (zz_rbs v d) (nI 0) (sv_t v)), (sv_r v, (sv_t v).map (zz_rby v d), sv_n v, sv_d v + d, sv_c v))
def zv_drop (v : zz_SV) (n : Int32) : zz_RS × zz_SV :=
  match zz_pos n 0 (sv_t v) with
  | none => (.inr (-11), v)
  | some p => (.inr (nI ((sv_t v).eraseIdx p).length), (sv_r v, (sv_t v).eraseIdx p, sv_n v, sv_d v, sv_c v))
section Carver
variable {g : zz_G} {l : Launch} {K : Nat → Nat × Nat} {R : Nat → Nat → Option Nat} {I : Nat → Nat → Int32} {L : Nat → Nat → Int64} {z : Nat} {C : Nat} {v w : zz_SV}
theorem zz_VQ.same {σ : Nat → Nat} {r : zz_RS} {o : Int32} (hS : zz_Sx g K R (C + 1) σ) (hv : zz_sx I σ (C + 1) v) (hr : r = .inr o) (ho : zz_oc r = o) : zz_VQ g K R I L z C (r, v) (some (.int o)) (K, R, I, L, z) :=
  ⟨R, I, rfl, by rw [ho], fun q hq => (by rw [show r = Sum.inl q from hq] at hr; cases hr), ⟨σ, hS, hv⟩, zz_fq.rf, zz_fr.rf⟩
theorem sp_V_denied (hf : l.stackTraces = false) (hK : K C = zz_o 1) (hA : zz_A g C) (n d : Int32) : zz_S g l mm_V_denied 0 0 [.ref C, .int n, .int d] (K, R, I, L, z) (zz_is (K, R, zz_up I C 3 d, L, z) (.int (-n))) zz_no := by
  refine z_start hf rfl (by decide +kernel) (Nat.le_of_ble_eq_true rfl) ?_
  dsimp only [zz_lv0]
  refine z_aload_n ee_V_denied_0 rfl ?_
  refine z_iload_n ee_V_denied_1 rfl ?_
  refine z_putI ee_V_denied_2 ff_V_denied_30 (by assumption) (by assumption) tl_1_3 fl_1_3 ?_
  refine z_iload_n ee_V_denied_5 rfl ?_
  refine z_ineg ee_V_denied_6 ?_
  refine z_iret ee_V_denied_7 rfl (by omega) (by omega) ?_
  -- at 7
  exact ⟨rfl, rfl⟩
theorem zz_VQ.deny {σ : Nat → Nat} {n d : Int32} (hS : zz_Sx g K R (C + 1) σ) (hv : zz_sx I σ (C + 1) v) : zz_VQ g K R I L z C (.inl (n, d), v) (some (.int (-n))) (K, R, zz_up I C 3 d, L, z) :=
  ⟨R, _, rfl, rfl, fun q hq => by cases hq; exact zz_up_s, ⟨σ, hS, hv.fr hS.2.2.2.1 (lo := C) (hi := C + 1) (zz_fr.rf.up (by omega) (by omega)) (by omega)⟩, zz_fq.rf, zz_fr.rf.up (by omega) (by omega)⟩
theorem sp_V_plantRoot (hf : l.stackTraces = false) (hV : zz_Vx g K R C) (hS : zz_So g K R I (C + 1) v) (d : Int32) : zz_S g l mm_V_plantRoot 0 0 [.ref C, .int d] (K, R, I, L, z) (zz_VQ g K R I L z C (zv_plant v d)) zz_no := by
  obtain ⟨v1, v2, v3, v4, v5, v6, v7⟩ := hV
  obtain ⟨σ, hS, hv⟩ := hS
  have hS' := hS
  have hv' := hv
  obtain ⟨⟨k1, k2, k3, k4, k5, k6, k7, k8⟩, hG, hr, hσ, hj⟩ := hS
  obtain ⟨⟨a1, a2, a3⟩, ⟨b1, b2, b3⟩, c1, c2, c3⟩ := hv
  have bad : d < 0 ∨ nI 5 < d → Zz g l mm_V_plantRoot 0 0 (zz_VQ g K R I L z C (zv_plant v d)) zz_no 0 0 9 [some (.ref C), some (.int d)] [] (K, R, I, L, z) := by
    intro h
    unfold zv_plant
    rw [if_pos h]
    refine z_bipush ee_V_plantRoot_9 (v := -13) (by decide) ?_
    refine z_iret ee_V_plantRoot_11 rfl (by omega) (by omega) ?_
    -- at 11
    exact zz_VQ.same hS' hv' rfl rfl
  refine z_start hf rfl (by decide +kernel) (Nat.le_of_ble_eq_true rfl) ?_
  dsimp only [zz_lv0]
  refine z_iload_n ee_V_plantRoot_0 rfl ?_
  refine z_if_lt ee_V_plantRoot_1 (tgt := 9) (by decide) (fun c_1 => ?_) (fun c_1 => ?_)
  -- at 1
  · exact bad (Or.inl c_1)
  · refine z_iload_n ee_V_plantRoot_4 rfl ?_
    refine z_iconst ee_V_plantRoot_5 (v := nI 5) (by decide) ?_
    refine z_icmp_le ee_V_plantRoot_6 (tgt := 12) (by decide) (fun c_6 => ?_) (fun c_6 => ?_)
    -- at 6
    · unfold zv_plant
      rw [if_neg (fun q => q.elim c_1 (Int32.not_lt.mpr c_6))]
      refine z_aload_n ee_V_plantRoot_12 rfl ?_
      refine z_getR ee_V_plantRoot_13 ff_V_plantRoot_12 (by assumption) il_1_0 (by assumption) ?_
      refine z_getI ee_V_plantRoot_16 ff_V_plantRoot_54 (by assumption) il_5_2 ?_
      refine z_iconst ee_V_plantRoot_19 (v := nI 4) (by decide) ?_
      refine z_icmp_lt ee_V_plantRoot_20 (tgt := 30) (by decide) (fun c_20 => ?_) (fun c_20 => ?_)
      -- at 20
      · rw [a1] at c_20
        simp (disch := omega) only [zi_lt, zi_le, zi_eq, zi_n, zi_0, zi_m1] at c_20
        rw [if_neg (by omega)]
        refine z_aload_n ee_V_plantRoot_30 rfl ?_
        refine z_getR ee_V_plantRoot_31 ff_V_plantRoot_12 (by assumption) il_1_0 (by assumption) ?_
        refine z_getI ee_V_plantRoot_34 ff_V_plantRoot_54 (by assumption) il_5_2 ?_
        refine z_istore_m ee_V_plantRoot_37 (j := 2) rfl (by decide) ?_
        refine z_aload_n ee_V_plantRoot_38 rfl ?_
        refine z_getR ee_V_plantRoot_39 ff_V_plantRoot_12 (by assumption) il_1_0 (by assumption) ?_
        refine z_dup ee_V_plantRoot_42 rfl ?_
        refine z_getI ee_V_plantRoot_43 ff_V_plantRoot_54 (by assumption) il_5_2 ?_
        refine z_iconst ee_V_plantRoot_46 (v := nI 1) (by decide) ?_
        refine z_iadd ee_V_plantRoot_47 ?_
        refine z_putI ee_V_plantRoot_48 ff_V_plantRoot_54 (by assumption) (by assumption) tl_5_2 fl_5_2 ?_
        refine z_aload_n ee_V_plantRoot_51 rfl ?_
        refine z_getR ee_V_plantRoot_52 ff_V_plantRoot_12 (by assumption) il_1_0 (by assumption) ?_
        refine z_iload_n ee_V_plantRoot_55 rfl ?_
        refine z_iload_n ee_V_plantRoot_56 rfl ?_
        -- at 57
        have hfr : zz_fr (C + 1) (C + 2) I (zz_up I (C + 1) 2 (I (C + 1) 2 + nI 1)) := zz_fr.rf.up (by omega) (by omega)
        have hv2 : zz_sx (zz_up I (C + 1) 2 (I (C + 1) 2 + nI 1)) σ (C + 1) (sv_r v ++ [I (C + 1 + 1) (sv_r v).length], sv_t v, sv_n v, sv_d v, sv_c v) := by
          refine ⟨⟨?_, ?_, fun j hj => ?_⟩, ⟨by rw [zz_up_k (by decide)]; exact b1, b2, fun i x hx => (b3 i x hx).fr hfr (by omega)⟩, by rw [zz_up_k (by decide)]; exact c1, by rw [zz_up_k (by decide)]; exact c2, by rw [zz_up_k (by decide)]; exact c3⟩
          · rw [zz_up_s, a1, nI_add]
            show _ = nI (sv_r v ++ [_]).length
            rw [List.length_append]; rfl
          · show (sv_r v ++ [_]).length ≤ 4
            rw [List.length_append, List.length_singleton]; omega
          · rw [hfr _ (by omega), zz_getD_app]
            have hj : j < (sv_r v ++ [_]).length := hj
            rw [List.length_append, List.length_singleton] at hj
            by_cases q : j = (sv_r v).length
            · rw [if_pos q, q]
            · rw [if_neg q]
              exact a3 j (by omega)
        rw [a1]
        rw [a1] at hv2 hfr
        refine z_callV (As := [_, _]) ee_V_plantRoot_57 kk_V_plantRoot_60 rfl (by assumption) rfl rfl (Nat.le_of_ble_eq_true rfl) (by omega) (sp_S_putDampness hf hS' hv2 (sv_r v).length (by show (sv_r v).length < (sv_r v ++ [_]).length; rw [List.length_append, List.length_singleton]; omega) d) (fun E h1 hx => hx.elim) (fun v h1 hq => ?_)
        obtain ⟨I2, rfl, rfl, hx2, hfr2⟩ := hq
        refine z_iload_n ee_V_plantRoot_60 rfl ?_
        refine z_iret ee_V_plantRoot_61 rfl (by omega) (by omega) ?_
        -- at 61
        have e : (sv_r v ++ [I (C + 1 + 1) (sv_r v).length]).set (sv_r v).length d = sv_r v ++ [d] := by
          rw [List.set_append_right _ _ (Nat.le_refl _)]
          simp
        have hx2 : zz_sx I2 σ (C + 1) ((sv_r v ++ [I (C + 1 + 1) (sv_r v).length]).set (sv_r v).length d, sv_t v, sv_n v, sv_d v, sv_c v) := hx2
        rw [e] at hx2
        exact ⟨R, I2, rfl, rfl, fun q hq => (by cases hq), ⟨σ, hS', hx2⟩, zz_fq.rf, (hfr.wid (by omega) (by omega)).trans (hfr2.wid (by omega) (by omega))⟩
      · rw [a1] at c_20
        simp (disch := omega) only [zi_lt, zi_le, zi_eq, zi_n, zi_0, zi_m1] at c_20
        rw [if_pos (by omega)]
        refine z_aload_n ee_V_plantRoot_23 rfl ?_
        refine z_iconst ee_V_plantRoot_24 (v := nI 1) (by decide) ?_
        refine z_iconst ee_V_plantRoot_25 (v := nI 4) (by decide) ?_
        -- at 26
        refine z_callV (As := [_, _]) ee_V_plantRoot_26 kk_V_plantRoot_57 rfl (by assumption) rfl rfl (Nat.le_of_ble_eq_true rfl) (by omega) (sp_V_denied hf v1 v7 _ _) (fun E h1 hx => hx.elim) (fun v h1 hq => ?_)
        obtain ⟨rfl, rfl⟩ := hq
        refine z_iret ee_V_plantRoot_29 rfl (by omega) (by omega) ?_
        -- at 29
        exact zz_VQ.deny hS' hv'
    · exact bad (Or.inr (Int32.not_le.mp c_6))
theorem sp_V_dryRoot (hf : l.stackTraces = false) (hV : zz_Vx g K R C) (hS : zz_So g K R I (C + 1) v) (r : Int32) : zz_S g l mm_V_dryRoot 0 0 [.ref C, .int r] (K, R, I, L, z) (zz_VQ g K R I L z C (zv_dry v r)) zz_no := by
  obtain ⟨v1, v2, v3, v4, v5, v6, v7⟩ := hV
  obtain ⟨σ, hS, hv⟩ := hS
  have k1 := hS.1.1
  unfold zv_dry
  refine z_start hf rfl (by decide +kernel) (Nat.le_of_ble_eq_true rfl) ?_
  dsimp only [zz_lv0]
  refine z_aload_n ee_V_dryRoot_0 rfl ?_
  refine z_getR ee_V_dryRoot_1 ff_V_dryRoot_12 (by assumption) il_1_0 (by assumption) ?_
  refine z_iload_n ee_V_dryRoot_4 rfl ?_
  -- at 5
  refine z_callV (As := [_]) ee_V_dryRoot_5 kk_V_dryRoot_64 rfl (by assumption) rfl rfl (Nat.le_of_ble_eq_true rfl) (by omega) (sp_S_hasRoot hf hS hv r) (fun E h1 hx => hx.elim) (fun v h1 hq => ?_)
  obtain ⟨rfl, rfl⟩ := hq
  refine z_if_ne ee_V_dryRoot_8 (tgt := 14) (by decide) (fun c_8 => ?_) (fun c_8 => ?_)
  -- at 8
  · rw [zz_tf_n0] at c_8
    rw [if_neg (fun q => q c_8)]
    refine z_aload_n ee_V_dryRoot_14 rfl ?_
    refine z_getR ee_V_dryRoot_15 ff_V_dryRoot_12 (by assumption) il_1_0 (by assumption) ?_
    refine z_iload_n ee_V_dryRoot_18 rfl ?_
    -- at 19
    refine z_callV (As := [_]) ee_V_dryRoot_19 kk_V_dryRoot_68 rfl (by assumption) rfl rfl (Nat.le_of_ble_eq_true rfl) (by omega) (sp_S_dampnessAt hf hS hv r) (fun E h1 hx => hx.elim) (fun v h1 hq => ?_)
    obtain ⟨rfl, rfl⟩ := hq
    refine z_istore_m ee_V_dryRoot_22 (j := 2) rfl (by decide) ?_
    refine z_iload_n ee_V_dryRoot_23 rfl ?_
    refine z_if_ne ee_V_dryRoot_24 (tgt := 34) (by decide) (fun c_24 => ?_) (fun c_24 => ?_)
    -- at 24
    · rw [if_neg c_24]
      refine z_aload_n ee_V_dryRoot_34 rfl ?_
      refine z_getR ee_V_dryRoot_35 ff_V_dryRoot_12 (by assumption) il_1_0 (by assumption) ?_
      refine z_iload_n ee_V_dryRoot_38 rfl ?_
      refine z_iload_n ee_V_dryRoot_39 rfl ?_
      refine z_iconst ee_V_dryRoot_40 (v := nI 1) (by decide) ?_
      refine z_isub ee_V_dryRoot_41 ?_
      -- at 42
      have e := zi_of c_8.1
      have h9 := sp_S_putDampness (z := z) (L := L) hf hS hv r.toInt.toNat (by omega) (zz_dmp v r - nI 1)
      rw [← e] at h9
      refine z_callV (As := [_, _]) ee_V_dryRoot_42 kk_V_dryRoot_60 rfl (by assumption) rfl rfl (Nat.le_of_ble_eq_true rfl) (by omega) h9 (fun E h1 hx => hx.elim) (fun v h1 hq => ?_)
      obtain ⟨I2, rfl, rfl, hx2, hfr2⟩ := hq
      refine z_iload_n ee_V_dryRoot_45 rfl ?_
      refine z_iconst ee_V_dryRoot_46 (v := nI 1) (by decide) ?_
      refine z_isub ee_V_dryRoot_47 ?_
      refine z_iret ee_V_dryRoot_48 rfl (by omega) (by omega) ?_
      -- at 48
      exact ⟨R, I2, rfl, rfl, fun q hq => (by cases hq), ⟨σ, hS, hx2⟩, zz_fq.rf, hfr2.wid (by omega) (by omega)⟩
    · rw [if_pos c_24]
      refine z_aload_n ee_V_dryRoot_27 rfl ?_
      refine z_iconst ee_V_dryRoot_28 (v := nI 4) (by decide) ?_
      refine z_iload_n ee_V_dryRoot_29 rfl ?_
      -- at 30
      refine z_callV (As := [_, _]) ee_V_dryRoot_30 kk_V_dryRoot_57 rfl (by assumption) rfl rfl (Nat.le_of_ble_eq_true rfl) (by omega) (sp_V_denied hf v1 v7 _ _) (fun E h1 hx => hx.elim) (fun v h1 hq => ?_)
      obtain ⟨rfl, rfl⟩ := hq
      refine z_iret ee_V_dryRoot_33 rfl (by omega) (by omega) ?_
      -- at 33
      exact zz_VQ.deny hS hv
  · rw [zz_tf_0] at c_8
    rw [if_pos c_8]
    refine z_bipush ee_V_dryRoot_11 (v := -12) (by decide) ?_
    refine z_iret ee_V_dryRoot_13 rfl (by omega) (by omega) ?_
    -- at 13
    exact zz_VQ.same hS hv rfl rfl
theorem sp_V_passDays (hf : l.stackTraces = false) (hV : zz_Vx g K R C) (hS : zz_So g K R I (C + 1) v) (d : Int32) : zz_S g l mm_V_passDays 0 0 [.ref C, .int d] (K, R, I, L, z) (zz_VQ g K R I L z C (zv_pass v d)) zz_no := by
  obtain ⟨v1, v2, v3, v4, v5, v6, v7⟩ := hV
  obtain ⟨σ, hS, hv⟩ := hS
  have hS' := hS
  have hv' := hv
  obtain ⟨⟨k1, k2, k3, k4, k5, k6, k7, k8⟩, hG, hr, hσ, hj⟩ := hS
  obtain ⟨⟨a1, a2, a3⟩, ⟨b1, b2, b3⟩, c1, c2, c3⟩ := hv
  have bad : d < nI 1 ∨ nI 20 < d → Zz g l mm_V_passDays 0 0 (zz_VQ g K R I L z C (zv_pass v d)) zz_no 0 0 11 [some (.ref C), some (.int d)] [] (K, R, I, L, z) := by
    intro h
    unfold zv_pass
    rw [if_pos h]
    refine z_bipush ee_V_passDays_11 (v := -13) (by decide) ?_
    refine z_iret ee_V_passDays_13 rfl (by omega) (by omega) ?_
    -- at 13
    exact zz_VQ.same hS' hv' rfl rfl
  refine z_start hf rfl (by decide +kernel) (Nat.le_of_ble_eq_true rfl) ?_
  dsimp only [zz_lv0]
  refine z_iload_n ee_V_passDays_0 rfl ?_
  refine z_iconst ee_V_passDays_1 (v := nI 1) (by decide) ?_
  refine z_icmp_lt ee_V_passDays_2 (tgt := 11) (by decide) (fun c_2 => ?_) (fun c_2 => ?_)
  -- at 2
  · exact bad (Or.inl c_2)
  · refine z_iload_n ee_V_passDays_5 rfl ?_
    refine z_bipush ee_V_passDays_6 (v := nI 20) (by decide) ?_
    refine z_icmp_le ee_V_passDays_8 (tgt := 14) (by decide) (fun c_8 => ?_) (fun c_8 => ?_)
    -- at 8
    · unfold zv_pass
      rw [if_neg (fun q => q.elim c_2 (Int32.not_lt.mpr c_8))]
      refine z_aload_n ee_V_passDays_14 rfl ?_
      refine z_getR ee_V_passDays_15 ff_V_passDays_12 (by assumption) il_1_0 (by assumption) ?_
      refine z_dup ee_V_passDays_18 rfl ?_
      refine z_getI ee_V_passDays_19 ff_V_passDays_151 (by assumption) il_5_5 ?_
      refine z_iload_n ee_V_passDays_22 rfl ?_
      refine z_iadd ee_V_passDays_23 ?_
      refine z_putI ee_V_passDays_24 ff_V_passDays_151 (by assumption) (by assumption) tl_5_5 fl_5_5 ?_
      refine z_aload_n ee_V_passDays_27 rfl ?_
      refine z_getR ee_V_passDays_28 ff_V_passDays_12 (by assumption) il_1_0 (by assumption) ?_
      refine z_iload_n ee_V_passDays_31 rfl ?_
      -- at 32
      have hfr : zz_fr (C + 1) (C + 2) I (zz_up I (C + 1) 5 (I (C + 1) 5 + d)) := zz_fr.rf.up (by omega) (by omega)
      have hv2 : zz_sx (zz_up I (C + 1) 5 (I (C + 1) 5 + d)) σ (C + 1) (sv_r v, sv_t v, sv_n v, sv_d v + d, sv_c v) :=
        ⟨⟨by rw [zz_up_k (by decide)]; exact a1, a2, fun j hj => by rw [hfr _ (by omega)]; exact a3 j hj⟩, ⟨by rw [zz_up_k (by decide)]; exact b1, b2, fun i x hx => (b3 i x hx).fr hfr (by omega)⟩, by rw [zz_up_k (by decide)]; exact c1, by rw [zz_up_s, c2], by rw [zz_up_k (by decide)]; exact c3⟩
      refine z_callV (As := [_]) ee_V_passDays_32 kk_V_passDays_154 rfl (by assumption) rfl rfl (Nat.le_of_ble_eq_true rfl) (by omega) (sp_S_rotBy hf hS' hv2 d) (fun E h1 hx => hx.elim) (fun v h1 hq => ?_)
      obtain ⟨I2, rfl, rfl, hx2, hfr2⟩ := hq
      refine z_iret ee_V_passDays_35 rfl (by omega) (by omega) ?_
      -- at 35
      exact ⟨R, I2, rfl, rfl, fun q hq => (by cases hq), ⟨σ, hS', hx2⟩, zz_fq.rf, (hfr.wid (by omega) (by omega)).trans (hfr2.wid (by omega) (by omega))⟩
    · exact bad (Or.inr (Int32.not_le.mp c_8))
theorem sp_V_dropTelegram (hf : l.stackTraces = false) (hV : zz_Vx g K R C) (hS : zz_So g K R I (C + 1) v) (n : Int32) : zz_S g l mm_V_dropTelegram 0 0 [.ref C, .int n] (K, R, I, L, z) (zz_VQ g K R I L z C (zv_drop v n)) zz_no := by
  obtain ⟨v1, v2, v3, v4, v5, v6, v7⟩ := hV
  obtain ⟨σ, hS, hv⟩ := hS
  have k1 := hS.1.1
  unfold zv_drop
  refine z_start hf rfl (by decide +kernel) (Nat.le_of_ble_eq_true rfl) ?_
  dsimp only [zz_lv0]
  refine z_aload_n ee_V_dropTelegram_0 rfl ?_
  refine z_getR ee_V_dropTelegram_1 ff_V_dropTelegram_12 (by assumption) il_1_0 (by assumption) ?_
  refine z_iload_n ee_V_dropTelegram_4 rfl ?_
  -- at 5
  refine z_callV (As := [_]) ee_V_dropTelegram_5 kk_V_dropTelegram_148 rfl (by assumption) rfl rfl (Nat.le_of_ble_eq_true rfl) (by omega) (sp_S_removeTelegram hf hS hv n) (fun E h1 hx => hx.elim) (fun v h1 hq => ?_)
  rcases hq with ⟨hp, rfl, rfl⟩ | ⟨p, R', I', hp, rfl, rfl, hS2, hv2, hR, hI⟩
  · rw [hp]
    refine z_if_eq ee_V_dropTelegram_8 (tgt := 21) (by decide) (fun c_8 => ?_) (fun c_8 => ?_)
    -- at 8
    · refine z_bipush ee_V_dropTelegram_21 (v := -11) (by decide) ?_
      refine z_iret ee_V_dropTelegram_23 rfl (by omega) (by omega) ?_
      -- at 23
      exact zz_VQ.same hS hv rfl rfl
    · exact absurd rfl c_8
  · rw [hp]
    refine z_if_eq ee_V_dropTelegram_8 (tgt := 21) (by decide) (fun c_8 => ?_) (fun c_8 => ?_)
    -- at 8
    · exact absurd c_8 (by decide)
    · have v2' : R' C 0 = some (C + 1) := by rw [hR _ (by omega)]; exact v2
      refine z_aload_n ee_V_dropTelegram_11 rfl ?_
      refine z_getR ee_V_dropTelegram_12 ff_V_dropTelegram_12 (by assumption) il_1_0 (by assumption) ?_
      refine z_getI ee_V_dropTelegram_15 ff_V_dropTelegram_74 (by assumption) il_5_3 ?_
      refine z_goto ee_V_dropTelegram_18 (tgt := 23) (by decide) ?_
      refine z_iret ee_V_dropTelegram_23 rfl (by omega) (by omega) ?_
      -- at 23
      exact ⟨R', I', rfl, by rw [hv2.2.1.1]; rfl, fun q hq => (by cases hq), ⟨_, hS2, hv2⟩, fun b hb => hR b (by omega), hI.wid (by omega) (by omega)⟩
end Carver
