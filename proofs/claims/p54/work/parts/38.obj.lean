/-! THE OBJECT: message, buffer, line, store, snapshot, is it saved, history, kept fault, latest denial -/
abbrev zz_OV : Type := List Int32 × List Int32 × List Int32 × zz_SV × zz_SV × Bool × List zz_SV × Int32 × (Int32 × Int32 × Int32)
abbrev ov_m (v : zz_OV) : List Int32 := v.1
abbrev ov_b (v : zz_OV) : List Int32 := v.2.1
abbrev ov_l (v : zz_OV) : List Int32 := v.2.2.1
abbrev ov_s (v : zz_OV) : zz_SV := v.2.2.2.1
abbrev ov_p (v : zz_OV) : zz_SV := v.2.2.2.2.1
abbrev ov_f (v : zz_OV) : Bool := v.2.2.2.2.2.1
abbrev ov_h (v : zz_OV) : List zz_SV := v.2.2.2.2.2.2.1
abbrev ov_k (v : zz_OV) : Int32 := v.2.2.2.2.2.2.2.1
abbrev ov_d (v : zz_OV) : Int32 × Int32 × Int32 := v.2.2.2.2.2.2.2.2
def ow_m (v : zz_OV) (x : List Int32) : zz_OV := (x, ov_b v, ov_l v, ov_s v, ov_p v, ov_f v, ov_h v, ov_k v, ov_d v)
def ow_b (v : zz_OV) (x : List Int32) : zz_OV := (ov_m v, x, ov_l v, ov_s v, ov_p v, ov_f v, ov_h v, ov_k v, ov_d v)
def ow_l (v : zz_OV) (x : List Int32) : zz_OV := (ov_m v, ov_b v, x, ov_s v, ov_p v, ov_f v, ov_h v, ov_k v, ov_d v)
def ow_s (v : zz_OV) (x : zz_SV) : zz_OV := (ov_m v, ov_b v, ov_l v, x, ov_p v, ov_f v, ov_h v, ov_k v, ov_d v)
def ow_p (v : zz_OV) (x : zz_SV) : zz_OV := (ov_m v, ov_b v, ov_l v, ov_s v, x, true, ov_h v, ov_k v, ov_d v)
def ow_h (v : zz_OV) (x : List zz_SV) : zz_OV := (ov_m v, ov_b v, ov_l v, ov_s v, ov_p v, ov_f v, x, ov_k v, ov_d v)
def ow_k (v : zz_OV) (x : Int32) : zz_OV := (ov_m v, ov_b v, ov_l v, ov_s v, ov_p v, ov_f v, ov_h v, x, ov_d v)
def ow_d (v : zz_OV) (x : Int32 × Int32 × Int32) : zz_OV := (ov_m v, ov_b v, ov_l v, ov_s v, ov_p v, ov_f v, ov_h v, ov_k v, x)
def zz_Px (g : zz_G) (K : Nat → Nat × Nat) (R : Nat → Nat → Option Nat) (B : Nat) : Prop :=
  (K B = zz_o 0 ∧ zz_A g B ∧ R B 0 = some (B + 1) ∧ R B 1 = some (B + 3) ∧ R B 2 = some (B + 5) ∧ R B 3 = some (B + 7) ∧ R B 4 = some (B + 7 + 1) ∧ R B 5 = some (B + 143) ∧ R B 6 = some (B + 274) ∧ R B 7 = some (B + 1455) ∧ R B 8 = some (B + 1459)) ∧
  (zz_Tx g K R (B + 1) 40 ∧ zz_Tx g K R (B + 3) 60 ∧ zz_Tx g K R (B + 5) 432) ∧ zz_Vx g K R (B + 7) ∧ zz_Hx g K R (B + 274) ∧ zz_Cx g K R (B + 1455) ∧ (K (B + 1459) = zz_o 3 ∧ zz_A g (B + 1459)) ∧ K (B + 143) = zz_o 5
def zz_px (g : zz_G) (K : Nat → Nat × Nat) (R : Nat → Nat → Option Nat) (I : Nat → Nat → Int32) (B f : Nat) (v : zz_OV) : Prop :=
  (zz_tx I (B + 1) 40 (ov_m v) ∧ zz_tx I (B + 3) 60 (ov_b v) ∧ zz_tx I (B + 5) 432 (ov_l v)) ∧ zz_So g K R I (B + 7 + 1) (ov_s v) ∧ zz_So g K R I (B + 143) (ov_p v) ∧ zz_hx g K R I (B + 274) f (ov_h v) ∧
  (I B 9 = zz_tf (ov_f v = true) ∧ I B 10 = ov_k v) ∧ (I (B + 1459) 0 = (ov_d v).1 ∧ I (B + 1459) 1 = (ov_d v).2.1 ∧ I (B + 1459) 2 = (ov_d v).2.2)
def zz_Ob (g : zz_G) (K : Nat → Nat × Nat) (R : Nat → Nat → Option Nat) (I : Nat → Nat → Int32) (B : Nat) (v : zz_OV) : Prop := zz_Px g K R B ∧ ∃ f, zz_px g K R I B f v
theorem zz_Cx.in {g : zz_G} {K : Nat → Nat × Nat} {R R' : Nat → Nat → Option Nat} {Q : Nat} (h : zz_Cx g K R Q) (hR : zz_kt Q (Q + 1) R R') : zz_Cx g K R' Q := by
  obtain ⟨k1, k2, k3, k4, k5⟩ := h
  have e : R' Q = R Q := hR _ (by omega) (by omega)
  exact ⟨k1, by rw [e]; exact k2, by rw [e]; exact k3, by rw [e]; exact k4, k5⟩
theorem zz_Vx.in {g : zz_G} {K : Nat → Nat × Nat} {R R' : Nat → Nat → Option Nat} {C : Nat} (h : zz_Vx g K R C) (h1 : zz_kt C (C + 1) R R') (h2 : zz_kt (C + 132) (C + 136) R R') : zz_Vx g K R' C := by
  obtain ⟨k1, k2, k3, k4, k5, k6, k7⟩ := h
  have e : R' C = R C := h1 _ (by omega) (by omega)
  exact ⟨k1, by rw [e]; exact k2, by rw [e]; exact k3, by rw [e]; exact k4, k5.in (h2.wid (by omega) (by omega)), k6.in (h2.wid (by omega) (by omega)), k7⟩
/-- only the carver's store's rows of references change -/
theorem zz_Px.fq {g : zz_G} {K : Nat → Nat × Nat} {R R' : Nat → Nat → Option Nat} {B : Nat} (h : zz_Px g K R B) (hR : zz_fq (B + 7 + 1) (B + 7 + 132) R R') : zz_Px g K R' B := by
  obtain ⟨⟨k1, k2, k3, k4, k5, k6, k7, k8, k9, k10, k11⟩, ⟨t1, t2, t3⟩, hV, hH, hC, hD, hS⟩ := h
  have e : R' B = R B := hR _ (by omega)
  refine ⟨⟨k1, k2, by rw [e]; exact k3, by rw [e]; exact k4, by rw [e]; exact k5, by rw [e]; exact k6, by rw [e]; exact k7, by rw [e]; exact k8, by rw [e]; exact k9, by rw [e]; exact k10, by rw [e]; exact k11⟩, ⟨t1.fq hR (by omega), t2.fq hR (by omega), t3.fq hR (by omega)⟩, hV.in (hR.in (by omega)) (hR.in (by omega)), hH.fq hR (by omega), hC.in (hR.in (by omega)), hD, hS⟩
/-- what a carver's change leaves of the rest -/
theorem zz_px.st {g : zz_G} {K : Nat → Nat × Nat} {R R' : Nat → Nat → Option Nat} {I I' : Nat → Nat → Int32} {B f : Nat} {v : zz_OV} {w : zz_SV} (h : zz_px g K R I B f v) (hR : zz_fq (B + 7 + 1) (B + 7 + 132) R R') (hI : zz_fr (B + 7) (B + 7 + 136) I I') (hS : zz_So g K R' I' (B + 7 + 1) w) : zz_px g K R' I' B f (ow_s v w) := by
  obtain ⟨⟨t1, t2, t3⟩, -, hp, hh, ⟨i1, i2⟩, d1, d2, d3⟩ := h
  have e : I' B = I B := hI _ (by omega)
  have e1 : I' (B + 1459) = I (B + 1459) := hI _ (by omega)
  exact ⟨⟨t1.fr hI (by omega), t2.fr hI (by omega), t3.fr hI (by omega)⟩, hS, hp.in (hR.in (by omega)) (hI.in (by omega)), hh.in (hR.in (by omega)) (hI.in (by omega)), ⟨by rw [e]; exact i1, by rw [e]; exact i2⟩, by rw [e1]; exact d1, by rw [e1]; exact d2, by rw [e1]; exact d3⟩
/-- results: an answer or an exception, and the object after -/
abbrev zz_PR : Type := (Int32 ⊕ String) × zz_OV
def zz_PQ (g : zz_G) (K : Nat → Nat × Nat) (R : Nat → Nat → Option Nat) (I : Nat → Nat → Int32) (L : Nat → Nat → Int64) (z B : Nat) (r : zz_PR) : Option Value → zz_H → Prop := fun a h' => ∃ n R' I', r.1 = .inl n ∧ a = some (.int n) ∧ h' = (K, R', I', L, z) ∧ zz_Ob g K R' I' B r.2 ∧ zz_fq B (B + 1460) R R' ∧ zz_fr B (B + 1460) I I'
def zz_PX (g : zz_G) (K : Nat → Nat × Nat) (R : Nat → Nat → Option Nat) (I : Nat → Nat → Int32) (L : Nat → Nat → Int64) (z B : Nat) (r : zz_PR) : String → zz_H → Prop := fun E h' => ∃ R' I' z', r.1 = .inr E ∧ z ≤ z' ∧ h' = (K, R', I', L, z') ∧ zz_Ob g K R' I' B r.2 ∧ zz_fq B (B + 1460) R R' ∧ zz_fr B (B + 1460) I I'
/-- the outcomes that there are -/
def rs_ok : zz_RS → Prop
  | .inl q => ∃ k, 1 ≤ k ∧ k ≤ 8 ∧ q.1 = nI k
  | .inr o => o = -11 ∨ o = -12 ∨ o = -13 ∨ 0 ≤ o
abbrev eN : String := "java/util/NoSuchElementException"
abbrev eI : String := "java/lang/IndexOutOfBoundsException"
abbrev eA : String := "java/lang/IllegalArgumentException"
abbrev eU : String := "java/lang/UnsupportedOperationException"
abbrev eS : String := "java/lang/IllegalStateException"
abbrev eM : String := "java/lang/ArithmeticException"
/-- what refuse throws, and the denial it keeps -/
def rs_e : zz_RS → Option String
  | .inl _ => some eU
  | .inr o => if o = -11 then some eN else if o = -12 then some eI else if o = -13 then some eA else none
def rs_d (v : zz_OV) : zz_RS → zz_OV
  | .inl q => ow_d v (q.1, q.2, -1)
  | .inr _ => v
def po_settle (v : zz_OV) (r : zz_RS × zz_SV) : zz_PR :=
  match rs_e r.1 with
  | some E => (.inr E, rs_d (ow_s v r.2) r.1)
  | none => (.inl (zz_oc r.1), ow_h (ow_s v r.2) (zz_kp (ov_h v) (ov_s v)))
section Obj
variable {g : zz_G} {l : Launch} {K : Nat → Nat × Nat} {R : Nat → Nat → Option Nat} {I : Nat → Nat → Int32} {L : Nat → Nat → Int64} {z : Nat} {B f : Nat} {v : zz_OV} {w : zz_SV} {h : zz_H}
theorem zz_px.dn {a b c : Int32} {I' : Nat → Nat → Int32} (h : zz_px g K R I B f v) (hI : zz_fr (B + 1459) (B + 1460) I I') (hd : I' (B + 1459) 0 = a ∧ I' (B + 1459) 1 = b ∧ I' (B + 1459) 2 = c) : zz_px g K R I' B f (ow_d v (a, b, c)) := by
  obtain ⟨⟨t1, t2, t3⟩, hs, hp, hh, ⟨i1, i2⟩, d1, d2, d3⟩ := h
  have e : I' B = I B := hI _ (by omega)
  exact ⟨⟨t1.fr hI (by omega), t2.fr hI (by omega), t3.fr hI (by omega)⟩, hs.in zz_kt.rf (hI.in (by omega)), hp.in zz_kt.rf (hI.in (by omega)), hh.in zz_kt.rf (hI.in (by omega)), ⟨by rw [e]; exact i1, by rw [e]; exact i2⟩, hd⟩
theorem zz_px.hx {f' : Nat} {hs : List zz_SV} {I' : Nat → Nat → Int32} (h : zz_px g K R I B f v) (hI : zz_fr (B + 274) (B + 1455) I I') (hh : zz_hx g K R I' (B + 274) f' hs) : zz_px g K R I' B f' (ow_h v hs) := by
  obtain ⟨⟨t1, t2, t3⟩, hs, hp, -, ⟨i1, i2⟩, d1, d2, d3⟩ := h
  have e : I' B = I B := hI _ (by omega)
  have e1 : I' (B + 1459) = I (B + 1459) := hI _ (by omega)
  exact ⟨⟨t1.fr hI (by omega), t2.fr hI (by omega), t3.fr hI (by omega)⟩, hs.in zz_kt.rf (hI.in (by omega)), hp.in zz_kt.rf (hI.in (by omega)), hh, ⟨by rw [e]; exact i1, by rw [e]; exact i2⟩, by rw [e1]; exact d1, by rw [e1]; exact d2, by rw [e1]; exact d3⟩
theorem rs_neg {k : Nat} (h1 : 1 ≤ k) (h8 : k ≤ 8) : ¬ -nI k = -11 ∧ ¬ -nI k = -12 ∧ ¬ -nI k = -13 ∧ ¬ 0 ≤ -nI k ∧ -(-nI k) = nI k := by
  have : ∀ k, k < 9 → 1 ≤ k → ¬ -nI k = -11 ∧ ¬ -nI k = -12 ∧ ¬ -nI k = -13 ∧ ¬ 0 ≤ -nI k ∧ -(-nI k) = nI k := by decide +kernel
  exact this k (by omega) h1
theorem sp_P_refuse (hf : l.stackTraces = false) (hP : zz_Px g K R B) (hp : zz_px g K R I B f v) (r : zz_RS) (hr : rs_ok r) (hd : ∀ q, r = .inl q → I (B + 7) 3 = q.2) : zz_S g l mm_P_refuse 1 6 [.ref B, .int (zz_oc r)] (K, R, I, L, z) (fun a h' => rs_e r = none ∧ h' = (K, R, I, L, z) ∧ a = none) (fun E h' => ∃ I' z', rs_e r = some E ∧ z ≤ z' ∧ h' = (K, R, I', L, z') ∧ zz_px g K R I' B f (rs_d v r) ∧ zz_fr (B + 1459) (B + 1460) I I') := by
  obtain ⟨⟨k1, k2, k3, k4, k5, k6, k7, k8, k9, k10, k11⟩, -, ⟨v1, -⟩, -, -, ⟨d1, d2⟩, -⟩ := hP
  refine z_start hf rfl (by decide +kernel) (Nat.le_of_ble_eq_true rfl) ?_
  dsimp only [zz_lv0]
  cases r with
  | inl q =>
    obtain ⟨k, h1, h8, hk⟩ := hr
    obtain ⟨n1, n2, n3, n4, n5⟩ := rs_neg h1 h8
    have hq := hd q rfl
    show Zz g l mm_P_refuse 1 6 _ _ 0 0 0 [some (.ref B), some (.int (-q.1))] [] (K, R, I, L, z)
    rw [hk]
    refine z_iload_n ee_P_refuse_0 rfl ?_
    refine z_bipush ee_P_refuse_1 (v := -11) (by decide) ?_
    refine z_icmp_ne ee_P_refuse_3 (tgt := 14) (by decide) (fun c_3 => ?_) (fun c_3 => ?_)
    -- at 3
    · refine z_iload_n ee_P_refuse_14 rfl ?_
      refine z_bipush ee_P_refuse_15 (v := -12) (by decide) ?_
      refine z_icmp_ne ee_P_refuse_17 (tgt := 28) (by decide) (fun c_17 => ?_) (fun c_17 => ?_)
      -- at 17
      · refine z_iload_n ee_P_refuse_28 rfl ?_
        refine z_bipush ee_P_refuse_29 (v := -13) (by decide) ?_
        refine z_icmp_ne ee_P_refuse_31 (tgt := 42) (by decide) (fun c_31 => ?_) (fun c_31 => ?_)
        -- at 31
        · refine z_iload_n ee_P_refuse_42 rfl ?_
          refine z_if_ge ee_P_refuse_43 (tgt := 71) (by decide) (fun c_43 => ?_) (fun c_43 => ?_)
          -- at 43
          · exact absurd c_43 n4
          · refine z_aload_n ee_P_refuse_46 rfl ?_
            refine z_getR ee_P_refuse_47 ff_P_refuse_59 (by assumption) il_0_8 (by assumption) ?_
            refine z_iload_n ee_P_refuse_50 rfl ?_
            refine z_ineg ee_P_refuse_51 ?_
            refine z_aload_n ee_P_refuse_52 rfl ?_
            refine z_getR ee_P_refuse_53 ff_P_refuse_27 (by assumption) il_0_3 (by assumption) ?_
            refine z_getI ee_P_refuse_56 ff_P_refuse_324 (by assumption) il_1_3 ?_
            refine z_iconst ee_P_refuse_59 (v := -1) (by decide) ?_
            -- at 60
            rw [hq, n5]
            refine z_callV (As := [_, _, _]) ee_P_refuse_60 kk_P_refuse_294 rfl (by assumption) rfl rfl (Nat.le_of_ble_eq_true rfl) (by omega) (sp_D_note hf d1 d2 _ _ _) (fun E h1 hx => hx.elim) (fun v h1 hq => ?_)
            obtain ⟨I2, rfl, rfl, hd2, hfr2⟩ := hq
            refine z_throw tt_P_refuse_63 rfl (Nat.le_of_ble_eq_true rfl) (by omega) (by omega) (fun z1 hz1 => ?_)
            -- at 63
            refine ⟨I2, z1, rfl, hz1, rfl, ?_, hfr2⟩
            rw [← hk] at hd2
            exact hp.dn hfr2 hd2
        · exact absurd c_31 n3
      · exact absurd c_17 n2
    · exact absurd c_3 n1
  | inr o =>
    show Zz g l mm_P_refuse 1 6 _ _ 0 0 0 [some (.ref B), some (.int o)] [] (K, R, I, L, z)
    have hd0 : rs_d v (.inr o) = v := rfl
    rw [hd0]
    simp only [rs_e]
    have hr : o = -11 ∨ o = -12 ∨ o = -13 ∨ 0 ≤ o := hr
    refine z_iload_n ee_P_refuse_0 rfl ?_
    refine z_bipush ee_P_refuse_1 (v := -11) (by decide) ?_
    refine z_icmp_ne ee_P_refuse_3 (tgt := 14) (by decide) (fun c_3 => ?_) (fun c_3 => ?_)
    -- at 3
    · rw [if_neg c_3]
      refine z_iload_n ee_P_refuse_14 rfl ?_
      refine z_bipush ee_P_refuse_15 (v := -12) (by decide) ?_
      refine z_icmp_ne ee_P_refuse_17 (tgt := 28) (by decide) (fun c_17 => ?_) (fun c_17 => ?_)
      -- at 17
      · rw [if_neg c_17]
        refine z_iload_n ee_P_refuse_28 rfl ?_
        refine z_bipush ee_P_refuse_29 (v := -13) (by decide) ?_
        refine z_icmp_ne ee_P_refuse_31 (tgt := 42) (by decide) (fun c_31 => ?_) (fun c_31 => ?_)
        -- at 31
        · rw [if_neg c_31]
          refine z_iload_n ee_P_refuse_42 rfl ?_
          refine z_if_ge ee_P_refuse_43 (tgt := 71) (by decide) (fun c_43 => ?_) (fun c_43 => ?_)
          -- at 43
          · refine z_vret ee_P_refuse_71 rfl (by omega) (by omega) ?_
            -- at 71
            exact ⟨rfl, rfl, rfl⟩
          · exact absurd (hr.resolve_left c_3 |>.resolve_left c_17 |>.resolve_left c_31) c_43
        · rw [if_pos c_31]
          refine z_throw tt_P_refuse_34 rfl (Nat.le_of_ble_eq_true rfl) (by omega) (by omega) (fun z1 hz1 => ?_)
          -- at 34
          exact ⟨I, z1, rfl, hz1, rfl, hp, zz_fr.rf⟩
      · rw [if_pos c_17]
        refine z_throw tt_P_refuse_20 rfl (Nat.le_of_ble_eq_true rfl) (by omega) (by omega) (fun z1 hz1 => ?_)
        -- at 20
        exact ⟨I, z1, rfl, hz1, rfl, hp, zz_fr.rf⟩
    · rw [if_pos c_3]
      refine z_throw tt_P_refuse_6 rfl (Nat.le_of_ble_eq_true rfl) (by omega) (by omega) (fun z1 hz1 => ?_)
      -- at 6
      exact ⟨I, z1, rfl, hz1, rfl, hp, zz_fr.rf⟩
/-- the end of a change: its outcome r is refused or kept -/
theorem sp_P_settle (hf : l.stackTraces = false) (hP : zz_Px g K R B) (r : zz_RS × zz_SV) (hp : zz_px g K R I B f (ow_s v r.2)) (hw : zz_So g K R I (B + 274 + 2 + 131 * ((f + (ov_h v).length) % 9)) (ov_s v)) (hr : rs_ok r.1) (hd : ∀ q, r.1 = .inl q → I (B + 7) 3 = q.2) : zz_S g l mm_P_settle 1 6 [.ref B, .int (zz_oc r.1)] (K, R, I, L, z) (zz_PQ g K R I L z B (po_settle v r)) (zz_PX g K R I L z B (po_settle v r)) := by
  have hP' := hP
  obtain ⟨⟨k1, k2, k3, k4, k5, k6, k7, k8, k9, k10, k11⟩, -, -, hH, -⟩ := hP
  have hk := hH.1.1
  unfold po_settle
  refine z_start hf rfl (by decide +kernel) (Nat.le_of_ble_eq_true rfl) ?_
  dsimp only [zz_lv0]
  refine z_aload_n ee_P_settle_0 rfl ?_
  refine z_iload_n ee_P_settle_1 rfl ?_
  -- at 2
  refine z_callV (As := [_]) ee_P_settle_2 kk_P_settle_171 rfl (by assumption) rfl rfl (Nat.le_of_ble_eq_true rfl) (by omega) (sp_P_refuse hf hP' hp r.1 hr hd) (fun E h1 hx => (by obtain ⟨I2, z2, he, hz, rfl, hp2, hfr⟩ := hx; rw [he]; exact ⟨R, I2, z2, rfl, hz, rfl, ⟨hP', f, hp2⟩, zz_fq.rf, hfr.wid (by omega) (by omega)⟩)) (fun v h1 hq => ?_)
  obtain ⟨he, rfl, rfl⟩ := hq
  rw [he]
  have hh : zz_hx g K R I (B + 274) f (ov_h v) := hp.2.2.2.1
  refine z_aload_n ee_P_settle_5 rfl ?_
  refine z_getR ee_P_settle_6 ff_P_settle_45 (by assumption) il_0_6 (by assumption) ?_
  -- at 9
  refine z_callV (As := []) ee_P_settle_9 kk_P_settle_301 rfl (by assumption) rfl rfl (Nat.le_of_ble_eq_true rfl) (by omega) (sp_H_keep hf hH hh hw) (fun E h1 hx => hx.elim) (fun v h1 hq => ?_)
  obtain ⟨I3, f3, rfl, rfl, hh3, hfr3⟩ := hq
  refine z_iload_n ee_P_settle_12 rfl ?_
  refine z_iret ee_P_settle_13 rfl (by omega) (by omega) ?_
  -- at 13
  exact ⟨_, R, I3, rfl, rfl, rfl, ⟨hP', f3, hp.hx (hfr3.wid (by omega) (by omega)) hh3⟩, zz_fq.rf, hfr3.wid (by omega) (by omega)⟩
end Obj
