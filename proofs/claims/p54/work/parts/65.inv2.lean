/-! THE MODEL: changes of the object -/
theorem rs_e11 : rs_e (.inr (-11)) = some eN := by decide +kernel
theorem rs_e12 : rs_e (.inr (-12)) = some eI := by decide +kernel
theorem rs_e13 : rs_e (.inr (-13)) = some eA := by decide +kernel
theorem zk_eN {E : String} (h : rs_e (.inr (-11)) = some E) : E = eN := by rw [rs_e11] at h; exact (Option.some.inj h).symm
theorem zk_eI {E : String} (h : rs_e (.inr (-12)) = some E) : E = eI := by rw [rs_e12] at h; exact (Option.some.inj h).symm
theorem zk_eA {E : String} (h : rs_e (.inr (-13)) = some E) : E = eA := by rw [rs_e13] at h; exact (Option.some.inj h).symm
theorem zk_eU {E : String} {q : Int32 × Int32} (h : rs_e (.inl q) = some E) : E = eU := by rw [rs_e_inl] at h; exact (Option.some.inj h).symm
theorem zk_eP {E : String} {o : Int32} {P : Prop} (ho : 0 ≤ o) (h : rs_e (.inr o) = some E) : P := by rw [rs_e_pos ho] at h; cases h
theorem zk_x_plant {m : Nat} {s : zz_SV} (hI : zk_I m s) (d : Int32) : ∀ E, rs_e (zv_plant s d).1 = some E → E = eA ∨ E = eU := by
  intro E
  have h2 := hI.2.1
  unfold zv_plant
  split
  · exact fun h => Or.inl (zk_eA h)
  · split
    · exact fun h => Or.inr (zk_eU h)
    · exact fun h => zk_eP (zz_n0 _ (by omega)) h
theorem zk_x_dry {m : Nat} {s : zz_SV} (hI : zk_I m s) (r : Int32) : ∀ E, rs_e (zv_dry s r).1 = some E → E = eI ∨ E = eU := by
  intro E
  obtain ⟨j, hj, e⟩ := zk_dmp hI r
  unfold zv_dry
  split
  · exact fun h => Or.inl (zk_eI h)
  · split
    · exact fun h => Or.inr (zk_eU h)
    · rename_i q
      have h0 : j ≠ 0 := fun z => q (by rw [e, z]; rfl)
      intro h
      rw [e] at h
      refine zk_eP ?_ h
      rw [pk_sub (by omega)]
      exact zz_n0 _ (by omega)
theorem zk_x_pass {m : Nat} (hm : m ≤ 1000) {s : zz_SV} (hI : zk_I m s) (d : Int32) : ∀ E, rs_e (zv_pass s d).1 = some E → E = eA := by
  intro E
  unfold zv_pass
  split
  · exact fun h => zk_eA h
  · rename_i q
    exact fun h => zk_eP (zk_pass_n hm hI q) h
theorem zk_x_drop {m : Nat} (hm : m ≤ 1000) {s : zz_SV} (hI : zk_I m s) (n : Int32) : ∀ E, rs_e (zv_drop s n).1 = some E → E = eN := by
  intro E
  obtain ⟨-, -, k, h3, -, h5, -⟩ := hI
  unfold zv_drop
  split
  · exact fun h => zk_eN h
  · refine fun h => zk_eP (zz_n0 _ ?_) h
    have := (List.eraseIdx_sublist (sv_t s) (by assumption)).length_le
    omega
theorem zk_x_tel {s : zz_SV} {n : Int32} {F : Nat → zz_TG → zz_RS × zz_SV} {P : String → Prop} (hN : P eN) (hF : ∀ p x, x ∈ sv_t s → ∀ E, rs_e (F p x).1 = some E → P E) : ∀ E, rs_e (zv_tel s n F).1 = some E → P E := by
  intro E
  unfold zv_tel
  cases hp : zz_pos n 0 (sv_t s) with
  | none => exact fun h => by rw [zk_eN h]; exact hN
  | some p => exact hF p _ (zk_at hp).2.2.1 E
theorem zk_x_move {m : Nat} (hm : m ≤ 1000) {s : zz_SV} (hI : zk_I m s) (n r : Int32) : ∀ E, rs_e (zv_move s n r).1 = some E → E = eN ∨ E = eI ∨ E = eU := by
  refine zk_x_tel (P := fun E => E = eN ∨ E = eI ∨ E = eU) (Or.inl rfl) fun p x hx E => ?_
  obtain ⟨-, h24, k, h3, -, h5, h6⟩ := hI
  obtain ⟨-, ⟨ro, t2, t2'⟩, -⟩ := h6 x hx
  unfold zv_move1
  split
  · exact fun h => Or.inr (Or.inl (zk_eI h))
  · split
    · exact fun h => Or.inr (Or.inr (zk_eU h))
    · split
      · exact fun h => Or.inr (Or.inr (zk_eU h))
      · refine fun h => zk_eP ?_ h
        rw [t2']
        exact zz_n0 _ (by omega)
theorem zk_x_dmg {m : Nat} {s : zz_SV} (hI : zk_I m s) (n i c : Int32) : ∀ E, rs_e (zv_dmg s n i c).1 = some E → E = eN ∨ E = eI ∨ E = eA ∨ E = eU := by
  refine zk_x_tel (P := fun E => E = eN ∨ E = eI ∨ E = eA ∨ E = eU) (Or.inl rfl) fun p x hx E => ?_
  obtain ⟨-, -, k, h3, -, h5, h6⟩ := hI
  obtain ⟨-, -, t3, -⟩ := h6 x hx
  unfold zv_dmg1
  split
  · exact fun h => Or.inr (Or.inl (zk_eI h))
  · rename_i q1
    split
    · exact fun h => Or.inr (Or.inr (Or.inl (zk_eA h)))
    · split
      · exact fun h => Or.inr (Or.inr (Or.inr (zk_eU h)))
      · refine fun h => zk_eP ?_ h
        have q1 := Decidable.not_not.mp q1
        have e : zz_at0 (tg_c x) i = (tg_c x).getD i.toInt.toNat 0 := if_pos q1
        rw [e]
        obtain ⟨-, kc, hkc, -, e2⟩ := (t3.at (show i.toInt.toNat < (tg_c x).length by omega)).ch
        rw [e2]
        exact zz_n0 _ (by omega)
theorem zk_x_anew {m : Nat} {s : zz_SV} (hI : zk_I m s) (n : Int32) : ∀ E, rs_e (zv_anew s n).1 = some E → E = eN ∨ E = eU := by
  refine zk_x_tel (P := fun E => E = eN ∨ E = eU) (Or.inl rfl) fun p x hx E => ?_
  unfold zv_anew1
  split
  · rename_i q
    rcases zk_uir (x := x) with ⟨k, d, hk, e⟩ | e
    · rw [e]; exact fun h => Or.inr (zk_eU h)
    · rw [e] at q; exact absurd q (by decide)
  · split
    · exact fun h => Or.inr (zk_eU h)
    · refine fun h => zk_eP (zz_n0 _ ?_) h
      have hl : (zz_fold 864 0 (zz_dec x) []).length ≤ 864 := zk_fold_len _ 0 _ (by simp)
      unfold zz_pgs; omega
theorem zk_x_carve {m : Nat} (hm : m ≤ 1000) {s : zz_SV} (hI : zk_I m s) (r o : Int32) (ms : List Int32) : ∀ E, rs_e (zv_carve s r o ms).1 = some E → E = eI ∨ E = eA ∨ E = eU := by
  intro E
  obtain ⟨-, -, k, h3, h4, h5, h6⟩ := hI
  unfold zv_carve
  split
  · exact fun h => Or.inl (zk_eI h)
  · split
    · exact fun h => Or.inr (Or.inl (zk_eA h))
    · split
      · exact fun h => Or.inr (Or.inr (zk_eU h))
      · split
        · exact fun h => Or.inr (Or.inr (zk_eU h))
        · refine fun h => zk_eP ?_ h
          rw [h4]
          exact zz_n0 _ (by omega)
/-! from the carver to the object -/
/-- a change is made, or refused -/
def zk_C (m : Nat) (v w : zz_OV) (x : Int32) : Prop := ov_p w = ov_p v ∧ ov_f w = ov_f v ∧ ((0 ≤ x ∧ ov_h w = zz_kp (ov_h v) (ov_s v) ∧ zk_I m (ov_s w)) ∨ (x < 0 ∧ ov_h w = ov_h v ∧ ov_s w = ov_s v))
theorem zk_ch_e {v : zz_OV} {F : zz_SV → zz_RS × zz_SV} {E : String} (h : rs_e (F (ov_s v)).1 = some E) (h2 : (F (ov_s v)).2 = ov_s v) : po_ch v F = (.inr E, rs_d v (F (ov_s v)).1) := by
  unfold po_ch po_settle
  rw [h]
  show (Sum.inr E, rs_d (ow_s v (F (ov_s v)).2) (F (ov_s v)).1) = _
  rw [h2]
  rfl
theorem zk_ch_o {v : zz_OV} {F : zz_SV → zz_RS × zz_SV} (h : rs_e (F (ov_s v)).1 = none) : po_ch v F = (.inl (zz_oc (F (ov_s v)).1), ow_h (ow_s v (F (ov_s v)).2) (zz_kp (ov_h v) (ov_s v))) := by
  unfold po_ch po_settle
  rw [h]
theorem rs_d_same {v : zz_OV} {r : zz_RS} : ov_p (rs_d v r) = ov_p v ∧ ov_f (rs_d v r) = ov_f v ∧ ov_h (rs_d v r) = ov_h v ∧ ov_s (rs_d v r) = ov_s v ∧ ov_b (rs_d v r) = ov_b v ∧ ov_m (rs_d v r) = ov_m v := by
  cases r <;> exact ⟨rfl, rfl, rfl, rfl, rfl, rfl⟩
theorem zk_ch {m : Nat} {v : zz_OV} {F : zz_SV → zz_RS × zz_SV} (h : zk_ok m (ov_s v) (F (ov_s v))) (f : String → Int32) (hf : ∀ E, f E < 0) : zk_C m v (po_ch v F).2 (zw f (po_ch v F)) ∧ ov_b (po_ch v F).2 = ov_b v ∧ (∀ E, (po_ch v F).1 = .inr E → rs_e (F (ov_s v)).1 = some E) := by
  rcases h.2.1 with ⟨h1, h2⟩ | ⟨h1, h2⟩
  · obtain ⟨E, hE⟩ := Option.ne_none_iff_exists'.mp h1
    rw [zk_ch_e hE h2]
    obtain ⟨e1, e2, e3, e4, e5, -⟩ := rs_d_same (v := v) (r := (F (ov_s v)).1)
    exact ⟨⟨e1, e2, Or.inr ⟨hf E, e3, e4⟩⟩, e5, fun E' h' => by cases h'; exact hE⟩
  · rw [zk_ch_o h1]
    exact ⟨⟨rfl, rfl, Or.inl ⟨h2, rfl, h.2.2⟩⟩, rfl, fun E' h' => by cases h'⟩
theorem zk_car {m : Nat} {v : zz_OV} {r o : Int32} (h : zk_ok m (ov_s v) (zv_carve (ov_s v) r o (ov_m v))) (f : String → Int32) (hf : ∀ E, f E < 0) : zk_C m v (po_carve v r o).2 (zw f (po_carve v r o)) ∧ ov_b (po_carve v r o).2 = ov_b v ∧ (∀ E, (po_carve v r o).1 = .inr E → rs_e (zv_carve (ov_s v) r o (ov_m v)).1 = some E) := by
  unfold po_carve
  rcases h.2.1 with ⟨h1, h2⟩ | ⟨h1, h2⟩
  · obtain ⟨E, hE⟩ := Option.ne_none_iff_exists'.mp h1
    rw [zk_ch_e (F := fun s => zv_carve s r o (ov_m v)) hE h2]
    obtain ⟨e1, e2, e3, e4, e5, -⟩ := rs_d_same (v := v) (r := (zv_carve (ov_s v) r o (ov_m v)).1)
    exact ⟨⟨e1, e2, Or.inr ⟨hf E, e3, e4⟩⟩, e5, fun E' h' => by cases h'; exact hE⟩
  · rw [zk_ch_o (F := fun s => zv_carve s r o (ov_m v)) h1]
    exact ⟨⟨rfl, rfl, Or.inl ⟨h2, rfl, h.2.2⟩⟩, rfl, fun E' h' => by cases h'⟩
theorem zk_out {m : Nat} (hm : m ≤ 1000) {s : zz_SV} (h : zk_I m s) (k a b : Int32) : zk_ok m s (zv_out s k a b) := by
  unfold zv_out
  repeat' split
  · exact zk_plant h a
  · exact zk_dry h a
  · exact zk_pass hm h a
  · exact zk_anew h a
  · exact zk_move h a b
  · exact zk_drop hm h a
  · exact .bad h (by simp)
theorem zk_run {m : Nat} (hm : m ≤ 1000) : ∀ (cs : List zz_CM) (s : zz_SV) (i : Nat), zk_I m s → ∀ s', zx_run s i cs = .inr s' → zk_I m s' := by
  intro cs
  induction cs with
  | nil => intro s i h s' e; cases e; exact h
  | cons c t ih =>
    intro s i h s' e
    unfold zx_run at e
    split at e
    · cases e
    · exact ih _ _ (zk_out hm h _ _ _).2.2 s' e
theorem zk_exec {m : Nat} (hm : m ≤ 1000) {v : zz_OV} (h : zk_I m (ov_s v)) : zk_C m v (po_exec v).2 (zw (zf2 eA) (po_exec v)) ∧ ov_b (po_exec v).2 = [] ∧ (∀ E, (po_exec v).1 = .inr E → E = eA ∨ E = eU) := by
  have hlen : ∀ (n p : Nat) (xs : List Int32) (cs : List zz_CM), ((zc_parse xs n p cs).2).length ≤ cs.length + n := by
    intro n
    induction n with
    | zero => intro p xs cs; exact Nat.le_refl _
    | succ n ih =>
      intro p xs cs
      unfold zc_parse
      split
      · show cs.length ≤ _; omega
      · split
        · show (cs ++ [_]).length ≤ _; rw [List.length_append]; show cs.length + 1 ≤ _; omega
        · split
          · refine Nat.le_trans (ih _ _ _) ?_
            rw [List.length_append]; show cs.length + 1 + n ≤ _; omega
          · show (cs ++ [_]).length ≤ _; rw [List.length_append]; show cs.length + 1 ≤ _; omega
  have hl := hlen 10 0 (ov_b v) []
  unfold po_exec
  split
  · cases e : zx_run (ov_s v) 0 (zc_parse (ov_b v) 10 0 []).2 with
    | inl q => exact ⟨⟨rfl, rfl, Or.inr ⟨by show zf2 eA eU < 0; unfold zf2; rw [if_neg eAU]; decide, rfl, rfl⟩⟩, rfl, fun E hE => by cases hE; exact Or.inr rfl⟩
    | inr s' => exact ⟨⟨rfl, rfl, Or.inl ⟨zz_n0 _ (by simp at hl; omega), rfl, zk_run hm _ _ _ h s' e⟩⟩, rfl, fun E hE => by cases hE⟩
  · exact ⟨⟨rfl, rfl, Or.inr ⟨by show zf2 eA eA < 0; unfold zf2; rw [if_pos rfl]; decide, rfl, rfl⟩⟩, rfl, fun E hE => by cases hE; exact Or.inl rfl⟩
theorem zf1_n (E : String) : zf1 E < 0 := by unfold zf1; decide
theorem zf2_n (a E : String) : zf2 a E < 0 := by unfold zf2; split <;> decide
theorem zf3_n (a b E : String) : zf3 a b E < 0 := by unfold zf3; (repeat' split) <;> decide
theorem zf4_n (a b c E : String) : zf4 a b c E < 0 := by unfold zf4; (repeat' split) <;> decide
/-! undo -/
theorem zk_undo {v : zz_OV} {hs : List zz_SV} {s : zz_SV} (h : ov_h v = hs ++ [s]) : po_undo v = (.inl (nI hs.length), ow_h (ow_s v s) hs) := by
  unfold po_undo
  rw [h]
  simp
theorem zk_undo0 {v : zz_OV} (h : ov_h v = []) : po_undo v = (.inr eS, v) := by
  unfold po_undo
  rw [h]
  rfl
