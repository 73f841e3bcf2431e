/-! THE MODEL: an invariant of the store -/
def zk_T (k ρ : Nat) (x : zz_TG) : Prop := (∃ j, j < k ∧ tg_n x = nI j) ∧ (∃ r, r < ρ ∧ tg_o x = nI r) ∧ zz_ax (tg_c x) ∧ (tg_c x).length ≤ 96 ∧ (tg_r x).length = 8 ∧ tg_p x ≤ 8 ∧ ∀ r ∈ tg_s x, ∃ j, j ≤ 20 ∧ r = nI j
def zk_I (m : Nat) (s : zz_SV) : Prop := (∀ d ∈ sv_r s, ∃ j, j ≤ 5 ∧ d = nI j) ∧ (sv_r s).length ≤ 4 ∧ ∃ k, k ≤ m ∧ sv_n s = nI k ∧ (sv_t s).length ≤ k ∧ ∀ x ∈ sv_t s, zk_T k (sv_r s).length x
/-- what a change answers -/
def zk_ok (m : Nat) (s : zz_SV) (r : zz_RS × zz_SV) : Prop := rs_ok r.1 ∧ ((rs_e r.1 ≠ none ∧ r.2 = s) ∨ (rs_e r.1 = none ∧ 0 ≤ zz_oc r.1)) ∧ zk_I m r.2
theorem zk_T.mono {k k' ρ ρ' : Nat} {x : zz_TG} (h : zk_T k ρ x) (h1 : k ≤ k') (h2 : ρ ≤ ρ') : zk_T k' ρ' x := by
  obtain ⟨⟨j, a1, a2⟩, ⟨r, b1, b2⟩, h⟩ := h
  exact ⟨⟨j, by omega, a2⟩, ⟨r, by omega, b2⟩, h⟩
theorem zk_I.mono {m m' : Nat} {s : zz_SV} (h : zk_I m s) (h1 : m ≤ m') : zk_I m' s := by
  obtain ⟨a, b, k, c, d⟩ := h
  exact ⟨a, b, k, by omega, d⟩
theorem rs_e_inl {q : Int32 × Int32} : rs_e (.inl q) = some eU := rfl
theorem rs_e_pos {o : Int32} (h : 0 ≤ o) : rs_e (.inr o) = none := by
  rw [zi_le, zi_0] at h
  have e : ∀ c : Int32, c.toInt < 0 → o ≠ c := fun c hc q => by rw [q] at h; omega
  show (if o = -11 then some eN else if o = -12 then some eI else if o = -13 then some eA else none) = none
  rw [if_neg (e _ (by decide)), if_neg (e _ (by decide)), if_neg (e _ (by decide))]
theorem zk_ok.den {m k : Nat} {s : zz_SV} {d : Int32} (h : zk_I m s) (h1 : 1 ≤ k) (h8 : k ≤ 8) : zk_ok m s (.inl (nI k, d), s) := ⟨⟨k, h1, h8, rfl⟩, Or.inl ⟨by rw [rs_e_inl]; simp, rfl⟩, h⟩
theorem zk_ok.bad {m : Nat} {s : zz_SV} {o : Int32} (h : zk_I m s) (ho : o = -11 ∨ o = -12 ∨ o = -13) : zk_ok m s (.inr o, s) := ⟨by rcases ho with h | h | h <;> simp [rs_ok, h], Or.inl ⟨by rcases ho with h | h | h <;> (subst h; simp [rs_e]), rfl⟩, h⟩
theorem zk_ok.good {m : Nat} {s s' : zz_SV} {o : Int32} (h : zk_I m s') (ho : 0 ≤ o) : zk_ok m s (.inr o, s') := ⟨Or.inr (Or.inr (Or.inr ho)), Or.inr ⟨rs_e_pos ho, ho⟩, h⟩
theorem zz_n0 (k : Nat) (h : k < 2 ^ 31) : (0 : Int32) ≤ nI k := nI_pos' h
theorem zk_dmp {m : Nat} {s : zz_SV} (h : zk_I m s) (r : Int32) : ∃ j, j ≤ 5 ∧ zz_dmp s r = nI j := by
  unfold zz_dmp
  by_cases q : 0 ≤ r.toInt ∧ r.toInt < (sv_r s).length
  · rw [if_pos q]
    refine h.1 _ ?_
    rw [List.getD_eq_getElem?_getD, List.getElem?_eq_getElem (by omega)]
    exact List.getElem_mem _
  · rw [if_neg q]
    exact ⟨0, by omega, rfl⟩
theorem zk_plant {m : Nat} {s : zz_SV} (h : zk_I m s) (d : Int32) : zk_ok m s (zv_plant s d) := by
  unfold zv_plant
  by_cases q : d < 0 ∨ nI 5 < d
  · rw [if_pos q]; exact .bad h (by simp)
  · rw [if_neg q]
    by_cases q4 : (sv_r s).length = 4
    · rw [if_pos q4]; exact .den h (by omega) (by omega)
    · rw [if_neg q4]
      obtain ⟨h1, h2, k, h3, h4, h5, h6⟩ := h
      refine .good ⟨fun d' hd' => ?_, ?_, k, h3, h4, h5, fun x hx => ?_⟩ (zz_n0 _ (by omega))
      · rcases List.mem_append.mp hd' with z | z
        · exact h1 d' z
        · rw [List.mem_singleton] at z
          subst z
          rw [zi_lt, zi_lt, zi_0, zi_n (by omega)] at q
          exact ⟨d'.toInt.toNat, by omega, zi_of (by omega)⟩
      · show (sv_r s ++ [d]).length ≤ 4
        rw [List.length_append]; show _ + 1 ≤ 4; omega
      · refine (h6 x hx).mono (Nat.le_refl _) ?_
        show _ ≤ (sv_r s ++ [d]).length
        rw [List.length_append]; omega
theorem zk_dry {m : Nat} {s : zz_SV} (h : zk_I m s) (r : Int32) : zk_ok m s (zv_dry s r) := by
  unfold zv_dry
  by_cases q : ¬ zz_hr s r
  · rw [if_pos q]; exact .bad h (by simp)
  · rw [if_neg q]
    by_cases q4 : zz_dmp s r = 0
    · rw [if_pos q4]; exact .den h (by omega) (by omega)
    · rw [if_neg q4]
      obtain ⟨j, hj, e⟩ := zk_dmp h r
      have h0 : j ≠ 0 := fun z => q4 (by rw [e, z]; rfl)
      rw [e, pk_sub (by omega)]
      obtain ⟨h1, h2, k, h3, h4, h5, h6⟩ := h
      refine .good ⟨fun d' hd' => ?_, ?_, k, h3, h4, h5, fun x hx => ?_⟩ (zz_n0 _ (by omega))
      · rcases List.mem_or_eq_of_mem_set hd' with z | z
        · exact h1 d' z
        · exact ⟨j - 1, by omega, z⟩
      · show ((sv_r s).set _ _).length ≤ 4
        rw [List.length_set]; exact h2
      · refine (h6 x hx).mono (Nat.le_refl _) ?_
        show _ ≤ ((sv_r s).set _ _).length
        rw [List.length_set]; exact Nat.le_refl _
theorem zk_more {j a : Nat} (hj : j ≤ 20) (ha : a ≤ 100) : ∃ i, i ≤ 20 ∧ j ≤ i ∧ zz_more (nI a) (nI j) = nI i := by
  unfold zz_more
  rw [nI_add]
  by_cases q : 20 < j + a
  · rw [if_pos (nI_lt q (by omega))]; exact ⟨20, by omega, hj, rfl⟩
  · rw [if_neg (nI_nlt (by omega) (by omega))]; exact ⟨j + a, by omega, by omega, rfl⟩
theorem zk_cnt_more {a : Nat} (ha : a ≤ 100) : ∀ rs : List Int32, (∀ r ∈ rs, ∃ j, j ≤ 20 ∧ r = nI j) → zz_cnt rs ≤ zz_cnt (rs.map (zz_more (nI a))) := by
  intro rs
  induction rs with
  | nil => intro _; exact Nat.le_refl _
  | cons r t ih =>
    intro h
    obtain ⟨j, hj, rfl⟩ := h r List.mem_cons_self
    obtain ⟨i, hi, hji, e⟩ := zk_more hj ha
    have h2 := ih (fun r hr => h r (List.mem_cons_of_mem _ hr))
    rw [List.map_cons]
    unfold zz_cnt
    rw [e]
    by_cases q : nI 20 ≤ nI j
    · have q2 : nI 20 ≤ nI i := by
        rw [nI_leI (by omega) (by omega)] at q ⊢
        omega
      rw [if_pos q, if_pos q2]; omega
    · rw [if_neg q]; omega
theorem zk_cnt_le : ∀ rs : List Int32, zz_cnt rs ≤ rs.length := by
  intro rs
  induction rs with
  | nil => exact Nat.le_refl _
  | cons r t ih =>
    unfold zz_cnt
    rw [List.length_cons]
    split <;> omega
theorem zk_rotl_s {a : Int32} {x : zz_TG} (h8 : (tg_r x).length = 8) (hp : tg_p x ≤ 8) : tg_s (zz_rotl a x) = (tg_s x).map (zz_more a) := by
  show (((tg_s x).map (zz_more a) ++ (tg_r x).drop (tg_p x)).take (tg_p x)) = _
  rw [List.take_append_of_le_length (by rw [List.length_map]; unfold tg_s; rw [List.length_take]; omega), List.take_of_length_le (by rw [List.length_map]; unfold tg_s; rw [List.length_take]; omega)]
theorem zk_s_len {x : zz_TG} (h8 : (tg_r x).length = 8) (hp : tg_p x ≤ 8) : (tg_s x).length = tg_p x := by
  unfold tg_s
  rw [List.length_take]
  omega
theorem zk_rby {k ρ : Nat} {x : zz_TG} (h : zk_T k ρ x) {a : Nat} (ha : a ≤ 100) : zk_T k ρ (zz_rotl (nI a) x) := by
  obtain ⟨h1, h2, h3, h4, h5, h6, h7⟩ := h
  refine ⟨h1, h2, h3, h4, ?_, h6, fun r hr => ?_⟩
  · show ((tg_s x).map (zz_more (nI a)) ++ (tg_r x).drop (tg_p x)).length = 8
    rw [List.length_append, List.length_map, zk_s_len h5 h6, List.length_drop]; omega
  · rw [zk_rotl_s h5 h6] at hr
    obtain ⟨r0, hr0, rfl⟩ := List.mem_map.mp hr
    obtain ⟨j, hj, rfl⟩ := h7 r0 hr0
    obtain ⟨i, hi, -, e⟩ := zk_more hj ha
    exact ⟨i, hi, e⟩
/-- a sum of numbers -/
theorem zk_fs_n {f : zz_TG → Int32} {ff : zz_TG → Nat} : ∀ (ts : List zz_TG) (a : Nat), (∀ x ∈ ts, f x = nI (ff x)) → zz_fs f (nI a) ts = nI (a + (ts.map ff).sum) := by
  intro ts
  induction ts with
  | nil => intro a _; rfl
  | cons x t ih =>
    intro a h
    unfold zz_fs
    rw [h x List.mem_cons_self, nI_add, ih _ (fun y hy => h y (List.mem_cons_of_mem _ hy)), List.map_cons, List.sum_cons, Nat.add_assoc]
theorem zk_sum_le {ff : zz_TG → Nat} {b : Nat} : ∀ ts : List zz_TG, (∀ x ∈ ts, ff x ≤ b) → (ts.map ff).sum ≤ b * ts.length := by
  intro ts
  induction ts with
  | nil => intro _; exact Nat.zero_le _
  | cons x t ih =>
    intro h
    have h1 := h x List.mem_cons_self
    have h2 := ih (fun y hy => h y (List.mem_cons_of_mem _ hy))
    rw [List.map_cons, List.sum_cons, List.length_cons, Nat.mul_add]
    omega
theorem zk_amt {m : Nat} {s : zz_SV} (h : zk_I m s) {d : Int32} (q : ¬ (d < nI 1 ∨ nI 20 < d)) (x : zz_TG) : ∃ a, a ≤ 100 ∧ d * zz_dmp s (tg_o x) = nI a := by
  rw [zi_lt, zi_lt, zi_n (by omega), zi_n (by omega)] at q
  have ed : d = nI d.toInt.toNat := zi_of (by omega)
  obtain ⟨j, hj, e⟩ := zk_dmp h (tg_o x)
  rw [e, ed, pk_mul]
  exact ⟨_, Nat.mul_le_mul (show d.toInt.toNat ≤ 20 by omega) hj, rfl⟩
theorem zk_pass_n {m : Nat} (hm : m ≤ 1000) {s : zz_SV} (h : zk_I m s) {d : Int32} (q : ¬ (d < nI 1 ∨ nI 20 < d)) : 0 ≤ zz_fs (zz_rbs s d) (nI 0) (sv_t s) := by
  have hamt := zk_amt h q
  obtain ⟨h1, h2, k, h3, h4, h5, h6⟩ := h
  have key := zk_fs_n (f := zz_rbs s d) (ff := fun x => zz_cnt (tg_s (zz_rby s d x)) - zz_cnt (tg_s x)) (sv_t s) 0 (fun x hx => by
    obtain ⟨a, ha, e⟩ := hamt x
    obtain ⟨-, -, -, -, t5, t6, t7⟩ := h6 x hx
    unfold zz_rbs
    rw [pk_sub]
    unfold zz_rby
    rw [e, zk_rotl_s t5 t6]
    exact zk_cnt_more ha _ t7)
  rw [key]
  have hb : ∀ x ∈ sv_t s, zz_cnt (tg_s (zz_rby s d x)) - zz_cnt (tg_s x) ≤ 8 := fun x hx => by
    obtain ⟨-, -, -, -, t5, t6, t7⟩ := h6 x hx
    have := zk_cnt_le (tg_s (zz_rby s d x))
    unfold zz_rby at this ⊢
    rw [zk_rotl_s t5 t6, List.length_map, zk_s_len t5 t6] at this
    rw [zk_rotl_s t5 t6]
    omega
  have := zk_sum_le (sv_t s) hb
  exact zz_n0 _ (by omega)
theorem zk_pass {m : Nat} (hm : m ≤ 1000) {s : zz_SV} (h : zk_I m s) (d : Int32) : zk_ok m s (zv_pass s d) := by
  unfold zv_pass
  by_cases q : d < nI 1 ∨ nI 20 < d
  · rw [if_pos q]; exact .bad h (by simp)
  · rw [if_neg q]
    have hamt := zk_amt h q
    have hn := zk_pass_n hm h q
    obtain ⟨h1, h2, k, h3, h4, h5, h6⟩ := h
    refine .good ⟨h1, h2, k, h3, h4, by rw [List.length_map]; exact h5, fun y hy => ?_⟩ hn
    obtain ⟨x, hx, rfl⟩ := List.mem_map.mp hy
    obtain ⟨a, ha, e⟩ := hamt x
    unfold zz_rby
    rw [e]
    exact zk_rby (h6 x hx) ha
theorem zk_drop {m : Nat} (hm : m ≤ 1000) {s : zz_SV} (h : zk_I m s) (n : Int32) : zk_ok m s (zv_drop s n) := by
  unfold zv_drop
  cases hp : zz_pos n 0 (sv_t s) with
  | none => exact .bad h (by simp)
  | some p =>
    obtain ⟨h1, h2, k, h3, h4, h5, h6⟩ := h
    have hl : ((sv_t s).eraseIdx p).length ≤ (sv_t s).length := (List.eraseIdx_sublist _ _).length_le
    exact .good ⟨h1, h2, k, h3, h4, by show ((sv_t s).eraseIdx p).length ≤ k; omega, fun x hx => h6 x ((List.eraseIdx_sublist _ _).subset hx)⟩ (zz_n0 _ (by omega))
/-- a telegram that is found -/
theorem zk_at {n : Int32} {ts : List zz_TG} {p : Nat} (hp : zz_pos n 0 ts = some p) : p < ts.length ∧ ts[p]? = some (zz_tat ts p) ∧ zz_tat ts p ∈ ts ∧ tg_n (zz_tat ts p) = n := by
  obtain ⟨h1, x, h2, h3⟩ := zz_pos_at hp
  have e : zz_tat ts p = x := by unfold zz_tat; rw [List.getD_eq_getElem?_getD, h2]; rfl
  rw [e]
  exact ⟨h1, h2, List.mem_of_getElem? h2, h3⟩
theorem zk_set {m k : Nat} {s : zz_SV} {p : Nat} {x : zz_TG} (h1 : ∀ d ∈ sv_r s, ∃ j, j ≤ 5 ∧ d = nI j) (h2 : (sv_r s).length ≤ 4) (h3 : k ≤ m) (h4 : sv_n s = nI k) (h5 : (sv_t s).length ≤ k) (h6 : ∀ x ∈ sv_t s, zk_T k (sv_r s).length x) (hx : zk_T k (sv_r s).length x) : zk_I m (zv_set s p x) :=
  ⟨h1, h2, k, h3, h4, by show ((sv_t s).set p x).length ≤ k; rw [List.length_set]; exact h5, fun y hy => (List.mem_or_eq_of_mem_set hy).elim (h6 y) (fun e => by rw [e]; exact hx)⟩
theorem zk_tel {m : Nat} {s : zz_SV} (h : zk_I m s) {n : Int32} {F : Nat → zz_TG → zz_RS × zz_SV} (hF : ∀ p x, x ∈ sv_t s → zz_pos n 0 (sv_t s) = some p → zz_tat (sv_t s) p = x → zk_ok m s (F p x)) : zk_ok m s (zv_tel s n F) := by
  unfold zv_tel
  cases hp : zz_pos n 0 (sv_t s) with
  | none => exact .bad h (by simp)
  | some p => exact hF p _ (zk_at hp).2.2.1 hp rfl
theorem zk_move {m : Nat} {s : zz_SV} (h : zk_I m s) (n r : Int32) : zk_ok m s (zv_move s n r) := by
  refine zk_tel h fun p x hx _ _ => ?_
  unfold zv_move1
  by_cases q1 : ¬ zz_hr s r
  · rw [if_pos q1]; exact .bad h (by simp)
  · rw [if_neg q1]
    by_cases q2 : tg_o x = r
    · rw [if_pos q2]; exact .den h (by omega) (by omega)
    · rw [if_neg q2]
      by_cases q3 : ¬ zz_cpi s r + nI (tg_p x) ≤ nI 8
      · rw [if_pos q3]; exact .den h (by omega) (by omega)
      · rw [if_neg q3]
        obtain ⟨h1, h2, k, h3, h4, h5, h6⟩ := h
        obtain ⟨t1, ⟨ro, t2, t2'⟩, t3, t4, t5, t6, t7⟩ := h6 x hx
        have q1 := Decidable.not_not.mp q1
        refine .good (zk_set h1 h2 h3 h4 h5 h6 ⟨t1, ⟨r.toInt.toNat, ?_, zi_of q1.1⟩, t3, t4, t5, t6, t7⟩) (by rw [t2']; exact zz_n0 _ (by omega))
        have := q1.2
        omega
theorem zk_dmg {m : Nat} {s : zz_SV} (h : zk_I m s) (n i c : Int32) : zk_ok m s (zv_dmg s n i c) := by
  refine zk_tel h fun p x hx _ _ => ?_
  unfold zv_dmg1
  by_cases q1 : ¬ (0 ≤ i.toInt ∧ i.toInt < (tg_c x).length)
  · rw [if_pos q1]; exact .bad h (by simp)
  · rw [if_neg q1]
    by_cases q2 : ¬ zz_typ c
    · rw [if_pos q2]; exact .bad h (by simp)
    · rw [if_neg q2]
      by_cases q3 : zz_at0 (tg_c x) i = c
      · rw [if_pos q3]; exact .den h (by omega) (by omega)
      · rw [if_neg q3]
        obtain ⟨h1, h2, k, h3, h4, h5, h6⟩ := h
        obtain ⟨t1, t2, t3, t4, t5, t6, t7⟩ := h6 x hx
        have q1 := Decidable.not_not.mp q1
        have q2 := Decidable.not_not.mp q2
        have e : zz_at0 (tg_c x) i = (tg_c x).getD i.toInt.toNat 0 := if_pos q1
        refine .good (zk_set h1 h2 h3 h4 h5 h6 ⟨t1, t2, fun y hy => ?_, by show ((tg_c x).set _ _).length ≤ 96; rw [List.length_set]; exact t4, t5, t6, t7⟩) ?_
        · rcases List.mem_or_eq_of_mem_set hy with z | z
          · exact t3 y z
          · rw [z]; exact q2
        · rw [e]
          obtain ⟨-, kc, hkc, -, e2⟩ := (t3.at (show i.toInt.toNat < (tg_c x).length by omega)).ch
          rw [e2]
          exact zz_n0 _ (by omega)
theorem zk_dmg_ch {m : Nat} {s : zz_SV} (h : zk_I m s) (n i c : Int32) : ∀ o, (zv_dmg s n i c).1 = .inr o → 0 ≤ o → zz_ch o := by
  intro o ho h0
  unfold zv_dmg zv_tel at ho
  cases hp : zz_pos n 0 (sv_t s) with
  | none => rw [hp] at ho; cases ho; exact absurd h0 (by decide)
  | some p =>
    rw [hp] at ho
    dsimp only at ho
    have hx := (zk_at hp).2.2.1
    generalize zz_tat (sv_t s) p = x at ho hx
    unfold zv_dmg1 at ho
    obtain ⟨h1, h2, k, h3, h4, h5, h6⟩ := h
    obtain ⟨t1, t2, t3, -⟩ := h6 x hx
    split at ho
    · cases ho; exact absurd h0 (by decide)
    · rename_i q1
      split at ho
      · cases ho; exact absurd h0 (by decide)
      · split at ho
        · cases ho
        · cases ho
          have q1 := Decidable.not_not.mp q1
          have e : zz_at0 (tg_c x) i = (tg_c x).getD i.toInt.toNat 0 := if_pos q1
          rw [e]
          exact (t3.at (show i.toInt.toNat < (tg_c x).length by omega)).ch.1
/-! folded and unfolded texts keep to the typeable characters -/
theorem zk_add_ax {n : Nat} {xs : List Int32} {c : Int32} (h : zz_ax xs) (hc : zz_typ c) : zz_ax (zz_add n xs c) := by
  unfold zz_add
  split
  · exact fun x hx => (List.mem_append.mp hx).elim (h x) (fun e => by rw [List.mem_singleton] at e; rw [e]; exact hc)
  · exact h
theorem zk_rep_ax {n : Nat} {c : Int32} (hc : zz_typ c) : ∀ (k : Nat) (out : List Int32), zz_ax out → zz_ax (zz_rep n c k out) := by
  intro k
  induction k with
  | zero => intro out h; exact h
  | succ k ih =>
    intro out h
    unfold zz_rep
    refine ih _ (zk_add_ax ?_ hc)
    split
    · exact zk_add_ax h (zz_typ_n (by omega) (by omega))
    · exact h
theorem zk_wr_ax {n : Nat} {c : Int32} (hc : zz_typ c) {r : Nat} (hr : r ≤ 9) {out : List Int32} (h : zz_ax out) : zz_ax (zz_wr n c r out) := by
  unfold zz_wr
  split
  · exact zk_rep_ax hc _ _ (zk_add_ax h (zz_typ_n (by omega) (by omega)))
  · exact zk_rep_ax hc _ _ h
theorem zk_fold_ax {n : Nat} : ∀ (xs : List Int32) (r : Nat) (out : List Int32), r ≤ 8 → zz_ax xs → zz_ax out → zz_ax (zz_fold n r xs out) := by
  intro xs
  induction xs with
  | nil => intro r out _ _ h; exact h
  | cons c t ih =>
    intro r out hr hx h
    unfold zz_fold
    have hc := hx c List.mem_cons_self
    have ht : zz_ax t := fun x hx' => hx x (List.mem_cons_of_mem _ hx')
    split
    · exact ih 0 _ (by omega) ht (zk_wr_ax hc (by omega) h)
    · rename_i q
      exact ih (r + 1) _ (by omega) ht h
theorem zk_repc_ax {n : Nat} {c : Int32} (hc : zz_typ c) : ∀ (k : Nat) (out : List Int32), zz_ax out → zz_ax (zz_repc n c k out) := by
  intro k
  induction k with
  | zero => intro out h; exact h
  | succ k ih => intro out h; exact ih _ (zk_add_ax h hc)
theorem zk_unf_ax {n : Nat} : ∀ (xs : List Int32) (k : Nat) (e : Bool) (out : List Int32), zz_ax xs → zz_ax out → zz_ax (zz_unf n k e xs out) := by
  intro xs
  induction xs with
  | nil => intro k e out _ h; cases e <;> exact h
  | cons c t ih =>
    intro k e out hx h
    have hc := hx c List.mem_cons_self
    have ht : zz_ax t := fun x hx' => hx x (List.mem_cons_of_mem _ hx')
    cases e with
    | true => exact ih _ _ _ ht (zk_repc_ax hc _ _ h)
    | false =>
      unfold zz_unf
      split
      · exact ih _ _ _ ht h
      · split
        · exact ih _ _ _ ht h
        · exact ih _ _ _ ht (zk_repc_ax hc _ _ h)
theorem zk_take_ax {xs : List Int32} {n : Nat} (h : zz_ax xs) : zz_ax (xs.take n) := fun x hx => h x (List.mem_of_mem_take hx)
theorem zk_pgs {xs : List Int32} : zz_pgs (xs.take 96).length ≤ 8 := by
  unfold zz_pgs
  rw [List.length_take]
  omega
theorem zk_rep8 {p : Nat} : ∀ r ∈ (List.replicate 8 (0 : Int32)).take p, ∃ j, j ≤ 20 ∧ r = nI j := fun r hr => ⟨0, by omega, (List.eq_of_mem_replicate (List.mem_of_mem_take hr))⟩
theorem zk_add_len {n : Nat} {xs : List Int32} {c : Int32} (h : xs.length ≤ n) : (zz_add n xs c).length ≤ n := by
  unfold zz_add
  split
  · rw [List.length_append]; show xs.length + 1 ≤ n; omega
  · exact h
theorem zk_rep_len {n : Nat} {c : Int32} : ∀ (k : Nat) (out : List Int32), out.length ≤ n → (zz_rep n c k out).length ≤ n := by
  intro k
  induction k with
  | zero => intro out h; exact h
  | succ k ih =>
    intro out h
    unfold zz_rep
    refine ih _ (zk_add_len ?_)
    split
    · exact zk_add_len h
    · exact h
theorem zk_wr_len {n : Nat} {c : Int32} {r : Nat} {out : List Int32} (h : out.length ≤ n) : (zz_wr n c r out).length ≤ n := by
  unfold zz_wr
  split
  · exact zk_rep_len _ _ (zk_add_len h)
  · exact zk_rep_len _ _ h
theorem zk_fold_len {n : Nat} : ∀ (xs : List Int32) (r : Nat) (out : List Int32), out.length ≤ n → (zz_fold n r xs out).length ≤ n := by
  intro xs
  induction xs with
  | nil => intro r out h; exact h
  | cons c t ih =>
    intro r out h
    unfold zz_fold
    split
    · exact ih 0 _ (zk_wr_len h)
    · exact ih _ _ h
theorem zk_uir {x : zz_TG} : (∃ k d, (k = 3 ∨ k = 5 ∨ k = 6) ∧ zz_uir x = .inl (nI k, d)) ∨ zz_uir x = .inr (nI 0) := by
  unfold zz_uir
  split
  · exact Or.inl ⟨3, _, by omega, rfl⟩
  · split
    · exact Or.inl ⟨5, _, by omega, rfl⟩
    · split
      · exact Or.inr rfl
      · exact Or.inl ⟨6, _, by omega, rfl⟩
theorem zk_anew {m : Nat} {s : zz_SV} (h : zk_I m s) (n : Int32) : zk_ok m s (zv_anew s n) := by
  refine zk_tel h fun p x hx _ _ => ?_
  unfold zv_anew1
  by_cases q1 : zz_oc (zz_uir x) < 0
  · rw [if_pos q1]
    rcases zk_uir (x := x) with ⟨k, d, hk, e⟩ | e
    · rw [e]; exact .den h (by omega) (by omega)
    · rw [e] at q1; exact absurd q1 (by decide)
  · rw [if_neg q1]
    by_cases q3 : ¬ zz_cpi s (tg_o x) + (nI (zz_pgs (zz_fold 864 0 (zz_dec x) []).length) - nI (tg_p x)) ≤ nI 8
    · rw [if_pos q3]; exact .den h (by omega) (by omega)
    · rw [if_neg q3]
      obtain ⟨h1, h2, k, h3, h4, h5, h6⟩ := h
      obtain ⟨t1, t2, t3, t4, t5, t6, t7⟩ := h6 x hx
      have hl : (zz_fold 864 0 (zz_dec x) []).length ≤ 864 := zk_fold_len _ 0 _ (by simp)
      refine .good (zk_set h1 h2 h3 h4 h5 h6 ⟨t1, t2, zk_take_ax (zk_fold_ax _ 0 _ (by omega) (zk_unf_ax _ _ _ _ t3 (fun x hx => absurd hx List.not_mem_nil)) (fun x hx => absurd hx List.not_mem_nil)), ?_, rfl, zk_pgs, zk_rep8⟩) (zz_n0 _ (by unfold zz_pgs; omega))
      show ((zz_fold 864 0 (zz_dec x) []).take 96).length ≤ 96
      rw [List.length_take]; omega
theorem zk_carve {m : Nat} {s : zz_SV} (h : zk_I m s) (hm : m ≤ 1000) (r o : Int32) {ms : List Int32} (hx : zz_ax ms) : zk_ok (m + 1) s (zv_carve s r o ms) := by
  have h' : zk_I (m + 1) s := h.mono (by omega)
  unfold zv_carve
  by_cases q1 : ¬ zz_hr s r
  · rw [if_pos q1]; exact .bad h' (by simp)
  · rw [if_neg q1]
    by_cases q2 : o < 0 ∨ nI 9 < o
    · rw [if_pos q2]; exact .bad h' (by simp)
    · rw [if_neg q2]
      by_cases q3 : ms.length = 0
      · rw [if_pos q3]; exact .den h' (by omega) (by omega)
      · rw [if_neg q3]
        by_cases q4 : ¬ (zz_cpi s r + nI (zz_pgs (zz_fold 864 0 ms []).length) ≤ nI 8 ∧ (sv_t s).length < 32)
        · rw [if_pos q4]; exact .den h' (by omega) (by omega)
        · rw [if_neg q4]
          obtain ⟨h1, h2, k, h3, h4, h5, h6⟩ := h
          have q1 := Decidable.not_not.mp q1
          rw [h4]
          refine .good ⟨h1, h2, k + 1, by omega, ?_, ?_, fun y hy => ?_⟩ (zz_n0 _ (by omega))
          · show nI k + nI 1 = nI (k + 1)
            exact nI_add k 1
          · show (sv_t s ++ [_]).length ≤ k + 1
            rw [List.length_append]; show (sv_t s).length + 1 ≤ k + 1; omega
          · rcases List.mem_append.mp hy with z | z
            · exact (h6 y z).mono (by omega) (Nat.le_refl _)
            · rw [List.mem_singleton] at z
              subst z
              refine ⟨⟨k, by omega, rfl⟩, ⟨r.toInt.toNat, by show r.toInt.toNat < (sv_r s).length; have := q1.2; omega, zi_of q1.1⟩, zk_take_ax (zk_fold_ax _ 0 _ (by omega) hx (fun x hx => absurd hx List.not_mem_nil)), ?_, rfl, zk_pgs, zk_rep8⟩
              show ((zz_fold 864 0 ms []).take 96).length ≤ 96
              rw [List.length_take]; omega
