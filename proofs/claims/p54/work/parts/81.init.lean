/-! THE START: what the tables and the claim's words say of it -/
def zs_str (i : Nat) : String × Nat × String × Nat := zz_str.getD i ("", 0, "", 0)
def zs_tm (i : Nat) : Term := .string (zs_str i).1 (zs_str i).2.1
def zs_vt (i : Nat) : Term := .field (zs_tm i) "java/lang/String" "value" "[B"
/-- what the claim says of the String constant i -/
def zs_at (i : Nat) : List Cond := Cond.exactly (zs_tm i) "java/lang/String" :: Cond.eq (.field (zs_tm i) "java/lang/String" "coder" "B") (.int 0) :: Cond.arrayOf (zs_vt i) .byte :: Cond.eq (.length (zs_vt i)) (.int (Int32.ofNat (zz_ct i).length)) :: (List.range (zz_ct i).length).map fun j => Cond.eq (.elem (zs_vt i) (.int (Int32.ofNat j))) (.int ((zz_ct i).getD j 0))
def zs_fl : List Cond := flatC (Jvm.Cond.and given_1 narrow_1)
def zs_p (i : Nat) : Nat := ([346, 355, 364, 374, 389, 402, 416, 426, 446, 461, 477, 491, 506, 527, 555, 581, 606, 628, 650, 693, 727, 752] : List Nat).getD i 0
def zs_sp (i : Nat) : Nat := ([768, 769, 770, 771, 772, 773, 967, 968, 1170, 1417, 1431, 1440, 1446, 1481, 1483, 1484, 1485, 1524, 1525, 1526, 1527, 1528] : List Nat).getD i 0
theorem zs_in0 : ((List.range 22).all fun i => decide (zs_at i = (zs_fl.drop (zs_p i)).take (4 + (zz_ct i).length))) = true := by decide +kernel
theorem zs_in {i : Nat} (hi : i < 22) : ∀ w ∈ zs_at i, w ∈ zs_fl := by
  have h := of_decide_eq_true (List.all_eq_true.mp zs_in0 i (List.mem_range.mpr hi))
  intro w hw
  rw [h] at hw
  exact List.mem_of_mem_drop (List.mem_of_mem_take hw)
theorem zs_sr0 : ((List.range 22).all fun i => decide (lw_tbl[zs_sp i]? = some (.stringRef (zs_str i).1 (zs_str i).2.1 (zs_str i).2.2.1)) && decide ((zs_str i).2.2.2 = i)) = true := by decide +kernel
theorem zs_ct0 : ((List.range 22).all fun i => decide ((zz_ct i).length < 100) && (List.range (zz_ct i).length).all fun j => (List.range 128).any fun k => decide ((zz_ct i).getD j 0 = nI k)) = true := by decide +kernel
theorem zs_len {i : Nat} (hi : i < 22) : (zz_ct i).length < 100 := by
  have h := List.all_eq_true.mp zs_ct0 i (List.mem_range.mpr hi)
  rw [Bool.and_eq_true] at h
  exact of_decide_eq_true h.1
theorem zs_chr {i j : Nat} (hi : i < 22) (hj : j < (zz_ct i).length) : ∃ k, k < 128 ∧ (zz_ct i).getD j 0 = nI k := by
  have h := List.all_eq_true.mp zs_ct0 i (List.mem_range.mpr hi)
  rw [Bool.and_eq_true] at h
  have h := List.any_eq_true.mp (List.all_eq_true.mp h.2 j (List.mem_range.mpr hj))
  obtain ⟨k, h1, h2⟩ := h
  exact ⟨k, List.mem_range.mp h1, of_decide_eq_true h2⟩
def zs_dt : Term := .static "java/lang/Integer" "DigitOnes" "[B"
theorem zs_dg0 : ((List.range 100).all fun j => decide (zs_fl[14 + j]? = some (Cond.eq (.elem zs_dt (.int (Int32.ofNat j))) (.int (nI (48 + j % 10)))))) = true := by decide +kernel
theorem zs_nc0 : (zz_nc.all fun q => decide (Cond.not (Cond.castable q.1 q.2) ∈ zs_fl)) = true := by decide +kernel
def zs_ip (c : Nat) : Nat × Nat := ([(11, 53), (4, 84), (5, 214), (3, 237), (3, 194), (7, 90), (7, 97), (2, 61), (4, 622), (4, 970)] : List (Nat × Nat)).getD c (0, 0)
theorem zs_ip0 : ((List.range 10).all fun c => decide (lw_tbl[(zs_ip c).2]? = some (Cond.instantiable (zz_cn c) (zs_ip c).1))) = true := by decide +kernel
section Start
variable {s : State} {b : Nat}
def zs_A (s : State) : Nat → Prop := fun q => s.heap.size ≤ q
theorem zs_nA : ∀ a : Nat, a < s.heap.size → ¬ zs_A s a := fun _ h q => absurd h (Nat.not_lt.mpr q)
theorem zs_one (hgv : (Jvm.Cond.and given_1 narrow_1).before #[Value.ref b] s = true) {i : Nat} (hi : i < 22) : ∃ q : Nat × Nat, (zs_tm i).eval #[Value.ref b] s none [] s = some (.ref q.1) ∧ va_O "java/lang/String" q.1 (zs_A s) s s.heap ∧ va_OF "java/lang/String" "coder" "B" (.int 0) q.1 (zs_A s) s s.heap ∧ va_OF "java/lang/String" "value" "[B" (.ref q.2) q.1 (zs_A s) s s.heap ∧ va_T .byte q.2 (zz_ct i).length (fun j => .int ((zz_ct i).getD j 0)) (zs_A s) s s.heap := by
  have hs := flat_of_before _ hgv
  have hw : ∀ w ∈ zs_at i, w.before #[Value.ref b] s = true := fun w h => hs w (zs_in hi w h)
  have hl := zs_len hi
  obtain ⟨a, c, cA, kA, q1, q2, q3, q4, q5, q6, -⟩ := Cond.exactly_spec (args := #[Value.ref b]) (first := s) (o := none) (s := s) (idx := []) (t := zs_tm i) (cls := "java/lang/String") (hw _ List.mem_cons_self)
  obtain ⟨t, ht, hT⟩ := va_Tof (f := fun j => .int ((zz_ct i).getD j 0)) (A := zs_A s) (N := (zz_ct i).length) (by omega) (hw (Cond.arrayOf (zs_vt i) .byte) (by simp [zs_at])) (va_eqt (hw (Cond.eq (.length (zs_vt i)) (.int (Int32.ofNat (zz_ct i).length))) (by simp [zs_at])))
    (fun j hj => va_eqt (hw (Cond.eq (.elem (zs_vt i) (.int (Int32.ofNat j))) (.int ((zz_ct i).getD j 0))) (List.mem_cons_of_mem _ (List.mem_cons_of_mem _ (List.mem_cons_of_mem _ (List.mem_cons_of_mem _ (List.mem_map.mpr ⟨j, List.mem_range.mpr hj, rfl⟩))))))) zs_nA
  exact ⟨(a, t), q1, ⟨cA, q3, q5, by rw [q6]; exact q2, zs_nA a (Array.getElem?_eq_some_iff.mp q3).1⟩, vk_OFof q1 (va_eqt (hw (Cond.eq (.field (zs_tm i) "java/lang/String" "coder" "B") (.int 0)) (by simp [zs_at]))) zs_nA, vk_OFof q1 ht zs_nA, hT⟩
theorem zs_dig (hgv : (Jvm.Cond.and given_1 narrow_1).before #[Value.ref b] s = true) : ∃ t : Nat, zs_dt.eval #[Value.ref b] s none [] s = some (.ref t) ∧ va_T .byte t 100 (fun j => .int (nI (48 + j % 10))) (zs_A s) s s.heap := by
  have hs := flat_of_before _ hgv
  refine va_Tof (by omega) (hs _ (List.mem_of_getElem? (i := 12) (by decide +kernel))) (va_eqt (hs _ (List.mem_of_getElem? (i := 13) (by decide +kernel)))) (fun j hj => va_eqt (hs _ (List.mem_of_getElem? (i := 14 + j) (of_decide_eq_true (List.all_eq_true.mp zs_dg0 j (List.mem_range.mpr hj)))))) zs_nA
theorem zs_gw (hts : ∀ w ∈ lw_tbl, w.before #[Value.ref b] s = true) : ∀ w ∈ zz_gw, w.before #[Value.ref b] s = true := by
  intro w hw
  rcases List.mem_append.mp (List.mem_filter.mp hw).1 with h | h
  · exact hts w h
  · obtain ⟨y, hy, rfl⟩ := List.mem_map.mp h
    have hi : (Cond.instantiable "java/lang/StringBuilder" 4).before #[Value.ref b] s = true := hts _ (List.mem_of_getElem? (i := 970) (by decide +kernel))
    have hl : (Cond.selects "java/lang/StringBuilder" ⟨"java/lang/AbstractStringBuilder", "isLatin1", "()Z"⟩ ⟨"java/lang/AbstractStringBuilder", "isLatin1", "()Z"⟩).before #[Value.ref b] s = true := hts _ (List.mem_of_getElem? (i := 1042) (by decide +kernel))
    simp only [zz_xm, List.mem_cons, List.not_mem_nil, or_false] at hy
    rcases hy with rfl | rfl | rfl | rfl
    · exact zz_selp (by decide) hi (hts _ (List.mem_of_getElem? (i := 1011) (by decide +kernel))) (hts _ (List.mem_of_getElem? (i := 1012) (by decide +kernel))) hl rfl
    · exact zz_selp (by decide) hi (hts _ (List.mem_of_getElem? (i := 1015) (by decide +kernel))) (hts _ (List.mem_of_getElem? (i := 1016) (by decide +kernel))) hl rfl
    · exact zz_selp (by decide) hi (hts _ (List.mem_of_getElem? (i := 1061) (by decide +kernel))) (hts _ (List.mem_of_getElem? (i := 1062) (by decide +kernel))) hl rfl
    · exact zz_selp (by decide) hi (hts _ (List.mem_of_getElem? (i := 1065) (by decide +kernel))) (hts _ (List.mem_of_getElem? (i := 1066) (by decide +kernel))) hl rfl
theorem zs_nw (hts : ∀ w ∈ lw_tbl, w.before #[Value.ref b] s = true) : zz_Nw s := by
  intro w hw
  have hk := (List.mem_filter.mp hw).2
  simp only [Bool.and_eq_true] at hk
  have hk := hk.2
  have h0 := hts w (List.mem_filter.mp hw).1
  cases w <;> first
    | exact va_Nw.of rfl h0
    | (simp [zz_nk] at hk)
theorem zs_cls (hts : ∀ w ∈ lw_tbl, w.before #[Value.ref b] s = true) (c : Nat) : ∃ p : ClassId × (Nat → Nat), ∀ q : vw_C, zz_cl[c]? = some q → u_Kn s q.1 q.2.1 q.2.2 p.1 p.2 := by
  cases hc : zz_cl[c]? with
  | none => exact ⟨(0, fun _ => 0), fun q h => by cases h⟩
  | some r =>
    have hlt : c < 10 := (List.getElem?_eq_some_iff.mp hc).1
    have h1 := of_decide_eq_true (List.all_eq_true.mp zs_ip0 c (List.mem_range.mpr hlt))
    have h2 := hts _ (List.mem_of_getElem? h1)
    rw [zz_cn_of hc] at h2
    obtain ⟨cC, iS, h⟩ := u_known (zs_gw hts) (zz_clI hc) h2
    exact ⟨(cC, iS), fun q h' => by cases h'; exact h⟩
theorem zs_arr0 {ty : FieldType} (h : (Cond.arrayClass ty).before #[Value.ref b] s = true) (hty : ∀ n, ty ≠ .object n) : ∃ cA : ClassId, ArrOfT s cA ty ∧ va_RA s cA ty := by
  obtain ⟨c, k, comp, h1, h2, h3⟩ := Cond.arrayClass_spec (first := s) (o := none) (idx := []) h
  refine ⟨c, fun n z => ⟨fun k h => (by cases h), k, h2, comp, h3⟩, ?_⟩
  cases ty <;> first | exact h1 | exact absurd rfl (hty _)
theorem zs_arr1 {C : String} (h : (Cond.arrayOver (.object C)).before #[Value.ref b] s = true) : ∃ cA : ClassId, ArrOfT s cA (.object C) ∧ va_RA s cA (.object C) := by
  obtain ⟨comp, c, k, h1, -, h2, h3, h4⟩ := Cond.arrayOver_spec (first := s) (o := none) (idx := []) h
  exact ⟨c, fun n z => ⟨fun k h => (by cases h), k, h2, comp, h3⟩, k, comp, h2, h3, h1, h4⟩
theorem zs_arr (hts : ∀ w ∈ lw_tbl, w.before #[Value.ref b] s = true) (t : Nat) : ∃ cA : ClassId, t < 6 → ArrOfT s cA (zz_at t) ∧ va_RA s cA (zz_at t) := by
  have go : ∀ t, (∃ cA : ClassId, ArrOfT s cA (zz_at t) ∧ va_RA s cA (zz_at t)) → ∃ cA : ClassId, t < 6 → ArrOfT s cA (zz_at t) ∧ va_RA s cA (zz_at t) := fun t ⟨c, h⟩ => ⟨c, fun _ => h⟩
  match t with
  | 0 => exact go 0 (zs_arr0 (hts _ (List.mem_of_getElem? (i := 141) (by decide +kernel))) (fun n h => by cases h))
  | 1 => exact go 1 (zs_arr0 (hts _ (List.mem_of_getElem? (i := 82) (by decide +kernel))) (fun n h => by cases h))
  | 2 => exact go 2 (zs_arr0 (hts _ (List.mem_of_getElem? (i := 623) (by decide +kernel))) (fun n h => by cases h))
  | 3 => exact go 3 (zs_arr0 (hts _ (List.mem_of_getElem? (i := 1529) (by decide +kernel))) (fun n h => by cases h))
  | 4 => exact go 4 (zs_arr1 (hts _ (List.mem_of_getElem? (i := 96) (by decide +kernel))))
  | 5 => exact go 5 (zs_arr1 (hts _ (List.mem_of_getElem? (i := 200) (by decide +kernel))))
  | t + 6 => exact ⟨0, fun h => by omega⟩
end Start
