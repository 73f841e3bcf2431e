/-! THE START: the picture of its heap -/
def zs_S (sd : Nat → Nat × Nat) (a : Nat) : Bool := (List.range 22).any fun i => (sd i).1 == a
def zs_B (sd : Nat → Nat × Nat) (dg a : Nat) : Bool := dg == a || (List.range 22).any fun i => (sd i).2 == a
theorem zs_S_of {sd : Nat → Nat × Nat} {i : Nat} (hi : i < 22) : zs_S sd (sd i).1 = true := List.any_eq_true.mpr ⟨i, List.mem_range.mpr hi, by simp⟩
theorem zs_S_to {sd : Nat → Nat × Nat} {a : Nat} (h : zs_S sd a = true) : ∃ i, i < 22 ∧ (sd i).1 = a := by
  obtain ⟨i, h1, h2⟩ := List.any_eq_true.mp h
  exact ⟨i, List.mem_range.mp h1, by simpa using h2⟩
theorem zs_B_of {sd : Nat → Nat × Nat} {dg i : Nat} (hi : i < 22) : zs_B sd dg (sd i).2 = true := by
  unfold zs_B
  rw [Bool.or_eq_true]
  exact Or.inr (List.any_eq_true.mpr ⟨i, List.mem_range.mpr hi, by simp⟩)
theorem zs_B_dg {sd : Nat → Nat × Nat} {dg : Nat} : zs_B sd dg dg = true := by
  unfold zs_B
  simp
theorem zs_B_to {sd : Nat → Nat × Nat} {dg a : Nat} (h : zs_B sd dg a = true) : dg = a ∨ ∃ i, i < 22 ∧ (sd i).2 = a := by
  unfold zs_B at h
  rw [Bool.or_eq_true] at h
  rcases h with h | h
  · exact Or.inl (by simpa using h)
  · obtain ⟨i, h1, h2⟩ := List.any_eq_true.mp h
    exact Or.inr ⟨i, List.mem_range.mp h1, by simpa using h2⟩
def zs_sz (s : State) (a : Nat) : Nat := match s.heap[a]? with
  | some c => c.slots.size.toInt32.toNatClampNeg
  | none => 0
def zs_val (s : State) (a j : Nat) : Value := match s.heap[a]? with
  | some c => (c.slots[j]?).getD .null
  | none => .null
def zs_rf : Value → Option Nat
  | .ref t => some t
  | _ => none
def zs_iv : Value → Int32
  | .int x => x
  | _ => 0
def zs_ad (sd : Nat → Nat × Nat) (dg k : Nat) : Nat := if k < 22 then (sd k).1 else if k = 30 then dg else (sd (k - 100)).2
def zs_g (s : State) (cl : Nat → ClassId × (Nat → Nat)) (ar : Nat → ClassId) (sd : Nat → Nat × Nat) (dg : Nat) : zz_G := (fun c => (cl c).1, fun c => (cl c).2, ar, s, zs_ad sd dg)
def zs_K (s : State) (sd : Nat → Nat × Nat) (dg q n : Nat) : Nat → Nat × Nat := fun a => if zs_S sd a = true then zz_o 8 else if zs_B sd dg a = true then zz_a 2 (zs_sz s a) else if a = q then zz_a 0 n else (0, 0)
def zs_R (s : State) (f8 : Nat → Nat) : Nat → Nat → Option Nat := fun a k => zs_rf (zs_val s a (f8 k))
def zs_I (s : State) (f8 : Nat → Nat) (sd : Nat → Nat × Nat) : Nat → Nat → Int32 := fun a j => zs_iv (zs_val s a (if zs_S sd a = true then f8 j else j))
/-- what the claim says of the constant i, at its addresses -/
def zs_F (s : State) (i : Nat) (q : Nat × Nat) : Prop := va_O "java/lang/String" q.1 (zs_A s) s s.heap ∧ va_OF "java/lang/String" "coder" "B" (.int 0) q.1 (zs_A s) s s.heap ∧ va_OF "java/lang/String" "value" "[B" (.ref q.2) q.1 (zs_A s) s s.heap ∧ va_T .byte q.2 (zz_ct i).length (fun j => .int ((zz_ct i).getD j 0)) (zs_A s) s s.heap
section Pict
variable {s : State} {b n c8 dg : Nat} {f8 : Nat → Nat} {sd : Nat → Nat × Nat} {xs : Nat → Int32}
theorem zs_val_of {a j : Nat} {cell : Cell} {v : Value} (h : s.heap[a]? = some cell) (hv : cell.slots[j]? = some v) : zs_val s a j = v := by
  unfold zs_val
  rw [h]
  show (cell.slots[j]?).getD .null = v
  rw [hv]
  rfl
theorem zs_sz_of {a N : Nat} {cell : Cell} (h : s.heap[a]? = some cell) (hN : N < 2 ^ 31) (hs : cell.slots.size.toInt32 = Int32.ofNat N) : zs_sz s a = N := by
  unfold zs_sz
  rw [h]
  show cell.slots.size.toInt32.toNatClampNeg = N
  rw [hs]
  exact Int32.toNatClampNeg_ofNat_of_lt hN
theorem zs_slot {o nm d : String} {v : Value} {t i : Nat} {A : Nat → Prop} (h : va_OF o nm d v t A s s.heap) (hS : SlotIs s o nm d i) : ∃ cell : Cell, s.heap[t]? = some cell ∧ cell.vm ≠ .unknown ∧ cell.slots[i]? = some v := by
  obtain ⟨cf, k, fi, f, cell, h1, h2, h3, h4, h5, -⟩ := h
  obtain ⟨cf', kf', fi', fd', g1, g2⟩ := hS
  cases h1.symm.trans g1
  rw [g2] at h5
  exact ⟨cell, h3, h4, h5⟩
theorem zs_str1 (hk : u_Kn s zz_c8 zz_T8 2 c8 f8) {i : Nat} {q : Nat × Nat} (h : zs_F s i q) : ∃ cell : Cell, s.heap[q.1]? = some cell ∧ cell.cls = c8 ∧ cell.vm.isStatics = false ∧ cell.vm ≠ .unknown ∧ cell.slots[f8 0]? = some (.ref q.2) ∧ cell.slots[f8 1]? = some (.int 0) := by
  obtain ⟨⟨cell, a1, a2, a3, -⟩, h2, h3, -⟩ := h
  obtain ⟨c1, b1, b2, b3⟩ := zs_slot h3 (hk.1 0 (by omega))
  obtain ⟨c2, d1, d2, d3⟩ := zs_slot h2 (hk.1 1 (by omega))
  cases a1.symm.trans b1
  cases a1.symm.trans d1
  refine ⟨cell, a1, ?_, a2, b2, b3, d3⟩
  have := hk.2.1
  exact Option.some.inj (a3.symm.trans this)
theorem zs_dj1 {C : String} (hk : ClassAt s C c8) {cell : Cell} {ty : FieldType} (e : cell.cls = c8) (h : s.isArrayOf cell ty) : False := by
  obtain ⟨-, kC, h1, h2⟩ := hk
  obtain ⟨-, k, g1, comp, g2⟩ := h
  rw [e] at g1
  cases h1.symm.trans g1
  rw [h2] at g2
  cases g2
theorem zs_dj2 {cell : Cell} (h : s.isArrayOf cell .int) (h' : s.isArrayOf cell .byte) : False := by
  obtain ⟨-, k, g1, comp, g2⟩ := h
  obtain ⟨-, k', g1', comp', g2'⟩ := h'
  cases g1.symm.trans g1'
  rw [g2] at g2'
  cases g2'
theorem zs_fit : ∀ k, k < 128 → fits .byte (.int (nI k)) = true := by decide +kernel
/-- a row of bytes is no String and not the script -/
theorem zs_ba (hk : u_Kn s zz_c8 zz_T8 2 c8 f8) (hF : ∀ i, i < 22 → zs_F s i (sd i)) (hd : va_T .byte dg 100 (fun j => .int (nI (48 + j % 10))) (zs_A s) s s.heap) {a : Nat} (h : zs_B sd dg a = true) : ∃ (N : Nat) (f : Nat → Int32), N ≤ 100 ∧ va_T .byte a N (fun j => .int (f j)) (zs_A s) s s.heap ∧ ∀ j, j < N → ∃ k, k < 128 ∧ f j = nI k := by
  rcases zs_B_to h with rfl | ⟨i, hi, rfl⟩
  · exact ⟨100, fun j => nI (48 + j % 10), Nat.le_refl _, hd, fun j _ => ⟨48 + j % 10, by omega, rfl⟩⟩
  · exact ⟨(zz_ct i).length, fun j => (zz_ct i).getD j 0, Nat.le_of_lt (zs_len hi), (hF i hi).2.2.2, fun j hj => zs_chr hi hj⟩
theorem zs_noS (hk : u_Kn s zz_c8 zz_T8 2 c8 f8) (hF : ∀ i, i < 22 → zs_F s i (sd i)) {a : Nat} {cell : Cell} {ty : FieldType} (hc : s.heap[a]? = some cell) (h : s.isArrayOf cell ty) : zs_S sd a = false := by
  cases hS : zs_S sd a with
  | false => rfl
  | true =>
    obtain ⟨i, hi, rfl⟩ := zs_S_to hS
    obtain ⟨cl, q1, q2, -⟩ := zs_str1 hk (hF i hi)
    cases hc.symm.trans q1
    exact (zs_dj1 hk.2 q2 h).elim
theorem zs_K_S {a q : Nat} (h : zs_S sd a = true) : zs_K s sd dg q n a = zz_o 8 := by unfold zs_K; rw [if_pos h]
theorem zs_K_B {a q : Nat} (h : zs_S sd a = false) (h' : zs_B sd dg a = true) : zs_K s sd dg q n a = zz_a 2 (zs_sz s a) := by unfold zs_K; rw [if_neg (by rw [h]; decide), if_pos h']
theorem zs_K_q {q : Nat} (h : zs_S sd q = false) (h' : zs_B sd dg q = false) : zs_K s sd dg q n q = zz_a 0 n := by unfold zs_K; rw [if_neg (by rw [h]; decide), if_neg (by rw [h']; decide), if_pos rfl]
theorem zs_I_a {a j : Nat} {x : Int32} (h : zs_S sd a = false) {cell : Cell} (hc : s.heap[a]? = some cell) (hv : cell.slots[j]? = some (.int x)) : zs_I s f8 sd a j = x := by
  unfold zs_I
  rw [h, if_neg (by decide), zs_val_of hc hv]
  rfl
/-- the heap has the picture -/
theorem zs_hp {cl : Nat → ClassId × (Nat → Nat)} {ar : Nat → ClassId} (hk : u_Kn s zz_c8 zz_T8 2 (cl 8).1 (cl 8).2) (hF : ∀ i, i < 22 → zs_F s i (sd i)) (hd : va_T .byte dg 100 (fun j => .int (nI (48 + j % 10))) (zs_A s) s s.heap)
    (hn : n ≤ 260) (hX : va_X b n xs s s.heap) : zz_hp (zs_g s cl ar sd dg) (zs_K s sd dg b n, zs_R s (cl 8).2, zs_I s (cl 8).2 sd, fun _ _ => 0, s.heap.size) s.heap := by
  refine ⟨fun a c hK => ?_, fun a t m hK => ?_, fun a _ => rfl, Nat.le_refl _, rfl⟩
  · have hK : zs_K s sd dg b n a = zz_o c := hK
    unfold zs_K at hK
    split at hK
    · rename_i hS
      have e : c = 8 := by
        have := congrArg Prod.snd hK
        exact this.symm
      subst e
      obtain ⟨i, hi, rfl⟩ := zs_S_to hS
      obtain ⟨cell, q1, q2, q3, q4, q5, q6⟩ := zs_str1 hk (hF i hi)
      refine ⟨(zz_c8, zz_T8, 2), cell, rfl, q1, q2, q3, q4, fun hA => absurd (Array.getElem?_eq_some_iff.mp q1).1 (Nat.not_lt.mpr hA), fun k hk2 => ?_⟩
      have hk2 : k < 2 := hk2
      have e1 : zz_ir 8 0 = true := by decide +kernel
      have e2 : zz_ir 8 1 = false := by decide +kernel
      match k, hk2 with
      | 0, _ =>
        show cell.slots[(cl 8).2 0]? = _
        unfold zz_fv
        rw [if_pos e1, q5]
        show _ = some (va_rf (zs_rf (zs_val s (sd i).1 ((cl 8).2 0))))
        rw [zs_val_of q1 q5]
        rfl
      | 1, _ =>
        show cell.slots[(cl 8).2 1]? = _
        unfold zz_fv
        rw [if_neg (by rw [e2]; decide), q6]
        show _ = some (Value.int (zs_iv (zs_val s (sd i).1 (if zs_S sd (sd i).1 = true then (cl 8).2 1 else 1))))
        rw [if_pos hS, zs_val_of q1 q6]
        rfl
    · split at hK
      · exact absurd hK.symm zz_o_ne
      · split at hK
        · exact absurd hK.symm zz_o_ne
        · have := congrArg Prod.fst hK
          exact absurd this (by show ¬ (0 : Nat) = 1; decide)
  · replace hK : zs_K s sd dg b n a = zz_a t m := hK
    unfold zs_K at hK
    split at hK
    · exact absurd hK zz_o_ne
    · rename_i hS
      have hS : zs_S sd a = false := by
        cases h : zs_S sd a with
        | false => rfl
        | true => exact absurd h hS
      split at hK
      · rename_i hB
        obtain ⟨e1, e2⟩ := zz_a_inj hK
        subst e1
        obtain ⟨N, f, hN, ⟨cell, t1, t2, t3, t4, t5, t6, t7⟩, hch⟩ := zs_ba hk hF hd hB
        have e3 : zs_sz s a = N := zs_sz_of t1 (by omega) t5
        have e4 : m = N := e2.symm.trans e3
        subst e4
        have hI : ∀ j, j < m → zs_I s (cl 8).2 sd a j = f j := fun j hj => zs_I_a hS t1 (t6 j hj)
        refine ⟨cell, t1, t2, t3, t4, t5, fun j hj => ?_, fun hA => absurd (Array.getElem?_eq_some_iff.mp t1).1 (Nat.not_lt.mpr hA), fun _ j hj => ?_⟩
        · show _ = some (Value.int (zs_I s (cl 8).2 sd a j))
          rw [hI j hj]
          exact t6 j hj
        · show fits .byte (.int (zs_I s (cl 8).2 sd a j)) = true
          rw [hI j hj]
          obtain ⟨k, k1, k2⟩ := hch j hj
          rw [k2]
          exact zs_fit k k1
      · split at hK
        · rename_i e
          subst e
          obtain ⟨e1, e2⟩ := zz_a_inj hK
          subst e1
          subst e2
          obtain ⟨cell, t1, t2, t3, t4, t5⟩ := hX
          have hI : ∀ j, j < n → zs_I s (cl 8).2 sd a j = xs j := fun j hj => zs_I_a hS t1 (t5 j hj)
          refine ⟨cell, t1, t2, t3, by omega, by rw [t4], fun j hj => ?_, fun hA => absurd (Array.getElem?_eq_some_iff.mp t1).1 (Nat.not_lt.mpr hA), fun _ j hj => rfl⟩
          show _ = some (Value.int (zs_I s (cl 8).2 sd a j))
          rw [hI j hj]
          exact t5 j hj
        · have := congrArg Prod.fst hK
          exact absurd this (by show ¬ (0 : Nat) = t + 2; omega)
end Pict
