/-! the picture of the heap: kinds, references, ints, longs, size; everything from the law's entry on (g's heap) -/
abbrev zz_G : Type := (Nat → ClassId) × (Nat → Nat → Nat) × (Nat → ClassId) × State × (Nat → Nat)
abbrev zz_H : Type := (Nat → Nat × Nat) × (Nat → Nat → Option Nat) × (Nat → Nat → Int32) × (Nat → Nat → Int64) × Nat
abbrev zz_s0 (g : zz_G) : State := g.2.2.2.1
abbrev zz_hb (g : zz_G) : Heap := g.2.2.2.1.heap
def zz_A (g : zz_G) : Nat → Prop := fun q => (zz_hb g).size ≤ q
/-- kinds: an object of class c; an array of type t, of length n -/
abbrev zz_o (c : Nat) : Nat × Nat := (1, c)
abbrev zz_a (t n : Nat) : Nat × Nat := (t + 2, n)
/-- the array types: int, char, byte, long, telegrams, stores -/
def zz_at : Nat → FieldType := fun t => match t with
  | 0 => .int
  | 1 => .char
  | 2 => .byte
  | 3 => .long
  | 4 => .object zz_c6
  | _ => .object zz_c5
def zz_fv (c a : Nat) (R : Nat → Nat → Option Nat) (I : Nat → Nat → Int32) (k : Nat) : Value := if zz_ir c k = true then va_rf (R a k) else .int (I a k)
def zz_el (t a : Nat) (R : Nat → Nat → Option Nat) (I : Nat → Nat → Int32) (L : Nat → Nat → Int64) (j : Nat) : Value := if t < 3 then .int (I a j) else if t = 3 then .long (L a j) else va_rf (R a j)
def zz_ob (g : zz_G) (R : Nat → Nat → Option Nat) (I : Nat → Nat → Int32) (H : Heap) (a c : Nat) : Prop :=
  ∃ (r : vw_C) (cell : Cell), zz_cl[c]? = some r ∧ H[a]? = some cell ∧ cell.cls = g.1 c ∧ cell.vm.isStatics = false ∧ cell.vm ≠ .unknown ∧ (zz_A g a → cell.vm = .none) ∧ ∀ k, k < r.2.2 → cell.slots[g.2.1 c k]? = some (zz_fv c a R I k)
def zz_ar (g : zz_G) (R : Nat → Nat → Option Nat) (I : Nat → Nat → Int32) (L : Nat → Nat → Int64) (H : Heap) (a t n : Nat) : Prop :=
  ∃ cell : Cell, H[a]? = some cell ∧ (zz_s0 g).isArrayOf cell (zz_at t) ∧ cell.vm ≠ .unknown ∧ n ≤ cell.slots.size ∧ cell.slots.size.toInt32 = Int32.ofNat n ∧ (∀ j, j < n → cell.slots[j]? = some (zz_el t a R I L j)) ∧
    (zz_A g a → cell = arrV (g.2.2.1 t) n (zz_el t a R I L)) ∧ (t < 3 → ∀ j, j < n → fits (zz_at t) (.int (I a j)) = true)
def zz_hp (g : zz_G) (h : zz_H) (H : Heap) : Prop :=
  (∀ a c : Nat, h.1 a = zz_o c → zz_ob g h.2.1 h.2.2.1 H a c) ∧
  (∀ a t n : Nat, h.1 a = zz_a t n → zz_ar g h.2.1 h.2.2.1 h.2.2.2.1 H a t n) ∧
  (∀ a : Nat, a < (zz_hb g).size → H[a]? = (zz_hb g)[a]?) ∧ (zz_hb g).size ≤ H.size ∧ h.2.2.2.2 = H.size
/-- String constants: class, entry, text, number -/
def zz_sR (g : zz_G) (U : State) (r : String × Nat × String × Nat) : Prop := vk_R r.1 r.2.1 r.2.2.1 (g.2.2.2.2 r.2.2.2) U
def zz_str : List (String × Nat × String × Nat) := [("TurnipPages$Commands", 83, "root ", 0), ("TurnipPages$Commands", 85, "dry ", 1), ("TurnipPages$Commands", 87, "age ", 2), ("TurnipPages$Commands", 89, "recarve ", 3), ("TurnipPages$Commands", 91, "move ", 4), ("TurnipPages$Commands", 93, "drop ", 5), ("TurnipPagesLaw", 182, "", 6), ("TurnipPagesLaw", 188, "ab7\\0 z39", 7), ("java/util/Arrays", 337, " > ", 8), ("TurnipPagesLaw", 289, "a12", 9), ("java/lang/StringLatin1", 151, "", 10), ("java/lang/StringUTF16", 295, "", 11), ("TurnipPagesLaw", 295, "ab3\\7", 12), ("TurnipPagesLaw", 306, "age 2;drop ", 13), ("TurnipPagesLaw", 311, "recarve ", 14), ("TurnipPagesLaw", 313, ";move ", 15), ("TurnipPagesLaw", 315, " 1", 16), ("TurnipPagesLaw", 343, "q", 17), ("TurnipPagesLaw", 347, "age 3;drop 99;drop 99", 18), ("TurnipPagesLaw", 349, "age 1;move ", 19), ("TurnipPagesLaw", 351, " ", 20), ("TurnipPagesLaw", 365, "abc", 21)]
/-- classes of exceptions that aren't each other's -/
def zz_nc : List (String × String) := [("java/lang/IllegalStateException", "java/lang/IllegalArgumentException"), ("java/lang/UnsupportedOperationException", "java/lang/IllegalArgumentException"), ("java/lang/UnsupportedOperationException", "java/lang/IndexOutOfBoundsException"), ("java/lang/IllegalArgumentException", "java/lang/IndexOutOfBoundsException"), ("java/lang/IndexOutOfBoundsException", "java/util/NoSuchElementException"), ("java/lang/IllegalArgumentException", "java/util/NoSuchElementException"), ("java/lang/UnsupportedOperationException", "java/util/NoSuchElementException")]
/-- what the tables say -/
def zz_Kn (g : zz_G) (U : State) : Prop :=
  (zz_s0 g).vm.Alike U.vm ∧
  (∀ (c : Nat) (q : vw_C), zz_cl[c]? = some q → u_Kn U q.1 q.2.1 q.2.2 (g.1 c) (g.2.1 c)) ∧
  (∀ t, t < 6 → ArrOfT U (g.2.2.1 t) (zz_at t) ∧ va_RA U (g.2.2.1 t) (zz_at t)) ∧ zz_Nw U ∧ (∀ r ∈ zz_str, zz_sR g U r) ∧ (∀ q ∈ zz_nc, va_Nc q.1 q.2 U) ∧ va_AO zz_c6 U ∧ va_AO zz_c5 U
theorem zz_Kn.warm {g : zz_G} {s U : State} (hW : s.WarmedH U.vm) (h : zz_Kn g s) : zz_Kn g U :=
  ⟨h.1.trans hW.alike, fun c q hq => u_Kn_moved hW.alike (h.2.1 c q hq), fun t ht => ⟨arrOfT_moved hW.alike (h.2.2.1 t ht).1, (h.2.2.1 t ht).2.moved hW.alike⟩, h.2.2.2.1.warm hW, fun r hr => vk_R.warm hW (h.2.2.2.2.1 r hr), fun q hq => va_Nc.moved hW.alike (h.2.2.2.2.2.1 q hq), h.2.2.2.2.2.2.1.moved hW.alike, h.2.2.2.2.2.2.2.moved hW.alike⟩
/-- statics -/
def zz_St (g : zz_G) (U : State) (H : Heap) : Prop :=
  vx_Zq Bundle.tN "UNASSIGNED_STACK" Bundle.steD (zz_A g) U H ∧ vx_Zq Bundle.tN "SUPPRESSED_SENTINEL" Bundle.listD (zz_A g) U H ∧
  va_Z "java/lang/String" "COMPACT_STRINGS" "Z" (.int 1) (zz_A g) U H ∧ va_Z "java/lang/Integer" "DigitOnes" "[B" (.ref (g.2.2.2.2 30)) (zz_A g) U H ∧
  va_Zq "jdk/internal/util/Preconditions" "SIOOBE_FORMATTER" "Ljava/util/function/BiFunction;" (zz_A g) U H
theorem zz_St.moved {g : zz_G} {u U : State} {H : Heap} (hvm : u.vm.Alike U.vm) (h : zz_St g u H) : zz_St g U H :=
  ⟨h.1.moved hvm, h.2.1.moved hvm, h.2.2.1.moved hvm, h.2.2.2.1.moved hvm, h.2.2.2.2.moved hvm⟩
theorem zz_St.kept {g : zz_G} {U : State} {H H1 : Heap} (h : zz_St g U H) (hq : ∀ a : Nat, a < H.size → ¬ zz_A g a → H1[a]? = H[a]?) : zz_St g U H1 :=
  ⟨h.1.kept hq, h.2.1.kept hq, h.2.2.1.kept hq, h.2.2.2.1.kept hq, h.2.2.2.2.kept hq⟩
/-- a state whose heap has the picture h -/
def zz_W (g : zz_G) (h : zz_H) (U : State) : Prop := zz_Kn g U ∧ zz_hp g h U.heap ∧ zz_St g U U.heap
theorem zz_W.calling {g : zz_G} {h : zz_H} {U : State} (G : JFrame) (mk : MethodId) (a : Array Value) (q : zz_W g h U) : zz_W g h (U.calling G mk a) := by
  obtain ⟨⟨h0, h1, h2, h3, h4, h5, h6, h7⟩, hp, hs⟩ := q
  refine ⟨⟨h0, fun c q hq => u_Kn_moved (u := U) (Vm.Alike.refl U.vm) (h1 c q hq), fun t ht => ⟨arrOfT_moved (u := U) (Vm.Alike.refl U.vm) (h2 t ht).1, va_RA.moved (u := U) (Vm.Alike.refl U.vm) (h2 t ht).2⟩, fun w hw => ?_, fun r hr => vk_R.same (u := U) rfl (h4 r hr), fun q hq => va_Nc.moved (u := U) (Vm.Alike.refl U.vm) (h5 q hq), va_AO.moved (u := U) (Vm.Alike.refl U.vm) h6, va_AO.moved (u := U) (Vm.Alike.refl U.vm) h7⟩, hp, zz_St.moved (u := U) (Vm.Alike.refl U.vm) hs⟩
  have hk := (List.mem_filter.mp hw).2
  simp only [Bool.and_eq_true] at hk
  have hk := hk.2
  have h9 := h3 w hw
  cases w <;> first
    | exact va_Nw.same (u := U) rfl rfl h9
    | (simp [zz_nk] at hk)
/-- the old part of the heap is kept -/
theorem zz_hp.old {g : zz_G} {h h' : zz_H} {H H' : Heap} (p : zz_hp g h H) (p' : zz_hp g h' H') : ∀ a : Nat, ¬ zz_A g a → H'[a]? = H[a]? := by
  intro a ha
  have h1 : a < (zz_hb g).size := Nat.not_le.mp ha
  rw [p'.2.2.1 a h1, p.2.2.1 a h1]
/-! places of a picture -/
def zz_up {α : Type} (f : Nat → Nat → α) (a k : Nat) (x : α) : Nat → Nat → α := fun b j => if b = a ∧ j = k then x else f b j
theorem zz_up_s {α : Type} {f : Nat → Nat → α} {a k : Nat} {x : α} : zz_up f a k x a k = x := by simp [zz_up]
theorem zz_up_a {α : Type} {f : Nat → Nat → α} {a k : Nat} {x : α} {b j : Nat} (h : b ≠ a) : zz_up f a k x b j = f b j := by simp [zz_up, h]
theorem zz_up_k {α : Type} {f : Nat → Nat → α} {a k : Nat} {x : α} {b j : Nat} (h : j ≠ k) : zz_up f a k x b j = f b j := by simp [zz_up, h]
theorem zz_up_r {α : Type} {f : Nat → Nat → α} {a k : Nat} {x : α} {b : Nat} (h : b ≠ a) : zz_up f a k x b = f b := by funext j; exact zz_up_a h
/-- an object's cell lies in the heap -/
theorem zz_ob.lt {g : zz_G} {R : Nat → Nat → Option Nat} {I : Nat → Nat → Int32} {H : Heap} {a c : Nat} (h : zz_ob g R I H a c) : a < H.size := by
  obtain ⟨r, cell, hr, q1, -⟩ := h
  exact (Array.getElem?_eq_some_iff.mp q1).1
theorem zz_ar.lt {g : zz_G} {R : Nat → Nat → Option Nat} {I : Nat → Nat → Int32} {L : Nat → Nat → Int64} {H : Heap} {a t n : Nat} (h : zz_ar g R I L H a t n) : a < H.size := by
  obtain ⟨cell, q1, -⟩ := h
  exact (Array.getElem?_eq_some_iff.mp q1).1
theorem zz_ob.kept {g : zz_G} {R R' : Nat → Nat → Option Nat} {I I' : Nat → Nat → Int32} {H H' : Heap} {a c : Nat} (h : zz_ob g R I H a c) (hR : R' a = R a) (hI : I' a = I a) (hH : H'[a]? = H[a]?) : zz_ob g R' I' H' a c := by
  obtain ⟨r, cell, hr, q1, q2, q3, q4, q5, q6⟩ := h
  refine ⟨r, cell, hr, by rw [hH]; exact q1, q2, q3, q4, q5, fun k hk => ?_⟩
  rw [q6 k hk]
  unfold zz_fv
  rw [hR, hI]
theorem zz_ar.kept {g : zz_G} {R R' : Nat → Nat → Option Nat} {I I' : Nat → Nat → Int32} {L L' : Nat → Nat → Int64} {H H' : Heap} {a t n : Nat} (h : zz_ar g R I L H a t n) (hR : R' a = R a) (hI : I' a = I a) (hL : L' a = L a) (hH : H'[a]? = H[a]?) : zz_ar g R' I' L' H' a t n := by
  obtain ⟨cell, h1, h2, h3, h4, h5, h6, h7, h8⟩ := h
  have e : zz_el t a R' I' L' = zz_el t a R I L := by
    funext j
    unfold zz_el
    rw [hR, hI, hL]
  exact ⟨cell, by rw [hH]; exact h1, h2, h3, h4, h5, fun j hj => by rw [e]; exact h6 j hj, fun hA => by rw [e]; exact h7 hA, fun ht j hj => by rw [hI]; exact h8 ht j hj⟩
theorem zz_o_ne {c t n : Nat} : zz_o c ≠ zz_a t n := by
  intro h
  have := congrArg Prod.fst h
  simp at this
theorem zz_a_inj {t n t' n' : Nat} (h : zz_a t n = zz_a t' n') : t = t' ∧ n = n' := by
  have h1 := congrArg Prod.fst h
  have h2 := congrArg Prod.snd h
  simp at h1 h2
  exact ⟨h1, h2⟩
/-- one cell is written, none is made -/
theorem zz_hp.set {g : zz_G} {K : Nat → Nat × Nat} {R R' : Nat → Nat → Option Nat} {I I' : Nat → Nat → Int32} {L L' : Nat → Nat → Int64} {z : Nat} {H H' : Heap} {a : Nat} (p : zz_hp g (K, R, I, L, z) H) (ha : zz_A g a)
    (hz : H'.size = H.size) (ho : ∀ q : Nat, q ≠ a → H'[q]? = H[q]?) (hR : ∀ b, b ≠ a → R' b = R b) (hI : ∀ b, b ≠ a → I' b = I b) (hL : ∀ b, b ≠ a → L' b = L b)
    (h1 : ∀ c, K a = zz_o c → zz_ob g R' I' H' a c) (h2 : ∀ t n, K a = zz_a t n → zz_ar g R' I' L' H' a t n) : zz_hp g (K, R', I', L', z) H' := by
  obtain ⟨p1, p2, p3, p4, p5⟩ := p
  refine ⟨fun b c hb => ?_, fun b t n hb => ?_, fun b hb => ?_, by rw [hz]; exact p4, by rw [hz]; exact p5⟩
  · by_cases e : b = a
    · subst e; exact h1 c hb
    · exact (p1 b c hb).kept (hR b e) (hI b e) (ho b e)
  · by_cases e : b = a
    · subst e; exact h2 t n hb
    · exact (p2 b t n hb).kept (hR b e) (hI b e) (hL b e) (ho b e)
  · have : b ≠ a := fun e => by
      rw [e] at hb
      exact absurd ha (Nat.not_le.mpr hb)
    rw [ho b this]
    exact p3 b hb
/-- one cell is made -/
theorem zz_hp.push {g : zz_G} {K : Nat → Nat × Nat} {R R' : Nat → Nat → Option Nat} {I I' : Nat → Nat → Int32} {L L' : Nat → Nat → Int64} {z : Nat} {H H' : Heap} {kd : Nat × Nat} (p : zz_hp g (K, R, I, L, z) H)
    (hz : H'.size = H.size + 1) (ho : ∀ q : Nat, q < H.size → H'[q]? = H[q]?) (hR : ∀ b, b ≠ z → R' b = R b) (hI : ∀ b, b ≠ z → I' b = I b) (hL : ∀ b, b ≠ z → L' b = L b)
    (h1 : ∀ c, kd = zz_o c → zz_ob g R' I' H' z c) (h2 : ∀ t n, kd = zz_a t n → zz_ar g R' I' L' H' z t n) : zz_hp g ((fun b => if b = z then kd else K b), R', I', L', z + 1) H' := by
  obtain ⟨p1, p2, p3, p4, p5⟩ := p
  have p5 : z = H.size := p5
  refine ⟨fun b c hb => ?_, fun b t n hb => ?_, fun b hb => ?_, by rw [hz]; omega, by show z + 1 = _; rw [hz, p5]⟩
  · by_cases e : b = z
    · subst e
      exact h1 c (by simpa using hb)
    · have hb : K b = zz_o c := by simpa [e] using hb
      exact (p1 b c hb).kept (hR b e) (hI b e) (ho b (p1 b c hb).lt)
  · by_cases e : b = z
    · subst e
      exact h2 t n (by simpa using hb)
    · have hb : K b = zz_a t n := by simpa [e] using hb
      exact (p2 b t n hb).kept (hR b e) (hI b e) (hL b e) (ho b (p2 b t n hb).lt)
  · rw [ho b (Nat.lt_of_lt_of_le hb p4)]
    exact p3 b hb
/-- cells of which the picture says nothing are made -/
theorem zz_hp.grow {g : zz_G} {K : Nat → Nat × Nat} {R : Nat → Nat → Option Nat} {I : Nat → Nat → Int32} {L : Nat → Nat → Int64} {z : Nat} {H H' : Heap} (p : zz_hp g (K, R, I, L, z) H)
    (hz : H.size ≤ H'.size) (ho : ∀ q : Nat, q < H.size → H'[q]? = H[q]?) : zz_hp g (K, R, I, L, H'.size) H' := by
  obtain ⟨p1, p2, p3, p4, p5⟩ := p
  refine ⟨fun b c hb => ?_, fun b t n hb => ?_, fun b hb => ?_, Nat.le_trans p4 hz, rfl⟩
  · exact (p1 b c hb).kept rfl rfl (ho b (p1 b c hb).lt)
  · exact (p2 b t n hb).kept rfl rfl rfl (ho b (p2 b t n hb).lt)
  · rw [ho b (Nat.lt_of_lt_of_le hb p4)]
    exact p3 b hb
