/-! THE JUDGEMENT: from here (pc, locals, stack, picture of the heap) the method comes to its end with Q, or throws with QX -/
def zz_g : List (Option Value) → Nat → Option Value
  | [], _ => none
  | x :: _, 0 => x
  | _ :: t, n + 1 => zz_g t n
def zz_lv (lv : List (Option Value)) (nL : Nat) (ls : Array Slot) : Prop := ls.size = nL ∧ lv_wf ls ∧ ∀ (i : Nat) (v : Value), zz_g lv i = some v → ls[i]? = some (.val v)
def zz_k2 : Option Value → Option Value
  | some (.long _) => none
  | some (.double _) => none
  | x => x
def zz_s : List (Option Value) → Nat → Value → List (Option Value)
  | [], 0, v => [some v]
  | [], n + 1, v => none :: zz_s [] n v
  | _ :: t, 0, v => some v :: t
  | x :: t, 1, v => zz_k2 x :: zz_s t 0 v
  | x :: t, n + 2, v => x :: zz_s t (n + 1) v
def zz_t : List (Option Value) → List (Option Value)
  | [] => []
  | _ :: t => none :: t
def zz_s2 : List (Option Value) → Nat → Value → List (Option Value)
  | [], 0, v => [some v]
  | [], n + 1, v => none :: zz_s2 [] n v
  | _ :: t, 0, v => some v :: zz_t t
  | x :: t, 1, v => zz_k2 x :: zz_s2 t 0 v
  | x :: t, n + 2, v => x :: zz_s2 t (n + 1) v
theorem zz_g_s : ∀ (lv : List (Option Value)) (i : Nat) (v w : Value) (j : Nat), zz_g (zz_s lv i v) j = some w → (j = i ∧ w = v) ∨ (j ≠ i ∧ zz_g lv j = some w ∧ (j + 1 = i → w.category ≠ 2))
  | [], 0, v, w, j, h => by
    cases j with
    | zero => left; simp [zz_s, zz_g] at h; exact ⟨rfl, h.symm⟩
    | succ j => simp [zz_s, zz_g] at h
  | [], n + 1, v, w, j, h => by
    cases j with
    | zero => simp [zz_s, zz_g] at h
    | succ j =>
      simp only [zz_s, zz_g] at h
      rcases zz_g_s [] n v w j h with ⟨h1, h2⟩ | ⟨h1, h2, h3⟩
      · exact Or.inl ⟨by omega, h2⟩
      · simp [zz_g] at h2
  | x :: t, 0, v, w, j, h => by
    cases j with
    | zero => left; simp [zz_s, zz_g] at h; exact ⟨rfl, h.symm⟩
    | succ j => right; simp only [zz_s, zz_g] at h ⊢; exact ⟨by omega, h, by omega⟩
  | x :: t, 1, v, w, j, h => by
    cases j with
    | zero =>
      right
      simp only [zz_s, zz_g] at h ⊢
      refine ⟨by omega, ?_, fun _ => ?_⟩
      · cases x with
        | none => simp [zz_k2] at h
        | some y => cases y <;> simp_all [zz_k2]
      · cases x with
        | none => simp [zz_k2] at h
        | some y => cases y <;> simp_all [zz_k2] <;> (rw [← h]; simp [Value.category])
    | succ j =>
      simp only [zz_s, zz_g] at h
      rcases zz_g_s t 0 v w j h with ⟨h1, h2⟩ | ⟨h1, h2, h3⟩
      · exact Or.inl ⟨by omega, h2⟩
      · exact Or.inr ⟨by omega, by simpa [zz_g] using h2, by omega⟩
  | x :: t, n + 2, v, w, j, h => by
    cases j with
    | zero => right; simp only [zz_s, zz_g] at h ⊢; exact ⟨by omega, h, by omega⟩
    | succ j =>
      simp only [zz_s, zz_g] at h
      rcases zz_g_s t (n + 1) v w j h with ⟨h1, h2⟩ | ⟨h1, h2, h3⟩
      · exact Or.inl ⟨by omega, h2⟩
      · exact Or.inr ⟨by omega, by simpa [zz_g] using h2, fun q => h3 (by omega)⟩
theorem zz_g_s2 : ∀ (lv : List (Option Value)) (i : Nat) (v w : Value) (j : Nat), zz_g (zz_s2 lv i v) j = some w → (j = i ∧ w = v) ∨ (j ≠ i ∧ j ≠ i + 1 ∧ zz_g lv j = some w ∧ (j + 1 = i → w.category ≠ 2))
  | [], 0, v, w, j, h => by
    cases j with
    | zero => left; simp [zz_s2, zz_g] at h; exact ⟨rfl, h.symm⟩
    | succ j => simp [zz_s2, zz_g] at h
  | [], n + 1, v, w, j, h => by
    cases j with
    | zero => simp [zz_s2, zz_g] at h
    | succ j =>
      simp only [zz_s2, zz_g] at h
      rcases zz_g_s2 [] n v w j h with ⟨h1, h2⟩ | ⟨h1, h2, h3, h4⟩
      · exact Or.inl ⟨by omega, h2⟩
      · simp [zz_g] at h3
  | x :: t, 0, v, w, j, h => by
    cases j with
    | zero => left; simp [zz_s2, zz_g] at h; exact ⟨rfl, h.symm⟩
    | succ j =>
      right
      simp only [zz_s2, zz_g] at h ⊢
      cases t with
      | nil => simp [zz_t, zz_g] at h
      | cons y t =>
        cases j with
        | zero => simp [zz_t, zz_g] at h
        | succ j => simp only [zz_t, zz_g] at h ⊢; exact ⟨by omega, by omega, h, by omega⟩
  | x :: t, 1, v, w, j, h => by
    cases j with
    | zero =>
      right
      simp only [zz_s2, zz_g] at h ⊢
      refine ⟨by omega, by omega, ?_, fun _ => ?_⟩
      · cases x with
        | none => simp [zz_k2] at h
        | some y => cases y <;> simp_all [zz_k2]
      · cases x with
        | none => simp [zz_k2] at h
        | some y => cases y <;> simp_all [zz_k2] <;> (rw [← h]; simp [Value.category])
    | succ j =>
      simp only [zz_s2, zz_g] at h
      rcases zz_g_s2 t 0 v w j h with ⟨h1, h2⟩ | ⟨h1, h2, h3, h4⟩
      · exact Or.inl ⟨by omega, h2⟩
      · exact Or.inr ⟨by omega, by omega, by simpa [zz_g] using h3, by omega⟩
  | x :: t, n + 2, v, w, j, h => by
    cases j with
    | zero => right; simp only [zz_s2, zz_g] at h ⊢; exact ⟨by omega, by omega, h, by omega⟩
    | succ j =>
      simp only [zz_s2, zz_g] at h
      rcases zz_g_s2 t (n + 1) v w j h with ⟨h1, h2⟩ | ⟨h1, h2, h3, h4⟩
      · exact Or.inl ⟨by omega, h2⟩
      · exact Or.inr ⟨by omega, by omega, by simpa [zz_g] using h3, fun q => h4 (by omega)⟩
/-- the same as the kit's list of known locals -/
def zz_L (lv : List (Option Value)) : List (Nat × Value) := (List.range lv.length).filterMap fun i => (zz_g lv i).map fun v => (i, v)
theorem zz_g_lt : ∀ (lv : List (Option Value)) (i : Nat) (v : Value), zz_g lv i = some v → i < lv.length
  | [], _, _, h => by simp [zz_g] at h
  | _ :: t, 0, _, _ => by simp
  | _ :: t, n + 1, v, h => by simp only [zz_g] at h; have := zz_g_lt t n v h; simp; omega
theorem zz_L_mem {lv : List (Option Value)} {i : Nat} {v : Value} : (i, v) ∈ zz_L lv ↔ zz_g lv i = some v := by
  constructor
  · intro h
    obtain ⟨j, -, hj⟩ := List.mem_filterMap.mp h
    cases hg : zz_g lv j with
    | none => rw [hg] at hj; cases hj
    | some w =>
      rw [hg] at hj
      simp at hj
      obtain ⟨rfl, rfl⟩ := hj
      exact hg
  · intro h
    exact List.mem_filterMap.mpr ⟨i, List.mem_range.mpr (zz_g_lt lv i v h), by rw [h]; rfl⟩
theorem zz_lv.has {lv : List (Option Value)} {nL : Nat} {ls : Array Slot} (h : zz_lv lv nL ls) : lv_has ls nL (zz_L lv) :=
  ⟨h.1, h.2.1, fun q hq => h.2.2 q.1 q.2 (zz_L_mem.mp hq)⟩
theorem zz_lv.st1 {lv : List (Option Value)} {nL i : Nat} {v : Value} {ls' : Array Slot} (h : lv_has ls' nL ((i, v) :: (zz_L lv).filter (fun q => !(q.1 == i) && !(q.1 + 1 == i && q.2.category == 2)))) : zz_lv (zz_s lv i v) nL ls' := by
  refine ⟨h.1, h.2.1, fun j w hw => ?_⟩
  rcases zz_g_s lv i v w j hw with ⟨rfl, rfl⟩ | ⟨h1, h2, h3⟩
  · exact h.2.2 (j, w) List.mem_cons_self
  · refine h.2.2 (j, w) (List.mem_cons_of_mem _ (List.mem_filter.mpr ⟨zz_L_mem.mpr h2, ?_⟩))
    by_cases e : j + 1 = i
    · simp [h1, h3 e]
    · simp [h1, e]
theorem zz_lv.st2 {lv : List (Option Value)} {nL i : Nat} {v : Value} {ls' : Array Slot} (h : lv_has ls' nL ((i, v) :: (zz_L lv).filter (fun q => !(q.1 == i) && (!(q.1 == i + 1) && !(q.1 + 1 == i && q.2.category == 2))))) : zz_lv (zz_s2 lv i v) nL ls' := by
  refine ⟨h.1, h.2.1, fun j w hw => ?_⟩
  rcases zz_g_s2 lv i v w j hw with ⟨rfl, rfl⟩ | ⟨h1, h2, h3, h4⟩
  · exact h.2.2 (j, w) List.mem_cons_self
  · refine h.2.2 (j, w) (List.mem_cons_of_mem _ (List.mem_filter.mpr ⟨zz_L_mem.mpr h3, ?_⟩))
    by_cases e : j + 1 = i
    · simp [h1, h2, h4 e]
    · simp [h1, h2, e]
def zz_Qc (g : zz_G) (Q : Option Value → zz_H → Prop) : Array Value → State → Outcome → State → Prop := fun _ _ o t => ∃ (v : Option Value) (h : zz_H), o = .returned v ∧ zz_hp g h t.heap ∧ Q v h
def zz_XC (g : zz_G) (QX : String → zz_H → Prop) : String → State → State → Prop := fun E _ t => ∃ h : zz_H, zz_hp g h t.heap ∧ QX E h
/-- what holds in the body of M -/
def zz_C (g : zz_G) (l : Launch) (M : zz_M) (p : Program) (s : State) (m : MethodId) (args : Array Value) (meth : Method) (c : Code) : Prop :=
  p.tables.exec = Jvm.exec ∧ c.code = zz_b M ∧ meth.sig.returnType = zz_r M ∧ c.maxLocals = zz_n M ∧ s.vm.findClass (zz_y M).cls = some m.cls ∧ (∀ w ∈ zz_gw, w.before args s = true) ∧ (∃ h0, zz_W g h0 s) ∧ meth.locks = false ∧ c.exceptionTable.toList = tableOf (zz_hh M) ∧ l.stackTraces = false ∧ meth.name = (zz_y M).name
def Zz (g : zz_G) (l : Launch) (M : zz_M) (mc ms : Nat) (Q : Option Value → zz_H → Prop) (QX : String → zz_H → Prop) (ce sl pc : Nat) (lv : List (Option Value)) (st : List Value) (h : zz_H) : Prop :=
  ∀ (p : Program) (e : Env) (s : State) (m : MethodId) (args : Array Value) (below : List Frame) (meth : Method) (c : Code) (H : Heap) (locs : List Loc) (ls : Array Slot),
    zz_C g l M p s m args meth c → zz_hp g h H → zz_lv lv (zz_n M) ls → (∀ q ∈ locs, zz_A g q.base) →
    W p l e (zz_rm M mc ms) s m args below meth c H locs ce sl (vx_MQ below (zz_Qc g Q) (zz_XC g QX) args s mc ms (zz_A g)) (F0 m pc ls st)
/-- THE CONTRACT of a method: from the picture h with the arguments av it comes back with Q, or throws with QX; mc cells of ms slots at most are new -/
def zz_S (g : zz_G) (l : Launch) (M : zz_M) (mc ms : Nat) (av : List Value) (h : zz_H) (Q : Option Value → zz_H → Prop) (QX : String → zz_H → Prop) : Prop :=
  vx_Met l (zz_y M) (zz_ws M) (zz_rm M mc ms) (va_Pc av (fun U => zz_W g h U)) (zz_Qc g Q) (zz_XC g QX) mc ms (zz_A g)
theorem zz_S.mono {g : zz_G} {l : Launch} {M : zz_M} {mc ms : Nat} {av : List Value} {h : zz_H} {Q Q' : Option Value → zz_H → Prop} {QX QX' : String → zz_H → Prop} (k : zz_S g l M mc ms av h Q QX) (h1 : ∀ v h', Q v h' → Q' v h') (h2 : ∀ E h', QX E h' → QX' E h') : zz_S g l M mc ms av h Q' QX' := by
  intro p e ha hc hk s m args below hf happ hP hK
  obtain ⟨n, o, q1, q2, q3, q4⟩ := k p e ha hc hk s m args below hf happ hP hK
  refine ⟨n, o, q1, q2, q3, ?_⟩
  rcases q4 with ⟨⟨v, h', e1, e2, e3⟩, e4⟩ | ⟨q, e1, E, ce, L, ⟨h', e2, e3⟩, e4⟩
  · exact Or.inl ⟨⟨v, h', e1, e2, h1 v h' e3⟩, e4⟩
  · exact Or.inr ⟨q, e1, E, ce, L, ⟨h', e2, h2 E h' e3⟩, e4⟩
/-- .. that throws nothing -/
theorem zz_S.met {g : zz_G} {l : Launch} {M : zz_M} {mc ms : Nat} {av : List Value} {h : zz_H} {Q : Option Value → zz_H → Prop} {QX : String → zz_H → Prop} (k : zz_S g l M mc ms av h Q QX) (hx : ∀ E h', ¬ QX E h') : Met l (zz_y M) (zz_ws M) (zz_rm M mc ms) (va_Pc av (fun U => zz_W g h U)) (zz_Qc g Q) mc ms (zz_A g) := by
  intro p e ha hc hk s m args below hf happ hP hK
  obtain ⟨n, o, q1, q2, q3, q4⟩ := k p e ha hc hk s m args below hf happ hP hK
  refine ⟨n, o, q1, q2, q3, ?_⟩
  rcases q4 with q4 | ⟨q, e1, E, ce, L, ⟨h', e2, e3⟩, e4⟩
  · exact q4
  · exact absurd e3 (hx E h')
/-- the first locals -/
def zz_lv0 : List Value → List (Option Value)
  | [] => []
  | v :: t => if v.category = 2 then some v :: none :: zz_lv0 t else some v :: zz_lv0 t
theorem zz_lv0_args : ∀ (vs : List Value) (b i : Nat) (v : Value), zz_g (zz_lv0 vs) i = some v → (b + i, v) ∈ lv_args b vs := by
  intro vs
  induction vs with
  | nil => intro b i v h; simp [zz_lv0, zz_g] at h
  | cons x t ih =>
    intro b i v h
    unfold lv_args
    by_cases hx : x.category = 2
    · simp only [zz_lv0, if_pos hx] at h
      cases i with
      | zero => simp only [zz_g] at h; cases h; simp
      | succ i =>
        cases i with
        | zero => simp [zz_g] at h
        | succ i =>
          simp only [zz_g] at h
          have := ih (b + 2) i v h
          rw [show b + 2 + i = b + (i + 1 + 1) by omega] at this
          simp [hx, this]
    · simp only [zz_lv0, if_neg hx] at h
      cases i with
      | zero => simp only [zz_g] at h; cases h; simp
      | succ i =>
        simp only [zz_g] at h
        have := ih (b + 1) i v h
        rw [show b + 1 + i = b + (i + 1) by omega] at this
        have h1 : x.category = 1 := (lv_cat x).resolve_right hx
        simp [h1, this]
