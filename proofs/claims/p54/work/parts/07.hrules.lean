/-! RULES of the heap: fields, arrays, new -/
def zz_cn (c : Nat) : String := match zz_cl[c]? with
  | some r => r.1
  | none => ""
/-- entry ix of M's class is field k of class c -/
def zz_F (M : zz_M) (ix c k : Nat) : Prop := match zz_cl[c]? with
  | some r => k < r.2.2 ∧ Cond.fieldLink (zz_y M).cls ix (r.2.1 k).1 (r.2.1 k).2.1 (r.2.1 k).2.2.1 ∈ zz_gw
  | none => False
theorem zz_F.of {M : zz_M} {ix c k : Nat} (h : zz_F M ix c k) {r : vw_C} (hr : zz_cl[c]? = some r) : k < r.2.2 ∧ Cond.fieldLink (zz_y M).cls ix (r.2.1 k).1 (r.2.1 k).2.1 (r.2.1 k).2.2.1 ∈ zz_gw := by
  unfold zz_F at h
  rw [hr] at h
  exact h
/-- is field k of class c final -/
def zz_fin (c k : Nat) : Bool := match zz_cl[c]? with
  | some r => (r.2.1 k).2.2.2
  | none => true
/-- the class that declares it -/
def zz_dc (c k : Nat) : String := match zz_cl[c]? with
  | some r => (r.2.1 k).1
  | none => ""
theorem zz_apart {g : zz_G} {s : State} {args : Array Value} {c : Nat} {r : vw_C} (hts : ∀ w ∈ zz_gw, w.before args s = true) (hK : zz_Kn g s) (hr : zz_cl[c]? = some r) : ∀ a b, a < r.2.2 → b < r.2.2 → a ≠ b → g.2.1 c a ≠ g.2.1 c b :=
  va_apart (D := (g.1, g.2.1)) (cl := zz_cl) (tys := []) (own := r.1) hts (zz_clI hr) (zz_ty c) (zz_clT hr) (zz_clN hr) ⟨hK.2.1, fun k q h => by simp at h⟩ hr
section HRules
variable {g : zz_G} {l : Launch} {M : zz_M} {mc ms : Nat} {Q : Option Value → zz_H → Prop} {QX : String → zz_H → Prop} {ce sl pc nx : Nat} {lv : List (Option Value)} {st : List Value}
variable {K : Nat → Nat × Nat} {R : Nat → Nat → Option Nat} {I : Nat → Nat → Int32} {L : Nat → Nat → Int64} {z : Nat}
theorem zz_C.kn {p : Program} {s : State} {m : MethodId} {args : Array Value} {meth : Method} {c : Code} (C : zz_C g l M p s m args meth c) : zz_Kn g s := C.2.2.2.2.2.2.1.choose_spec.1
theorem zz_C.ws {p : Program} {s : State} {m : MethodId} {args : Array Value} {meth : Method} {c : Code} (C : zz_C g l M p s m args meth c) : ∀ w ∈ zz_gw, w.before args s = true := C.2.2.2.2.2.1
theorem zz_C.own {p : Program} {s : State} {m : MethodId} {args : Array Value} {meth : Method} {c : Code} (C : zz_C g l M p s m args meth c) : s.vm.findClass (zz_y M).cls = some m.cls := C.2.2.2.2.1
theorem z_get {ix c k a : Nat} (d : zz_D M pc (.getfield ix) 3 nx) (f : zz_F M ix c k) (hK : K a = zz_o c)
    (kk : Zz g l M mc ms Q QX ce sl nx lv (zz_fv c a R I k :: st) (K, R, I, L, z)) : Zz g l M mc ms Q QX ce sl pc lv (.ref a :: st) (K, R, I, L, z) := by
  obtain ⟨d, rfl⟩ := d
  intro p e s m args below meth cd H locs ls C hH hl hL
  obtain ⟨r, cell, hr, q1, q2, q3, q4, q5, q6⟩ := hH.1 a c hK
  obtain ⟨hk, hw⟩ := f.of hr
  obtain ⟨hS, hfc, kC, hkC, hkind⟩ := C.kn.2.1 c r hr
  obtain ⟨cf, kf, fi, fd, hi, hsl⟩ := hS k hk
  refine W.getf C.1 C.2.1 C.own (C.ws _ hw) hi (u_facts hfc hkC (u_lays C.ws (zz_clI hr) hk) hi).1 q1 q4 (v := zz_fv c a R I k) ?_ rfl rfl d (kk p e s m args below meth cd H locs ls C hH hl hL)
  rw [hsl, q6 k hk]
theorem z_getI {ix c k a : Nat} (d : zz_D M pc (.getfield ix) 3 nx) (f : zz_F M ix c k) (hK : K a = zz_o c) (hi : zz_ir c k = false)
    (kk : Zz g l M mc ms Q QX ce sl nx lv (.int (I a k) :: st) (K, R, I, L, z)) : Zz g l M mc ms Q QX ce sl pc lv (.ref a :: st) (K, R, I, L, z) :=
  z_get d f hK (by unfold zz_fv; rw [hi]; exact kk)
theorem z_getR {ix c k a b : Nat} (d : zz_D M pc (.getfield ix) 3 nx) (f : zz_F M ix c k) (hK : K a = zz_o c) (hi : zz_ir c k = true) (hb : R a k = some b)
    (kk : Zz g l M mc ms Q QX ce sl nx lv (.ref b :: st) (K, R, I, L, z)) : Zz g l M mc ms Q QX ce sl pc lv (.ref a :: st) (K, R, I, L, z) :=
  z_get d f hK (by unfold zz_fv; rw [hi, hb]; exact kk)
/-- the cell of an object after a store -/
theorem zz_put_ob {H1 : Heap} {a c k : Nat} {r : vw_C} {cell : Cell} {v : Value} {R' : Nat → Nat → Option Nat} {I' : Nat → Nat → Int32} (hr : zz_cl[c]? = some r) (hk : k < r.2.2) (q2 : cell.cls = g.1 c) (q3 : cell.vm = .none) (q6 : ∀ k, k < r.2.2 → cell.slots[g.2.1 c k]? = some (zz_fv c a R I k)) (hap : ∀ a b, a < r.2.2 → b < r.2.2 → a ≠ b → g.2.1 c a ≠ g.2.1 c b)
    (e1 : H1[a]? = some (cell.setSlot (g.2.1 c k) v)) (hv : ∀ j, j < r.2.2 → zz_fv c a R' I' j = if j = k then v else zz_fv c a R I j) : zz_ob g R' I' H1 a c := by
  refine ⟨r, _, hr, e1, q2, by show cell.vm.isStatics = false; rw [q3]; rfl, by show cell.vm ≠ .unknown; rw [q3]; exact fun h => (by cases h), fun _ => q3, fun j hj => ?_⟩
  rw [t_set q6 hap hk v j hj, hv j hj]
  unfold updV
  rfl
theorem z_put {ix c k a : Nat} {v : Value} {R' : Nat → Nat → Option Nat} {I' : Nat → Nat → Int32} (d : zz_D M pc (.putfield ix) 3 nx) (f : zz_F M ix c k) (hK : K a = zz_o c) (ha : zz_A g a)
    (hfin : zz_fin c k = false ∨ ((zz_y M).name = "<init>" ∧ zz_dc c k = (zz_y M).cls)) (hn : narrow (zz_ty c k) v = v) (hfit : fits (zz_ty c k) v = true)
    (hR : ∀ b, b ≠ a → R' b = R b) (hI : ∀ b, b ≠ a → I' b = I b) (hv : ∀ j, zz_fv c a R' I' j = if j = k then v else zz_fv c a R I j)
    (kk : Zz g l M mc ms Q QX ce sl nx lv st (K, R', I', L, z)) : Zz g l M mc ms Q QX ce sl pc lv (v :: .ref a :: st) (K, R, I, L, z) := by
  obtain ⟨d, rfl⟩ := d
  intro p e s m args below meth cd H locs ls C hH hl hL
  obtain ⟨r, cell, hr, q1, q2, q3, q4, q5, q6⟩ := hH.1 a c hK
  have q5 := q5 ha
  obtain ⟨hk, hw⟩ := f.of hr
  have hKn := C.kn
  obtain ⟨hS, hfc, kC, hkC, hkind⟩ := hKn.2.1 c r hr
  obtain ⟨cf, kf, fi, fd, hi, hsl⟩ := hS k hk
  have hap := zz_apart C.ws hKn hr
  have hty := zz_clT hr k hk
  have hst := (u_facts hfc hkC (u_lays C.ws (zz_clI hr) hk) hi).1
  have hlay := C.ws _ (zz_clI hr _ (u_in_lay hk))
  have hlt : fd.slot < cell.slots.size := by rw [hsl]; exact k2_hasslot (q6 k hk)
  have fin : ∀ H' : Heap, H'[a]? = some (cell.setSlot fd.slot v) → H'.size = H.size → (∀ q, q ≠ a → H'[q]? = H[q]?) → W p l e (zz_rm M mc ms) s m args below meth cd H' (locs ++ [⟨a, fd.slot⟩]) ce sl (vx_MQ below (zz_Qc g Q) (zz_XC g QX) args s mc ms (zz_A g)) (F0 m (pc + 3) ls st) := by
    intro H' e1 e2 e3
    rw [hsl] at e1
    refine kk p e s m args below meth cd H' _ ls C (hH.set ha e2 e3 hR hI (fun b _ => rfl) (fun c' hc' => ?_) (fun t n hc' => ?_)) hl (fun q hq => ?_)
    · have : c' = c := by
        have := hc'.symm.trans hK
        simpa using this
      subst this
      exact zz_put_ob hr hk q2 q5 q6 hap e1 (fun j _ => hv j)
    · exact absurd (hK.symm.trans hc') zz_o_ne
    · rcases List.mem_append.mp hq with h | h
      · exact hL q h
      · simp at h
        subst h
        exact ha
  by_cases hf : (r.2.1 k).2.2.2 = true
  · have hf2 : (zz_y M).name = "<init>" ∧ zz_dc c k = (zz_y M).cls := by
      rcases hfin with h | h
      · unfold zz_fin at h; rw [hr] at h; exact absurd (hf.symm.trans h) (by decide)
      · exact h
    have hdecl : (r.2.1 k).1 = (zz_y M).cls := by
      have := hf2.2; unfold zz_dc at this; rw [hr] at this; exact this
    unfold u_lay at hlay
    rw [if_pos hf] at hlay
    have hcf : m.cls = cf := by
      obtain ⟨_, _, c', _, _, _, -, -, hf', -, -, -, hown2, -⟩ := Cond.laysFinal_spec hlay
      have e1 : c' = cf := by have := hi.symm.trans hf'; simp at this; exact this.1.symm
      rw [hdecl] at hown2
      rw [← e1]; exact Option.some.inj (C.own.symm.trans hown2)
    have h6 := u_fits hfc hkC hkind (Or.inr hlay) hi hty hn hfit
    exact W.putFinK C.1 C.2.1 C.own (C.ws _ hw) hi hst hcf (C.2.2.2.2.2.2.2.2.2.2.trans hf2.1) (by rw [q2]; exact h6) q1 q5 hlt rfl rfl d fin
  · unfold u_lay at hlay
    rw [if_neg hf] at hlay
    have h6 := u_store hfc hkC hkind hlay hi hty hn hfit
    exact W.putK C.1 C.2.1 (f := fd) ⟨C.own, C.ws _ hw, ⟨_, _, _, hi⟩, hst⟩ (by rw [q2]; exact h6) q1 q5 hlt rfl rfl d fin
theorem zz_fv_I {c a k : Nat} {x : Int32} (hi : zz_ir c k = false) (j : Nat) : zz_fv c a R (zz_up I a k x) j = if j = k then .int x else zz_fv c a R I j := by
  unfold zz_fv
  by_cases e : j = k
  · subst e
    rw [if_pos rfl, hi, zz_up_s]; rfl
  · rw [if_neg e, zz_up_k e]
theorem zz_fv_R {c a k : Nat} {x : Option Nat} (hi : zz_ir c k = true) (j : Nat) : zz_fv c a (zz_up R a k x) I j = if j = k then va_rf x else zz_fv c a R I j := by
  unfold zz_fv
  by_cases e : j = k
  · subst e
    rw [if_pos rfl, hi, zz_up_s]; rfl
  · rw [if_neg e, zz_up_k e]
theorem z_putI {ix c k a : Nat} {x : Int32} (d : zz_D M pc (.putfield ix) 3 nx) (f : zz_F M ix c k) (hK : K a = zz_o c) (ha : zz_A g a) (hi : zz_ty c k = .int) (hfin : zz_fin c k = false)
    (kk : Zz g l M mc ms Q QX ce sl nx lv st (K, R, zz_up I a k x, L, z)) : Zz g l M mc ms Q QX ce sl pc lv (.int x :: .ref a :: st) (K, R, I, L, z) :=
  z_put d f hK ha (Or.inl hfin) (by rw [hi]; rfl) (by rw [hi]; rfl) (fun _ _ => rfl) (fun _ hb => zz_up_r hb) (zz_fv_I (by unfold zz_ir; rw [hi]; rfl)) kk
theorem z_putS {ix c k a : Nat} {x : Int32} {ty : FieldType} (d : zz_D M pc (.putfield ix) 3 nx) (f : zz_F M ix c k) (hK : K a = zz_o c) (ha : zz_A g a) (hi : zz_ty c k = ty) (hr : ty.isReference = false) (hfin : zz_fin c k = false ∨ ((zz_y M).name = "<init>" ∧ zz_dc c k = (zz_y M).cls)) (hn : narrow ty (.int x) = .int x) (hf : fits ty (.int x) = true)
    (kk : Zz g l M mc ms Q QX ce sl nx lv st (K, R, zz_up I a k x, L, z)) : Zz g l M mc ms Q QX ce sl pc lv (.int x :: .ref a :: st) (K, R, I, L, z) :=
  z_put d f hK ha hfin (by rw [hi]; exact hn) (by rw [hi]; exact hf) (fun _ _ => rfl) (fun _ hb => zz_up_r hb) (zz_fv_I (by unfold zz_ir; rw [hi]; exact hr)) kk
theorem z_putR {ix c k a b : Nat} (d : zz_D M pc (.putfield ix) 3 nx) (f : zz_F M ix c k) (hK : K a = zz_o c) (ha : zz_A g a) (hi : zz_ir c k = true) (hfin : zz_fin c k = false ∨ ((zz_y M).name = "<init>" ∧ zz_dc c k = (zz_y M).cls)) (hn : narrow (zz_ty c k) (.ref b) = .ref b) (hf : fits (zz_ty c k) (.ref b) = true)
    (kk : Zz g l M mc ms Q QX ce sl nx lv st (K, zz_up R a k (some b), I, L, z)) : Zz g l M mc ms Q QX ce sl pc lv (.ref b :: .ref a :: st) (K, R, I, L, z) :=
  z_put d f hK ha hfin hn hf (fun _ hb => zz_up_r hb) (fun _ _ => rfl) (zz_fv_R hi) kk
/-! arrays -/
theorem z_alen {a t n : Nat} (d : zz_D M pc .arraylength 1 nx) (hK : K a = zz_a t n) (kk : Zz g l M mc ms Q QX ce sl nx lv (.int (nI n) :: st) (K, R, I, L, z)) : Zz g l M mc ms Q QX ce sl pc lv (.ref a :: st) (K, R, I, L, z) := by
  obtain ⟨d, rfl⟩ := d
  intro p e s m args below meth cd H locs ls C hH hl hL
  obtain ⟨cell, h1, h2, h3, h4, h5, h6, h7, h8⟩ := hH.2.1 a t n hK
  exact W.alen C.1 C.2.1 h1 (State.isArrayOf_alike C.kn.1 h2) h5 rfl rfl d (kk p e s m args below meth cd H locs ls C hH hl hL)
theorem zz_inb {cell : Cell} {i : Int32} {n j : Nat} (hi : i = nI j) (hj : j < n) (hn : n ≤ cell.slots.size) (hm : n < 2 ^ 31) : ¬ (i < 0 ∨ cell.slots.size ≤ i.toNatClampNeg) := by
  subst hi
  rw [nI_clamp (by omega)]
  intro h
  rcases h with h | h
  · exact nI_pos (show j < 2 ^ 31 by omega) h
  · omega
theorem zz_el_I {t a j : Nat} (ht : t < 3) : zz_el t a R I L j = .int (I a j) := by unfold zz_el; rw [if_pos ht]
theorem zz_el_L {a j : Nat} : zz_el 3 a R I L j = .long (L a j) := rfl
theorem zz_el_R {t a j : Nat} (ht : 3 < t) : zz_el t a R I L j = va_rf (R a j) := by unfold zz_el; rw [if_neg (by omega), if_neg (by omega)]
/-- .. an index that is a number below the length -/
theorem z_iald {a n j : Nat} {i : Int32} (d : zz_D M pc .iaload 1 nx) (hK : K a = zz_a 0 n) (hi : i = nI j) (hj : j < n) (hm : n < 2 ^ 31) (kk : Zz g l M mc ms Q QX ce sl nx lv (.int (I a j) :: st) (K, R, I, L, z)) : Zz g l M mc ms Q QX ce sl pc lv (.int i :: .ref a :: st) (K, R, I, L, z) := by
  obtain ⟨d, rfl⟩ := d
  intro p e s m args below meth cd H locs ls C hH hl hL
  obtain ⟨cell, h1, h2, h3, h4, h5, h6, h7, h8⟩ := hH.2.1 a 0 n hK
  refine W.iald C.1 C.2.1 h1 (State.isArrayOf_alike C.kn.1 h2) h3 (zz_inb hi hj h4 hm) (v := .int (I a j)) ?_ rfl rfl d (kk p e s m args below meth cd H locs ls C hH hl hL)
  rw [hi, nI_clamp (by omega), h6 j hj, zz_el_I (by omega)]
theorem z_cald {a n j : Nat} {i : Int32} (d : zz_D M pc .caload 1 nx) (hK : K a = zz_a 1 n) (hi : i = nI j) (hj : j < n) (hm : n < 2 ^ 31) (kk : fits .char (.int (I a j)) = true → Zz g l M mc ms Q QX ce sl nx lv (.int (I a j) :: st) (K, R, I, L, z)) : Zz g l M mc ms Q QX ce sl pc lv (.int i :: .ref a :: st) (K, R, I, L, z) := by
  obtain ⟨d, rfl⟩ := d
  intro p e s m args below meth cd H locs ls C hH hl hL
  obtain ⟨cell, h1, h2, h3, h4, h5, h6, h7, h8⟩ := hH.2.1 a 1 n hK
  refine W.cald C.1 C.2.1 h1 (State.isArrayOf_alike C.kn.1 h2) h3 (zz_inb hi hj h4 hm) (v := .int (I a j)) ?_ rfl rfl d (kk (h8 (by omega) j hj) p e s m args below meth cd H locs ls C hH hl hL)
  rw [hi, nI_clamp (by omega), h6 j hj, zz_el_I (by omega)]
theorem z_bald {a n j : Nat} {i : Int32} (d : zz_D M pc .baload 1 nx) (hK : K a = zz_a 2 n) (hi : i = nI j) (hj : j < n) (hm : n < 2 ^ 31) (kk : fits .byte (.int (I a j)) = true → Zz g l M mc ms Q QX ce sl nx lv (.int (I a j) :: st) (K, R, I, L, z)) : Zz g l M mc ms Q QX ce sl pc lv (.int i :: .ref a :: st) (K, R, I, L, z) := by
  obtain ⟨d, rfl⟩ := d
  intro p e s m args below meth cd H locs ls C hH hl hL
  obtain ⟨cell, h1, h2, h3, h4, h5, h6, h7, h8⟩ := hH.2.1 a 2 n hK
  refine W.bald C.1 C.2.1 h1 (State.isArrayOf_alike C.kn.1 h2) h3 (zz_inb hi hj h4 hm) (v := .int (I a j)) ?_ rfl rfl d (kk (h8 (by omega) j hj) p e s m args below meth cd H locs ls C hH hl hL)
  rw [hi, nI_clamp (by omega), h6 j hj, zz_el_I (by omega)]
theorem z_lald {a n j : Nat} {i : Int32} (d : zz_D M pc .laload 1 nx) (hK : K a = zz_a 3 n) (hi : i = nI j) (hj : j < n) (hm : n < 2 ^ 31) (kk : Zz g l M mc ms Q QX ce sl nx lv (.long (L a j) :: st) (K, R, I, L, z)) : Zz g l M mc ms Q QX ce sl pc lv (.int i :: .ref a :: st) (K, R, I, L, z) := by
  obtain ⟨d, rfl⟩ := d
  intro p e s m args below meth cd H locs ls C hH hl hL
  obtain ⟨cell, h1, h2, h3, h4, h5, h6, h7, h8⟩ := hH.2.1 a 3 n hK
  refine W.lald C.1 C.2.1 h1 (State.isArrayOf_alike C.kn.1 h2) h3 (zz_inb hi hj h4 hm) (v := .long (L a j)) ?_ rfl rfl d (kk p e s m args below meth cd H locs ls C hH hl hL)
  rw [hi, nI_clamp (by omega), h6 j hj, zz_el_L]
theorem z_aald {a t n j b : Nat} {i : Int32} (d : zz_D M pc .aaload 1 nx) (hK : K a = zz_a t n) (ht : 3 < t) (hi : i = nI j) (hj : j < n) (hm : n < 2 ^ 31) (hb : R a j = some b) (kk : Zz g l M mc ms Q QX ce sl nx lv (.ref b :: st) (K, R, I, L, z)) : Zz g l M mc ms Q QX ce sl pc lv (.int i :: .ref a :: st) (K, R, I, L, z) := by
  obtain ⟨d, rfl⟩ := d
  intro p e s m args below meth cd H locs ls C hH hl hL
  obtain ⟨cell, h1, h2, h3, h4, h5, h6, h7, h8⟩ := hH.2.1 a t n hK
  have hty : (zz_at t).isReference = true := by
    unfold zz_at
    split <;> first | omega | rfl
  refine W.aald C.1 C.2.1 h1 (State.isArrayOf_alike C.kn.1 h2) hty h3 (zz_inb hi hj h4 hm) (v := .ref b) ?_ rfl rfl d (kk p e s m args below meth cd H locs ls C hH hl hL)
  rw [hi, nI_clamp (by omega), h6 j hj, zz_el_R ht]
  show some (va_rf (R a j)) = _
  rw [hb]
  rfl
/-- a cell of an array after a store -/
theorem zz_ast_ar {H1 : Heap} {a t n j : Nat} {v : Value} {R' : Nat → Nat → Option Nat} {I' : Nat → Nat → Int32} {L' : Nat → Nat → Int64} (ht6 : t < 6) {s : State} (hK : zz_Kn g s) (hn : n < 2 ^ 31) (e : H1[a]? = some ((arrV (g.2.2.1 t) n (zz_el t a R I L)).setSlot j v)) (hv : zz_el t a R' I' L' = updV (zz_el t a R I L) j v) (hf : t < 3 → ∀ i, i < n → fits (zz_at t) (.int (I' a i)) = true) : zz_ar g R' I' L' H1 a t n := by
  rw [arrV_store, ← hv] at e
  refine ⟨_, e, State.isArrayOf_alike hK.1.symm ((hK.2.2.1 t ht6).1 n _), (fun q => by cases q), by rw [arrV_size]; exact Nat.le_refl n, by rw [arrV_size], fun i hi => arrV_read _ _ hi, fun _ => rfl, hf⟩
theorem zz_oneLoc {locs : List Loc} {a i : Nat} (hL : ∀ q ∈ locs, zz_A g q.base) (ha : zz_A g a) : ∀ q ∈ locs ++ [⟨a, i⟩], zz_A g q.base := fun q hq => by
  rcases List.mem_append.mp hq with h | h
  · exact hL q h
  · simp at h
    subst h
    exact ha
theorem zz_el_upI {t a j : Nat} {x : Int32} (ht : t < 3) : zz_el t a R (zz_up I a j x) L = updV (zz_el t a R I L) j (.int x) := by
  funext i
  unfold updV zz_el
  rw [if_pos ht, if_pos ht]
  by_cases e : i = j
  · subst e
    rw [if_pos rfl, zz_up_s]
  · rw [if_neg e, zz_up_k e]
theorem zz_fit_up {t a j n : Nat} {x : Int32} (h : ∀ i, i < n → fits (zz_at t) (.int (I a i)) = true) (hx : fits (zz_at t) (.int x) = true) : ∀ i, i < n → fits (zz_at t) (.int (zz_up I a j x a i)) = true := by
  intro i hi
  by_cases e : i = j
  · subst e
    rw [zz_up_s]; exact hx
  · rw [zz_up_k e]; exact h i hi
theorem z_iast {a n j : Nat} {i x : Int32} (d : zz_D M pc .iastore 1 nx) (hK : K a = zz_a 0 n) (ha : zz_A g a) (hi : i = nI j) (hj : j < n) (hm : n < 2 ^ 31) (kk : Zz g l M mc ms Q QX ce sl nx lv st (K, R, zz_up I a j x, L, z)) : Zz g l M mc ms Q QX ce sl pc lv (.int x :: .int i :: .ref a :: st) (K, R, I, L, z) := by
  obtain ⟨d, rfl⟩ := d
  intro p e s m args below meth cd H locs ls C hH hl hL
  obtain ⟨cell, h1, h2, h3, h4, h5, h6, h7, h8⟩ := hH.2.1 a 0 n hK
  refine W.iast C.1 C.2.1 h1 (State.isArrayOf_alike C.kn.1 h2) h3 (zz_inb hi hj h4 hm) rfl rfl d fun H1 e1 e2 e3 => ?_
  rw [hi, nI_clamp (by omega), h7 ha] at e1
  refine kk p e s m args below meth cd H1 _ ls C (hH.set ha e2 e3 (fun _ _ => rfl) (fun _ hb => zz_up_r hb) (fun _ _ => rfl) (fun c' hc' => absurd (hc'.symm.trans hK) zz_o_ne) (fun t' n' hc' => ?_)) hl (zz_oneLoc hL ha)
  obtain ⟨rfl, rfl⟩ := zz_a_inj (hc'.symm.trans hK)
  exact zz_ast_ar (by omega) C.kn hm e1 (zz_el_upI (by omega)) (fun ht => zz_fit_up (h8 ht) rfl)
theorem z_cast {a n j : Nat} {i x : Int32} (d : zz_D M pc .castore 1 nx) (hK : K a = zz_a 1 n) (ha : zz_A g a) (hi : i = nI j) (hj : j < n) (hm : n < 2 ^ 31) (hx : fits .char (.int x) = true) (hn : narrow .char (.int x) = .int x) (kk : Zz g l M mc ms Q QX ce sl nx lv st (K, R, zz_up I a j x, L, z)) : Zz g l M mc ms Q QX ce sl pc lv (.int x :: .int i :: .ref a :: st) (K, R, I, L, z) := by
  obtain ⟨d, rfl⟩ := d
  intro p e s m args below meth cd H locs ls C hH hl hL
  obtain ⟨cell, h1, h2, h3, h4, h5, h6, h7, h8⟩ := hH.2.1 a 1 n hK
  refine W.cast C.1 C.2.1 h1 (State.isArrayOf_alike C.kn.1 h2) h3 (zz_inb hi hj h4 hm) rfl rfl d fun H1 e1 e2 e3 => ?_
  rw [hi, nI_clamp (by omega), h7 ha, hn] at e1
  refine kk p e s m args below meth cd H1 _ ls C (hH.set ha e2 e3 (fun _ _ => rfl) (fun _ hb => zz_up_r hb) (fun _ _ => rfl) (fun c' hc' => absurd (hc'.symm.trans hK) zz_o_ne) (fun t' n' hc' => ?_)) hl (zz_oneLoc hL ha)
  obtain ⟨rfl, rfl⟩ := zz_a_inj (hc'.symm.trans hK)
  exact zz_ast_ar (by omega) C.kn hm e1 (zz_el_upI (by omega)) (fun ht => zz_fit_up (h8 ht) hx)
theorem z_bast {a n j : Nat} {i x : Int32} (d : zz_D M pc .bastore 1 nx) (hK : K a = zz_a 2 n) (ha : zz_A g a) (hi : i = nI j) (hj : j < n) (hm : n < 2 ^ 31) (hx : fits .byte (.int x) = true) (hn : narrow .byte (.int x) = .int x) (kk : Zz g l M mc ms Q QX ce sl nx lv st (K, R, zz_up I a j x, L, z)) : Zz g l M mc ms Q QX ce sl pc lv (.int x :: .int i :: .ref a :: st) (K, R, I, L, z) := by
  obtain ⟨d, rfl⟩ := d
  intro p e s m args below meth cd H locs ls C hH hl hL
  obtain ⟨cell, h1, h2, h3, h4, h5, h6, h7, h8⟩ := hH.2.1 a 2 n hK
  refine W.bast C.1 C.2.1 h1 (State.isArrayOf_alike C.kn.1 h2) h3 (zz_inb hi hj h4 hm) rfl rfl d fun H1 e1 e2 e3 => ?_
  rw [hi, nI_clamp (by omega), h7 ha, hn] at e1
  refine kk p e s m args below meth cd H1 _ ls C (hH.set ha e2 e3 (fun _ _ => rfl) (fun _ hb => zz_up_r hb) (fun _ _ => rfl) (fun c' hc' => absurd (hc'.symm.trans hK) zz_o_ne) (fun t' n' hc' => ?_)) hl (zz_oneLoc hL ha)
  obtain ⟨rfl, rfl⟩ := zz_a_inj (hc'.symm.trans hK)
  exact zz_ast_ar (by omega) C.kn hm e1 (zz_el_upI (by omega)) (fun ht => zz_fit_up (h8 ht) hx)
theorem z_last {a n j : Nat} {i : Int32} {x : Int64} (d : zz_D M pc .lastore 1 nx) (hK : K a = zz_a 3 n) (ha : zz_A g a) (hi : i = nI j) (hj : j < n) (hm : n < 2 ^ 31) (kk : Zz g l M mc ms Q QX ce sl nx lv st (K, R, I, zz_up L a j x, z)) : Zz g l M mc ms Q QX ce sl pc lv (.long x :: .int i :: .ref a :: st) (K, R, I, L, z) := by
  obtain ⟨d, rfl⟩ := d
  intro p e s m args below meth cd H locs ls C hH hl hL
  obtain ⟨cell, h1, h2, h3, h4, h5, h6, h7, h8⟩ := hH.2.1 a 3 n hK
  refine W.last C.1 C.2.1 h1 (State.isArrayOf_alike C.kn.1 h2) h3 (zz_inb hi hj h4 hm) rfl rfl d fun H1 e1 e2 e3 => ?_
  rw [hi, nI_clamp (by omega), h7 ha] at e1
  refine kk p e s m args below meth cd H1 _ ls C (hH.set ha e2 e3 (fun _ _ => rfl) (fun _ _ => rfl) (fun _ hb => zz_up_r hb) (fun c' hc' => absurd (hc'.symm.trans hK) zz_o_ne) (fun t' n' hc' => ?_)) hl (zz_oneLoc hL ha)
  obtain ⟨rfl, rfl⟩ := zz_a_inj (hc'.symm.trans hK)
  refine zz_ast_ar (by omega) C.kn hm e1 ?_ (fun ht => absurd ht (by omega))
  funext i
  unfold updV
  rw [zz_el_L, zz_el_L]
  by_cases q : i = j
  · subst q
    rw [if_pos rfl, zz_up_s]
  · rw [if_neg q, zz_up_k q]
/-- a reference into an array of telegrams (t = 4) or stores (t = 5) -/
theorem z_aast {a t n j v : Nat} {i : Int32} (d : zz_D M pc .aastore 1 nx) (hK : K a = zz_a t n) (ha : zz_A g a) (ht : (t = 4 ∧ K v = zz_o 6) ∨ (t = 5 ∧ K v = zz_o 5)) (hv : zz_A g v) (hi : i = nI j) (hj : j < n) (hm : n < 2 ^ 31) (kk : Zz g l M mc ms Q QX ce sl nx lv st (K, zz_up R a j (some v), I, L, z)) : Zz g l M mc ms Q QX ce sl pc lv (.ref v :: .int i :: .ref a :: st) (K, R, I, L, z) := by
  obtain ⟨d, rfl⟩ := d
  intro p e s m args below meth cd H locs ls C hH hl hL
  obtain ⟨cell, h1, h2, h3, h4, h5, h6, h7, h8⟩ := hH.2.1 a t n hK
  have h7 := h7 ha
  obtain ⟨c, r, hr, hrn, hKv, ht6, hta⟩ : ∃ (c : Nat) (r : vw_C), zz_cl[c]? = some r ∧ zz_at t = .object r.1 ∧ K v = zz_o c ∧ t < 6 ∧ 3 < t := by
    rcases ht with ⟨rfl, h⟩ | ⟨rfl, h⟩
    · exact ⟨6, _, rfl, rfl, h, by omega, by omega⟩
    · exact ⟨5, _, rfl, rfl, h, by omega, by omega⟩
  obtain ⟨r', cellV, hr', g1, g2, g3, g4, g5, -⟩ := hH.1 v c hKv
  cases hr.symm.trans hr'
  have hKn := C.kn
  have hcls := (hKn.2.1 c r hr).2
  have hRA := (hKn.2.2.1 t ht6).2
  rw [hrn] at hRA
  obtain ⟨kA, comp, k1, k2, k3, -⟩ := hRA
  have hcomp : comp = g.1 c := Option.some.inj (k3.symm.trans hcls.1)
  subst hcomp
  obtain ⟨kC, hkC, -⟩ := hcls.2
  rw [h7] at h1
  refine W.aast C.1 C.2.1 h1 (fun q h => by cases h) (fun h => by cases h) k1 k2 rfl hkC ⟨by rw [hi]; exact nI_pos (by omega), by rw [hi, nI_clamp (by omega), arrV_size]; exact hj⟩ g1 (fun q h => by rw [g5 hv] at h; cases h) (by rw [g2]; exact hkC) (by rw [g2]; exact va_assign hcls) rfl rfl d fun H1 e1 e2 e3 => ?_
  rw [hi, nI_clamp (by omega)] at e1
  refine kk p e s m args below meth cd H1 _ ls C (hH.set ha e2 e3 (fun _ hb => zz_up_r hb) (fun _ _ => rfl) (fun _ _ => rfl) (fun c' hc' => absurd (hc'.symm.trans hK) zz_o_ne) (fun t' n' hc' => ?_)) hl (zz_oneLoc hL ha)
  obtain ⟨rfl, rfl⟩ := zz_a_inj (hc'.symm.trans hK)
  refine zz_ast_ar ht6 hKn hm e1 ?_ (fun ht => absurd ht (by omega))
  funext i
  unfold updV
  rw [zz_el_R hta, zz_el_R hta]
  by_cases q : i = j
  · subst q
    rw [if_pos rfl, zz_up_s]; rfl
  · rw [if_neg q, zz_up_k q]
end HRules
