/-! RULES: a method's start, throws, handlers, statics, Strings, copies -/
section DRules
variable {g : zz_G} {l : Launch} {M : zz_M} {mc ms : Nat} {Q : Option Value → zz_H → Prop} {QX : String → zz_H → Prop} {ce sl pc nx : Nat} {lv : List (Option Value)} {st : List Value} {h : zz_H}
variable {K : Nat → Nat × Nat} {R : Nat → Nat → Option Nat} {I : Nat → Nat → Int32} {L : Nat → Nat → Int64} {z : Nat}
theorem zz_lv_start {av : List Value} {n : Nat} (hn : (lg_sl av).length ≤ n) : zz_lv (zz_lv0 av) n ((lg_sl av ++ List.replicate (n - (lg_sl av).length) Slot.unset).toArray) := by
  have h0 := lv_entry av hn
  refine ⟨h0.1, h0.2.1, fun i v hv => ?_⟩
  have := zz_lv0_args av 0 i v hv
  rw [Nat.zero_add] at this
  exact h0.2.2 (i, v) this
theorem zz_body {av : List Value} {p : Program} {e : Env} {s : State} {m : MethodId} {args : Array Value} {below : List Frame} {meth : Method} {c : Code} {s₁ : State} (hf : l.stackTraces = false) (hn : (lg_sl av).length ≤ zz_n M)
    (B : BodyLoose p l (zz_y M) (headSpec (zz_ws M) (zz_rm M mc ms)) (zz_b M) (zz_n M) (zz_r M) e s m args below meth c s₁) (hml : c.maxLocals = zz_n M) (ht : c.exceptionTable.toList = tableOf (zz_hh M)) (hP : va_Pc av (fun U => zz_W g h U) args s)
    (k : Zz g l M mc ms Q QX 0 0 0 (zz_lv0 av) [] h) : W p l e (headSpec (zz_ws M) (zz_rm M mc ms)).room s m args below meth c s.heap [] 0 0 (vx_MQ below (zz_Qc g Q) (zz_XC g QX) args s mc ms (zz_A g)) (entryFrame m args (zz_n M)) := by
  obtain ⟨rfl, hW⟩ := hP
  have hts := atoms_spec (ws := zz_ws M) B.pre
  rw [lg_entry_eq]
  exact k p e s m _ below meth c s.heap [] _ ⟨B.exec, B.bytes, B.returns, hml, findClass_of_methodNamed B.named, fun w hw => hts w (List.mem_cons_of_mem _ hw), ⟨h, hW⟩, B.notSynchronized, ht, hf, (name_of_methodNamed B.named B.method).1⟩ hW.2.1 (zz_lv_start hn) (fun q hq => nomatch hq)
/-- a method without handlers -/
theorem z_start {av : List Value} (hf : l.stackTraces = false) (hh : zz_hh M = []) (hp : plainName (zz_y M).cls = true) (hn : (lg_sl av).length ≤ zz_n M) (k : Zz g l M mc ms Q QX 0 0 0 (zz_lv0 av) [] h) : zz_S g l M mc ms av h Q QX := by
  refine vx_ofW hp (zz_cw_code hh) fun p e s m args below meth c s₁ B hml ht hP => ?_
  refine zz_body hf hn B hml ?_ hP k
  rw [hh]
  cases hc : c.exceptionTable.toList with
  | nil => rfl
  | cons x t => exact absurd (by rw [hc]; exact List.mem_cons_self) (fun q => ht x q)
/-- a method with handlers -/
theorem z_startW {av : List Value} (hf : l.stackTraces = false) (hh : zz_cw M = .codeWith (zz_y M) (zz_b M) (zz_n M) (zz_r M) (zz_hh M)) (hp : plainName (zz_y M).cls = true) (hn : (lg_sl av).length ≤ zz_n M) (k : Zz g l M mc ms Q QX 0 0 0 (zz_lv0 av) [] h) : zz_S g l M mc ms av h Q QX := by
  have hw : zz_ws M = Cond.codeWith (zz_y M) (zz_b M) (zz_n M) (zz_r M) (zz_hh M) :: zz_gw := by unfold zz_ws; rw [hh]
  refine vx_ofWH hp hw fun p e s m args below meth c s₁ B hml hP => ?_
  exact zz_body hf hn B hml (vx_table (x := zz_y M) B (atoms_spec (ws := zz_ws M) B.pre _ (by rw [hw]; exact List.mem_cons_self))) hP k
/-- 'throw new E()' at pc -/
def zz_T (M : zz_M) (pc ik ic : Nat) (E : String) (names : List String) : Prop :=
  (decode (zz_b M) pc = .ok (.new ik, 3) ∧ decode (zz_b M) (pc + 3) = .ok (.dup, 1) ∧ decode (zz_b M) (pc + 4) = .ok (.invokespecial ic, 3) ∧ decode (zz_b M) (pc + 7) = .ok (.athrow, 1)) ∧
  Bundle.fit E = true ∧ (∀ n ∈ names, Bundle.fit n = true) ∧ Cond.classLink (zz_y M).cls ik E ∈ zz_gw ∧ Cond.initialized E ∈ zz_gw ∧
  (∀ w ∈ vx_at0 (zz_y M).cls ic E names, w ∈ zz_gw ∨ w ∈ zz_nw) ∧ (∀ w ∈ Cond.classLink (zz_y M).cls ik E :: Cond.initialized E :: vx_at0 (zz_y M).cls ic E names, vx_ot w = true) ∧
  names.length + 3 < zz_d M ∧ 8 + (13 * (names.length + 1) + 42) ≤ 40 * zz_d M
theorem zz_Nw.use {args : Array Value} {s : State} (k : zz_Nw s) {w : Cond} (hw : w ∈ zz_nw) : w.before args s = true := by
  have h0 := k w hw
  have hk := (List.mem_filter.mp hw).2
  simp only [Bool.and_eq_true] at hk
  have hk := hk.2
  cases w <;> first
    | exact va_Nw.use rfl h0
    | (simp [zz_nk] at hk)
theorem z_throw {ik ic : Nat} {E : String} {names : List String} (T : zz_T M pc ik ic E names) (hh : zz_hh M = []) (hW : (st.map fun v => v.category).sum ≤ 8) (hc : ce + 1 ≤ mc) (hs : sl + 6 ≤ ms)
    (hq : ∀ z', z ≤ z' → QX E (K, R, I, L, z')) : Zz g l M mc ms Q QX ce sl pc lv st (K, R, I, L, z) := by
  obtain ⟨⟨d0, d3, d4, d7⟩, t1, t2, t3, t4, t5, t6, t7, t8⟩ := T
  intro p e s m args below meth cd H locs ls C hH hl hL
  obtain ⟨h0, k1, k2, k3⟩ := C.2.2.2.2.2.2.1
  intro T hT X
  have hS : va_S (zz_A g) s.heap H locs := ⟨by rw [← hT]; exact X.same.2.1, fun q _ hq => zz_hp.old k2 hH q hq, hL⟩
  refine vx_throw0 (own := (zz_y M).cls) (cls := E) (names := names) (ik := ik) (ic := ic) (A := zz_A g) (mc := mc) (ms := ms) (free := zz_A g) C.1 C.2.1 C.2.2.2.2.2.2.2.2.2.1 C.own t1 t2 (C.ws _ t3) (C.ws _ t4) (fun w hw => ?_) t6 k3.1 k3.2.1 hS (hl.1.trans C.2.2.2.1.symm) d0 d3 d4 d7 (fun y hy => ?_) t7 (by show _ ≤ 40 * zz_d M; omega) hc hs C.2.2.2.2.2.2.2.1 (fun t _ h1 h2 => ⟨_, zz_hp.grow hH h1 h2, hq _ (by rw [show z = H.size from hH.2.2.2.2]; exact h1)⟩) hL hc hs T hT X
  · rcases t5 w hw with q | q
    · exact C.ws _ q
    · exact C.kn.2.2.2.1.use q
  · rw [C.2.2.2.2.2.2.2.2.1, hh] at hy
    simp [tableOf] at hy
/-- at pc an exception of class E goes to tgt -/
def zz_Hd (M : zz_M) (pc : Nat) (E : String) (tgt : Nat) : Prop := ∃ (pre : List ExceptionTableEntry) (x : ExceptionTableEntry) (suf : List ExceptionTableEntry), tableOf (zz_hh M) = pre ++ x :: suf ∧
  (∀ y ∈ pre, covers y pc = false ∨ (y.catchType ≠ 0 ∧ ∃ nm : String, Cond.classLink (zz_y M).cls y.catchType nm ∈ zz_gw ∧ (E, nm) ∈ zz_nc)) ∧ covers x pc = true ∧ x.catchType ≠ 0 ∧ Cond.classLink (zz_y M).cls x.catchType E ∈ zz_gw ∧ Cond.castable E E ∈ zz_nw ∧ x.handlerPc = tgt
theorem z_callVh {M' : zz_M} {ix n b c mc' ms' : Nat} {As : List Value} {Q' : Option Value → zz_H → Prop} {QX' : String → zz_H → Prop} (d : zz_D M pc (.invokevirtual ix) 3 nx) (w : zz_kV M M' ix n) (hK : h.1 b = zz_o c) (hcn : zz_cn c = (zz_y M').cls) (hn : As.length = n) (hW : (st.map fun v => v.category).sum ≤ 8) (hf : ce + mc' ≤ mc ∧ sl + ms' ≤ ms)
    (S : zz_S g l M' mc' ms' (.ref b :: As) h Q' QX') (hx : ∀ E h', QX' E h' → ∃ tgt, zz_Hd M pc E tgt ∧ ∀ q : Nat, Zz g l M mc ms Q QX (ce + mc') (sl + ms') tgt lv [.ref q] h') (kk : ∀ v h', Q' v h' → Zz g l M mc ms Q QX (ce + mc') (sl + ms') nx lv (v.toList ++ st) h') : Zz g l M mc ms Q QX ce sl pc lv (As.reverse ++ .ref b :: st) h := by
  obtain ⟨d, rfl⟩ := d
  intro p e s m args below meth cd H locs ls C hH hl hL
  refine zz_after (zz_runV C hH hl d w hK hcn hn hW hf S) hL (fun E h' H1 locs1 x q hp hq hL1 h1 h2 h3 => ?_) (fun v h' H1 locs1 hp hq hL1 => kk v h' hq p e s m args below meth cd H1 locs1 ls C hp hl hL1)
  obtain ⟨tgt, ⟨pre, y, suf, e1, e2, e3, e4, e5, e6, rfl⟩, kh⟩ := hx E h' hq
  refine vx_catch C.own pre y suf (by rw [C.2.2.2.2.2.2.2.2.1]; exact e1) (fun y hy => ?_) e3 e4 (C.ws _ e5) (C.kn.2.2.2.1.use e6) h1 h2 h3 (kh q p e s m args below meth cd H1 locs1 ls C hp hl hL1)
  rcases e2 y hy with q | ⟨q1, nm, q2, q3⟩
  · exact Or.inl q
  · exact Or.inr ⟨q1, nm, C.ws _ q2, C.kn.2.2.2.2.2.1 _ q3⟩
/-! statics -/
theorem zz_C.stt {p : Program} {s : State} {m : MethodId} {args : Array Value} {meth : Method} {c : Code} (C : zz_C g l M p s m args meth c) : zz_St g s s.heap := C.2.2.2.2.2.2.1.choose_spec.2.2
theorem zz_sS {p : Program} {e : Env} {Rm : Room} {s : State} {m : MethodId} {args : Array Value} {below : List Frame} {meth : Method} {c : Code} {H : Heap} {locs : List Loc} {T : State} (C : zz_C g l M p s m args meth c) (hH : zz_hp g h H) (hL : ∀ q ∈ locs, zz_A g q.base) (hT : T.heap = H) (X : Stand p l e Rm s m args below meth c T locs ce sl) : va_S (zz_A g) s.heap H locs :=
  ⟨by rw [← hT]; exact X.same.2.1, fun q _ hq => zz_hp.old C.2.2.2.2.2.2.1.choose_spec.2.1 hH q hq, hL⟩
theorem z_gets {ix : Nat} {C0 n dd : String} {v : Value} (d : zz_D M pc (.getstatic ix) 3 nx) (hZ : ∀ s, zz_St g s s.heap → va_Z C0 n dd v (zz_A g) s s.heap) (hw : Cond.fieldLink (zz_y M).cls ix C0 n dd ∈ zz_gw)
    (kk : Zz g l M mc ms Q QX ce sl nx lv (v :: st) h) : Zz g l M mc ms Q QX ce sl pc lv st h := by
  obtain ⟨d, rfl⟩ := d
  intro p e s m args below meth cd H locs ls C hH hl hL T hT X
  exact va_gets C.1 C.2.1 (hZ s C.stt) (zz_sS C hH hL hT X) C.own (C.ws _ hw) (fun _ h => h) d (kk p e s m args below meth cd H locs ls C hH hl hL) T hT X
theorem z_getsq {ix : Nat} {C0 n dd : String} (d : zz_D M pc (.getstatic ix) 3 nx) (hZ : ∀ s, zz_St g s s.heap → va_Zq C0 n dd (zz_A g) s s.heap) (hw : Cond.fieldLink (zz_y M).cls ix C0 n dd ∈ zz_gw)
    (kk : ∀ v : Value, (v = .null ∨ ∃ a, v = .ref a) → Zz g l M mc ms Q QX ce sl nx lv (v :: st) h) : Zz g l M mc ms Q QX ce sl pc lv st h := by
  obtain ⟨d, rfl⟩ := d
  intro p e s m args below meth cd H locs ls C hH hl hL T hT X
  rcases hZ s C.stt with hz | ⟨a, hz⟩
  · exact va_gets C.1 C.2.1 hz (zz_sS C hH hL hT X) C.own (C.ws _ hw) (fun _ h => h) d (kk .null (Or.inl rfl) p e s m args below meth cd H locs ls C hH hl hL) T hT X
  · exact va_gets C.1 C.2.1 hz (zz_sS C hH hL hT X) C.own (C.ws _ hw) (fun _ h => h) d (kk (.ref a) (Or.inr ⟨a, rfl⟩) p e s m args below meth cd H locs ls C hH hl hL) T hT X
/-- a String constant -/
theorem z_ldcS {ix i : Nat} {tx : String} (d : zz_D M pc (.ldc ix) 2 nx) (hw : ((zz_y M).cls, ix, tx, i) ∈ zz_str) (kk : Zz g l M mc ms Q QX ce sl nx lv (.ref (g.2.2.2.2 i) :: st) h) : Zz g l M mc ms Q QX ce sl pc lv st h := by
  obtain ⟨d, rfl⟩ := d
  intro p e s m args below meth cd H locs ls C hH hl hL
  exact va_ldcS C.1 C.2.1 C.own (C.kn.2.2.2.2.1 _ hw) d (kk p e s m args below meth cd H locs ls C hH hl hL)
theorem zz_prim {t : Nat} (ht : t < 3) : refKind (zz_at t) = false := by
  match t, ht with
  | 0, _ => rfl
  | 1, _ => rfl
  | 2, _ => rfl
def zz_cp (I : Nat → Nat → Int32) (a0 a1 sp dp n : Nat) : Nat → Nat → Int32 := fun b => if b = a1 then va_cpy (I a0) (I a1) sp dp n else I b
theorem zz_cp_s {a0 a1 sp dp n : Nat} : zz_cp I a0 a1 sp dp n a1 = va_cpy (I a0) (I a1) sp dp n := by simp [zz_cp]
theorem zz_cp_n {a0 a1 sp dp n b : Nat} (h : b ≠ a1) : zz_cp I a0 a1 sp dp n b = I b := by simp [zz_cp, h]
/-- a whole row of chars or bytes is written -/
theorem zz_hp_wr {s : State} {H : Heap} {t n1 a1 : Nat} {f : Nat → Int32} {I' : Nat → Nat → Int32} (hKn : zz_Kn g s) (ht : t < 3) (hH : zz_hp g (K, R, I, L, z) H) (h1 : K a1 = zz_a t n1) (ha : zz_A g a1) (hf : ∀ j, j < n1 → fits (zz_at t) (.int (f j)) = true) (hI : ∀ b, b ≠ a1 → I' b = I b) (hI1 : I' a1 = f) :
    zz_hp g (K, R, I', L, z) (H.setIfInBounds a1 (arrV (g.2.2.1 t) n1 (fun j => .int (f j)))) := by
  have hlt : a1 < H.size := (hH.2.1 a1 t n1 h1).lt
  refine hH.set ha (by simp) (fun q hq => by simp [Array.getElem?_setIfInBounds, Ne.symm hq]) (fun _ _ => rfl) hI (fun _ _ => rfl) (fun c' hc' => absurd (hc'.symm.trans h1) zz_o_ne) (fun t' n' hc' => ?_)
  obtain ⟨rfl, rfl⟩ := zz_a_inj (hc'.symm.trans h1)
  have e4 : zz_el t' a1 R I' L = fun j => .int (f j) := by
    funext j
    rw [zz_el_I ht, hI1]
  refine ⟨_, by rw [Array.getElem?_setIfInBounds_self_of_lt hlt], State.isArrayOf_alike hKn.1.symm ((hKn.2.2.1 t' (by omega)).1 n' _), (fun q => by cases q), by rw [arrV_size]; exact Nat.le_refl _, by rw [arrV_size], fun i hi => by rw [arrV_read _ _ hi, e4], fun _ => by rw [e4], fun _ j hj => by rw [hI1]; exact hf j hj⟩
/-- System.arraycopy of chars (t = 1) or bytes (t = 2) into an array of our own -/
theorem z_copy {ix t n0 n1 a0 a1 sp dp n : Nat} {x0 x1 x2 : Int32} (d : zz_D M pc (.invokestatic ix) 3 nx) (ht : t < 3) (w1 : Cond.methodLink (zz_y M).cls ix arraycopyName ∈ zz_gw) (w2 : Cond.native arraycopyName ∈ zz_gw) (w3 : Cond.static arraycopyName ∈ zz_gw) (w4 : Cond.initialized "java/lang/System" ∈ zz_gw)
    (h0 : K a0 = zz_a t n0) (h1 : K a1 = zz_a t n1) (ha : zz_A g a1) (e0 : x0 = nI sp) (e1 : x1 = nI dp) (e2 : x2 = nI n) (b0 : sp + n ≤ n0) (b1 : dp + n ≤ n1) (m0 : n0 < 2 ^ 31) (m1 : n1 < 2 ^ 31) (hd : 1 ≤ zz_d M) (hW : (st.map fun v => v.category).sum + (nativeFrameWords "java/lang/System" "arraycopy" 5 + 11) ≤ 40 * zz_d M)
    (kk : Zz g l M mc ms Q QX ce sl nx lv st (K, R, zz_cp I a0 a1 sp dp n, L, z)) : Zz g l M mc ms Q QX ce sl pc lv (.int x2 :: .int x1 :: .ref a1 :: .int x0 :: .ref a0 :: st) (K, R, I, L, z) := by
  obtain ⟨d, rfl⟩ := d
  intro p e s m args below meth cd H locs ls C hH hl hL
  have kK := kk p e s m args below meth cd
  obtain ⟨cs, s1, s2, s3, s4, s5, s6, s7, s8⟩ := hH.2.1 a0 t n0 h0
  obtain ⟨c1, r1, r2, r3, r4, r5, r6, r7, r8⟩ := hH.2.1 a1 t n1 h1
  have r7 := r7 ha
  subst e0; subst e1; subst e2
  intro T hT X
  have hal := C.kn.1
  obtain ⟨i0, k0, hk0, cm0, hkk0⟩ := State.isArrayOf_alike hal s2
  obtain ⟨i1, k1, hk1, cm1, hkk1⟩ := State.isArrayOf_alike hal r2
  have nn : ∀ k : Nat, k < 2 ^ 31 → (nI k).toInt = (k : Int) := fun k hk => nI_toInt hk
  have hsz1 : c1.slots.size = n1 := by rw [r7, arrV_size]
  have hprim : refKind (zz_at t) = false := zz_prim ht
  have q1 : ¬ (nI sp).toInt + (nI n).toInt > (cs.slots.size : Int) := by rw [nn sp (by omega), nn n (by omega)]; omega
  have q2 : ¬ (nI dp).toInt + (nI n).toInt > (c1.slots.size : Int) := by rw [nn dp (by omega), nn n (by omega), hsz1]; omega
  have q3 : ∀ vm', s.vm.Alike vm' → ∀ i, i < (nI n).toNatClampNeg → fits (zz_at t) (cs.slots.getD ((nI sp).toNatClampNeg + i) .null) = true ∧ (T.setVm vm').takes cm1 (cs.slots.getD ((nI sp).toNatClampNeg + i) .null) := by
    intro vm₁ _ i hi
    rw [nI_clamp (by omega)] at hi
    rw [nI_clamp (by omega)]
    have e : cs.slots.getD (sp + i) .null = .int (I a0 (sp + i)) := by
      rw [Array.getD_eq_getD_getElem?, s6 _ (by omega), zz_el_I ht]
      rfl
    rw [e]
    exact ⟨s8 ht _ (by omega), trivial⟩
  have q4 : ((refKind (zz_at t) != refKind (zz_at t)) || (!refKind (zz_at t) && zz_at t != zz_at t)) = false := by simp [hprim]
  have p1 : ¬ nI sp < 0 := nI_pos (by omega)
  have p2 : ¬ nI dp < 0 := nI_pos (by omega)
  have p3 : ¬ nI n < 0 := nI_pos (by omega)
  have hlo : 2 * (F0 m pc ls (.int (nI n) :: .int (nI dp) :: .ref a1 :: .int (nI sp) :: .ref a0 :: st)).monitorRoom + (st.map fun v => v.category).sum + (nativeFrameWords "java/lang/System" "arraycopy" 5 + 11) ≤ (zz_rm M mc ms).locals := by
    show 2 * 0 + _ + _ ≤ 40 * zz_d M
    omega
  have hT0 : T.heap[a0]? = some cs := by rw [hT]; exact s1
  have hT1 : T.heap[a1]? = some c1 := by rw [hT]; exact r1
  have hdd : decode cd.code pc = .ok (.invokestatic ix, 3) := by rw [C.2.1]; exact d
  have hsz : ls.size = cd.maxLocals := by rw [C.2.2.2.1]; exact hl.1
  obtain ⟨vm', X', step⟩ := X.arraycopy C.1 C.own (C.ws _ w1) (C.ws _ w2) (C.ws _ w3) (C.ws _ w4) (src := a0) (dst := a1) (cs := cs) (cd := c1) (srcPos := nI sp) (destPos := nI dp) (n := nI n) (sType := zz_at t) (dType := zz_at t) hT0 hT1
    i0 i1 s3 r3 hk0 hk1 hkk0 hkk1 q4 p1 p2 p3 q1 q2 q3
    (g := F0 m pc ls (.int (nI n) :: .int (nI dp) :: .ref a1 :: .int (nI sp) :: .ref a0 :: st)) rfl hsz (rest := st) rfl hdd hd hlo
  have e1 : copied cs c1 (nI sp) (nI dp) (nI n) = arrV (g.2.2.1 t) n1 (fun j => .int (va_cpy (I a0) (I a1) sp dp n j)) := by
    have e3 : c1 = arrV (g.2.2.1 t) n1 (fun j => .int (I a1 j)) := by
      rw [r7]
      congr 1
      funext j
      exact zz_el_I ht
    have e5 := va_copiedX (fun x => Value.int x) cs (g.2.2.1 t) (n0 := n0) (n1 := n1) (sp := sp) (dp := dp) (n := n) (I a0) (I a1) (fun j hj => by rw [s6 j hj, zz_el_I ht]) b0
    rw [← e5, ← e3]
    show c1.storeRun (nI dp).toNatClampNeg (cs.stretch (nI sp).toNatClampNeg (nI n).toNatClampNeg) = _
    rw [nI_clamp (by omega), nI_clamp (by omega), nI_clamp (by omega)]
  rw [e1] at X' step
  have hheap : ((T.setVm vm').setCell a1 (arrV (g.2.2.1 t) n1 (fun j => .int (va_cpy (I a0) (I a1) sp dp n j)))).heap = H.setIfInBounds a1 (arrV (g.2.2.1 t) n1 (fun j => .int (va_cpy (I a0) (I a1) sp dp n j))) := by rw [← hT]; rfl
  have hfit : ∀ j, j < n1 → fits (zz_at t) (.int (va_cpy (I a0) (I a1) sp dp n j)) = true := by
    intro j hj
    unfold va_cpy
    split
    · exact s8 ht _ (by omega)
    · exact r8 ht _ hj
  have hp2 := zz_hp_wr (I' := zz_cp I a0 a1 sp dp n) C.kn ht hH h1 ha hfit (fun b hb => zz_cp_n hb) zz_cp_s
  obtain ⟨t2, a2, b2⟩ := kK _ _ ls C hp2 hl (fun q hq => by
      rcases List.mem_append.mp hq with h | h
      · exact hL q h
      · obtain ⟨z, -, hz⟩ := List.mem_map.mp h
        rw [← hz]
        exact ha) _ hheap X'
  exact ⟨t2, step t2 a2, b2⟩
end DRules
