/-! RULES: new, calls, throws, a method's start -/
section CRules
variable {g : zz_G} {l : Launch} {M : zz_M} {mc ms : Nat} {Q : Option Value → zz_H → Prop} {QX : String → zz_H → Prop} {ce sl pc nx : Nat} {lv : List (Option Value)} {st : List Value} {h : zz_H}
variable {K : Nat → Nat × Nat} {R : Nat → Nat → Option Nat} {I : Nat → Nat → Int32} {L : Nat → Nat → Int64} {z : Nat}
def zz_K (K : Nat → Nat × Nat) (a : Nat) (kd : Nat × Nat) : Nat → Nat × Nat := fun b => if b = a then kd else K b
theorem zz_K_s {a : Nat} {kd : Nat × Nat} : zz_K K a kd a = kd := by simp [zz_K]
theorem zz_K_n {a b : Nat} {kd : Nat × Nat} (h : b ≠ a) : zz_K K a kd b = K b := by simp [zz_K, h]
def zz_0 {α : Type} (f : Nat → Nat → α) (a : Nat) (x : α) : Nat → Nat → α := fun b j => if b = a then x else f b j
theorem zz_0_s {α : Type} {f : Nat → Nat → α} {a j : Nat} {x : α} : zz_0 f a x a j = x := by simp [zz_0]
theorem zz_0_n {α : Type} {f : Nat → Nat → α} {a b : Nat} {x : α} (h : b ≠ a) : zz_0 f a x b = f b := by funext j; simp [zz_0, h]
/-- entry ix of M's class is the class c of the picture, of n slots -/
def zz_Nw2 (M : zz_M) (ix c n : Nat) : Prop := Cond.classLink (zz_y M).cls ix (zz_cn c) ∈ zz_gw ∧ Cond.instantiable (zz_cn c) n ∈ zz_gw ∧ Cond.initialized (zz_cn c) ∈ zz_gw ∧ c < zz_cl.length
theorem zz_cn_of {c : Nat} {r : vw_C} (hr : zz_cl[c]? = some r) : zz_cn c = r.1 := by unfold zz_cn; rw [hr]
/-- all the defaults -/
theorem zz_dflt {c k : Nat} {r : vw_C} (hr : zz_cl[c]? = some r) (h : zz_ir c k = true → (zz_0 R z none) z k = none) (hk : k < r.2.2) (hp : (zz_ty c k).isReference = true ∨ defaultValue (zz_ty c k) = .int 0) : defaultValue (zz_ty c k) = zz_fv c z (zz_0 R z none) (zz_0 I z 0) k := by
  unfold zz_fv
  rw [zz_0_s, zz_0_s]
  unfold zz_ir
  rcases hp with hp | hp
  · rw [if_pos hp]
    cases ht : zz_ty c k <;> rw [ht] at hp <;> first | rfl | (cases hp)
  · by_cases hq : (zz_ty c k).isReference = true
    · rw [if_pos hq]
      cases ht : zz_ty c k <;> rw [ht] at hq <;> first | rfl | (cases hq)
    · rw [if_neg hq]
      exact hp
theorem zz_cl_df : (zz_cl.zipIdx.all fun r => (List.range r.1.2.2).all fun k => decide ((zz_ty r.2 k).isReference = true ∨ defaultValue (zz_ty r.2 k) = .int 0)) = true := by decide +kernel
theorem zz_clD {c : Nat} {r : vw_C} (h : zz_cl[c]? = some r) {k : Nat} (hk : k < r.2.2) : (zz_ty c k).isReference = true ∨ defaultValue (zz_ty c k) = .int 0 := by
  have h1 := List.all_eq_true.mp zz_cl_df (r, c) (List.mem_zipIdx_iff_getElem?.mpr h)
  exact of_decide_eq_true (List.all_eq_true.mp h1 k (List.mem_range.mpr hk))
theorem z_new {ix c n : Nat} (d : zz_D M pc (.new ix) 3 nx) (w : zz_Nw2 M ix c n) (hc : ce + 1 ≤ mc) (hs : sl + n ≤ ms)
    (kk : zz_A g z → Zz g l M mc ms Q QX (ce + 1) (sl + n) nx lv (.ref z :: st) (zz_K K z (zz_o c), zz_0 R z none, zz_0 I z 0, L, z + 1)) : Zz g l M mc ms Q QX ce sl pc lv st (K, R, I, L, z) := by
  obtain ⟨d, rfl⟩ := d
  intro p e s m args below meth cd H locs ls C hH hl hL
  obtain ⟨w1, w2, w3, w4⟩ := w
  obtain ⟨r, hr⟩ : ∃ r, zz_cl[c]? = some r := ⟨_, List.getElem?_eq_getElem w4⟩
  rw [zz_cn_of hr] at w1 w2 w3
  have hKn := C.kn
  have hKc := hKn.2.1 c r hr
  have hz : z = H.size := hH.2.2.2.2
  have hA : zz_A g z := by show (zz_hb g).size ≤ z; rw [hz]; exact hH.2.2.2.1
  refine W.newcK C.1 C.2.1 C.own (C.ws _ w1) (C.ws _ w2) (C.ws _ w3) rfl d hc hs hKc.2.1 rfl fun H1 kC hkC e1 z1 o1 => ?_
  have hb := u_born (zz_ty c) C.ws (zz_clI hr) hKc hkC e1 (zz_clT hr)
  obtain ⟨cell, b1, b2, b3, b4⟩ := hb
  have key := kk hA p e s m args below meth cd H1 locs ls C (hH.push (kd := zz_o c) z1 o1 (fun b hb => zz_0_n hb) (fun b hb => zz_0_n hb) (fun _ _ => rfl) (fun c' hc' => ?_) (fun t' n' hc' => absurd hc' zz_o_ne)) hl hL
  · rw [hz] at key
    rw [← hz] at key ⊢
    exact key
  · have : c' = c := by simpa using hc'.symm
    subst this
    rw [hz]
    refine ⟨r, cell, hr, b1, b2, by rw [b3]; rfl, by rw [b3]; exact fun h => (by cases h), fun _ => b3, fun k hk => ?_⟩
    rw [b4 k hk]
    exact congrArg some (zz_dflt (z := H.size) hr (fun _ => zz_0_s) hk (zz_clD hr hk))
def zz_an : Nat → ArrayType := fun t => match t with
  | 0 => .int
  | 1 => .char
  | 2 => .byte
  | _ => .long
theorem zz_an_ty {t : Nat} (h : t < 4) : newarray.typeOf (zz_an t) = zz_at t := by
  match t, h with
  | 0, _ => rfl
  | 1, _ => rfl
  | 2, _ => rfl
  | 3, _ => rfl
theorem z_newa {t n : Nat} {x : Int32} (d : zz_D M pc (.newarray (zz_an t)) 2 nx) (ht : t < 4) (hw : Cond.arrayClass (zz_at t) ∈ zz_gw) (hx : x = nI n) (hn : n < 2 ^ 20) (hc : ce + 1 ≤ mc) (hs : sl + n ≤ ms)
    (kk : zz_A g z → Zz g l M mc ms Q QX (ce + 1) (sl + n) nx lv (.ref z :: st) (zz_K K z (zz_a t n), R, zz_0 I z 0, zz_0 L z 0, z + 1)) : Zz g l M mc ms Q QX ce sl pc lv (.int x :: st) (K, R, I, L, z) := by
  obtain ⟨d, rfl⟩ := d
  intro p e s m args below meth cd H locs ls C hH hl hL
  have hKn := C.kn
  have hz : z = H.size := hH.2.2.2.2
  have hA : zz_A g z := by show (zz_hb g).size ≤ z; rw [hz]; exact hH.2.2.2.1
  have hcb : n * componentBytes (newarray.typeOf (zz_an t)) ≤ 536870912 := by
    have : componentBytes (newarray.typeOf (zz_an t)) ≤ 8 := by
      rw [zz_an_ty ht]
      match t, ht with
      | 0, _ => decide
      | 1, _ => decide
      | 2, _ => decide
      | 3, _ => decide
    calc n * componentBytes (newarray.typeOf (zz_an t)) ≤ n * 8 := Nat.mul_le_mul_left _ this
      _ ≤ 536870912 := by omega
  refine va_newaK C.1 C.2.1 (by rw [zz_an_ty ht]; exact C.ws _ hw) rfl d rfl (by rw [hx]; exact nI_pos (by omega)) (by rw [hx, nI_clamp (by omega)]) hcb hc hs rfl fun H1 cA e1 z1 o1 hAr hNm => ?_
  have hcA : cA = g.2.2.1 t := by
    have h2 := (hKn.2.2.1 t (by omega)).2
    rw [zz_an_ty ht] at hNm
    have h3 : s.vm.findClass ("[" ++ (zz_at t).toString) = some (g.2.2.1 t) := by
      match t, ht with
      | 0, _ => exact h2
      | 1, _ => exact h2
      | 2, _ => exact h2
      | 3, _ => exact h2
    exact Option.some.inj (hNm.symm.trans h3)
  subst hcA
  have key := kk hA p e s m args below meth cd H1 locs ls C (hH.push (kd := zz_a t n) z1 o1 (fun _ _ => rfl) (fun b hb => zz_0_n hb) (fun b hb => zz_0_n hb) (fun c' hc' => absurd hc'.symm zz_o_ne) (fun t' n' hc' => ?_)) hl hL
  · rw [hz] at key
    rw [← hz] at key ⊢
    exact key
  · obtain ⟨rfl, rfl⟩ := zz_a_inj hc'.symm
    rw [hz]
    have e2 : zz_el t' H.size R (zz_0 I H.size 0) (zz_0 L H.size 0) = fun _ => defaultValue (newarray.typeOf (zz_an t')) := by
      funext j
      rw [zz_an_ty ht]
      match t', ht with
      | 0, _ => unfold zz_el; rw [zz_0_s]; rfl
      | 1, _ => unfold zz_el; rw [zz_0_s]; rfl
      | 2, _ => unfold zz_el; rw [zz_0_s]; rfl
      | 3, _ => rw [zz_el_L, zz_0_s]; rfl
    refine ⟨_, e1, State.isArrayOf_alike hKn.1.symm ((hKn.2.2.1 t' (by omega)).1 n' _), (fun q => by cases q), by rw [arrV_size]; exact Nat.le_refl _, by rw [arrV_size], fun i hi => by rw [arrV_read _ _ hi, e2], fun _ => by rw [e2], fun h3 j hj => ?_⟩
    rw [zz_0_s]
    match t', h3 with
    | 0, _ => rfl
    | 1, _ => rfl
    | 2, _ => rfl
theorem z_anew {ix t c n : Nat} {x : Int32} (d : zz_D M pc (.anewarray ix) 3 nx) (ht : (t = 4 ∧ c = 6) ∨ (t = 5 ∧ c = 5)) (hw : Cond.classLink (zz_y M).cls ix (zz_cn c) ∈ zz_gw) (hx : x = nI n) (hn : n < 2 ^ 20) (hc : ce + 1 ≤ mc) (hs : sl + n ≤ ms)
    (kk : zz_A g z → Zz g l M mc ms Q QX (ce + 1) (sl + n) nx lv (.ref z :: st) (zz_K K z (zz_a t n), zz_0 R z none, I, L, z + 1)) : Zz g l M mc ms Q QX ce sl pc lv (.int x :: st) (K, R, I, L, z) := by
  obtain ⟨d, rfl⟩ := d
  intro p e s m args below meth cd H locs ls C hH hl hL
  have hKn := C.kn
  have hz : z = H.size := hH.2.2.2.2
  have hA : zz_A g z := by show (zz_hb g).size ≤ z; rw [hz]; exact hH.2.2.2.1
  have hat : zz_at t = .object (zz_cn c) ∧ t < 6 ∧ 3 < t := by
    rcases ht with ⟨rfl, rfl⟩ | ⟨rfl, rfl⟩
    · exact ⟨rfl, by omega, by omega⟩
    · exact ⟨rfl, by omega, by omega⟩
  have hcl : x.toNatClampNeg = n := by rw [hx, nI_clamp (by omega)]
  have ho : va_AO (zz_cn c) s := by
    rcases ht with ⟨-, rfl⟩ | ⟨-, rfl⟩
    · exact hKn.2.2.2.2.2.2.1
    · exact hKn.2.2.2.2.2.2.2
  refine W.anew C.1 C.2.1 C.own (C.ws _ hw) (va_AO.use ho) rfl d rfl (by rw [hx]; exact nI_pos (by omega)) (by rw [hcl]; omega) hc (by rw [hcl]; exact hs) fun cA kA comp f1 f2 f3 f4 => ?_
  rw [hcl]
  have hcA : cA = g.2.2.1 t := by
    have h2 := (hKn.2.2.1 t hat.2.1).2
    rw [hat.1] at h2
    obtain ⟨_, _, -, -, -, h3⟩ := h2
    exact Option.some.inj (f1.symm.trans h3)
  subst hcA
  generalize hH1 : H.push ({ cls := g.2.2.1 t, slots := Array.replicate n .null, vm := .none } : Cell) = H1
  have z1 : H1.size = H.size + 1 := by rw [← hH1, Array.size_push]
  have e1 : H1[H.size]? = some (arrV (g.2.2.1 t) n (fun _ => .null)) := by rw [← hH1, Array.getElem?_push_size, ← arrV_new]
  have o1 : ∀ q : Nat, q < H.size → H1[q]? = H[q]? := fun q hq => by rw [← hH1, Array.getElem?_push, if_neg (Nat.ne_of_lt hq)]
  have key := kk hA p e s m args below meth cd H1 locs ls C (hH.push (kd := zz_a t n) z1 o1 (fun b hb => zz_0_n hb) (fun _ _ => rfl) (fun _ _ => rfl) (fun c' hc' => absurd hc'.symm zz_o_ne) (fun t' n' hc' => ?_)) hl hL
  · rw [hz] at key
    rw [← hz] at key ⊢
    exact key
  · obtain ⟨rfl, rfl⟩ := zz_a_inj hc'.symm
    rw [hz]
    have e2 : zz_el t' H.size (zz_0 R H.size none) I L = fun _ => .null := by
      funext j
      rw [zz_el_R hat.2.2, zz_0_s]
      rfl
    exact ⟨_, e1, State.isArrayOf_alike hKn.1.symm ((hKn.2.2.1 t' hat.2.1).1 n' _), (fun q => by cases q), by rw [arrV_size]; exact Nat.le_refl _, by rw [arrV_size], fun i hi => by rw [arrV_read _ _ hi, e2], fun _ => by rw [e2], fun h3 j hj => absurd h3 (by omega)⟩
/-- Object.<init>() -/
theorem z_obj {ix a : Nat} (d : zz_D M pc (.invokespecial ix) 3 nx) (w1 : Cond.methodLink (zz_y M).cls ix Lib.objectInit ∈ zz_gw) (w2 : Cond.instanceMethod Lib.objectInit ∈ zz_gw) (w3 : Cond.code Lib.objectInit ⟨#[0xb1]⟩ 1 none ∈ zz_gw) (hd : 1 ≤ zz_d M) (hW : (st.map fun v => v.category).sum + 12 ≤ 40 * zz_d M)
    (kk : Zz g l M mc ms Q QX ce sl nx lv st h) : Zz g l M mc ms Q QX ce sl pc lv (.ref a :: st) h := by
  obtain ⟨d, rfl⟩ := d
  intro p e s m args below meth cd H locs ls C hH hl hL
  exact W.objInit C.1 C.2.1 C.own (C.ws _ w1) (C.ws _ w2) (C.ws _ w3) rfl (by rw [C.2.2.2.1]; exact hl.1) rfl d hd (by show 2 * 0 + _ + 12 ≤ 40 * zz_d M; omega) (kk p e s m args below meth cd H locs ls C hH hl hL)
/-! the state at a call -/
theorem zz_C.W {p : Program} {s : State} {m : MethodId} {args : Array Value} {meth : Method} {c : Code} (C : zz_C g l M p s m args meth c) {H : Heap} (hH : zz_hp g h H) {U : State} (hU : U.heap = H) (hW : s.WarmedH U.vm) : zz_W g h U := by
  obtain ⟨h0, k1, k2, k3⟩ := C.2.2.2.2.2.2.1
  refine ⟨k1.warm hW, by rw [hU]; exact hH, ?_⟩
  rw [hU]
  exact (k3.kept (fun a _ ha => zz_hp.old k2 hH a ha)).moved hW.alike
theorem zz_blind {av : List Value} : FrameBlind (va_Pc av (fun U => zz_W g h U)) := fun _ _ G mk q => ⟨q.1, q.2.calling G mk _⟩
/-- behind a call -/
theorem zz_after {p : Program} {e : Env} {Rm : Room} {s : State} {m : MethodId} {args : Array Value} {below : List Frame} {meth : Method} {c : Code} {H : Heap} {locs : List Loc} {mc' ms' : Nat} {ls : Array Slot} {st0 rest : List Value} {a : Array Value} {Q' : Option Value → zz_H → Prop} {QX' : String → zz_H → Prop} {Qf : State → Prop}
    (hr : vx_Run p l e Rm s m args below meth c H locs ce sl mc' ms' (F0 m pc ls st0) rest (zz_Qc g Q' a) (zz_XC g QX') (zz_A g)) (hL : ∀ q ∈ locs, zz_A g q.base)
    (kx : ∀ (E : String) (h' : zz_H) (H1 : Heap) (locs1 : List Loc) (x : Cell) (q : Addr), zz_hp g h' H1 → QX' E h' → (∀ q ∈ locs1, zz_A g q.base) → H1[q]? = some x → x.vm = .none → s.vm.findClass E = some x.cls → vx_W p l e Rm s m args below meth c H1 locs1 (ce + mc') (sl + ms') Qf (F0 m pc ls rest) q)
    (kk : ∀ (v : Option Value) (h' : zz_H) (H1 : Heap) (locs1 : List Loc), zz_hp g h' H1 → Q' v h' → (∀ q ∈ locs1, zz_A g q.base) → W p l e Rm s m args below meth c H1 locs1 (ce + mc') (sl + ms') Qf (F0 m (pc + 3) ls (v.toList ++ rest))) : W p l e Rm s m args below meth c H locs ce sl Qf (F0 m pc ls st0) := by
  intro T hT X
  rcases hr T hT X with ⟨v, st₀, t, T', Ls, h0, X', hL', e1, e2, ⟨v', h', ev, hp, hq⟩, stp⟩ | ⟨q, st₀, t, T', Ls, E, x, h0, X', hL', e1, e2, ⟨h', hp, hq⟩, hce, hcv, hcl, stp⟩
  · cases ev
    obtain ⟨t2, a1, b1⟩ := kk v h' T'.heap (locs ++ Ls) (by rw [e1]; exact hp) hq (fun q hq => (List.mem_append.mp hq).elim (hL q) (hL' q)) T' rfl X'
    exact ⟨t2, stp t2 a1, b1⟩
  · obtain ⟨t2, a1, b1⟩ := kx E h' T'.heap (locs ++ Ls) x q (by rw [e1]; exact hp) hq (fun q hq => (List.mem_append.mp hq).elim (hL q) (hL' q)) (by rw [e1]; exact hce) hcv hcl T' rfl X'
    exact ⟨t2, stp.trans a1, b1⟩
/-- what holds of every callee -/
def zz_cal (M M' : zz_M) (n : Nat) : Prop := zz_cw M' ∈ zz_gw ∧ Cond.initialized (zz_y M').cls ∈ zz_gw ∧ ((zz_y M').cls ≠ "java/lang/invoke/MethodHandle" ∧ (zz_y M').cls ≠ "java/lang/invoke/VarHandle" ∧ (parseMethodDescriptor (zz_y M').desc).map (fun d => d.parameters.length) = some n) ∧ zz_d M' + 1 ≤ zz_d M ∧ zz_n M' ≤ 21
theorem zz_good {w : Cond} (h : w ∈ zz_gw) : w ∈ zz_gw ∧ ((w.onTables && w.keeps) = true ∨ ∃ ty, w = .arrayClass ty) := ⟨h, good_of_word (zz_gw_good w h)⟩
theorem zz_goodIn {M' : zz_M} (h : zz_cw M' ∈ zz_gw) : GoodIn zz_gw (zz_ws M') := fun w hw => by
  rcases List.mem_cons.mp hw with rfl | hw
  · exact zz_good h
  · exact zz_good hw
theorem zz_cal.room {M' : zz_M} {n mc' ms' : Nat} (k : zz_cal M M' n) : (zz_rm M' mc' ms').frames + 1 ≤ (zz_rm M mc ms).frames ∧ 8 + (zz_n M' + 11) + (zz_rm M' mc' ms').locals ≤ (zz_rm M mc ms).locals := by
  obtain ⟨-, -, -, h1, h2⟩ := k
  refine ⟨h1, ?_⟩
  show 8 + (zz_n M' + 11) + 40 * zz_d M' ≤ 40 * zz_d M
  omega
theorem zz_cw_code {M' : zz_M} (h : zz_hh M' = []) : zz_ws M' = Cond.code (zz_y M') (zz_b M') (zz_n M') (zz_r M') :: zz_gw := by
  unfold zz_ws zz_cw
  rw [h]
/-- where a throw goes: out of a method without handlers -/
theorem zz_out {p : Program} {e : Env} {s : State} {m : MethodId} {args : Array Value} {below : List Frame} {meth : Method} {c : Code} {H1 : Heap} {locs1 : List Loc} {x : Cell} {q : Addr} {E : String} {ls : Array Slot} {rest : List Value} {h' : zz_H} (C : zz_C g l M p s m args meth c) (hh : zz_hh M = []) (hp : zz_hp g h' H1) (hq : QX E h') (hL : ∀ q ∈ locs1, zz_A g q.base) (h1 : H1[q]? = some x) (h2 : x.vm = .none) (h3 : s.vm.findClass E = some x.cls) (hc : ce ≤ mc) (hs : sl ≤ ms) :
    vx_W p l e (zz_rm M mc ms) s m args below meth c H1 locs1 ce sl (vx_MQ below (zz_Qc g Q) (zz_XC g QX) args s mc ms (zz_A g)) (F0 m pc ls rest) q := by
  refine vx_out (fun y hy => ?_) C.2.2.2.2.2.2.2.1 h1 h2 h3 (fun t ht _ => ⟨h', by rw [ht]; exact hp, hq⟩) hL hc hs
  rw [C.2.2.2.2.2.2.2.2.1, hh] at hy
  simp [tableOf] at hy
/-! kinds of calls: what the tables must say -/
def zz_kV (M M' : zz_M) (ix n : Nat) : Prop := zz_cal M M' n ∧ zz_hh M' = [] ∧ Cond.methodLink (zz_y M).cls ix (zz_y M') ∈ zz_gw ∧ Cond.instanceMethod (zz_y M') ∈ zz_gw ∧ Cond.selects (zz_y M').cls (zz_y M') (zz_y M') ∈ zz_gw
def zz_kS (M M' : zz_M) (ix n : Nat) : Prop := zz_cal M M' n ∧ zz_hh M' = [] ∧ Cond.methodLink (zz_y M).cls ix (zz_y M') ∈ zz_gw ∧ Cond.static (zz_y M') ∈ zz_gw
def zz_kX (M M' : zz_M) (ix n : Nat) : Prop := zz_cal M M' n ∧ zz_cw M' = .codeWith (zz_y M') (zz_b M') (zz_n M') (zz_r M') (zz_hh M') ∧ Cond.methodLink (zz_y M).cls ix (zz_y M') ∈ zz_gw ∧ Cond.static (zz_y M') ∈ zz_gw
def zz_kI (M M' : zz_M) (ix n : Nat) : Prop := zz_cal M M' n ∧ zz_hh M' = [] ∧ zz_r M' = none ∧ (zz_y M').name = "<init>" ∧ Cond.methodLink (zz_y M).cls ix (zz_y M') ∈ zz_gw ∧ Cond.instanceMethod (zz_y M') ∈ zz_gw
def zz_kSN (M M' : zz_M) (ix n : Nat) : Prop := zz_cal M M' n ∧ zz_hh M' = [] ∧ (∃ host, Cond.methodLinkNest (zz_y M).cls ix (zz_y M') host ∈ zz_nw) ∧ Cond.static (zz_y M') ∈ zz_gw
def zz_kIN (M M' : zz_M) (ix n : Nat) : Prop := zz_cal M M' n ∧ zz_hh M' = [] ∧ zz_r M' = none ∧ (zz_y M').name = "<init>" ∧ (∃ host, Cond.methodLinkNest (zz_y M).cls ix (zz_y M') host ∈ zz_nw) ∧ Cond.instanceMethod (zz_y M') ∈ zz_gw
theorem zz_fix {p : Program} {s : State} {m : MethodId} {args : Array Value} {meth : Method} {c : Code} (C : zz_C g l M p s m args meth c) : CallFix p m c (zz_b M) (zz_n M) s args zz_gw (zz_y M).cls := ⟨C.1, C.2.1, C.2.2.2.1, C.own, C.ws⟩
theorem zz_recv {p : Program} {s : State} {m : MethodId} {args : Array Value} {meth : Method} {cd : Code} (C : zz_C g l M p s m args meth cd) {H : Heap} (hH : zz_hp g h H) {b c : Nat} (hK : h.1 b = zz_o c) : ∃ cellB : Cell, H[b]? = some cellB ∧ cellB.vm.isStatics = false ∧ s.vm.findClass (zz_cn c) = some cellB.cls := by
  obtain ⟨r, cell, hr, q1, q2, q3, q4, q5, q6⟩ := hH.1 b c hK
  obtain ⟨-, hfc, -⟩ := C.kn.2.1 c r hr
  exact ⟨cell, q1, q3, by rw [zz_cn_of hr, q2]; exact hfc⟩
theorem zz_run {M' : zz_M} {mc' ms' : Nat} {av : List Value} {Q' : Option Value → zz_H → Prop} {QX' : String → zz_H → Prop} (S : zz_S g l M' mc' ms' av h Q' QX') : vx_Met l (zz_y M') (zz_ws M') (zz_rm M' mc' ms') (va_Pc av (fun U => zz_W g h U)) (zz_Qc g Q') (zz_XC g QX') mc' ms' (zz_A g) := S
theorem zz_gl {l4 ws : List Cond} (h : ∀ w ∈ l4, w ∈ zz_gw) (h2 : GoodIn zz_gw ws) : GoodIn zz_gw (l4 ++ ws) := fun w hw => (List.mem_append.mp hw).elim (fun q => zz_good (h w q)) (h2 w)
theorem zz_all3 {a b c : Cond} (h1 : a ∈ zz_gw) (h2 : b ∈ zz_gw) (h3 : c ∈ zz_gw) : ∀ w ∈ [a, b, c], w ∈ zz_gw := by
  intro w hw
  simp at hw
  rcases hw with rfl | rfl | rfl <;> assumption
theorem zz_all4 {a b c d : Cond} (h1 : a ∈ zz_gw) (h2 : b ∈ zz_gw) (h3 : c ∈ zz_gw) (h4 : d ∈ zz_gw) : ∀ w ∈ [a, b, c, d], w ∈ zz_gw := by
  intro w hw
  simp at hw
  rcases hw with rfl | rfl | rfl | rfl <;> assumption
theorem zz_all5 {a b c d e : Cond} (h1 : a ∈ zz_gw) (h2 : b ∈ zz_gw) (h3 : c ∈ zz_gw) (h4 : d ∈ zz_gw) (h5 : e ∈ zz_gw) : ∀ w ∈ [a, b, c, d, e], w ∈ zz_gw := by
  intro w hw
  simp at hw
  rcases hw with rfl | rfl | rfl | rfl | rfl <;> assumption
/-- the run of a plain virtual call -/
theorem zz_runV {p : Program} {e : Env} {s : State} {m : MethodId} {args : Array Value} {below : List Frame} {meth : Method} {cd : Code} {H : Heap} {locs : List Loc} {ls : Array Slot} {M' : zz_M} {ix n b c mc' ms' : Nat} {As : List Value} {Q' : Option Value → zz_H → Prop} {QX' : String → zz_H → Prop} (C : zz_C g l M p s m args meth cd) (hH : zz_hp g h H) (hl : zz_lv lv (zz_n M) ls) (d : decode (zz_b M) pc = .ok (.invokevirtual ix, 3)) (w : zz_kV M M' ix n) (hK : h.1 b = zz_o c) (hcn : zz_cn c = (zz_y M').cls) (hn : As.length = n) (hW : (st.map fun v => v.category).sum ≤ 8) (hf : ce + mc' ≤ mc ∧ sl + ms' ≤ ms)
    (S : zz_S g l M' mc' ms' (.ref b :: As) h Q' QX') : vx_Run p l e (zz_rm M mc ms) s m args below meth cd H locs ce sl mc' ms' (F0 m pc ls (As.reverse ++ .ref b :: st)) st (zz_Qc g Q' (Value.ref b :: As).toArray) (zz_XC g QX') (zz_A g) := by
  obtain ⟨k, hh', w1, w2, w3⟩ := w
  exact vx_runV (C := (zz_y M').cls) (zz_fix C) S (cwV n C.ws (zz_gl (zz_all4 w1 w2 w3 k.2.1) (zz_goodIn k.1)) (zz_cw_code hh') rfl rfl ⟨rfl, k.2.2.1⟩ k.room) ⟨zz_blind, by rw [← hcn]; exact zz_recv C hH hK, fun U hU hW => ⟨rfl, C.W hH hU hW⟩⟩ rfl hn hl.1 rfl (lv_room hW) d hf
theorem z_callV {M' : zz_M} {ix n b c mc' ms' : Nat} {As : List Value} {Q' : Option Value → zz_H → Prop} {QX' : String → zz_H → Prop} (d : zz_D M pc (.invokevirtual ix) 3 nx) (w : zz_kV M M' ix n) (hh : zz_hh M = []) (hK : h.1 b = zz_o c) (hcn : zz_cn c = (zz_y M').cls) (hn : As.length = n) (hW : (st.map fun v => v.category).sum ≤ 8) (hf : ce + mc' ≤ mc ∧ sl + ms' ≤ ms)
    (S : zz_S g l M' mc' ms' (.ref b :: As) h Q' QX') (hx : ∀ E h', QX' E h' → QX E h') (kk : ∀ v h', Q' v h' → Zz g l M mc ms Q QX (ce + mc') (sl + ms') nx lv (v.toList ++ st) h') : Zz g l M mc ms Q QX ce sl pc lv (As.reverse ++ .ref b :: st) h := by
  obtain ⟨d, rfl⟩ := d
  intro p e s m args below meth cd H locs ls C hH hl hL
  exact zz_after (zz_runV C hH hl d w hK hcn hn hW hf S) hL (fun E h' H1 locs1 x q hp hq hL1 h1 h2 h3 => zz_out C hh hp (hx E h' hq) hL1 h1 h2 h3 hf.1 hf.2) (fun v h' H1 locs1 hp hq hL1 => kk v h' hq p e s m args below meth cd H1 locs1 ls C hp hl hL1)
theorem z_callS {M' : zz_M} {ix n mc' ms' : Nat} {As : List Value} {Q' : Option Value → zz_H → Prop} {QX' : String → zz_H → Prop} (d : zz_D M pc (.invokestatic ix) 3 nx) (w : zz_kS M M' ix n) (hh : zz_hh M = []) (hn : As.length = n) (hW : (st.map fun v => v.category).sum ≤ 8) (hf : ce + mc' ≤ mc ∧ sl + ms' ≤ ms)
    (S : zz_S g l M' mc' ms' As h Q' QX') (hx : ∀ E h', QX' E h' → QX E h') (kk : ∀ v h', Q' v h' → Zz g l M mc ms Q QX (ce + mc') (sl + ms') nx lv (v.toList ++ st) h') : Zz g l M mc ms Q QX ce sl pc lv (As.reverse ++ st) h := by
  obtain ⟨d, rfl⟩ := d
  intro p e s m args below meth cd H locs ls C hH hl hL
  obtain ⟨k, hh', w1, w2⟩ := w
  exact zz_after (vx_runS (zz_fix C) S (va_cwS n C.ws (zz_gl (zz_all3 w1 w2 k.2.1) (zz_goodIn k.1)) (zz_cw_code hh') rfl rfl k.2.2.1 k.room) ⟨zz_blind, fun U hU hW => ⟨rfl, C.W hH hU hW⟩⟩ rfl hn hl.1 rfl (lv_room hW) d hf) hL (fun E h' H1 locs1 x q hp hq hL1 h1 h2 h3 => zz_out C hh hp (hx E h' hq) hL1 h1 h2 h3 hf.1 hf.2) (fun v h' H1 locs1 hp hq hL1 => kk v h' hq p e s m args below meth cd H1 locs1 ls C hp hl hL1)
theorem z_callX {M' : zz_M} {ix n mc' ms' : Nat} {As : List Value} {Q' : Option Value → zz_H → Prop} {QX' : String → zz_H → Prop} (d : zz_D M pc (.invokestatic ix) 3 nx) (w : zz_kX M M' ix n) (hh : zz_hh M = []) (hn : As.length = n) (hW : (st.map fun v => v.category).sum ≤ 8) (hf : ce + mc' ≤ mc ∧ sl + ms' ≤ ms)
    (S : zz_S g l M' mc' ms' As h Q' QX') (hx : ∀ E h', QX' E h' → QX E h') (kk : ∀ v h', Q' v h' → Zz g l M mc ms Q QX (ce + mc') (sl + ms') nx lv (v.toList ++ st) h') : Zz g l M mc ms Q QX ce sl pc lv (As.reverse ++ st) h := by
  obtain ⟨d, rfl⟩ := d
  intro p e s m args below meth cd H locs ls C hH hl hL
  obtain ⟨k, hcw, w1, w2⟩ := w
  exact zz_after (vx_runSX (zz_fix C) S (vx_cwSW n C.ws (zz_gl (zz_all3 w1 w2 k.2.1) (zz_goodIn k.1)) (by unfold zz_ws; rw [hcw]) rfl rfl k.2.2.1 k.room) ⟨zz_blind, fun U hU hW => ⟨rfl, C.W hH hU hW⟩⟩ rfl hn hl.1 rfl (lv_room hW) d hf) hL (fun E h' H1 locs1 x q hp hq hL1 h1 h2 h3 => zz_out C hh hp (hx E h' hq) hL1 h1 h2 h3 hf.1 hf.2) (fun v h' H1 locs1 hp hq hL1 => kk v h' hq p e s m args below meth cd H1 locs1 ls C hp hl hL1)
theorem z_callI {M' : zz_M} {ix n b mc' ms' : Nat} {As : List Value} {Q' : Option Value → zz_H → Prop} {QX' : String → zz_H → Prop} (d : zz_D M pc (.invokespecial ix) 3 nx) (w : zz_kI M M' ix n) (hh : zz_hh M = []) (hn : As.length = n) (hW : (st.map fun v => v.category).sum ≤ 8) (hf : ce + mc' ≤ mc ∧ sl + ms' ≤ ms)
    (S : zz_S g l M' mc' ms' (.ref b :: As) h Q' QX') (hx : ∀ E h', QX' E h' → QX E h') (kk : ∀ v h', Q' v h' → Zz g l M mc ms Q QX (ce + mc') (sl + ms') nx lv (v.toList ++ st) h') : Zz g l M mc ms Q QX ce sl pc lv (As.reverse ++ .ref b :: st) h := by
  obtain ⟨d, rfl⟩ := d
  intro p e s m args below meth cd H locs ls C hH hl hL
  obtain ⟨k, hh', hr', hy, w1, w2⟩ := w
  exact zz_after (vx_runI (zz_fix C) S (cwI n C.ws (zz_goodIn k.1) (by rw [zz_cw_code hh', hr']) rfl rfl (C.ws _ k.2.1) (C.ws _ w1) (C.ws _ w2) hy k.2.2.1 k.room) ⟨zz_blind, fun U hU hW => ⟨rfl, C.W hH hU hW⟩⟩ rfl hn hl.1 rfl (lv_room hW) d hf) hL (fun E h' H1 locs1 x q hp hq hL1 h1 h2 h3 => zz_out C hh hp (hx E h' hq) hL1 h1 h2 h3 hf.1 hf.2) (fun v h' H1 locs1 hp hq hL1 => kk v h' hq p e s m args below meth cd H1 locs1 ls C hp hl hL1)
theorem z_callSN {M' : zz_M} {ix n mc' ms' : Nat} {As : List Value} {Q' : Option Value → zz_H → Prop} {QX' : String → zz_H → Prop} (d : zz_D M pc (.invokestatic ix) 3 nx) (w : zz_kSN M M' ix n) (hh : zz_hh M = []) (hn : As.length = n) (hW : (st.map fun v => v.category).sum ≤ 8) (hf : ce + mc' ≤ mc ∧ sl + ms' ≤ ms)
    (S : zz_S g l M' mc' ms' As h Q' QX') (hx : ∀ E h', QX' E h' → QX E h') (kk : ∀ v h', Q' v h' → Zz g l M mc ms Q QX (ce + mc') (sl + ms') nx lv (v.toList ++ st) h') : Zz g l M mc ms Q QX ce sl pc lv (As.reverse ++ st) h := by
  obtain ⟨d, rfl⟩ := d
  intro p e s m args below meth cd H locs ls C hH hl hL
  obtain ⟨k, hh', ⟨host, w1⟩, w2⟩ := w
  exact zz_after (vx_runSN (zz_fix C) S ⟨va_cnB n C.ws (zz_goodIn k.1) (zz_cw_code hh') rfl rfl (C.kn.2.2.2.1 _ w1) (C.ws _ k.2.1) k.2.2.1 k.room, C.ws _ w2, trivial⟩ ⟨zz_blind, fun U hU hW => ⟨rfl, C.W hH hU hW⟩⟩ rfl hn hl.1 rfl (lv_room hW) d hf) hL (fun E h' H1 locs1 x q hp hq hL1 h1 h2 h3 => zz_out C hh hp (hx E h' hq) hL1 h1 h2 h3 hf.1 hf.2) (fun v h' H1 locs1 hp hq hL1 => kk v h' hq p e s m args below meth cd H1 locs1 ls C hp hl hL1)
theorem z_callIN {M' : zz_M} {ix n b mc' ms' : Nat} {As : List Value} {Q' : Option Value → zz_H → Prop} {QX' : String → zz_H → Prop} (d : zz_D M pc (.invokespecial ix) 3 nx) (w : zz_kIN M M' ix n) (hh : zz_hh M = []) (hn : As.length = n) (hW : (st.map fun v => v.category).sum ≤ 8) (hf : ce + mc' ≤ mc ∧ sl + ms' ≤ ms)
    (S : zz_S g l M' mc' ms' (.ref b :: As) h Q' QX') (hx : ∀ E h', QX' E h' → QX E h') (kk : ∀ v h', Q' v h' → Zz g l M mc ms Q QX (ce + mc') (sl + ms') nx lv (v.toList ++ st) h') : Zz g l M mc ms Q QX ce sl pc lv (As.reverse ++ .ref b :: st) h := by
  obtain ⟨d, rfl⟩ := d
  intro p e s m args below meth cd H locs ls C hH hl hL
  obtain ⟨k, hh', hr', hy, ⟨host, w1⟩, w2⟩ := w
  exact zz_after (vx_runIN (zz_fix C) S ⟨va_cnB n C.ws (zz_goodIn k.1) (by rw [zz_cw_code hh', hr']) rfl rfl (C.kn.2.2.2.1 _ w1) (C.ws _ k.2.1) k.2.2.1 k.room, hy, C.ws _ w2⟩ ⟨zz_blind, fun U hU hW => ⟨rfl, C.W hH hU hW⟩⟩ rfl hn hl.1 rfl (lv_room hW) d hf) hL (fun E h' H1 locs1 x q hp hq hL1 h1 h2 h3 => zz_out C hh hp (hx E h' hq) hL1 h1 h2 h3 hf.1 hf.2) (fun v h' H1 locs1 hp hq hL1 => kk v h' hq p e s m args below meth cd H1 locs1 ls C hp hl hL1)
end CRules
