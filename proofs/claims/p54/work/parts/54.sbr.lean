/-! RULES: clone of a row of bytes, its cast, an overriding method, what lies in the heap -/
def mm_JB_length : zz_M := (⟨"java/lang/StringBuilder", "length", "()I"⟩, prog_31_method_93_code, 1, (some .int), [], 11)
theorem ee_JB_length_0 : zz_D mm_JB_length 0 (.aload_n 0) 1 1 := ⟨by decide +kernel, rfl⟩
theorem ee_JB_length_1 : zz_D mm_JB_length 1 (.invokespecial 343) 3 4 := ⟨by decide +kernel, rfl⟩
theorem ee_JB_length_4 : zz_D mm_JB_length 4 .ireturn 1 5 := ⟨by decide +kernel, rfl⟩
theorem ku_JB_length_343 : zz_kSU mm_JB_length mm_JA_length 343 0 := ⟨⟨zz_in 1131 (by decide +kernel) rfl, zz_in 43 (by decide +kernel) rfl, by decide +kernel, by decide, by decide⟩, rfl, zz_in 1130 (by decide +kernel) rfl, zz_in 1126 (by decide +kernel) rfl, zz_in 998 (by decide +kernel) rfl, zz_in 1125 (by decide +kernel) rfl, by decide⟩
def zz_kO (M M' : zz_M) (y0 : MethodName) (ix n c : Nat) : Prop := zz_cal M M' n ∧ zz_hh M' = [] ∧ Cond.methodLink (zz_y M).cls ix y0 ∈ zz_gw ∧ Cond.sameMethod y0.cls y0.cls y0.name y0.desc ∈ zz_gw ∧ (∃ b0 m0 r0, Cond.code y0 b0 m0 r0 ∈ zz_gw) ∧ Cond.instanceMethod y0 ∈ zz_gw ∧ Cond.selects (zz_cn c) y0 (zz_y M') ∈ zz_gw ∧ Cond.instanceMethod (zz_y M') ∈ zz_gw ∧ (y0.cls ≠ "java/lang/invoke/MethodHandle" ∧ y0.cls ≠ "java/lang/invoke/VarHandle") ∧ (parseMethodDescriptor y0.desc).map (fun d => d.parameters.length) = some n
theorem ku_JS_init_AbsVoi_549 : zz_kO mm_JS_init_AbsVoi mm_JB_length (zz_y mm_JA_length) 549 0 9 := ⟨⟨zz_in 1129 (by decide +kernel) rfl, zz_in 44 (by decide +kernel) rfl, by decide +kernel, by decide, by decide⟩, rfl, zz_in 1124 (by decide +kernel) rfl, zz_in 1126 (by decide +kernel) rfl, ⟨zz_b mm_JA_length, zz_n mm_JA_length, zz_r mm_JA_length, zz_in 1131 (by decide +kernel) rfl⟩, zz_in 1125 (by decide +kernel) rfl, zz_in 1127 (by decide +kernel) rfl, zz_in 1128 (by decide +kernel) rfl, ⟨by decide, by decide⟩, by decide +kernel⟩
def zz_ci (I : Nat → Nat → Int32) (a z : Nat) : Nat → Nat → Int32 := fun b => if b = z then I a else I b
theorem zz_ci_s {I : Nat → Nat → Int32} {a z : Nat} : zz_ci I a z z = I a := by simp [zz_ci]
theorem zz_ci_n {I : Nat → Nat → Int32} {a z b : Nat} (h : b ≠ z) : zz_ci I a z b = I b := by simp [zz_ci, h]
section SbR
variable {g : zz_G} {l : Launch} {M : zz_M} {mc ms : Nat} {Q : Option Value → zz_H → Prop} {QX : String → zz_H → Prop} {ce sl pc nx : Nat} {lv : List (Option Value)} {st : List Value} {h : zz_H}
variable {K : Nat → Nat × Nat} {R : Nat → Nat → Option Nat} {I : Nat → Nat → Int32} {L : Nat → Nat → Int64} {z : Nat}
theorem z_callO {M' : zz_M} {y0 : MethodName} {ix n b c mc' ms' : Nat} {As : List Value} {Q' : Option Value → zz_H → Prop} {QX' : String → zz_H → Prop} (d : zz_D M pc (.invokevirtual ix) 3 nx) (w : zz_kO M M' y0 ix n c) (hh : zz_hh M = []) (hK : h.1 b = zz_o c) (hn : As.length = n) (hW : (st.map fun v => v.category).sum ≤ 8) (hf : ce + mc' ≤ mc ∧ sl + ms' ≤ ms)
    (S : zz_S g l M' mc' ms' (.ref b :: As) h Q' QX') (hx : ∀ E h', QX' E h' → QX E h') (kk : ∀ v h', Q' v h' → Zz g l M mc ms Q QX (ce + mc') (sl + ms') nx lv (v.toList ++ st) h') : Zz g l M mc ms Q QX ce sl pc lv (As.reverse ++ .ref b :: st) h := by
  obtain ⟨d, rfl⟩ := d
  intro p e s m args below meth cd H locs ls C hH hl hL
  obtain ⟨k, hh', w1, w2, ⟨b0, m0, r0, w3⟩, w4, w5, w6, w7, w8⟩ := w
  have hc : Cond.code (zz_y M') (zz_b M') (zz_n M') (zz_r M') ∈ zz_gw := by
    have := k.1
    unfold zz_cw at this
    rw [hh'] at this
    exact this
  have hcw : va_CU (zz_rm M mc ms) s args (zz_y M).cls (zz_cn c) y0.cls ix y0 (zz_y M') (zz_b M') (zz_n M') (zz_r M') (zz_ws M') (zz_rm M' mc' ms') mc' ms' n := by
    refine ⟨⟨rfl, rfl, k.room.1, k.room.2, pay_in C.ws (zz_goodIn k.1), by rw [zz_cw_code hh']; exact List.mem_cons_self⟩, C.ws _ hc, C.ws _ k.2.1, w7, fun sig hs => ?_, C.ws _ w1, C.ws _ w2, va_Decl.of (C.ws _ w4) (C.ws _ w3), C.ws _ w5, C.ws _ w6⟩
    rw [hs] at w8
    exact (Option.some.inj w8).symm
  exact zz_after (vx_runU (zz_fix C) S hcw ⟨zz_blind, zz_recv C hH hK, fun U hU hW => ⟨rfl, C.W hH hU hW⟩⟩ rfl hn hl.1 rfl (lv_room hW) d hf) hL (fun E h' H1 locs1 x q hp hq hL1 h1 h2 h3 => zz_out C hh hp (hx E h' hq) hL1 h1 h2 h3 hf.1 hf.2) (fun v h' H1 locs1 hp hq hL1 => kk v h' hq p e s m args below meth cd H1 locs1 ls C hp hl hL1)
theorem z_clone {ix a n : Nat} (d : zz_D M pc (.invokevirtual ix) 3 nx) (w1 : Cond.methodLink (zz_y M).cls ix ⟨"[B", "clone", "()Ljava/lang/Object;"⟩ ∈ zz_gw) (w2 : Cond.sameMethod "[B" "java/lang/Object" "clone" "()Ljava/lang/Object;" ∈ zz_gw) (w3 : Cond.native ⟨"java/lang/Object", "clone", "()Ljava/lang/Object;"⟩ ∈ zz_gw) (w4 : Cond.instanceMethod ⟨"java/lang/Object", "clone", "()Ljava/lang/Object;"⟩ ∈ zz_gw) (w5 : Cond.selects "[B" ⟨"[B", "clone", "()Ljava/lang/Object;"⟩ ⟨"java/lang/Object", "clone", "()Ljava/lang/Object;"⟩ ∈ zz_gw) (w6 : Cond.castable "[B" "java/lang/Cloneable" ∈ zz_nw)
    (hK : K a = zz_a 2 n) (ha : zz_A g a) (hd : 1 ≤ zz_d M) (hW : (st.map fun v => v.category).sum + 14 ≤ 40 * zz_d M) (hc : ce + 1 ≤ mc) (hs : sl + n ≤ ms)
    (kk : zz_A g z → Zz g l M mc ms Q QX (ce + 1) (sl + n) nx lv (.ref z :: st) (zz_K K z (zz_a 2 n), R, zz_ci I a z, L, z + 1)) : Zz g l M mc ms Q QX ce sl pc lv (.ref a :: st) (K, R, I, L, z) := by
  obtain ⟨d, rfl⟩ := d
  intro p e s m args below meth cd H locs ls C hH hl hL
  have hKn := C.kn
  have hz : z = H.size := hH.2.2.2.2
  have hA : zz_A g z := by show (zz_hb g).size ≤ z; rw [hz]; exact hH.2.2.2.1
  obtain ⟨c1, r1, r2, r3, r4, r5, r6, r7, r8⟩ := hH.2.1 a 2 n hK
  have r7 := r7 ha
  subst r7
  have hAr := (hKn.2.2.1 2 (by omega)).1
  have hnm : s.vm.findClass "[B" = some (g.2.2.1 2) := (hKn.2.2.1 2 (by omega)).2
  obtain ⟨f0, t0', f1, f2, f3⟩ := Cond.castable_spec (zz_Nw.use hKn.2.2.2.1 (args := args) w6)
  cases hnm.symm.trans f1
  intro T hT X
  have hcellT : T.heap[a]? = some (arrV (g.2.2.1 2) n (zz_el 2 a R I L)) := by rw [hT]; exact r1
  obtain ⟨-, kA, hkA, comp, hkind⟩ := State.isArrayOf_alike X.warmed.alike (hAr 0 (fun _ => .null))
  obtain ⟨-, kS, hkS, compS, hkindS⟩ := hAr 0 (fun _ => .null)
  have hsz : ls.size = cd.maxLocals := by rw [C.2.2.2.1]; exact hl.1
  obtain ⟨vm', X', st'⟩ := X.cloneArray C.1 C.own (C.ws _ w1) (C.ws _ w2) (C.ws _ w3) (C.ws _ w4) (C.ws _ w5) (a := a) (cell := arrV (g.2.2.1 2) n (zz_el 2 a R I L)) hcellT (fun k h => by cases h) (fun h => by cases h) hnm f2 f3
    (fun i v hv => by
      have hi : i < n := by
        have := (Array.getElem?_eq_some_iff.mp hv).1
        rw [arrV_size] at this
        exact this
      rw [arrV_read _ _ hi] at hv
      cases hv
      have hk' : T.vm.classes[g.2.2.1 2]? = some kA := hkA
      have h8 := r8 (by omega) i hi
      have h9 : fits .byte (zz_el 2 a R I L i) = true := by rw [zz_el_I (by omega)]; exact h8
      simpa [State.fitsSlot, State.slotType?, hk', hkind, arrV, zz_at] using h9)
    (g := F0 m pc ls (.ref a :: st)) rfl hsz rfl (by rw [C.2.1]; exact d) hd (by show 2 * 0 + _ + 14 ≤ 40 * zz_d M; omega) hc (by rw [arrV_size]; exact hs) (hloader := Vm.clonesLoader_of_array hkS hkindS)
  rw [arrV_size] at X'
  have hcE : ({ cls := (arrV (g.2.2.1 2) n (zz_el 2 a R I L)).cls, slots := (arrV (g.2.2.1 2) n (zz_el 2 a R I L)).slots } : Cell) = arrV (g.2.2.1 2) n (zz_el 2 a R I L) := rfl
  rw [hcE] at X'
  have z1 : (H.push (arrV (g.2.2.1 2) n (zz_el 2 a R I L))).size = H.size + 1 := Array.size_push _
  have e1 : (H.push (arrV (g.2.2.1 2) n (zz_el 2 a R I L)))[H.size]? = some (arrV (g.2.2.1 2) n (zz_el 2 a R I L)) := Array.getElem?_push_size
  have o1 : ∀ q : Nat, q < H.size → (H.push (arrV (g.2.2.1 2) n (zz_el 2 a R I L)))[q]? = H[q]? := fun q hq => by rw [Array.getElem?_push, if_neg (Nat.ne_of_lt hq)]
  have e4 : zz_el 2 z R (zz_ci I a z) L = zz_el 2 a R I L := by
    funext j
    rw [zz_el_I (by omega), zz_el_I (by omega), zz_ci_s]
  have hp2 := hH.push (kd := zz_a 2 n) (R' := R) (I' := zz_ci I a z) (L' := L) z1 o1 (fun _ _ => rfl) (fun b hb => zz_ci_n hb) (fun _ _ => rfl) (fun c' hc' => absurd hc'.symm zz_o_ne) (fun t' n' hc' => by
    obtain ⟨rfl, rfl⟩ := zz_a_inj hc'.symm
    refine ⟨_, by rw [hz]; exact e1, State.isArrayOf_alike hKn.1.symm (hAr n' _), (fun q => by cases q), by rw [arrV_size]; exact Nat.le_refl _, by rw [arrV_size], fun i hi => by rw [arrV_read _ _ hi, e4], fun _ => by rw [e4], fun _ j hj => by rw [zz_ci_s]; exact r8 (by omega) j hj⟩)
  obtain ⟨t, b1, b2⟩ := kk hA p e s m args below meth cd _ locs ls C hp2 hl hL ((T.setVm vm').pushCell (arrV (g.2.2.1 2) n (zz_el 2 a R I L))) (by rw [← hT]; rfl) X'
  refine ⟨t, st' t ?_, b2⟩
  rw [hcE, hT, ← hz]
  exact b1
theorem z_castB {ix a n : Nat} (d : zz_D M pc (.checkcast ix) 3 nx) (w : Cond.classLink (zz_y M).cls ix "[B" ∈ zz_gw) (hK : K a = zz_a 2 n) (ha : zz_A g a)
    (kk : Zz g l M mc ms Q QX ce sl nx lv (.ref a :: st) (K, R, I, L, z)) : Zz g l M mc ms Q QX ce sl pc lv (.ref a :: st) (K, R, I, L, z) := by
  obtain ⟨d, rfl⟩ := d
  intro p e s m args below meth cd H locs ls C hH hl hL
  obtain ⟨c1, r1, r2, r3, r4, r5, r6, r7, r8⟩ := hH.2.1 a 2 n hK
  have r7 := r7 ha
  subst r7
  have hnm : s.vm.findClass "[B" = some (g.2.2.1 2) := (C.kn.2.2.1 2 (by omega)).2
  intro T hT X
  obtain ⟨vm', X', st'⟩ := X.checkcastYes C.1 C.own (C.ws _ w) (by rw [hT]; exact r1) rfl hnm (va_asg _ _) (g := F0 m pc ls (.ref a :: st)) rfl rfl (by rw [C.2.1]; exact d)
  obtain ⟨t, a1, b1⟩ := kk p e s m args below meth cd H locs ls C hH hl hL (T.setVm vm') hT X'
  exact ⟨t, st' t a1, b1⟩
/-- what the picture knows lies in the heap -/
theorem z_ltO {a c : Nat} (hK : K a = zz_o c) (kk : a < z → Zz g l M mc ms Q QX ce sl pc lv st (K, R, I, L, z)) : Zz g l M mc ms Q QX ce sl pc lv st (K, R, I, L, z) := by
  intro p e s m args below meth cd H locs ls C hH hl hL
  have hz : z = H.size := hH.2.2.2.2
  exact kk (by rw [hz]; exact (hH.1 a c hK).lt) p e s m args below meth cd H locs ls C hH hl hL
theorem z_ltA {a t n : Nat} (hK : K a = zz_a t n) (kk : a < z → Zz g l M mc ms Q QX ce sl pc lv st (K, R, I, L, z)) : Zz g l M mc ms Q QX ce sl pc lv st (K, R, I, L, z) := by
  intro p e s m args below meth cd H locs ls C hH hl hL
  have hz : z = H.size := hH.2.2.2.2
  exact kk (by rw [hz]; exact (hH.2.1 a t n hK).lt) p e s m args below meth cd H locs ls C hH hl hL
/-- .. and above it there is nothing -/
def zz_nu (K : Nat → Nat × Nat) (z : Nat) : Prop := ∀ a, z ≤ a → (∀ c, K a ≠ zz_o c) ∧ ∀ t n, K a ≠ zz_a t n
theorem z_nu (kk : zz_A g z → zz_nu K z → Zz g l M mc ms Q QX ce sl pc lv st (K, R, I, L, z)) : Zz g l M mc ms Q QX ce sl pc lv st (K, R, I, L, z) := by
  intro p e s m args below meth cd H locs ls C hH hl hL
  have hz : z = H.size := hH.2.2.2.2
  refine kk ?_ (fun a ha => ⟨fun c hc => ?_, fun t n hc => ?_⟩) p e s m args below meth cd H locs ls C hH hl hL
  · show (zz_hb g).size ≤ z
    rw [hz]
    exact hH.2.2.2.1
  · have := (hH.1 a c hc).lt
    omega
  · have := (hH.2.1 a t n hc).lt
    omega
/-- new cells are forgotten -/
theorem z_forget {K' : Nat → Nat × Nat} {lo : Nat} (h1 : zz_kt 0 lo K K') (h2 : zz_nu K lo) (kk : Zz g l M mc ms Q QX ce sl pc lv st (K, R, I, L, z)) : Zz g l M mc ms Q QX ce sl pc lv st (K', R, I, L, z) := by
  intro p e s m args below meth cd H locs ls C hH hl hL
  refine kk p e s m args below meth cd H locs ls C ⟨fun a c ha => ?_, fun a t n ha => ?_, hH.2.2.1, hH.2.2.2.1, hH.2.2.2.2⟩ hl hL
  · have : a < lo := Nat.not_le.mp fun q => (h2 a q).1 c ha
    exact hH.1 a c (show K' a = _ by rw [h1 a (by omega) this]; exact ha)
  · have : a < lo := Nat.not_le.mp fun q => (h2 a q).2 t n ha
    exact hH.2.1 a t n (show K' a = _ by rw [h1 a (by omega) this]; exact ha)
end SbR
/-- below lo nothing has changed -/
def zz_lk (lo : Nat) (K K' : Nat → Nat × Nat) (R R' : Nat → Nat → Option Nat) (I I' : Nat → Nat → Int32) (L L' : Nat → Nat → Int64) : Prop := zz_kt 0 lo K K' ∧ zz_kt 0 lo R R' ∧ zz_kt 0 lo I I' ∧ zz_kt 0 lo L L'
theorem zz_lk.rf {lo : Nat} {K : Nat → Nat × Nat} {R : Nat → Nat → Option Nat} {I : Nat → Nat → Int32} {L : Nat → Nat → Int64} : zz_lk lo K K R R I I L L := ⟨zz_kt.rf, zz_kt.rf, zz_kt.rf, zz_kt.rf⟩
theorem zz_lk.trans {lo : Nat} {K K1 K2 : Nat → Nat × Nat} {R R1 R2 : Nat → Nat → Option Nat} {I I1 I2 : Nat → Nat → Int32} {L L1 L2 : Nat → Nat → Int64} (h : zz_lk lo K K1 R R1 I I1 L L1) (h' : zz_lk lo K1 K2 R1 R2 I1 I2 L1 L2) : zz_lk lo K K2 R R2 I I2 L L2 := ⟨h.1.trans h'.1, h.2.1.trans h'.2.1, h.2.2.1.trans h'.2.2.1, h.2.2.2.trans h'.2.2.2⟩
theorem zz_lk.wid {lo lo' : Nat} {K K1 : Nat → Nat × Nat} {R R1 : Nat → Nat → Option Nat} {I I1 : Nat → Nat → Int32} {L L1 : Nat → Nat → Int64} (h : zz_lk lo K K1 R R1 I I1 L L1) (hm : lo' ≤ lo) : zz_lk lo' K K1 R R1 I I1 L L1 := ⟨h.1.wid (by omega) hm, h.2.1.wid (by omega) hm, h.2.2.1.wid (by omega) hm, h.2.2.2.wid (by omega) hm⟩
theorem zz_lk.Sg {lo s a : Nat} {xs : List Int32} {K K1 : Nat → Nat × Nat} {R R1 : Nat → Nat → Option Nat} {I I1 : Nat → Nat → Int32} {L L1 : Nat → Nat → Int64} (h : zz_lk lo K K1 R R1 I I1 L L1) (hs : s < lo) (ha : a < lo) (k : zz_Sg K R I s a xs) : zz_Sg K1 R1 I1 s a xs := by
  obtain ⟨k1, k2, k3, k4, k5, k6, k7⟩ := k
  exact ⟨by rw [h.1 s (by omega) hs]; exact k1, by rw [h.2.1 s (by omega) hs]; exact k2, by rw [h.1 a (by omega) ha]; exact k3, by rw [h.2.2.1 s (by omega) hs]; exact k4, k5, fun j hj => by rw [h.2.2.1 a (by omega) ha]; exact k6 j hj, k7⟩
