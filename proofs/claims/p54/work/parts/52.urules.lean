/-! CALLS of inherited methods, of private ones of a superclass, and by super -/
theorem zz_selp {C : String} {y : MethodName} {s : State} {args : Array Value} {n : Nat} (hy : y.cls ≠ "java/lang/invoke/MethodHandle" ∧ y.cls ≠ "java/lang/invoke/VarHandle")
    (hins : (Cond.instantiable C n).before args s = true) (hpriv : (Cond.privateMethod y).before args s = true) (hinst : (Cond.instanceMethod y).before args s = true) {y0 : MethodName} (h0 : (Cond.selects C y0 y0).before args s = true) (hc0 : y0.cls = y.cls) : (Cond.selects C y y).before args s = true := by
  obtain ⟨c, k, hc, hk, -, hniab, -, -⟩ := Cond.instantiable_spec hins
  obtain ⟨c2, r2, m2, q1, q2, q3, q4, kP, hkP, hkPi⟩ := Cond.selects_spec h0
  obtain ⟨mk, methM, hnamed, hmethM, -, -⟩ := Cond.instanceMethod_spec hinst
  have hfound : s.methodFound? y.cls y.name y.desc = some mk := State.methodFound?_of_named hnamed hy
  have hsel : selectMethod {} s.vm c mk = .method mk := selectMethod_private hmethM (Cond.privateMethod_at hpriv mk methM hnamed hmethM)
  have e1 := findClass_of_methodNamed hnamed
  have e2 := findClass_of_methodNamed q3
  rw [hc0, e1] at e2
  have e3 : mk.cls = m2.cls := Option.some.inj e2
  simp only [Cond.before, Cond.holds, Cond.value, hc, hfound, hnamed, hsel, hk]
  simp
  rw [e3, hkP]
  simp [hkPi]
def zz_kU (M M' : zz_M) (ix n c : Nat) : Prop := zz_cal M M' n ∧ zz_hh M' = [] ∧ Cond.methodLink (zz_y M).cls ix (zz_y M') ∈ zz_gw ∧ Cond.sameMethod (zz_y M').cls (zz_y M').cls (zz_y M').name (zz_y M').desc ∈ zz_gw ∧ Cond.instanceMethod (zz_y M') ∈ zz_gw ∧ Cond.selects (zz_cn c) (zz_y M') (zz_y M') ∈ zz_gw
def zz_kSU (M M' : zz_M) (ix n : Nat) : Prop := zz_cal M M' n ∧ zz_hh M' = [] ∧ Cond.methodLink (zz_y M).cls ix (zz_y M') ∈ zz_gw ∧ Cond.sameMethod (zz_y M').cls (zz_y M').cls (zz_y M').name (zz_y M').desc ∈ zz_gw ∧ Cond.superclass (zz_y M).cls (zz_y M').cls ∈ zz_gw ∧ Cond.instanceMethod (zz_y M') ∈ zz_gw ∧ (zz_y M').name ≠ "<init>"
section URules
variable {g : zz_G} {l : Launch} {M : zz_M} {mc ms : Nat} {Q : Option Value → zz_H → Prop} {QX : String → zz_H → Prop} {ce sl pc nx : Nat} {lv : List (Option Value)} {st : List Value} {h : zz_H}
theorem z_callU {M' : zz_M} {ix n b c mc' ms' : Nat} {As : List Value} {Q' : Option Value → zz_H → Prop} {QX' : String → zz_H → Prop} (d : zz_D M pc (.invokevirtual ix) 3 nx) (w : zz_kU M M' ix n c) (hh : zz_hh M = []) (hK : h.1 b = zz_o c) (hn : As.length = n) (hW : (st.map fun v => v.category).sum ≤ 8) (hf : ce + mc' ≤ mc ∧ sl + ms' ≤ ms)
    (S : zz_S g l M' mc' ms' (.ref b :: As) h Q' QX') (hx : ∀ E h', QX' E h' → QX E h') (kk : ∀ v h', Q' v h' → Zz g l M mc ms Q QX (ce + mc') (sl + ms') nx lv (v.toList ++ st) h') : Zz g l M mc ms Q QX ce sl pc lv (As.reverse ++ .ref b :: st) h := by
  obtain ⟨d, rfl⟩ := d
  intro p e s m args below meth cd H locs ls C hH hl hL
  obtain ⟨k, hh', w1, w2, w3, w4⟩ := w
  have hsel : (Cond.selects (zz_cn c) (zz_y M') (zz_y M')).before args s = true := C.ws _ w4
  have hc : Cond.code (zz_y M') (zz_b M') (zz_n M') (zz_r M') ∈ zz_gw := by
    have := k.1
    unfold zz_cw at this
    rw [hh'] at this
    exact this
  have hcw : va_CU (zz_rm M mc ms) s args (zz_y M).cls (zz_cn c) (zz_y M').cls ix (zz_y M') (zz_y M') (zz_b M') (zz_n M') (zz_r M') (zz_ws M') (zz_rm M' mc' ms') mc' ms' n := by
    refine ⟨⟨rfl, rfl, k.room.1, k.room.2, pay_in C.ws (zz_goodIn k.1), by rw [zz_cw_code hh']; exact List.mem_cons_self⟩, C.ws _ hc, C.ws _ k.2.1, ⟨k.2.2.1.1, k.2.2.1.2.1⟩, fun sig hs => ?_, C.ws _ w1, C.ws _ w2, va_Decl.of (C.ws _ w3) (C.ws _ hc), hsel, C.ws _ w3⟩
    have h2 := k.2.2.1.2.2
    rw [hs] at h2
    exact (Option.some.inj h2).symm
  exact zz_after (vx_runU (zz_fix C) S hcw ⟨zz_blind, zz_recv C hH hK, fun U hU hW => ⟨rfl, C.W hH hU hW⟩⟩ rfl hn hl.1 rfl (lv_room hW) d hf) hL (fun E h' H1 locs1 x q hp hq hL1 h1 h2 h3 => zz_out C hh hp (hx E h' hq) hL1 h1 h2 h3 hf.1 hf.2) (fun v h' H1 locs1 hp hq hL1 => kk v h' hq p e s m args below meth cd H1 locs1 ls C hp hl hL1)
theorem z_callSU {M' : zz_M} {ix n b c mc' ms' : Nat} {As : List Value} {Q' : Option Value → zz_H → Prop} {QX' : String → zz_H → Prop} (d : zz_D M pc (.invokespecial ix) 3 nx) (w : zz_kSU M M' ix n) (hh : zz_hh M = []) (hK : h.1 b = zz_o c) (hn : As.length = n) (hW : (st.map fun v => v.category).sum ≤ 8) (hf : ce + mc' ≤ mc ∧ sl + ms' ≤ ms)
    (S : zz_S g l M' mc' ms' (.ref b :: As) h Q' QX') (hx : ∀ E h', QX' E h' → QX E h') (kk : ∀ v h', Q' v h' → Zz g l M mc ms Q QX (ce + mc') (sl + ms') nx lv (v.toList ++ st) h') : Zz g l M mc ms Q QX ce sl pc lv (As.reverse ++ .ref b :: st) h := by
  obtain ⟨d, rfl⟩ := d
  intro p e s m args below meth cd H locs ls C hH hl hL
  obtain ⟨k, hh', w1, w2, w3, w4, w5⟩ := w
  have hc : Cond.code (zz_y M') (zz_b M') (zz_n M') (zz_r M') ∈ zz_gw := by
    have := k.1
    unfold zz_cw at this
    rw [hh'] at this
    exact this
  obtain ⟨r, cell, hr, q1, q2, q3, q4, q5, q6⟩ := hH.1 b c hK
  have hat : ClassAt s r.1 (g.1 c) := (C.kn.2.1 c r hr).2
  have hcw : va_CS (zz_rm M mc ms) s args (zz_y M).cls ix (zz_y M') (zz_b M') (zz_n M') (zz_r M') (zz_ws M') (zz_rm M' mc' ms') mc' ms' n := by
    refine ⟨⟨rfl, rfl, k.room.1, k.room.2, pay_in C.ws (zz_goodIn k.1), by rw [zz_cw_code hh']; exact List.mem_cons_self⟩, C.ws _ w1, C.ws _ w2, C.ws _ w3, C.ws _ w4, C.ws _ k.2.1, C.ws _ hc, w5, fun sig hs => ?_⟩
    have h2 := k.2.2.1.2.2
    rw [hs] at h2
    exact (Option.some.inj h2).symm
  exact zz_after (vx_runSU hat (zz_fix C) S hcw ⟨zz_blind, by have := zz_recv C hH hK; rw [zz_cn_of hr] at this; exact this, fun U hU hW => ⟨rfl, C.W hH hU hW⟩⟩ rfl hn hl.1 rfl (lv_room hW) d hf) hL (fun E h' H1 locs1 x q hp hq hL1 h1 h2 h3 => zz_out C hh hp (hx E h' hq) hL1 h1 h2 h3 hf.1 hf.2) (fun v h' H1 locs1 hp hq hL1 => kk v h' hq p e s m args below meth cd H1 locs1 ls C hp hl hL1)
end URules
