/-! BUILDERS OVER A FRAME; ldc_w of a String constant -/
section LdcW
variable {p : Program} {l : Launch} {e : Env} {R : Room} {s : State} {m : MethodId} {args : Array Value} {below : List Frame} {meth : Method} {c : Code} {H : Heap} {locs : List Loc} {cells slots : Nat} {Q : State → Prop}
theorem vz_ldcwS (hexec : p.tables.exec = Jvm.exec) {cc : ByteArray} {pc : Nat} {ls : Array Slot} {rest : List Value} (hb : c.code = cc) {own tx : String} {index q : Nat} (hown : s.vm.findClass own = some m.cls) (hZ : vk_R own index tx q s) (hdg : decode cc pc = .ok (.ldc_w index, 3))
    (k : W p l e R s m args below meth c H locs cells slots Q (F0 m (pc + 3) ls (.ref q :: rest))) : W p l e R s m args below meth c H locs cells slots Q (F0 m pc ls rest) := by
  intro T hT X
  obtain ⟨t, a1, b1⟩ := k T hT X
  refine ⟨t, ?_, b1⟩
  obtain ⟨k, cf, i, a', hk, hcf, hcp, -, hr, hev'⟩ := Cond.stringRef_spec (args := #[]) hown hZ.1
  cases hZ.2.symm.trans hev'
  obtain ⟨k', hk', he⟩ := X.warmed.alike.2.2 _ _ hk
  have hr' : k'.resolved[index]? = some (some (.string q)) := by
    rcases X.warmed.entry hk hk' index with h | ⟨h, -⟩
    · rw [h]; exact hr
    · rw [hr] at h; cases h
  have hdd : decode c.code (F0 m pc ls rest).pc = .ok (.ldc_w index, 3) := by rw [hb]; exact hdg
  jvm_step X.here [hexec, hdd, ldc_w.wp_string (e := e) (s := T) (f := F0 m pc ls rest) X.here.top hk' (by rw [he]; exact hcf) hcp hr']
  exact a1
end LdcW
section SbyR
variable {g : zz_G} {l : Launch} {M : zz_M} {mc ms : Nat} {Q : Option Value → zz_H → Prop} {QX : String → zz_H → Prop} {ce sl pc nx : Nat} {lv : List (Option Value)} {st : List Value} {h : zz_H}
theorem z_ldcSW {ix i : Nat} {tx : String} (d : zz_D M pc (.ldc_w ix) 3 nx) (hw : ((zz_y M).cls, ix, tx, i) ∈ zz_str) (kk : Zz g l M mc ms Q QX ce sl nx lv (.ref (g.2.2.2.2 i) :: st) h) : Zz g l M mc ms Q QX ce sl pc lv st h := by
  obtain ⟨d, rfl⟩ := d
  intro p e s m args below meth cd H locs ls C hH hl hL
  exact vz_ldcwS C.1 C.2.1 C.own (C.kn.2.2.2.2.1 _ hw) d (kk p e s m args below meth cd H locs ls C hH hl hL)
end SbyR
/-- since z nothing outside the object has changed -/
def zz_rel (B z : Nat) (K K' : Nat → Nat × Nat) (R R' : Nat → Nat → Option Nat) (I I' : Nat → Nat → Int32) (L L' : Nat → Nat → Int64) : Prop := ∀ b, b < z → K' b = K b ∧ L' b = L b ∧ (b < B ∨ B + 1460 ≤ b → R' b = R b ∧ I' b = I b)
/-- a builder that holds xs, made since z0 -/
def zz_Bd (g : zz_G) (z0 b : Nat) (xs : List Int32) (K : Nat → Nat × Nat) (R : Nat → Nat → Option Nat) (I : Nat → Nat → Int32) (z : Nat) : Prop := ∃ a cap, zz_SB g K R I b a cap xs ∧ z0 ≤ b ∧ z0 ≤ a ∧ a < z ∧ K b = zz_o 9
section Sby
variable {g : zz_G} {l : Launch} {K K' K1 K2 : Nat → Nat × Nat} {R R' R0 R1 R2 : Nat → Nat → Option Nat} {I I' I0 I1 I2 : Nat → Nat → Int32} {L L' L0 L1 L2 : Nat → Nat → Int64} {z z' z0 z1 B b q n s sa : Nat} {v w : zz_OV} {xs ys : List Int32}
theorem zz_rel.rf : zz_rel B z K K R R I I L L := fun _ _ => ⟨rfl, rfl, fun _ => ⟨rfl, rfl⟩⟩
theorem zz_rel.trans (h : zz_rel B z K K1 R R1 I I1 L L1) (h' : zz_rel B z' K1 K2 R1 R2 I1 I2 L1 L2) (hz : z ≤ z') : zz_rel B z K K2 R R2 I I2 L L2 := fun b hb => by
  obtain ⟨a1, a2, a3⟩ := h b hb
  obtain ⟨b1, b2, b3⟩ := h' b (by omega)
  exact ⟨b1.trans a1, b2.trans a2, fun hq => ⟨(b3 hq).1.trans (a3 hq).1, (b3 hq).2.trans (a3 hq).2⟩⟩
theorem zz_lk.rel (h : zz_lk z K K' R R' I I' L L') : zz_rel B z K K' R R' I I' L L' := fun b hb => ⟨h.1 b (by omega) hb, h.2.2.2 b (by omega) hb, fun _ => ⟨h.2.1 b (by omega) hb, h.2.2.1 b (by omega) hb⟩⟩
theorem zz_Lw.rel (h : zz_Lw g K B z0 R0 I0 L0 v R I L z) : zz_rel B z0 K K R0 R I0 I L0 L := fun b hb => ⟨rfl, h.2.2.1 b hb, fun hq => h.2.1 b hb hq⟩
/-- back to what was known -/
theorem zz_rel.fin (hW : zz_Lw g K B z0 R0 I0 L0 v R I L z) (h : zz_rel B z K K' R R1 I I1 L L1) (hO : zz_Ob g K' R1 I1 B w) (hz : z ≤ z1) : zz_Lw g K B z0 R0 I0 L0 w R1 I1 L1 z1 := by
  obtain ⟨a1, a2, a3, a4, a5, a6⟩ := hW
  refine ⟨hO.mv ⟨fun b h1 h2 => (h b (by omega)).1.symm, zz_kt.rf, zz_kt.rf⟩, fun b hb hq => ?_, fun b hb => (h b (by omega)).2.1.trans (a3 b hb), by omega, a5, a6⟩
  have h1 := (h b (by omega)).2.2 hq
  have h2 := a2 b hb hq
  exact ⟨h1.1.trans h2.1, h1.2.trans h2.2⟩
theorem zz_rel.kt (h : zz_rel B z K K' R R1 I I1 L L1) : zz_kt 0 z K K' := fun b _ hb => (h b hb).1
theorem zz_Bd.rel (h : zz_Bd g z0 b xs K R I z) (hr : zz_rel B z K K' R R1 I I1 L L1) (hB : B + 1460 ≤ z0) (hz : z ≤ z1) : zz_Bd g z0 b xs K' R1 I1 z1 := by
  obtain ⟨a, cap, ⟨⟨k1, k2, k3, k4, k5, k6⟩, i1, i2, i3, i4, i5, i6⟩, h2, h3, h4, h5⟩ := h
  have eb := hr b (by omega)
  have ea := hr a (by omega)
  have fb := eb.2.2 (Or.inr (by omega))
  have fa := ea.2.2 (Or.inr (by omega))
  exact ⟨a, cap, ⟨⟨by rw [eb.1]; exact k1, k2, by rw [fb.1]; exact k3, by rw [ea.1]; exact k4, k5, k6⟩, by rw [fb.2]; exact i1, by rw [fb.2]; exact i2, i3, i4, fun j hj => by rw [fa.2]; exact i5 j hj, i6⟩, h2, h3, by omega, by rw [eb.1]; exact h5⟩
theorem zz_Ob.rel_lk (hO : zz_Ob g K R I B v) (hk : zz_lk z K K' R R' I I' L L') (hB : B + 1460 ≤ z) : zz_Ob g K' R' I' B v := hO.mv ⟨hk.1.wid (by omega) hB, hk.2.1.wid (by omega) hB, hk.2.2.1.wid (by omega) hB⟩
theorem sy_init (hf : l.stackTraces = false) (hA : zz_A g z) : zz_S g l mm_JB_init 1 16 [.ref z] (zz_K K z (zz_o 9), zz_0 R z none, zz_0 I z 0, L, z + 1) (fun a h' => ∃ K' R' I' L', a = none ∧ h' = (K', R', I', L', z + 2) ∧ zz_Bd g z z [] K' R' I' (z + 2) ∧ zz_lk z K K' R R' I I' L L') zz_no := by
  refine zz_S.mono (sp_JB_init hf zz_K_s hA (by omega) (by rw [zz_0_s]; rfl) (by rw [zz_0_s]; rfl)) (fun a h' hq => ?_) (fun E h hx => hx)
  obtain ⟨K1, R1, I1, L1, rfl, rfl, hS1, hk1⟩ := hq
  exact ⟨K1, R1, I1, L1, rfl, rfl, ⟨z + 1, 16, hS1, Nat.le_refl _, by omega, by omega, hS1.1.1⟩, (zz_kt.rf.k0 (by omega)).trans hk1.1, (zz_kt.rf.z0 (a := z) (x := none) (by omega)).trans hk1.2.1, (zz_kt.rf.z0 (a := z) (x := 0) (by omega)).trans hk1.2.2.1, hk1.2.2.2⟩
theorem zz_Zc.bd {v w0 : Option Value} {h' : zz_H} (h : zz_Zc g K R I L z z0 b v 0 xs w0 h') (hb : z0 ≤ b) : ∃ K' R' I' L' z', w0 = v ∧ h' = (K', R', I', L', z') ∧ zz_Bd g z0 b xs K' R' I' z' ∧ z ≤ z' ∧ zz_lk z0 K K' R R' I I' L L' := by
  obtain ⟨K', R', I', L', z', a', cap', rfl, h2, h3, -, h4, h5, h6⟩ := h
  exact ⟨K', R', I', L', z', h2, rfl, ⟨a', cap', h3, hb, h4, h5.2, h3.1.1⟩, h5.1, h6⟩
theorem sy_str (hf : l.stackTraces = false) (hB : zz_Bd g z0 b xs K R I z) (hG : zz_Sg K R I s sa ys) (hn : xs.length + ys.length ≤ 34) (hs : s < z0) (hsa : sa < z0) : zz_S g l mm_JB_append_Str 1 34 [.ref b, .ref s] (K, R, I, L, z) (fun a h' => ∃ K' R' I' L' z', a = some (.ref b) ∧ h' = (K', R', I', L', z') ∧ zz_Bd g z0 b (xs ++ ys) K' R' I' z' ∧ z ≤ z' ∧ zz_lk z0 K K' R R' I I' L L') zz_no := by
  obtain ⟨a, cap, hS, h2, h3, h4, h5⟩ := hB
  exact zz_S.mono (sp_JB_append_Str hf hS hG hn h2 h3 hs hsa) (fun a h' hq => hq.bd h2) (fun E h hx => hx)
theorem sy_int (hf : l.stackTraces = false) (hB : zz_Bd g z0 b xs K R I z) (k : Nat) (hk : k < 10) (hn : xs.length + 1 ≤ 34) (hD : zz_Dg g K I) (hd : g.2.2.2.2 30 < z0) : zz_S g l mm_JB_append_I 1 34 [.ref b, .int (nI k)] (K, R, I, L, z) (fun a h' => ∃ K' R' I' L' z', a = some (.ref b) ∧ h' = (K', R', I', L', z') ∧ zz_Bd g z0 b (xs ++ [nI (48 + k)]) K' R' I' z' ∧ z ≤ z' ∧ zz_lk z0 K K' R R' I I' L L') zz_no := by
  obtain ⟨a, cap, hS, h2, h3, h4, h5⟩ := hB
  exact zz_S.mono (sp_JB_append_I hf hS k hk hn h2 hD hd) (fun a h' hq => hq.bd h2) (fun E h hx => hx)
theorem sy_toS (hf : l.stackTraces = false) (hB : zz_Bd g z0 b xs K R I z) : zz_S g l mm_JB_toString 2 38 [.ref b] (K, R, I, L, z) (fun a h' => ∃ K' R' I' L', a = some (.ref z) ∧ h' = (K', R', I', L', z + 2) ∧ zz_Sg K' R' I' z (z + 1) xs ∧ z0 ≤ z ∧ zz_lk z K K' R R' I I' L L') zz_no := by
  obtain ⟨a, cap, hS, h2, h3, h4, h5⟩ := hB
  refine zz_S.mono (sp_JB_toString hf hS) (fun w h' hq => ?_) (fun E h hx => hx)
  obtain ⟨K', R', I', L', rfl, rfl, h6, -, -, h7⟩ := hq
  exact ⟨K', R', I', L', rfl, rfl, h6, by omega, h7⟩
theorem zz_Ev.rel (hEv : zz_Ev g K R I q n) (hr : zz_rel B z K K' R R1 I I1 L L1) (hA : zz_A g B) (hz : B ≤ z) : zz_Ev g K' R1 I1 q n := hEv.kept (m := B) hA fun b hb => by
  have h := hr b (by omega)
  exact ⟨h.1, (h.2.2 (Or.inl hb)).1, (h.2.2 (Or.inl hb)).2⟩
end Sby
