/-! numbers -/
theorem zi_lt {x y : Int32} : x < y ↔ x.toInt < y.toInt := Int32.lt_iff_toInt_lt
theorem zi_le {x y : Int32} : x ≤ y ↔ x.toInt ≤ y.toInt := Int32.le_iff_toInt_le
theorem zi_eq {x y : Int32} : x = y ↔ x.toInt = y.toInt := Int32.toInt_inj.symm
theorem zi_n {n : Nat} (h : n < 2 ^ 31) : (nI n).toInt = (n : Int) := nI_toInt h
theorem zi_0 : (0 : Int32).toInt = 0 := by decide
theorem zi_m1 : (-1 : Int32).toInt = -1 := by decide
/-- an int that isn't negative -/
theorem zi_of {x : Int32} (h : 0 ≤ x.toInt) : x = nI x.toInt.toNat := by
  have := Int32.toInt_lt x
  apply Int32.toInt_inj.mp
  rw [zi_n (by omega)]
  omega
/-- the int of a truth -/
def zz_tf (p : Prop) [Decidable p] : Int32 := if p then nI 1 else nI 0
theorem zz_tf_t {p : Prop} [Decidable p] (h : p) : zz_tf p = nI 1 := if_pos h
theorem zz_tf_f {p : Prop} [Decidable p] (h : ¬ p) : zz_tf p = nI 0 := if_neg h
theorem zz_tf_0 {p : Prop} [Decidable p] : zz_tf p = 0 ↔ ¬ p := by
  unfold zz_tf
  split
  · rename_i h
    constructor
    · intro q; exact absurd q (by decide)
    · intro q; exact absurd h q
  · rename_i h
    exact ⟨fun _ => h, fun _ => rfl⟩
theorem zz_tf_n0 {p : Prop} [Decidable p] : ¬ zz_tf p = 0 ↔ p := by
  rw [zz_tf_0]
  exact Decidable.not_not
/-- a char -/
def zz_ch (c : Int32) : Prop := fits .char (.int c) = true
theorem zz_ch.le {c : Int32} (h : zz_ch c) : 0 ≤ c.toInt ∧ c.toInt ≤ 65535 := by
  unfold zz_ch fits at h
  simp only [Bool.and_eq_true, decide_eq_true_eq] at h
  rw [zi_le, zi_le, zi_0, show (65535 : Int32).toInt = 65535 by decide] at h
  exact h
theorem zz_ch.nar {c : Int32} (h : zz_ch c) : narrow .char (.int c) = .int c := by
  have h1 := h.le
  rw [zi_of h1.1]
  exact (pk_charN (by omega)).1
theorem zz_ch_n {j : Nat} (h : j < 65536) : zz_ch (nI j) := (pk_charN h).2
/-- a frame: outside lo .. hi nothing has changed -/
def zz_fr (lo hi : Nat) (I I' : Nat → Nat → Int32) : Prop := ∀ b, (b < lo ∨ hi ≤ b) → I' b = I b
theorem zz_fr.rf {lo hi : Nat} {I : Nat → Nat → Int32} : zz_fr lo hi I I := fun _ _ => rfl
theorem zz_fr.wid {lo hi lo' hi' : Nat} {I I' : Nat → Nat → Int32} (h : zz_fr lo hi I I') (h1 : lo' ≤ lo) (h2 : hi ≤ hi') : zz_fr lo' hi' I I' := fun b hb => h b (by omega)
theorem zz_fr.trans {lo hi : Nat} {I I1 I2 : Nat → Nat → Int32} (h : zz_fr lo hi I I1) (h' : zz_fr lo hi I1 I2) : zz_fr lo hi I I2 := fun b hb => (h' b hb).trans (h b hb)
theorem zz_fr.up {lo hi a k : Nat} {x : Int32} {I I' : Nat → Nat → Int32} (h : zz_fr lo hi I I') (h1 : lo ≤ a) (h2 : a < hi) : zz_fr lo hi I (zz_up I' a k x) := fun b hb => (zz_up_r (by omega)).trans (h b hb)
def zz_no : String → zz_H → Prop := fun _ _ => False
/-- a call that answers v and changes nothing -/
def zz_is (h : zz_H) (v : Value) : Option Value → zz_H → Prop := fun w h' => h' = h ∧ w = some v
section ZC
variable {g : zz_G} {l : Launch} {M : zz_M} {mc ms : Nat} {Q : Option Value → zz_H → Prop} {QX : String → zz_H → Prop} {ce sl pc nx : Nat} {lv : List (Option Value)} {st : List Value}
variable {K : Nat → Nat × Nat} {R : Nat → Nat → Option Nat} {I : Nat → Nat → Int32} {L : Nat → Nat → Int64} {z : Nat}
theorem z_castC {a n j : Nat} {i x : Int32} (d : zz_D M pc .castore 1 nx) (hK : K a = zz_a 1 n) (ha : zz_A g a) (hi : i = nI j) (hj : j < n) (hm : n < 2 ^ 31) (hx : zz_ch x) (kk : Zz g l M mc ms Q QX ce sl nx lv st (K, R, zz_up I a j x, L, z)) : Zz g l M mc ms Q QX ce sl pc lv (.int x :: .int i :: .ref a :: st) (K, R, I, L, z) :=
  z_cast d hK ha hi hj hm hx hx.nar kk
end ZC
/-! stores into the first locals, by number -/
section ZST
variable {g : zz_G} {l : Launch} {M : zz_M} {mc ms : Nat} {Q : Option Value → zz_H → Prop} {QX : String → zz_H → Prop} {ce sl pc nx : Nat} {lv : List (Option Value)} {st : List Value} {h : zz_H}
theorem z_istore_m {i : Fin 4} {j : Nat} {x : Int32} (d : zz_D M pc (.istore_n i) 1 nx) (e : (i : Nat) = j) (hi : j < zz_n M) (k : Zz g l M mc ms Q QX ce sl nx (zz_s lv j (.int x)) st h) : Zz g l M mc ms Q QX ce sl pc lv (.int x :: st) h := by
  subst e
  exact z_istore_n d hi k
theorem z_astore_m {i : Fin 4} {j : Nat} {x : Nat} (d : zz_D M pc (.astore_n i) 1 nx) (e : (i : Nat) = j) (hi : j < zz_n M) (k : Zz g l M mc ms Q QX ce sl nx (zz_s lv j (.ref x)) st h) : Zz g l M mc ms Q QX ce sl pc lv (.ref x :: st) h := by
  subst e
  exact z_astore_n d hi k
theorem z_lstore_m {i : Fin 4} {j : Nat} {x : Int64} (d : zz_D M pc (.lstore_n i) 1 nx) (e : (i : Nat) = j) (hi : j + 1 < zz_n M) (k : Zz g l M mc ms Q QX ce sl nx (zz_s2 lv j (.long x)) st h) : Zz g l M mc ms Q QX ce sl pc lv (.long x :: st) h := by
  subst e
  exact z_lstore_n d hi k
theorem z_astoreN_m {i : Fin 4} {j : Nat} (d : zz_D M pc (.astore_n i) 1 nx) (e : (i : Nat) = j) (hi : j < zz_n M) (k : Zz g l M mc ms Q QX ce sl nx (zz_s lv j (.null)) st h) : Zz g l M mc ms Q QX ce sl pc lv (.null :: st) h := by
  subst e
  exact z_astoreN_n d hi k
/-- fewer locals known -/
def zz_le : List (Option Value) → List (Option Value) → Prop
  | [], _ => True
  | none :: t, [] => zz_le t []
  | none :: t, _ :: t' => zz_le t t'
  | some v :: t, x :: t' => x = some v ∧ zz_le t t'
  | some _ :: _, [] => False
theorem zz_le_g : ∀ (a b : List (Option Value)), zz_le a b → ∀ (i : Nat) (v : Value), zz_g a i = some v → zz_g b i = some v
  | [], _, _, i, v, h => by simp [zz_g] at h
  | none :: t, [], hl, i, v, h => by
    cases i with
    | zero => simp [zz_g] at h
    | succ i =>
      simp only [zz_g] at h
      have := zz_le_g t [] hl i v h
      simp [zz_g] at this
  | none :: t, _ :: t', hl, i, v, h => by
    cases i with
    | zero => simp [zz_g] at h
    | succ i => simp only [zz_g] at h ⊢; exact zz_le_g t t' hl i v h
  | some w :: t, x :: t', hl, i, v, h => by
    cases i with
    | zero => simp only [zz_g] at h ⊢; rw [hl.1]; exact h
    | succ i => simp only [zz_g] at h ⊢; exact zz_le_g t t' hl.2 i v h
  | some _ :: _, [], hl, _, _, _ => hl.elim
theorem z_lvw {lv' : List (Option Value)} (hl : zz_le lv' lv) (k : Zz g l M mc ms Q QX ce sl pc lv' st h) : Zz g l M mc ms Q QX ce sl pc lv st h := by
  intro p e s m args below meth c H locs ls C hH hv hL
  exact k p e s m args below meth c H locs ls C hH ⟨hv.1, hv.2.1, fun i v q => hv.2.2 i v (zz_le_g _ _ hl i v q)⟩ hL
theorem z_lvk {lv' : List (Option Value)} (k : Zz g l M mc ms Q QX ce sl pc lv' st h) (hl : zz_le lv' lv) : Zz g l M mc ms Q QX ce sl pc lv st h := z_lvw hl k
end ZST
/-! methods of classes that have natives, but not this one -/
section ZF
variable {g : zz_G} {l : Launch} {M : zz_M} {mc ms : Nat} {Q : Option Value → zz_H → Prop} {QX : String → zz_H → Prop} {h : zz_H}
theorem vx_ofWF {y : MethodName} {ws ws' : List Cond} {rm : Room} {Pc : Array Value → State → Prop} {Qc : Array Value → State → Outcome → State → Prop} {XC : String → State → State → Prop} {mc ms : Nat} {free : Addr → Prop} {cc : ByteArray} {maxL : Nat} {ret : Option FieldType}
    (hy : plainFor y = true) (hw : ws = Cond.code y cc maxL ret :: ws')
    (body : ∀ p e s m args below meth c s₁, BodyLoose p l y (headSpec ws rm) cc maxL ret e s m args below meth c s₁ → c.maxLocals = maxL → (∀ x ∈ c.exceptionTable.toList, False) → Pc args s →
      W p l e (headSpec ws rm).room s m args below meth c s.heap [] 0 0 (vx_MQ below Qc XC args s mc ms free) (entryFrame m args maxL)) : vx_Met l y ws rm Pc Qc XC mc ms free := by
  refine MetFree.of_bodySF (code := cc) (maxLocals := maxL) (ret := ret) hy ?_ ?_
  · intro args s m h hn
    obtain ⟨meth, c, h1, h2, h3, h4, h5, h6, -, -⟩ := Cond.code_spec hn (atoms_spec (ws := ws) h _ (by rw [hw]; exact List.mem_cons_self))
    exact ⟨meth, c, h1, h2, h3, h4, h5, h6⟩
  · intro p e s m args below meth c s₁ B hml hP _
    have hh0 : s₁.heap = s.heap := by rw [B.state]; rfl
    have ht : ∀ x ∈ c.exceptionTable.toList, False := by
      obtain ⟨meth9, c9, h1, h2, -, -, -, -, h7, -⟩ := Cond.code_spec B.named (atoms_spec (ws := ws) B.pre _ (by rw [hw]; exact List.mem_cons_self))
      cases Option.some.inj (h1.symm.trans B.method)
      cases Option.some.inj (h2.symm.trans (Stand.of_body B).code)
      intro x hx
      rw [Array.isEmpty_iff.mp h7] at hx
      cases hx
    obtain ⟨t, a1, o, b1, b2, b3⟩ := body p e s m args below meth c s₁ B hml ht hP s₁ hh0 (Stand.of_body B)
    exact ⟨t, o, a1, b1, b2, b3⟩
theorem z_startF {av : List Value} (hf : l.stackTraces = false) (hh : zz_hh M = []) (hp : plainFor (zz_y M) = true) (hn : (lg_sl av).length ≤ zz_n M) (k : Zz g l M mc ms Q QX 0 0 0 (zz_lv0 av) [] h) : zz_S g l M mc ms av h Q QX := by
  refine vx_ofWF hp (zz_cw_code hh) fun p e s m args below meth c s₁ B hml ht hP => ?_
  refine zz_body hf hn B hml ?_ hP k
  rw [hh]
  cases hc : c.exceptionTable.toList with
  | nil => rfl
  | cons x t => exact absurd (by rw [hc]; exact List.mem_cons_self) (fun q => ht x q)
end ZF
