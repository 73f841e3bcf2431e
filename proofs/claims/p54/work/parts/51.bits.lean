/-! DOUBLE AND FLOAT AS BITS -/
section BitsR
variable {g : zz_G} {l : Launch} {M : zz_M} {mc ms : Nat} {Q : Option Value → zz_H → Prop} {QX : String → zz_H → Prop} {ce sl pc nx : Nat} {lv : List (Option Value)} {st : List Value} {h : zz_H}
theorem z_dcmp {x y : UInt64} {op : CmpOp} (d : zz_D M pc (.dcmp op) 1 nx) (k : Zz g l M mc ms Q QX ce sl nx lv (.int (Op.cmpValue (FP.dcmp x y) op) :: st) h) : Zz g l M mc ms Q QX ce sl pc lv (.double y :: .double x :: st) h := by
  obtain ⟨d, rfl⟩ := d
  intro p e s m args below meth c H locs ls C hH hl hL
  exact lv_dcmp C.1 C.2.1 d (k p e s m args below meth c H locs ls C hH hl hL)
theorem z_fcmp {x y : UInt32} {op : CmpOp} (d : zz_D M pc (.fcmp op) 1 nx) (k : Zz g l M mc ms Q QX ce sl nx lv (.int (Op.cmpValue (FP.fcmp x y) op) :: st) h) : Zz g l M mc ms Q QX ce sl pc lv (.float y :: .float x :: st) h := by
  obtain ⟨d, rfl⟩ := d
  intro p e s m args below meth c H locs ls C hH hl hL
  exact lv_fcmp C.1 C.2.1 d (k p e s m args below meth c H locs ls C hH hl hL)
theorem z_d2l {ix : Nat} {b : UInt64} (d : zz_D M pc (.invokestatic ix) 3 nx) (w1 : Cond.methodLink (zz_y M).cls ix ⟨"java/lang/Double", "doubleToRawLongBits", "(D)J"⟩ ∈ zz_gw) (w2 : Cond.native ⟨"java/lang/Double", "doubleToRawLongBits", "(D)J"⟩ ∈ zz_gw) (w3 : Cond.static ⟨"java/lang/Double", "doubleToRawLongBits", "(D)J"⟩ ∈ zz_gw) (w4 : Cond.initialized "java/lang/Double" ∈ zz_gw) (hd : 1 ≤ zz_d M) (hW : (st.map fun v => v.category).sum + 15 ≤ 40 * zz_d M) (k : Zz g l M mc ms Q QX ce sl nx lv (.long b.toInt64 :: st) h) : Zz g l M mc ms Q QX ce sl pc lv (.double b :: st) h := by
  obtain ⟨d, rfl⟩ := d
  intro p e s m args below meth c H locs ls C hH hl hL
  exact vn_d2l C.1 C.2.1 (by rw [C.2.2.2.1]; exact hl.1.symm) C.own (C.ws _ w1) (C.ws _ w2) (C.ws _ w3) (C.ws _ w4) hd hW d (k p e s m args below meth c H locs ls C hH hl hL)
theorem z_f2i {ix : Nat} {b : UInt32} (d : zz_D M pc (.invokestatic ix) 3 nx) (w1 : Cond.methodLink (zz_y M).cls ix ⟨"java/lang/Float", "floatToRawIntBits", "(F)I"⟩ ∈ zz_gw) (w2 : Cond.native ⟨"java/lang/Float", "floatToRawIntBits", "(F)I"⟩ ∈ zz_gw) (w3 : Cond.static ⟨"java/lang/Float", "floatToRawIntBits", "(F)I"⟩ ∈ zz_gw) (w4 : Cond.initialized "java/lang/Float" ∈ zz_gw) (hd : 1 ≤ zz_d M) (hW : (st.map fun v => v.category).sum + 15 ≤ 40 * zz_d M) (k : Zz g l M mc ms Q QX ce sl nx lv (.int b.toInt32 :: st) h) : Zz g l M mc ms Q QX ce sl pc lv (.float b :: st) h := by
  obtain ⟨d, rfl⟩ := d
  intro p e s m args below meth c H locs ls C hH hl hL
  exact vn_f2i C.1 C.2.1 (by rw [C.2.2.2.1]; exact hl.1.symm) C.own (C.ws _ w1) (C.ws _ w2) (C.ws _ w3) (C.ws _ w4) hd hW d (k p e s m args below meth c H locs ls C hH hl hL)
end BitsR
def zz_dl (x : UInt64) : Int64 := if Op.cmpValue (FP.dcmp x x) .l = 0 then x.toInt64 else 9221120237041090560
def zz_fl2 (x : UInt32) : Int32 := if Op.cmpValue (FP.fcmp x x) .l = 0 then x.toInt32 else 2143289344
section Bits
variable {g : zz_G} {l : Launch} {h : zz_H}
theorem sp_JD_isNaN (hf : l.stackTraces = false) (x : UInt64) : zz_S g l mm_JD_isNaN 0 0 [.double x] h (zz_is h (.int (zz_tf (¬ Op.cmpValue (FP.dcmp x x) .l = 0)))) zz_no := by
  refine z_startF hf rfl (by decide +kernel) (Nat.le_of_ble_eq_true rfl) ?_
  dsimp only [zz_lv0]
  refine z_dload_n ee_JD_isNaN_0 rfl ?_
  refine z_dload_n ee_JD_isNaN_1 rfl ?_
  -- at 2
  refine z_dcmp ee_JD_isNaN_2 ?_
  refine z_if_eq ee_JD_isNaN_3 (tgt := 10) (by decide) (fun c_3 => ?_) (fun c_3 => ?_)
  -- at 3
  · refine z_iconst ee_JD_isNaN_10 (v := nI 0) (by decide) ?_
    refine z_zret ee_JD_isNaN_11 (ty := .boolean) rfl (by decide) (by omega) (by omega) ?_
    -- at 11
    exact ⟨rfl, by rw [zz_tf_f (fun q => q c_3)]⟩
  · refine z_iconst ee_JD_isNaN_6 (v := nI 1) (by decide) ?_
    refine z_goto ee_JD_isNaN_7 (tgt := 11) (by decide) ?_
    refine z_zret ee_JD_isNaN_11 (ty := .boolean) rfl (by decide) (by omega) (by omega) ?_
    -- at 11
    exact ⟨rfl, by rw [zz_tf_t c_3]⟩
theorem sp_JF_isNaN (hf : l.stackTraces = false) (x : UInt32) : zz_S g l mm_JF_isNaN 0 0 [.float x] h (zz_is h (.int (zz_tf (¬ Op.cmpValue (FP.fcmp x x) .l = 0)))) zz_no := by
  refine z_startF hf rfl (by decide +kernel) (Nat.le_of_ble_eq_true rfl) ?_
  dsimp only [zz_lv0]
  refine z_fload_n ee_JF_isNaN_0 rfl ?_
  refine z_fload_n ee_JF_isNaN_1 rfl ?_
  -- at 2
  refine z_fcmp ee_JF_isNaN_2 ?_
  refine z_if_eq ee_JF_isNaN_3 (tgt := 10) (by decide) (fun c_3 => ?_) (fun c_3 => ?_)
  -- at 3
  · refine z_iconst ee_JF_isNaN_10 (v := nI 0) (by decide) ?_
    refine z_zret ee_JF_isNaN_11 (ty := .boolean) rfl (by decide) (by omega) (by omega) ?_
    -- at 11
    exact ⟨rfl, by rw [zz_tf_f (fun q => q c_3)]⟩
  · refine z_iconst ee_JF_isNaN_6 (v := nI 1) (by decide) ?_
    refine z_goto ee_JF_isNaN_7 (tgt := 11) (by decide) ?_
    refine z_zret ee_JF_isNaN_11 (ty := .boolean) rfl (by decide) (by omega) (by omega) ?_
    -- at 11
    exact ⟨rfl, by rw [zz_tf_t c_3]⟩
theorem sp_JD_doubleToLongBits (hf : l.stackTraces = false) (x : UInt64) : zz_S g l mm_JD_doubleToLongBits 0 0 [.double x] h (zz_is h (.long (zz_dl x))) zz_no := by
  unfold zz_dl
  refine z_startF hf rfl (by decide +kernel) (Nat.le_of_ble_eq_true rfl) ?_
  dsimp only [zz_lv0]
  refine z_dload_n ee_JD_doubleToLongBits_0 rfl ?_
  -- at 1
  refine z_callS (As := [_]) ee_JD_doubleToLongBits_1 kk_JD_doubleToLongBits_122 rfl rfl (Nat.le_of_ble_eq_true rfl) (by omega) (sp_JD_isNaN hf x) (fun E h1 hx => hx.elim) (fun v h1 hq => ?_)
  obtain ⟨rfl, rfl⟩ := hq
  refine z_if_ne ee_JD_doubleToLongBits_4 (tgt := 12) (by decide) (fun c_4 => ?_) (fun c_4 => ?_)
  -- at 4
  · rw [zz_tf_n0] at c_4
    rw [if_neg c_4]
    refine z_ldc2 ee_JD_doubleToLongBits_12 wc_JD_doubleToLongBits_137 ?_
    refine z_lret ee_JD_doubleToLongBits_15 rfl (by omega) (by omega) ?_
    -- at 15
    exact ⟨rfl, rfl⟩
  · rw [zz_tf_0] at c_4
    rw [if_pos (Decidable.not_not.mp c_4)]
    refine z_dload_n ee_JD_doubleToLongBits_7 rfl ?_
    -- at 8
    refine z_d2l ee_JD_doubleToLongBits_8 (zz_in 1235 (by decide +kernel) rfl) (zz_in 1237 (by decide +kernel) rfl) (zz_in 1236 (by decide +kernel) rfl) (zz_in 50 (by decide +kernel) rfl) (Nat.le_of_ble_eq_true rfl) (Nat.le_of_ble_eq_true rfl) ?_
    refine z_lret ee_JD_doubleToLongBits_11 rfl (by omega) (by omega) ?_
    -- at 11
    exact ⟨rfl, rfl⟩
theorem sp_JF_floatToIntBits (hf : l.stackTraces = false) (x : UInt32) : zz_S g l mm_JF_floatToIntBits 0 0 [.float x] h (zz_is h (.int (zz_fl2 x))) zz_no := by
  unfold zz_fl2
  refine z_startF hf rfl (by decide +kernel) (Nat.le_of_ble_eq_true rfl) ?_
  dsimp only [zz_lv0]
  refine z_fload_n ee_JF_floatToIntBits_0 rfl ?_
  -- at 1
  refine z_callS (As := [_]) ee_JF_floatToIntBits_1 kk_JF_floatToIntBits_59 rfl rfl (Nat.le_of_ble_eq_true rfl) (by omega) (sp_JF_isNaN hf x) (fun E h1 hx => hx.elim) (fun v h1 hq => ?_)
  obtain ⟨rfl, rfl⟩ := hq
  refine z_if_ne ee_JF_floatToIntBits_4 (tgt := 12) (by decide) (fun c_4 => ?_) (fun c_4 => ?_)
  -- at 4
  · rw [zz_tf_n0] at c_4
    rw [if_neg c_4]
    refine z_ldc ee_JF_floatToIntBits_12 wc_JF_floatToIntBits_77 ?_
    refine z_iret ee_JF_floatToIntBits_14 rfl (by omega) (by omega) ?_
    -- at 14
    exact ⟨rfl, rfl⟩
  · rw [zz_tf_0] at c_4
    rw [if_pos (Decidable.not_not.mp c_4)]
    refine z_fload_n ee_JF_floatToIntBits_7 rfl ?_
    -- at 8
    refine z_f2i ee_JF_floatToIntBits_8 (zz_in 1257 (by decide +kernel) rfl) (zz_in 1259 (by decide +kernel) rfl) (zz_in 1258 (by decide +kernel) rfl) (zz_in 51 (by decide +kernel) rfl) (Nat.le_of_ble_eq_true rfl) (Nat.le_of_ble_eq_true rfl) ?_
    refine z_iret ee_JF_floatToIntBits_11 rfl (by omega) (by omega) ?_
    -- at 11
    exact ⟨rfl, rfl⟩
end Bits
