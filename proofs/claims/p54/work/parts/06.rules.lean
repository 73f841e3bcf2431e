/-! RULES: a row an instruction -/
def zz_D (M : zz_M) (pc : Nat) (i : Instr) (len nx : Nat) : Prop := decode (zz_b M) pc = .ok (i, len) ∧ pc + len = nx
section Rules
variable {g : zz_G} {l : Launch} {M : zz_M} {mc ms : Nat} {Q : Option Value → zz_H → Prop} {QX : String → zz_H → Prop} {ce sl pc nx : Nat} {lv : List (Option Value)} {st : List Value} {h : zz_H}
theorem z_wid {ce' sl' : Nat} (h1 : ce ≤ ce') (h2 : sl ≤ sl') (k : Zz g l M mc ms Q QX ce' sl' pc lv st h) : Zz g l M mc ms Q QX ce sl pc lv st h := by
  intro p e s m args below meth c H locs ls C hH hl hL
  exact W.widen h1 h2 (k p e s m args below meth c H locs ls C hH hl hL)
theorem z_iconst {n : Int} {v : Int32} (d : zz_D M pc (.iconst n) 1 nx) (hv : Int32.ofInt n = v) (k : Zz g l M mc ms Q QX ce sl nx lv (.int v :: st) h) : Zz g l M mc ms Q QX ce sl pc lv (st) h := by
  obtain ⟨d, rfl⟩ := d
  intro p e s m args below meth c H locs ls C hH hl hL
  exact lv_iconst C.1 C.2.1 d hv (k p e s m args below meth c H locs ls C hH hl hL)
theorem z_bipush {n : Int} {v : Int32} (d : zz_D M pc (.bipush n) 2 nx) (hv : (Int8.ofInt n).toInt32 = v) (k : Zz g l M mc ms Q QX ce sl nx lv (.int v :: st) h) : Zz g l M mc ms Q QX ce sl pc lv (st) h := by
  obtain ⟨d, rfl⟩ := d
  intro p e s m args below meth c H locs ls C hH hl hL
  exact lv_bipush C.1 C.2.1 d hv (k p e s m args below meth c H locs ls C hH hl hL)
theorem z_sipush {n : Int} {v : Int32} (d : zz_D M pc (.sipush n) 3 nx) (hv : (Int16.ofInt n).toInt32 = v) (k : Zz g l M mc ms Q QX ce sl nx lv (.int v :: st) h) : Zz g l M mc ms Q QX ce sl pc lv (st) h := by
  obtain ⟨d, rfl⟩ := d
  intro p e s m args below meth c H locs ls C hH hl hL
  exact lv_sipush C.1 C.2.1 d hv (k p e s m args below meth c H locs ls C hH hl hL)
theorem z_null (d : zz_D M pc .aconst_null 1 nx) (k : Zz g l M mc ms Q QX ce sl nx lv (.null :: st) h) : Zz g l M mc ms Q QX ce sl pc lv (st) h := by
  obtain ⟨d, rfl⟩ := d
  intro p e s m args below meth c H locs ls C hH hl hL
  exact lv_null C.1 C.2.1 d (k p e s m args below meth c H locs ls C hH hl hL)
theorem z_iload {i : Nat} {x : Int32} (d : zz_D M pc (.iload i) 2 nx) (hv : zz_g lv i = some (.int x)) (k : Zz g l M mc ms Q QX ce sl nx lv (.int x :: st) h) : Zz g l M mc ms Q QX ce sl pc lv (st) h := by
  obtain ⟨d, rfl⟩ := d
  intro p e s m args below meth c H locs ls C hH hl hL
  exact lv_iload C.1 C.2.1 d (hl.2.2 _ _ hv) (k p e s m args below meth c H locs ls C hH hl hL)
theorem z_iload_n {i : Fin 4} {x : Int32} (d : zz_D M pc (.iload_n i) 1 nx) (hv : zz_g lv (i : Nat) = some (.int x)) (k : Zz g l M mc ms Q QX ce sl nx lv (.int x :: st) h) : Zz g l M mc ms Q QX ce sl pc lv (st) h := by
  obtain ⟨d, rfl⟩ := d
  intro p e s m args below meth c H locs ls C hH hl hL
  exact lv_iload_n C.1 C.2.1 d rfl (hl.2.2 _ _ hv) (k p e s m args below meth c H locs ls C hH hl hL)
theorem z_lload {i : Nat} {x : Int64} (d : zz_D M pc (.lload i) 2 nx) (hv : zz_g lv i = some (.long x)) (k : Zz g l M mc ms Q QX ce sl nx lv (.long x :: st) h) : Zz g l M mc ms Q QX ce sl pc lv (st) h := by
  obtain ⟨d, rfl⟩ := d
  intro p e s m args below meth c H locs ls C hH hl hL
  exact lv_lload C.1 C.2.1 d (hl.2.2 _ _ hv) (k p e s m args below meth c H locs ls C hH hl hL)
theorem z_lload_n {i : Fin 4} {x : Int64} (d : zz_D M pc (.lload_n i) 1 nx) (hv : zz_g lv (i : Nat) = some (.long x)) (k : Zz g l M mc ms Q QX ce sl nx lv (.long x :: st) h) : Zz g l M mc ms Q QX ce sl pc lv (st) h := by
  obtain ⟨d, rfl⟩ := d
  intro p e s m args below meth c H locs ls C hH hl hL
  exact lv_lload_n C.1 C.2.1 d rfl (hl.2.2 _ _ hv) (k p e s m args below meth c H locs ls C hH hl hL)
theorem z_aload {i : Nat} {x : Nat} (d : zz_D M pc (.aload i) 2 nx) (hv : zz_g lv i = some (.ref x)) (k : Zz g l M mc ms Q QX ce sl nx lv (.ref x :: st) h) : Zz g l M mc ms Q QX ce sl pc lv (st) h := by
  obtain ⟨d, rfl⟩ := d
  intro p e s m args below meth c H locs ls C hH hl hL
  exact lv_aload C.1 C.2.1 d (hl.2.2 _ _ hv) (k p e s m args below meth c H locs ls C hH hl hL)
theorem z_aload_n {i : Fin 4} {x : Nat} (d : zz_D M pc (.aload_n i) 1 nx) (hv : zz_g lv (i : Nat) = some (.ref x)) (k : Zz g l M mc ms Q QX ce sl nx lv (.ref x :: st) h) : Zz g l M mc ms Q QX ce sl pc lv (st) h := by
  obtain ⟨d, rfl⟩ := d
  intro p e s m args below meth c H locs ls C hH hl hL
  exact lv_aload_n C.1 C.2.1 d rfl (hl.2.2 _ _ hv) (k p e s m args below meth c H locs ls C hH hl hL)
theorem z_fload {i : Nat} {x : UInt32} (d : zz_D M pc (.fload i) 2 nx) (hv : zz_g lv i = some (.float x)) (k : Zz g l M mc ms Q QX ce sl nx lv (.float x :: st) h) : Zz g l M mc ms Q QX ce sl pc lv (st) h := by
  obtain ⟨d, rfl⟩ := d
  intro p e s m args below meth c H locs ls C hH hl hL
  exact lv_fload C.1 C.2.1 d (hl.2.2 _ _ hv) (k p e s m args below meth c H locs ls C hH hl hL)
theorem z_fload_n {i : Fin 4} {x : UInt32} (d : zz_D M pc (.fload_n i) 1 nx) (hv : zz_g lv (i : Nat) = some (.float x)) (k : Zz g l M mc ms Q QX ce sl nx lv (.float x :: st) h) : Zz g l M mc ms Q QX ce sl pc lv (st) h := by
  obtain ⟨d, rfl⟩ := d
  intro p e s m args below meth c H locs ls C hH hl hL
  exact lv_fload_n C.1 C.2.1 d rfl (hl.2.2 _ _ hv) (k p e s m args below meth c H locs ls C hH hl hL)
theorem z_dload_n {i : Fin 4} {x : UInt64} (d : zz_D M pc (.dload_n i) 1 nx) (hv : zz_g lv (i : Nat) = some (.double x)) (k : Zz g l M mc ms Q QX ce sl nx lv (.double x :: st) h) : Zz g l M mc ms Q QX ce sl pc lv (st) h := by
  obtain ⟨d, rfl⟩ := d
  intro p e s m args below meth c H locs ls C hH hl hL
  exact lv_dload_n C.1 C.2.1 d rfl (hl.2.2 _ _ hv) (k p e s m args below meth c H locs ls C hH hl hL)
theorem z_aloadN {i : Nat} (d : zz_D M pc (.aload i) 2 nx) (hv : zz_g lv i = some .null) (k : Zz g l M mc ms Q QX ce sl nx lv (.null :: st) h) : Zz g l M mc ms Q QX ce sl pc lv (st) h := by
  obtain ⟨d, rfl⟩ := d
  intro p e s m args below meth c H locs ls C hH hl hL
  exact lv_aloadN C.1 C.2.1 d (hl.2.2 _ _ hv) (k p e s m args below meth c H locs ls C hH hl hL)
theorem z_aloadN_n {i : Fin 4} (d : zz_D M pc (.aload_n i) 1 nx) (hv : zz_g lv (i : Nat) = some .null) (k : Zz g l M mc ms Q QX ce sl nx lv (.null :: st) h) : Zz g l M mc ms Q QX ce sl pc lv (st) h := by
  obtain ⟨d, rfl⟩ := d
  intro p e s m args below meth c H locs ls C hH hl hL
  exact lv_aload_nN C.1 C.2.1 d rfl (hl.2.2 _ _ hv) (k p e s m args below meth c H locs ls C hH hl hL)
theorem z_istore {i : Nat} {x : Int32} (d : zz_D M pc (.istore i) 2 nx) (hi : i < zz_n M) (k : Zz g l M mc ms Q QX ce sl nx (zz_s lv i (.int x)) st h) : Zz g l M mc ms Q QX ce sl pc lv (.int x :: st) h := by
  obtain ⟨d, rfl⟩ := d
  intro p e s m args below meth c H locs ls C hH hl hL
  exact lv_istore C.1 C.2.1 d hl.has hi rfl (fun ls2 hl2 => k p e s m args below meth c H locs ls2 C hH (zz_lv.st1 hl2) hL)
theorem z_istore_n {i : Fin 4} {x : Int32} (d : zz_D M pc (.istore_n i) 1 nx) (hi : (i : Nat) < zz_n M) (k : Zz g l M mc ms Q QX ce sl nx (zz_s lv (i : Nat) (.int x)) st h) : Zz g l M mc ms Q QX ce sl pc lv (.int x :: st) h := by
  obtain ⟨d, rfl⟩ := d
  intro p e s m args below meth c H locs ls C hH hl hL
  exact lv_istore_n C.1 C.2.1 d rfl hl.has hi rfl (fun ls2 hl2 => k p e s m args below meth c H locs ls2 C hH (zz_lv.st1 hl2) hL)
theorem z_astore {i : Nat} {x : Nat} (d : zz_D M pc (.astore i) 2 nx) (hi : i < zz_n M) (k : Zz g l M mc ms Q QX ce sl nx (zz_s lv i (.ref x)) st h) : Zz g l M mc ms Q QX ce sl pc lv (.ref x :: st) h := by
  obtain ⟨d, rfl⟩ := d
  intro p e s m args below meth c H locs ls C hH hl hL
  exact lv_astore C.1 C.2.1 d hl.has hi rfl (fun ls2 hl2 => k p e s m args below meth c H locs ls2 C hH (zz_lv.st1 hl2) hL)
theorem z_astore_n {i : Fin 4} {x : Nat} (d : zz_D M pc (.astore_n i) 1 nx) (hi : (i : Nat) < zz_n M) (k : Zz g l M mc ms Q QX ce sl nx (zz_s lv (i : Nat) (.ref x)) st h) : Zz g l M mc ms Q QX ce sl pc lv (.ref x :: st) h := by
  obtain ⟨d, rfl⟩ := d
  intro p e s m args below meth c H locs ls C hH hl hL
  exact lv_astore_n C.1 C.2.1 d rfl hl.has hi rfl (fun ls2 hl2 => k p e s m args below meth c H locs ls2 C hH (zz_lv.st1 hl2) hL)
theorem z_lstore {i : Nat} {x : Int64} (d : zz_D M pc (.lstore i) 2 nx) (hi : i + 1 < zz_n M) (k : Zz g l M mc ms Q QX ce sl nx (zz_s2 lv i (.long x)) st h) : Zz g l M mc ms Q QX ce sl pc lv (.long x :: st) h := by
  obtain ⟨d, rfl⟩ := d
  intro p e s m args below meth c H locs ls C hH hl hL
  exact lv_lstore C.1 C.2.1 d hl.has hi rfl (fun ls2 hl2 => k p e s m args below meth c H locs ls2 C hH (zz_lv.st2 hl2) hL)
theorem z_lstore_n {i : Fin 4} {x : Int64} (d : zz_D M pc (.lstore_n i) 1 nx) (hi : (i : Nat) + 1 < zz_n M) (k : Zz g l M mc ms Q QX ce sl nx (zz_s2 lv (i : Nat) (.long x)) st h) : Zz g l M mc ms Q QX ce sl pc lv (.long x :: st) h := by
  obtain ⟨d, rfl⟩ := d
  intro p e s m args below meth c H locs ls C hH hl hL
  exact lv_lstore_n C.1 C.2.1 d rfl hl.has hi rfl (fun ls2 hl2 => k p e s m args below meth c H locs ls2 C hH (zz_lv.st2 hl2) hL)
theorem z_astoreN {i : Nat} (d : zz_D M pc (.astore i) 2 nx) (hi : i < zz_n M) (k : Zz g l M mc ms Q QX ce sl nx (zz_s lv i (.null)) st h) : Zz g l M mc ms Q QX ce sl pc lv (.null :: st) h := by
  obtain ⟨d, rfl⟩ := d
  intro p e s m args below meth c H locs ls C hH hl hL
  exact lv_astoreN C.1 C.2.1 d hl.has hi rfl (fun ls2 hl2 => k p e s m args below meth c H locs ls2 C hH (zz_lv.st1 hl2) hL)
theorem z_astoreN_n {i : Fin 4} (d : zz_D M pc (.astore_n i) 1 nx) (hi : (i : Nat) < zz_n M) (k : Zz g l M mc ms Q QX ce sl nx (zz_s lv (i : Nat) (.null)) st h) : Zz g l M mc ms Q QX ce sl pc lv (.null :: st) h := by
  obtain ⟨d, rfl⟩ := d
  intro p e s m args below meth c H locs ls C hH hl hL
  exact lv_astore_nN C.1 C.2.1 d rfl hl.has hi rfl (fun ls2 hl2 => k p e s m args below meth c H locs ls2 C hH (zz_lv.st1 hl2) hL)
theorem z_iinc {i : Nat} {n : Int} {x v : Int32} (d : zz_D M pc (.iinc i n) 3 nx) (hx : zz_g lv i = some (.int x)) (hv : x + Int32.ofInt n = v) (hi : i < zz_n M) (k : Zz g l M mc ms Q QX ce sl nx (zz_s lv i (.int v)) st h) : Zz g l M mc ms Q QX ce sl pc lv st h := by
  obtain ⟨d, rfl⟩ := d
  intro p e s m args below meth c H locs ls C hH hl hL
  obtain ⟨j, hj⟩ := List.getElem?_of_mem (zz_L_mem.mpr hx)
  exact lv_iinc C.1 C.2.1 d hl.has hj hv hi rfl (fun ls2 hl2 => k p e s m args below meth c H locs ls2 C hH (zz_lv.st1 hl2) hL)
theorem z_iadd {x y : Int32} (d : zz_D M pc .iadd 1 nx) (k : Zz g l M mc ms Q QX ce sl nx lv (.int (x + y) :: st) h) : Zz g l M mc ms Q QX ce sl pc lv (.int y :: .int x :: st) h := by
  obtain ⟨d, rfl⟩ := d
  intro p e s m args below meth c H locs ls C hH hl hL
  exact lv_iadd C.1 C.2.1 d (k p e s m args below meth c H locs ls C hH hl hL)
theorem z_isub {x y : Int32} (d : zz_D M pc .isub 1 nx) (k : Zz g l M mc ms Q QX ce sl nx lv (.int (x - y) :: st) h) : Zz g l M mc ms Q QX ce sl pc lv (.int y :: .int x :: st) h := by
  obtain ⟨d, rfl⟩ := d
  intro p e s m args below meth c H locs ls C hH hl hL
  exact lv_isub C.1 C.2.1 d (k p e s m args below meth c H locs ls C hH hl hL)
theorem z_imul {x y : Int32} (d : zz_D M pc .imul 1 nx) (k : Zz g l M mc ms Q QX ce sl nx lv (.int (x * y) :: st) h) : Zz g l M mc ms Q QX ce sl pc lv (.int y :: .int x :: st) h := by
  obtain ⟨d, rfl⟩ := d
  intro p e s m args below meth c H locs ls C hH hl hL
  exact lv_imul C.1 C.2.1 d (k p e s m args below meth c H locs ls C hH hl hL)
theorem z_iand {x y : Int32} (d : zz_D M pc .iand 1 nx) (k : Zz g l M mc ms Q QX ce sl nx lv (.int (x &&& y) :: st) h) : Zz g l M mc ms Q QX ce sl pc lv (.int y :: .int x :: st) h := by
  obtain ⟨d, rfl⟩ := d
  intro p e s m args below meth c H locs ls C hH hl hL
  exact lv_iand C.1 C.2.1 d (k p e s m args below meth c H locs ls C hH hl hL)
theorem z_ior {x y : Int32} (d : zz_D M pc .ior 1 nx) (k : Zz g l M mc ms Q QX ce sl nx lv (.int (x ||| y) :: st) h) : Zz g l M mc ms Q QX ce sl pc lv (.int y :: .int x :: st) h := by
  obtain ⟨d, rfl⟩ := d
  intro p e s m args below meth c H locs ls C hH hl hL
  exact lv_ior C.1 C.2.1 d (k p e s m args below meth c H locs ls C hH hl hL)
theorem z_ixor {x y : Int32} (d : zz_D M pc .ixor 1 nx) (k : Zz g l M mc ms Q QX ce sl nx lv (.int (x ^^^ y) :: st) h) : Zz g l M mc ms Q QX ce sl pc lv (.int y :: .int x :: st) h := by
  obtain ⟨d, rfl⟩ := d
  intro p e s m args below meth c H locs ls C hH hl hL
  exact lv_ixor C.1 C.2.1 d (k p e s m args below meth c H locs ls C hH hl hL)
theorem z_ishr {x y : Int32} (d : zz_D M pc .ishr 1 nx) (k : Zz g l M mc ms Q QX ce sl nx lv (.int (x >>> (y &&& 31)) :: st) h) : Zz g l M mc ms Q QX ce sl pc lv (.int y :: .int x :: st) h := by
  obtain ⟨d, rfl⟩ := d
  intro p e s m args below meth c H locs ls C hH hl hL
  exact lv_ishr C.1 C.2.1 d (k p e s m args below meth c H locs ls C hH hl hL)
theorem z_ishl {x y : Int32} (d : zz_D M pc .ishl 1 nx) (k : Zz g l M mc ms Q QX ce sl nx lv (.int (x <<< (y &&& 31)) :: st) h) : Zz g l M mc ms Q QX ce sl pc lv (.int y :: .int x :: st) h := by
  obtain ⟨d, rfl⟩ := d
  intro p e s m args below meth c H locs ls C hH hl hL
  exact lv_ishl C.1 C.2.1 d (k p e s m args below meth c H locs ls C hH hl hL)
theorem z_idiv {x y : Int32} (d : zz_D M pc .idiv 1 nx) (hn : ¬ y = 0) (k : Zz g l M mc ms Q QX ce sl nx lv (.int (x / y) :: st) h) : Zz g l M mc ms Q QX ce sl pc lv (.int y :: .int x :: st) h := by
  obtain ⟨d, rfl⟩ := d
  intro p e s m args below meth c H locs ls C hH hl hL
  exact lv_idiv C.1 C.2.1 d hn (k p e s m args below meth c H locs ls C hH hl hL)
theorem z_irem {x y : Int32} (d : zz_D M pc .irem 1 nx) (hn : ¬ y = 0) (k : Zz g l M mc ms Q QX ce sl nx lv (.int (x - x / y * y) :: st) h) : Zz g l M mc ms Q QX ce sl pc lv (.int y :: .int x :: st) h := by
  obtain ⟨d, rfl⟩ := d
  intro p e s m args below meth c H locs ls C hH hl hL
  exact lv_irem C.1 C.2.1 d hn (k p e s m args below meth c H locs ls C hH hl hL)
theorem z_ineg {x : Int32} (d : zz_D M pc .ineg 1 nx) (k : Zz g l M mc ms Q QX ce sl nx lv (.int (-x) :: st) h) : Zz g l M mc ms Q QX ce sl pc lv (.int x :: st) h := by
  obtain ⟨d, rfl⟩ := d
  intro p e s m args below meth c H locs ls C hH hl hL
  exact lv_ineg C.1 C.2.1 d (k p e s m args below meth c H locs ls C hH hl hL)
theorem z_ladd {x y : Int64} (d : zz_D M pc .ladd 1 nx) (k : Zz g l M mc ms Q QX ce sl nx lv (.long (x + y) :: st) h) : Zz g l M mc ms Q QX ce sl pc lv (.long y :: .long x :: st) h := by
  obtain ⟨d, rfl⟩ := d
  intro p e s m args below meth c H locs ls C hH hl hL
  exact lv_ladd C.1 C.2.1 d (k p e s m args below meth c H locs ls C hH hl hL)
theorem z_lmul {x y : Int64} (d : zz_D M pc .lmul 1 nx) (k : Zz g l M mc ms Q QX ce sl nx lv (.long (x * y) :: st) h) : Zz g l M mc ms Q QX ce sl pc lv (.long y :: .long x :: st) h := by
  obtain ⟨d, rfl⟩ := d
  intro p e s m args below meth c H locs ls C hH hl hL
  exact lv_lmul C.1 C.2.1 d (k p e s m args below meth c H locs ls C hH hl hL)
theorem z_i2l {x : Int32} (d : zz_D M pc .i2l 1 nx) (k : Zz g l M mc ms Q QX ce sl nx lv (.long x.toInt64 :: st) h) : Zz g l M mc ms Q QX ce sl pc lv (.int x :: st) h := by
  obtain ⟨d, rfl⟩ := d
  intro p e s m args below meth c H locs ls C hH hl hL
  exact lv_i2l C.1 C.2.1 d rfl (k p e s m args below meth c H locs ls C hH hl hL)
theorem z_i2c {x v : Int32} (d : zz_D M pc .i2c 1 nx) (hv : (x.toUInt32 % 65536).toInt32 = v) (k : Zz g l M mc ms Q QX ce sl nx lv (.int v :: st) h) : Zz g l M mc ms Q QX ce sl pc lv (.int x :: st) h := by
  obtain ⟨d, rfl⟩ := d
  intro p e s m args below meth c H locs ls C hH hl hL
  exact lv_i2c C.1 C.2.1 d hv (k p e s m args below meth c H locs ls C hH hl hL)
theorem z_i2b {x v : Int32} (d : zz_D M pc .i2b 1 nx) (hv : x.toInt8.toInt32 = v) (k : Zz g l M mc ms Q QX ce sl nx lv (.int v :: st) h) : Zz g l M mc ms Q QX ce sl pc lv (.int x :: st) h := by
  obtain ⟨d, rfl⟩ := d
  intro p e s m args below meth c H locs ls C hH hl hL
  exact lv_i2b C.1 C.2.1 d hv (k p e s m args below meth c H locs ls C hH hl hL)
theorem z_i2f {x : Int32} (d : zz_D M pc .i2f 1 nx) (k : Zz g l M mc ms Q QX ce sl nx lv (.float (FP.i2f x) :: st) h) : Zz g l M mc ms Q QX ce sl pc lv (.int x :: st) h := by
  obtain ⟨d, rfl⟩ := d
  intro p e s m args below meth c H locs ls C hH hl hL
  exact lv_i2f C.1 C.2.1 d (k p e s m args below meth c H locs ls C hH hl hL)
theorem z_i2d {x : Int32} (d : zz_D M pc .i2d 1 nx) (k : Zz g l M mc ms Q QX ce sl nx lv (.double (FP.i2d x) :: st) h) : Zz g l M mc ms Q QX ce sl pc lv (.int x :: st) h := by
  obtain ⟨d, rfl⟩ := d
  intro p e s m args below meth c H locs ls C hH hl hL
  exact lv_i2d C.1 C.2.1 d (k p e s m args below meth c H locs ls C hH hl hL)
theorem z_fdiv {x y : UInt32} (d : zz_D M pc .fdiv 1 nx) (hn : vf_n32 (FP.fdiv x y)) (k : Zz g l M mc ms Q QX ce sl nx lv (.float (FP.fdiv x y) :: st) h) : Zz g l M mc ms Q QX ce sl pc lv (.float y :: .float x :: st) h := by
  obtain ⟨d, rfl⟩ := d
  intro p e s m args below meth c H locs ls C hH hl hL
  exact lv_fdiv C.1 C.2.1 d hn (k p e s m args below meth c H locs ls C hH hl hL)
theorem z_ddiv {x y : UInt64} (d : zz_D M pc .ddiv 1 nx) (hn : vf_n64 (FP.ddiv x y)) (k : Zz g l M mc ms Q QX ce sl nx lv (.double (FP.ddiv x y) :: st) h) : Zz g l M mc ms Q QX ce sl pc lv (.double y :: .double x :: st) h := by
  obtain ⟨d, rfl⟩ := d
  intro p e s m args below meth c H locs ls C hH hl hL
  exact lv_ddiv C.1 C.2.1 d hn (k p e s m args below meth c H locs ls C hH hl hL)
theorem z_dup {v : Value} (d : zz_D M pc .dup 1 nx) (hv : v.category = 1) (k : Zz g l M mc ms Q QX ce sl nx lv (v :: v :: st) h) : Zz g l M mc ms Q QX ce sl pc lv (v :: st) h := by
  obtain ⟨d, rfl⟩ := d
  intro p e s m args below meth c H locs ls C hH hl hL
  exact lv_dup C.1 C.2.1 d hv (k p e s m args below meth c H locs ls C hH hl hL)
theorem z_pop {v : Value} (d : zz_D M pc .pop 1 nx) (hv : v.category = 1) (k : Zz g l M mc ms Q QX ce sl nx lv (st) h) : Zz g l M mc ms Q QX ce sl pc lv (v :: st) h := by
  obtain ⟨d, rfl⟩ := d
  intro p e s m args below meth c H locs ls C hH hl hL
  exact lv_pop C.1 C.2.1 d hv (k p e s m args below meth c H locs ls C hH hl hL)
theorem z_dup_x1 {v w : Value} (d : zz_D M pc .dup_x1 1 nx) (hv : v.category = 1) (hw : w.category = 1) (k : Zz g l M mc ms Q QX ce sl nx lv (v :: w :: v :: st) h) : Zz g l M mc ms Q QX ce sl pc lv (v :: w :: st) h := by
  obtain ⟨d, rfl⟩ := d
  intro p e s m args below meth c H locs ls C hH hl hL
  exact lv_dup_x1 C.1 C.2.1 d hv hw (k p e s m args below meth c H locs ls C hH hl hL)
theorem z_if_eq {x : Int32} {off : Int} {tgt : Nat} (d : zz_D M pc (.ifCond .eq off) 3 nx) (ht : (pc : Int) + off = (tgt : Int)) (kt : x = 0 → Zz g l M mc ms Q QX ce sl tgt lv st h) (kf : ¬ x = 0 → Zz g l M mc ms Q QX ce sl nx lv st h) : Zz g l M mc ms Q QX ce sl pc lv (.int x :: st) h := by
  obtain ⟨d, rfl⟩ := d
  intro p e s m args below meth c H locs ls C hH hl hL
  exact lv_if_eq C.1 C.2.1 d ht (fun q => kt q p e s m args below meth c H locs ls C hH hl hL) (fun q => kf q p e s m args below meth c H locs ls C hH hl hL)
theorem z_icmp_eq {x y : Int32} {off : Int} {tgt : Nat} (d : zz_D M pc (.if_icmp .eq off) 3 nx) (ht : (pc : Int) + off = (tgt : Int)) (kt : x = y → Zz g l M mc ms Q QX ce sl tgt lv st h) (kf : ¬ x = y → Zz g l M mc ms Q QX ce sl nx lv st h) : Zz g l M mc ms Q QX ce sl pc lv (.int y :: .int x :: st) h := by
  obtain ⟨d, rfl⟩ := d
  intro p e s m args below meth c H locs ls C hH hl hL
  exact lv_icmp_eq C.1 C.2.1 d ht (fun q => kt q p e s m args below meth c H locs ls C hH hl hL) (fun q => kf q p e s m args below meth c H locs ls C hH hl hL)
theorem z_if_ne {x : Int32} {off : Int} {tgt : Nat} (d : zz_D M pc (.ifCond .ne off) 3 nx) (ht : (pc : Int) + off = (tgt : Int)) (kt : ¬ x = 0 → Zz g l M mc ms Q QX ce sl tgt lv st h) (kf : x = 0 → Zz g l M mc ms Q QX ce sl nx lv st h) : Zz g l M mc ms Q QX ce sl pc lv (.int x :: st) h := by
  obtain ⟨d, rfl⟩ := d
  intro p e s m args below meth c H locs ls C hH hl hL
  exact lv_if_ne C.1 C.2.1 d ht (fun q => kt q p e s m args below meth c H locs ls C hH hl hL) (fun q => kf q p e s m args below meth c H locs ls C hH hl hL)
theorem z_icmp_ne {x y : Int32} {off : Int} {tgt : Nat} (d : zz_D M pc (.if_icmp .ne off) 3 nx) (ht : (pc : Int) + off = (tgt : Int)) (kt : ¬ x = y → Zz g l M mc ms Q QX ce sl tgt lv st h) (kf : x = y → Zz g l M mc ms Q QX ce sl nx lv st h) : Zz g l M mc ms Q QX ce sl pc lv (.int y :: .int x :: st) h := by
  obtain ⟨d, rfl⟩ := d
  intro p e s m args below meth c H locs ls C hH hl hL
  exact lv_icmp_ne C.1 C.2.1 d ht (fun q => kt q p e s m args below meth c H locs ls C hH hl hL) (fun q => kf q p e s m args below meth c H locs ls C hH hl hL)
theorem z_if_lt {x : Int32} {off : Int} {tgt : Nat} (d : zz_D M pc (.ifCond .lt off) 3 nx) (ht : (pc : Int) + off = (tgt : Int)) (kt : x < 0 → Zz g l M mc ms Q QX ce sl tgt lv st h) (kf : ¬ x < 0 → Zz g l M mc ms Q QX ce sl nx lv st h) : Zz g l M mc ms Q QX ce sl pc lv (.int x :: st) h := by
  obtain ⟨d, rfl⟩ := d
  intro p e s m args below meth c H locs ls C hH hl hL
  exact lv_if_lt C.1 C.2.1 d ht (fun q => kt q p e s m args below meth c H locs ls C hH hl hL) (fun q => kf q p e s m args below meth c H locs ls C hH hl hL)
theorem z_icmp_lt {x y : Int32} {off : Int} {tgt : Nat} (d : zz_D M pc (.if_icmp .lt off) 3 nx) (ht : (pc : Int) + off = (tgt : Int)) (kt : x < y → Zz g l M mc ms Q QX ce sl tgt lv st h) (kf : ¬ x < y → Zz g l M mc ms Q QX ce sl nx lv st h) : Zz g l M mc ms Q QX ce sl pc lv (.int y :: .int x :: st) h := by
  obtain ⟨d, rfl⟩ := d
  intro p e s m args below meth c H locs ls C hH hl hL
  exact lv_icmp_lt C.1 C.2.1 d ht (fun q => kt q p e s m args below meth c H locs ls C hH hl hL) (fun q => kf q p e s m args below meth c H locs ls C hH hl hL)
theorem z_if_ge {x : Int32} {off : Int} {tgt : Nat} (d : zz_D M pc (.ifCond .ge off) 3 nx) (ht : (pc : Int) + off = (tgt : Int)) (kt : 0 ≤ x → Zz g l M mc ms Q QX ce sl tgt lv st h) (kf : ¬ 0 ≤ x → Zz g l M mc ms Q QX ce sl nx lv st h) : Zz g l M mc ms Q QX ce sl pc lv (.int x :: st) h := by
  obtain ⟨d, rfl⟩ := d
  intro p e s m args below meth c H locs ls C hH hl hL
  exact lv_if_ge C.1 C.2.1 d ht (fun q => kt q p e s m args below meth c H locs ls C hH hl hL) (fun q => kf q p e s m args below meth c H locs ls C hH hl hL)
theorem z_icmp_ge {x y : Int32} {off : Int} {tgt : Nat} (d : zz_D M pc (.if_icmp .ge off) 3 nx) (ht : (pc : Int) + off = (tgt : Int)) (kt : y ≤ x → Zz g l M mc ms Q QX ce sl tgt lv st h) (kf : ¬ y ≤ x → Zz g l M mc ms Q QX ce sl nx lv st h) : Zz g l M mc ms Q QX ce sl pc lv (.int y :: .int x :: st) h := by
  obtain ⟨d, rfl⟩ := d
  intro p e s m args below meth c H locs ls C hH hl hL
  exact lv_icmp_ge C.1 C.2.1 d ht (fun q => kt q p e s m args below meth c H locs ls C hH hl hL) (fun q => kf q p e s m args below meth c H locs ls C hH hl hL)
theorem z_if_gt {x : Int32} {off : Int} {tgt : Nat} (d : zz_D M pc (.ifCond .gt off) 3 nx) (ht : (pc : Int) + off = (tgt : Int)) (kt : 0 < x → Zz g l M mc ms Q QX ce sl tgt lv st h) (kf : ¬ 0 < x → Zz g l M mc ms Q QX ce sl nx lv st h) : Zz g l M mc ms Q QX ce sl pc lv (.int x :: st) h := by
  obtain ⟨d, rfl⟩ := d
  intro p e s m args below meth c H locs ls C hH hl hL
  exact lv_if_gt C.1 C.2.1 d ht (fun q => kt q p e s m args below meth c H locs ls C hH hl hL) (fun q => kf q p e s m args below meth c H locs ls C hH hl hL)
theorem z_icmp_gt {x y : Int32} {off : Int} {tgt : Nat} (d : zz_D M pc (.if_icmp .gt off) 3 nx) (ht : (pc : Int) + off = (tgt : Int)) (kt : y < x → Zz g l M mc ms Q QX ce sl tgt lv st h) (kf : ¬ y < x → Zz g l M mc ms Q QX ce sl nx lv st h) : Zz g l M mc ms Q QX ce sl pc lv (.int y :: .int x :: st) h := by
  obtain ⟨d, rfl⟩ := d
  intro p e s m args below meth c H locs ls C hH hl hL
  exact lv_icmp_gt C.1 C.2.1 d ht (fun q => kt q p e s m args below meth c H locs ls C hH hl hL) (fun q => kf q p e s m args below meth c H locs ls C hH hl hL)
theorem z_if_le {x : Int32} {off : Int} {tgt : Nat} (d : zz_D M pc (.ifCond .le off) 3 nx) (ht : (pc : Int) + off = (tgt : Int)) (kt : x ≤ 0 → Zz g l M mc ms Q QX ce sl tgt lv st h) (kf : ¬ x ≤ 0 → Zz g l M mc ms Q QX ce sl nx lv st h) : Zz g l M mc ms Q QX ce sl pc lv (.int x :: st) h := by
  obtain ⟨d, rfl⟩ := d
  intro p e s m args below meth c H locs ls C hH hl hL
  exact lv_if_le C.1 C.2.1 d ht (fun q => kt q p e s m args below meth c H locs ls C hH hl hL) (fun q => kf q p e s m args below meth c H locs ls C hH hl hL)
theorem z_icmp_le {x y : Int32} {off : Int} {tgt : Nat} (d : zz_D M pc (.if_icmp .le off) 3 nx) (ht : (pc : Int) + off = (tgt : Int)) (kt : x ≤ y → Zz g l M mc ms Q QX ce sl tgt lv st h) (kf : ¬ x ≤ y → Zz g l M mc ms Q QX ce sl nx lv st h) : Zz g l M mc ms Q QX ce sl pc lv (.int y :: .int x :: st) h := by
  obtain ⟨d, rfl⟩ := d
  intro p e s m args below meth c H locs ls C hH hl hL
  exact lv_icmp_le C.1 C.2.1 d ht (fun q => kt q p e s m args below meth c H locs ls C hH hl hL) (fun q => kf q p e s m args below meth c H locs ls C hH hl hL)
theorem z_goto {off : Int} {tgt : Nat} (d : zz_D M pc (.goto off) 3 nx) (ht : (pc : Int) + off = (tgt : Int)) (k : Zz g l M mc ms Q QX ce sl tgt lv st h) : Zz g l M mc ms Q QX ce sl pc lv st h := by
  obtain ⟨d, rfl⟩ := d
  intro p e s m args below meth c H locs ls C hH hl hL
  exact lv_goto C.1 C.2.1 d ht (k p e s m args below meth c H locs ls C hH hl hL)
theorem z_ifnull {x : Nat} {off : Int} (d : zz_D M pc (.ifnull off) 3 nx) (k : Zz g l M mc ms Q QX ce sl nx lv st h) : Zz g l M mc ms Q QX ce sl pc lv (.ref x :: st) h := by
  obtain ⟨d, rfl⟩ := d
  intro p e s m args below meth c H locs ls C hH hl hL
  exact lv_ifnull C.1 C.2.1 d (k p e s m args below meth c H locs ls C hH hl hL)
theorem z_ifnullN {off : Int} {tgt : Nat} (d : zz_D M pc (.ifnull off) 3 nx) (ht : (pc : Int) + off = (tgt : Int)) (k : Zz g l M mc ms Q QX ce sl tgt lv st h) : Zz g l M mc ms Q QX ce sl pc lv (.null :: st) h := by
  obtain ⟨d, rfl⟩ := d
  intro p e s m args below meth c H locs ls C hH hl hL
  exact lv_ifnullN C.1 C.2.1 d ht (k p e s m args below meth c H locs ls C hH hl hL)
theorem z_ifnonnull {x : Nat} {off : Int} {tgt : Nat} (d : zz_D M pc (.ifnonnull off) 3 nx) (ht : (pc : Int) + off = (tgt : Int)) (k : Zz g l M mc ms Q QX ce sl tgt lv st h) : Zz g l M mc ms Q QX ce sl pc lv (.ref x :: st) h := by
  obtain ⟨d, rfl⟩ := d
  intro p e s m args below meth c H locs ls C hH hl hL
  exact lv_ifnonnull C.1 C.2.1 d ht (k p e s m args below meth c H locs ls C hH hl hL)
theorem z_ifnonnullN {off : Int} (d : zz_D M pc (.ifnonnull off) 3 nx) (k : Zz g l M mc ms Q QX ce sl nx lv st h) : Zz g l M mc ms Q QX ce sl pc lv (.null :: st) h := by
  obtain ⟨d, rfl⟩ := d
  intro p e s m args below meth c H locs ls C hH hl hL
  exact lv_ifnonnullN C.1 C.2.1 d (k p e s m args below meth c H locs ls C hH hl hL)
theorem z_tin {dflt lo hi : Int} {offs : Array Int} {len : Nat} {x : Int32} {off : Int} {tgt : Nat} (d : zz_D M pc (.tableswitch dflt lo hi offs) len nx) (h1 : ¬ x.toInt < lo) (h2 : ¬ hi < x.toInt) (ho : offs[(x.toInt - lo).toNat]? = some off) (ht : (pc : Int) + off = (tgt : Int)) (k : Zz g l M mc ms Q QX ce sl tgt lv st h) : Zz g l M mc ms Q QX ce sl pc lv (.int x :: st) h := by
  obtain ⟨d, rfl⟩ := d
  intro p e s m args below meth c H locs ls C hH hl hL
  exact lv_tableIn C.1 C.2.1 d h1 h2 ho ht (k p e s m args below meth c H locs ls C hH hl hL)
theorem z_tout {dflt lo hi : Int} {offs : Array Int} {len : Nat} {x : Int32} {tgt : Nat} (d : zz_D M pc (.tableswitch dflt lo hi offs) len nx) (h1 : x.toInt < lo ∨ hi < x.toInt) (ht : (pc : Int) + dflt = (tgt : Int)) (k : Zz g l M mc ms Q QX ce sl tgt lv st h) : Zz g l M mc ms Q QX ce sl pc lv (.int x :: st) h := by
  obtain ⟨d, rfl⟩ := d
  intro p e s m args below meth c H locs ls C hH hl hL
  exact lv_tableOut C.1 C.2.1 d h1 ht (k p e s m args below meth c H locs ls C hH hl hL)
theorem z_lcmp {x y : Int64} (d : zz_D M pc .lcmp 1 nx) (k : Zz g l M mc ms Q QX ce sl nx lv (.int (lg_cmp x y) :: st) h) : Zz g l M mc ms Q QX ce sl pc lv (.long y :: .long x :: st) h := by
  obtain ⟨d, rfl⟩ := d
  intro p e s m args below meth c H locs ls C hH hl hL
  exact W.lcmp C.1 C.2.1 d (k p e s m args below meth c H locs ls C hH hl hL)
theorem z_iret {x : Int32} (d : zz_D M pc .ireturn 1 nx) (hr : zz_r M = some .int) (hc : ce ≤ mc) (hs : sl ≤ ms) (q : Q (some (.int x)) h) : Zz g l M mc ms Q QX ce sl pc lv [.int x] h := by
  obtain ⟨d, rfl⟩ := d
  intro p e s m args below meth c H locs ls C hH hl hL
  exact W.widen hc hs (vx_ret (W.iret C.1 C.2.1 (C.2.2.1.trans hr) (fun t ht _ => ⟨_, h, rfl, by rw [ht]; exact hH, q⟩) hL d (hlocks := C.2.2.2.2.2.2.2.1)))
theorem z_zret {x : Int32} {ty : FieldType} (d : zz_D M pc .ireturn 1 nx) (hr : zz_r M = some ty) (hn : narrow ty (.int x) = .int x) (hc : ce ≤ mc) (hs : sl ≤ ms) (q : Q (some (.int x)) h) : Zz g l M mc ms Q QX ce sl pc lv [.int x] h := by
  obtain ⟨d, rfl⟩ := d
  intro p e s m args below meth c H locs ls C hH hl hL
  exact W.widen hc hs (vx_ret (W.zret C.1 C.2.1 (C.2.2.1.trans hr) hn (fun t ht _ => ⟨_, h, rfl, by rw [ht]; exact hH, q⟩) hL d (hlocks := C.2.2.2.2.2.2.2.1)))
theorem z_lret {x : Int64} (d : zz_D M pc .lreturn 1 nx) (hr : zz_r M = some .long) (hc : ce ≤ mc) (hs : sl ≤ ms) (q : Q (some (.long x)) h) : Zz g l M mc ms Q QX ce sl pc lv [.long x] h := by
  obtain ⟨d, rfl⟩ := d
  intro p e s m args below meth c H locs ls C hH hl hL
  exact W.widen hc hs (vx_ret (W.lret C.1 C.2.1 (C.2.2.1.trans hr) (fun t ht _ => ⟨_, h, rfl, by rw [ht]; exact hH, q⟩) hL d (hlocks := C.2.2.2.2.2.2.2.1)))
theorem z_fret {x : UInt32} (d : zz_D M pc .freturn 1 nx) (hr : zz_r M = some .float) (hc : ce ≤ mc) (hs : sl ≤ ms) (q : Q (some (.float x)) h) : Zz g l M mc ms Q QX ce sl pc lv [.float x] h := by
  obtain ⟨d, rfl⟩ := d
  intro p e s m args below meth c H locs ls C hH hl hL
  exact W.widen hc hs (vx_ret (W.fret C.1 C.2.1 (C.2.2.1.trans hr) (fun t ht _ => ⟨_, h, rfl, by rw [ht]; exact hH, q⟩) hL d (hlocks := C.2.2.2.2.2.2.2.1)))
theorem z_dret {x : UInt64} (d : zz_D M pc .dreturn 1 nx) (hr : zz_r M = some .double) (hc : ce ≤ mc) (hs : sl ≤ ms) (q : Q (some (.double x)) h) : Zz g l M mc ms Q QX ce sl pc lv [.double x] h := by
  obtain ⟨d, rfl⟩ := d
  intro p e s m args below meth c H locs ls C hH hl hL
  exact W.widen hc hs (vx_ret (W.dret C.1 C.2.1 (C.2.2.1.trans hr) (fun t ht _ => ⟨_, h, rfl, by rw [ht]; exact hH, q⟩) hL d (hlocks := C.2.2.2.2.2.2.2.1)))
theorem z_vret (d : zz_D M pc .return_ 1 nx) (hr : zz_r M = none) (hc : ce ≤ mc) (hs : sl ≤ ms) (q : Q none h) : Zz g l M mc ms Q QX ce sl pc lv [] h := by
  obtain ⟨d, rfl⟩ := d
  intro p e s m args below meth c H locs ls C hH hl hL
  exact W.widen hc hs (vx_ret (W.vret C.1 C.2.1 (C.2.2.1.trans hr) (fun t ht _ => ⟨_, h, rfl, by rw [ht]; exact hH, q⟩) hL d (hlocks := C.2.2.2.2.2.2.2.1)))
theorem z_aret {x : Nat} {ty : FieldType} (d : zz_D M pc .areturn 1 nx) (hr : zz_r M = some ty) (hn : (∃ n, ty = .object n) ∨ ∃ t, ty = .array t) (hc : ce ≤ mc) (hs : sl ≤ ms) (q : Q (some (.ref x)) h) : Zz g l M mc ms Q QX ce sl pc lv [.ref x] h := by
  obtain ⟨d, rfl⟩ := d
  intro p e s m args below meth c H locs ls C hH hl hL
  exact W.widen hc hs (vx_ret (W.aret C.1 C.2.1 (C.2.2.1.trans hr) hn (Or.inr ⟨x, rfl⟩) (fun t ht _ => ⟨_, h, rfl, by rw [ht]; exact hH, q⟩) hL d (hlocks := C.2.2.2.2.2.2.2.1)))
theorem z_aretN {ty : FieldType} (d : zz_D M pc .areturn 1 nx) (hr : zz_r M = some ty) (hn : (∃ n, ty = .object n) ∨ ∃ t, ty = .array t) (hc : ce ≤ mc) (hs : sl ≤ ms) (q : Q (some .null) h) : Zz g l M mc ms Q QX ce sl pc lv [.null] h := by
  obtain ⟨d, rfl⟩ := d
  intro p e s m args below meth c H locs ls C hH hl hL
  exact W.widen hc hs (vx_ret (W.aret C.1 C.2.1 (C.2.2.1.trans hr) hn (Or.inl rfl) (fun t ht _ => ⟨_, h, rfl, by rw [ht]; exact hH, q⟩) hL d (hlocks := C.2.2.2.2.2.2.2.1)))
theorem z_ldc {ix : Nat} {v : Int32} (d : zz_D M pc (.ldc ix) 2 nx) (hw : Cond.constant (zz_y M).cls ix v ∈ zz_gw) (k : Zz g l M mc ms Q QX ce sl nx lv (.int v :: st) h) : Zz g l M mc ms Q QX ce sl pc lv (st) h := by
  obtain ⟨d, rfl⟩ := d
  intro p e s m args below meth c H locs ls C hH hl hL
  exact lv_ldc C.1 C.2.1 C.2.2.2.2.1 (C.2.2.2.2.2.1 _ hw) d (k p e s m args below meth c H locs ls C hH hl hL)
theorem z_ldcw {ix : Nat} {v : Int32} (d : zz_D M pc (.ldc_w ix) 3 nx) (hw : Cond.constant (zz_y M).cls ix v ∈ zz_gw) (k : Zz g l M mc ms Q QX ce sl nx lv (.int v :: st) h) : Zz g l M mc ms Q QX ce sl pc lv (st) h := by
  obtain ⟨d, rfl⟩ := d
  intro p e s m args below meth c H locs ls C hH hl hL
  exact lv_ldcw C.1 C.2.1 C.2.2.2.2.1 (C.2.2.2.2.2.1 _ hw) d (k p e s m args below meth c H locs ls C hH hl hL)
theorem z_ldc2 {ix : Nat} {v : Int64} (d : zz_D M pc (.ldc2_w ix) 3 nx) (hw : Cond.constantLong (zz_y M).cls ix v ∈ zz_gw) (k : Zz g l M mc ms Q QX ce sl nx lv (.long v :: st) h) : Zz g l M mc ms Q QX ce sl pc lv (st) h := by
  obtain ⟨d, rfl⟩ := d
  intro p e s m args below meth c H locs ls C hH hl hL
  exact lv_ldc2 C.1 C.2.1 C.2.2.2.2.1 (C.2.2.2.2.2.1 _ hw) d (k p e s m args below meth c H locs ls C hH hl hL)
theorem z_ldc2d {ix : Nat} {v : UInt64} (d : zz_D M pc (.ldc2_w ix) 3 nx) (hw : Cond.constantDouble (zz_y M).cls ix v ∈ zz_gw) (k : Zz g l M mc ms Q QX ce sl nx lv (.double v :: st) h) : Zz g l M mc ms Q QX ce sl pc lv (st) h := by
  obtain ⟨d, rfl⟩ := d
  intro p e s m args below meth c H locs ls C hH hl hL
  exact lv_ldc2d C.1 C.2.1 C.2.2.2.2.1 (C.2.2.2.2.2.1 _ hw) d (k p e s m args below meth c H locs ls C hH hl hL)
theorem z_ldcf {ix : Nat} {v : UInt32} (d : zz_D M pc (.ldc ix) 2 nx) (hw : Cond.constantFloat (zz_y M).cls ix v ∈ zz_gw) (k : Zz g l M mc ms Q QX ce sl nx lv (.float v :: st) h) : Zz g l M mc ms Q QX ce sl pc lv (st) h := by
  obtain ⟨d, rfl⟩ := d
  intro p e s m args below meth c H locs ls C hH hl hL
  exact lv_ldcf C.1 C.2.1 C.2.2.2.2.1 (C.2.2.2.2.2.1 _ hw) d (k p e s m args below meth c H locs ls C hH hl hL)
end Rules
