/-! the words that the tables give, for every method the same -/
/-- private methods of a superclass: selected, whatever the receiver's class -/
def zz_xm : List MethodName := [⟨"java/lang/AbstractStringBuilder", "ensureCapacityInternal", "(I)V"⟩, ⟨"java/lang/AbstractStringBuilder", "newCapacity", "(I)I"⟩, ⟨"java/lang/AbstractStringBuilder", "putStringAt", "(ILjava/lang/String;)V"⟩, ⟨"java/lang/AbstractStringBuilder", "inflateIfNeededFor", "(Ljava/lang/String;)V"⟩]
def zz_xw : List Cond := zz_xm.map fun m => Cond.selects "java/lang/StringBuilder" m m
def zz_gw : List Cond := (lw_tbl ++ zz_xw).filter goodWord
def zz_nk : Cond → Bool
  | .methodLinkNest .. => true
  | .castable .. => true
  | .declares .. => true
  | _ => false
def zz_nw : List Cond := lw_tbl.filter (fun w => !goodWord w && zz_nk w)
def zz_Nw (U : State) : Prop := ∀ w ∈ zz_nw, w.before #[] U = true
theorem zz_Nw.warm {s U : State} (hW : s.WarmedH U.vm) (h : zz_Nw s) : zz_Nw U := by
  intro w hw
  have h0 := h w hw
  have hk := (List.mem_filter.mp hw).2
  simp only [Bool.and_eq_true] at hk
  have hk := hk.2
  cases w <;> first
    | exact va_Nw.warmM hW h0
    | exact va_Nw.warmC hW h0
    | exact va_Nw.warmD hW h0
    | (simp [zz_nk] at hk)
theorem zz_in {w : Cond} (i : Nat) (h : lw_tbl[i]? = some w) (hg : goodWord w = true) : w ∈ zz_gw := List.mem_filter.mpr ⟨List.mem_append_left _ (List.mem_of_getElem? h), hg⟩
theorem zz_inX {w : Cond} (i : Nat) (h : zz_xw[i]? = some w) (hg : goodWord w = true) : w ∈ zz_gw := List.mem_filter.mpr ⟨List.mem_append_right _ (List.mem_of_getElem? h), hg⟩
theorem zz_inN {w : Cond} (i : Nat) (h : lw_tbl[i]? = some w) (hg : (!goodWord w && zz_nk w) = true) : w ∈ zz_nw := List.mem_filter.mpr ⟨List.mem_of_getElem? h, hg⟩
theorem zz_gw_good : ∀ w ∈ zz_gw, goodWord w = true := fun w hw => (List.mem_filter.mp hw).2
/-! methods: name, bytes, locals, return type, table of handlers, depth -/
abbrev zz_M : Type := MethodName × ByteArray × Nat × Option FieldType × List (Nat × Nat × Nat × Nat) × Nat
abbrev zz_y (M : zz_M) : MethodName := M.1
abbrev zz_b (M : zz_M) : ByteArray := M.2.1
abbrev zz_n (M : zz_M) : Nat := M.2.2.1
abbrev zz_r (M : zz_M) : Option FieldType := M.2.2.2.1
abbrev zz_hh (M : zz_M) : List (Nat × Nat × Nat × Nat) := M.2.2.2.2.1
abbrev zz_d (M : zz_M) : Nat := M.2.2.2.2.2
def zz_cw (M : zz_M) : Cond := match zz_hh M with
  | [] => .code (zz_y M) (zz_b M) (zz_n M) (zz_r M)
  | hh => .codeWith (zz_y M) (zz_b M) (zz_n M) (zz_r M) hh
def zz_ws (M : zz_M) : List Cond := zz_cw M :: zz_gw
def zz_rm (M : zz_M) (mc ms : Nat) : Room := { frames := zz_d M, cells := mc, slots := ms, locals := 40 * zz_d M }
/-! the classes of the picture -/
def zz_c0 : String := "TurnipPages"
def zz_T0 : u_T := fun k => match k with
  | 0 => (zz_c0, "message", "LTurnipPages$Text;", true)
  | 1 => (zz_c0, "buffer", "LTurnipPages$Text;", true)
  | 2 => (zz_c0, "line", "LTurnipPages$Text;", true)
  | 3 => (zz_c0, "carver", "LTurnipPages$Carver;", true)
  | 4 => (zz_c0, "store", "LTurnipPages$Store;", true)
  | 5 => (zz_c0, "snapshot", "LTurnipPages$Store;", true)
  | 6 => (zz_c0, "history", "LTurnipPages$History;", true)
  | 7 => (zz_c0, "commands", "LTurnipPages$Commands;", true)
  | 8 => (zz_c0, "denial", "LTurnipPages$Denial;", true)
  | 9 => (zz_c0, "snapshotSaved", "Z", false)
  | _ => (zz_c0, "keptFault", "I", false)
def zz_c1 : String := "TurnipPages$Carver"
def zz_T1 : u_T := fun k => match k with
  | 0 => (zz_c1, "store", "LTurnipPages$Store;", true)
  | 1 => (zz_c1, "decoded", "LTurnipPages$Text;", true)
  | 2 => (zz_c1, "recoded", "LTurnipPages$Text;", true)
  | _ => (zz_c1, "detail", "I", false)
def zz_c2 : String := "TurnipPages$Commands"
def zz_T2 : u_T := fun k => match k with
  | 0 => (zz_c2, "kinds", "[I", true)
  | 1 => (zz_c2, "firsts", "[I", true)
  | 2 => (zz_c2, "seconds", "[I", true)
  | 3 => (zz_c2, "position", "I", false)
  | _ => (zz_c2, "count", "I", false)
def zz_c3 : String := "TurnipPages$Denial"
def zz_T3 : u_T := fun k => match k with
  | 0 => (zz_c3, "number", "I", false)
  | 1 => (zz_c3, "detail", "I", false)
  | _ => (zz_c3, "cause", "I", false)
def zz_c4 : String := "TurnipPages$History"
def zz_T4 : u_T := fun k => match k with
  | 0 => (zz_c4, "stores", "[LTurnipPages$Store;", true)
  | 1 => (zz_c4, "first", "I", false)
  | _ => (zz_c4, "count", "I", false)
def zz_c5 : String := "TurnipPages$Store"
def zz_T5 : u_T := fun k => match k with
  | 0 => (zz_c5, "dampnesses", "[I", true)
  | 1 => (zz_c5, "telegrams", "[LTurnipPages$Telegram;", true)
  | 2 => (zz_c5, "rootCount", "I", false)
  | 3 => (zz_c5, "telegramCount", "I", false)
  | 4 => (zz_c5, "nextNumber", "I", false)
  | 5 => (zz_c5, "day", "I", false)
  | _ => (zz_c5, "carvedCharacters", "I", false)
def zz_c6 : String := "TurnipPages$Telegram"
def zz_T6 : u_T := fun k => match k with
  | 0 => (zz_c6, "code", "LTurnipPages$Text;", true)
  | 1 => (zz_c6, "rots", "[I", true)
  | 2 => (zz_c6, "pages", "I", false)
  | 3 => (zz_c6, "number", "I", false)
  | 4 => (zz_c6, "root", "I", false)
  | 5 => (zz_c6, "priority", "I", false)
  | _ => (zz_c6, "checksum", "I", false)
def zz_c7 : String := "TurnipPages$Text"
def zz_T7 : u_T := fun k => match k with
  | 0 => (zz_c7, "characters", "[C", true)
  | _ => (zz_c7, "length", "I", false)
def zz_c8 : String := "java/lang/String"
def zz_T8 : u_T := fun k => match k with
  | 0 => (zz_c8, "value", "[B", true)
  | 1 => (zz_c8, "coder", "B", true)
  | 2 => (zz_c8, "hash", "I", false)
  | _ => (zz_c8, "hashIsZero", "Z", false)
def zz_c9 : String := "java/lang/StringBuilder"
def zz_cA : String := "java/lang/AbstractStringBuilder"
def zz_T9 : u_T := fun k => match k with
  | 0 => (zz_cA, "value", "[B", false)
  | 1 => (zz_cA, "coder", "B", false)
  | 2 => (zz_cA, "maybeLatin1", "Z", false)
  | _ => (zz_cA, "count", "I", false)
def zz_cl : List vw_C := [(zz_c0, zz_T0, 11), (zz_c1, zz_T1, 4), (zz_c2, zz_T2, 5), (zz_c3, zz_T3, 3), (zz_c4, zz_T4, 3), (zz_c5, zz_T5, 7), (zz_c6, zz_T6, 7), (zz_c7, zz_T7, 2), (zz_c8, zz_T8, 2), (zz_c9, zz_T9, 4)]
/-- the type of field k of class c -/
def zz_ty (c k : Nat) : FieldType := match zz_cl[c]? with
  | some r => (parseFieldDescriptor (r.2.1 k).2.2.1).getD .int
  | none => .int
/-- is it a reference -/
def zz_ir (c k : Nat) : Bool := (zz_ty c k).isReference
theorem zz_cl_in : (zz_cl.all fun r => (u_ws r.1 r.2.1 r.2.2).all fun w => decide (w ∈ zz_gw)) = true := by decide +kernel
theorem zz_cl_ty : (zz_cl.all fun r => (List.range r.2.2).all fun k => decide ((parseFieldDescriptor (r.2.1 k).2.2.1).isSome = true)) = true := by decide +kernel
theorem zz_cl_nm : (zz_cl.all fun r => (List.range r.2.2).all fun a => (List.range r.2.2).all fun b => decide (a ≠ b → (r.2.1 a).2.1 ≠ (r.2.1 b).2.1)) = true := by decide +kernel
theorem zz_clI {c : Nat} {r : vw_C} (h : zz_cl[c]? = some r) : ∀ w ∈ u_ws r.1 r.2.1 r.2.2, w ∈ zz_gw := by
  have h1 := List.all_eq_true.mp zz_cl_in r (List.mem_of_getElem? h)
  intro w hw
  exact of_decide_eq_true (List.all_eq_true.mp h1 w hw)
theorem zz_clT {c : Nat} {r : vw_C} (h : zz_cl[c]? = some r) : ∀ k, k < r.2.2 → parseFieldDescriptor (r.2.1 k).2.2.1 = some (zz_ty c k) := by
  have h1 := List.all_eq_true.mp zz_cl_ty r (List.mem_of_getElem? h)
  intro k hk
  have h2 := of_decide_eq_true (List.all_eq_true.mp h1 k (List.mem_range.mpr hk))
  obtain ⟨t, ht⟩ := Option.isSome_iff_exists.mp h2
  unfold zz_ty
  simp only [h, ht, Option.getD_some]
theorem zz_clN {c : Nat} {r : vw_C} (h : zz_cl[c]? = some r) : ∀ a, a < r.2.2 → ∀ b, b < r.2.2 → a ≠ b → (r.2.1 a).2.1 ≠ (r.2.1 b).2.1 := by
  have h1 := List.all_eq_true.mp zz_cl_nm r (List.mem_of_getElem? h)
  intro a ha b hb
  have h2 := List.all_eq_true.mp h1 a (List.mem_range.mpr ha)
  exact of_decide_eq_true (List.all_eq_true.mp h2 b (List.mem_range.mpr hb))
