/-! THE LAW: its questions, as functions of the store -/
def zy (f : String → Int32) : Int32 ⊕ String → Int32
  | .inl n => n
  | .inr E => f E
theorem zw_zy {f : String → Int32} {a : Int32 ⊕ String} {v : zz_OV} : zw f (a, v) = zy f a := by cases a <;> rfl
def wq (s : zz_SV) (n : Int32) (G : zz_TG → Int32 ⊕ String) : Int32 ⊕ String :=
  match zz_pos n 0 (sv_t s) with
  | none => .inr eN
  | some p => G (zz_tat (sv_t s) p)
theorem wq_tel {v : zz_OV} {n : Int32} {G : zz_TG → Int32 ⊕ String} : pq_tel v n (fun x => (G x, v)) = (wq (ov_s v) n G, v) := by
  unfold pq_tel wq
  cases zz_pos n 0 (sv_t (ov_s v)) <;> rfl
theorem wq_hE {s : zz_SV} {n : Int32} {G : zz_TG → Int32 ⊕ String} {P : String → Prop} (h1 : P eN) (h2 : ∀ x E, G x = .inr E → P E) : ∀ E, wq s n G = .inr E → P E := by
  intro E h
  unfold wq at h
  split at h
  · cases h; exact h1
  · exact h2 _ E h
theorem zz_ie {c : Prop} [Decidable c] {n : Int32} {e E : String} (h : (if c then .inl n else .inr e : Int32 ⊕ String) = .inr E) : E = e := by
  split at h
  · cases h
  · cases h; rfl
theorem zz_ie2 {c : Prop} [Decidable c] {n : Int32} {e E : String} (h : (if c then .inr e else .inl n : Int32 ⊕ String) = .inr E) : E = e := by
  split at h
  · cases h; rfl
  · cases h
def wk_dampness (s : zz_SV) (r : Int32) : Int32 := zy zf1 (if zz_hr s r then .inl (zz_dmp s r) else .inr eI : Int32 ⊕ String)
def wk_pagesIn (s : zz_SV) (r : Int32) : Int32 := zy zf1 (if zz_hr s r then .inl (zz_cpi s r) else .inr eI : Int32 ⊕ String)
def wk_telegramAt (s : zz_SV) (i : Int32) : Int32 := zy zf1 (if 0 ≤ i.toInt ∧ i.toInt < (sv_t s).length then .inl (tg_n (zz_tat (sv_t s) i.toInt.toNat)) else .inr eI : Int32 ⊕ String)
def wk_byPriority (s : zz_SV) (r : Int32) : Int32 := zy zf1 (if zz_fbr zz_ahp (sv_t s) r (sv_t s) = -1 then .inr eN else .inl (zz_fbr zz_ahp (sv_t s) r (sv_t s)) : Int32 ⊕ String)
def wk_byRot (s : zz_SV) (r : Int32) : Int32 := zy zf1 (if zz_fbr zz_ahr (sv_t s) r (sv_t s) = -1 then .inr eN else .inl (zz_fbr zz_ahr (sv_t s) r (sv_t s)) : Int32 ⊕ String)
def wk_rootOf (s : zz_SV) (n : Int32) : Int32 := zy zf1 (wq s n (fun x => .inl (tg_o x)))
def wk_checksumOf (s : zz_SV) (n : Int32) : Int32 := zy zf1 (wq s n (fun x => .inl (tg_k x)))
def wk_pageCount (s : zz_SV) (n : Int32) : Int32 := zy zf1 (wq s n (fun x => .inl (nI (tg_p x))))
def wk_codeLength (s : zz_SV) (n : Int32) : Int32 := zy zf1 (wq s n (fun x => .inl (nI (tg_c x).length)))
def wk_codeChar (s : zz_SV) (n i : Int32) : Int32 := zy (zf2 eN) (wq s n (fun x => if 0 ≤ i.toInt ∧ i.toInt < (tg_c x).length then .inl (zz_at0 (tg_c x) i) else .inr eI))
def wk_rotOf (s : zz_SV) (n i : Int32) : Int32 := zy (zf2 eN) (wq s n (fun x => if 0 ≤ i.toInt ∧ i.toInt < tg_p x then .inl (zz_rotj x i) else .inr eI))
def wk_untilRotten (s : zz_SV) (n : Int32) : Int32 := zy zf1 (wq s n (fun x => if zz_dur s x = -1 then .inr eN else .inl (zz_dur s x)))
def wk_decodedLength (s : zz_SV) (n : Int32) : Int32 := zy zf1 (wq s n (fun x => if zz_flt 0 false false (tg_c x) = -1 then .inl (nI (zz_dec x).length) else .inr eN))
def wk_isReadable (s : zz_SV) (n : Int32) : Int32 := zy zf1 (wq s n (fun x => .inl (zz_tf (0 ≤ zz_oc (zz_uir x)))))
section Lawq
variable {g : zz_G} {l : Launch} {K : Nat → Nat × Nat} {R R0 : Nat → Nat → Option Nat} {I I0 : Nat → Nat → Int32} {L L0 : Nat → Nat → Int64} {z z0 B : Nat} {v w : zz_OV}
theorem sq_dampness (hf : l.stackTraces = false) (hW : zz_Lw g K B z0 R0 I0 L0 v R I L z) (r : Int32) : zz_S g l mm_L_dampness 1 6 [.ref B, .int r] (K, R, I, L, z) (zz_LW g K B z0 R0 I0 L0 (some (.int (wk_dampness (ov_s v) r))) v) zz_no := by
  exact sx_dampness hf hW r ((if zz_hr (ov_s v) r then .inl (zz_dmp (ov_s v) r) else .inr eI : Int32 ⊕ String), v) rfl _ zw_zy (fun E h => zz_ie h)
theorem sq_pagesIn (hf : l.stackTraces = false) (hW : zz_Lw g K B z0 R0 I0 L0 v R I L z) (r : Int32) : zz_S g l mm_L_pagesIn 1 6 [.ref B, .int r] (K, R, I, L, z) (zz_LW g K B z0 R0 I0 L0 (some (.int (wk_pagesIn (ov_s v) r))) v) zz_no := by
  exact sx_pagesIn hf hW r ((if zz_hr (ov_s v) r then .inl (zz_cpi (ov_s v) r) else .inr eI : Int32 ⊕ String), v) rfl _ zw_zy (fun E h => zz_ie h)
theorem sq_telegramAt (hf : l.stackTraces = false) (hW : zz_Lw g K B z0 R0 I0 L0 v R I L z) (i : Int32) : zz_S g l mm_L_telegramAt 1 6 [.ref B, .int i] (K, R, I, L, z) (zz_LW g K B z0 R0 I0 L0 (some (.int (wk_telegramAt (ov_s v) i))) v) zz_no := by
  exact sx_telegramAt hf hW i ((if 0 ≤ i.toInt ∧ i.toInt < (sv_t (ov_s v)).length then .inl (tg_n (zz_tat (sv_t (ov_s v)) i.toInt.toNat)) else .inr eI : Int32 ⊕ String), v) rfl _ zw_zy (fun E h => zz_ie h)
theorem sq_byPriority (hf : l.stackTraces = false) (hW : zz_Lw g K B z0 R0 I0 L0 v R I L z) (r : Int32) : zz_S g l mm_L_byPriority 1 6 [.ref B, .int r] (K, R, I, L, z) (zz_LW g K B z0 R0 I0 L0 (some (.int (wk_byPriority (ov_s v) r))) v) zz_no := by
  exact sx_byPriority hf hW r ((if zz_fbr zz_ahp (sv_t (ov_s v)) r (sv_t (ov_s v)) = -1 then .inr eN else .inl (zz_fbr zz_ahp (sv_t (ov_s v)) r (sv_t (ov_s v))) : Int32 ⊕ String), v) rfl _ zw_zy (fun E h => zz_ie2 h)
theorem sq_byRot (hf : l.stackTraces = false) (hW : zz_Lw g K B z0 R0 I0 L0 v R I L z) (r : Int32) : zz_S g l mm_L_byRot 1 6 [.ref B, .int r] (K, R, I, L, z) (zz_LW g K B z0 R0 I0 L0 (some (.int (wk_byRot (ov_s v) r))) v) zz_no := by
  exact sx_byRot hf hW r ((if zz_fbr zz_ahr (sv_t (ov_s v)) r (sv_t (ov_s v)) = -1 then .inr eN else .inl (zz_fbr zz_ahr (sv_t (ov_s v)) r (sv_t (ov_s v))) : Int32 ⊕ String), v) rfl _ zw_zy (fun E h => zz_ie2 h)
theorem sq_rootOf (hf : l.stackTraces = false) (hW : zz_Lw g K B z0 R0 I0 L0 v R I L z) (n : Int32) : zz_S g l mm_L_rootOf 1 6 [.ref B, .int n] (K, R, I, L, z) (zz_LW g K B z0 R0 I0 L0 (some (.int (wk_rootOf (ov_s v) n))) v) zz_no := by
  refine sx_rootOf hf hW n ((wq (ov_s v) n (fun x => .inl (tg_o x))), v) wq_tel _ zw_zy (fun E h => ?_)
  have h : wq (ov_s v) n (fun x => .inl (tg_o x)) = .inr E := h
  refine wq_hE (P := fun E => E = eN) rfl (fun x E h => ?_) E h
  cases h
theorem sq_checksumOf (hf : l.stackTraces = false) (hW : zz_Lw g K B z0 R0 I0 L0 v R I L z) (n : Int32) : zz_S g l mm_L_checksumOf 1 6 [.ref B, .int n] (K, R, I, L, z) (zz_LW g K B z0 R0 I0 L0 (some (.int (wk_checksumOf (ov_s v) n))) v) zz_no := by
  refine sx_checksumOf hf hW n ((wq (ov_s v) n (fun x => .inl (tg_k x))), v) wq_tel _ zw_zy (fun E h => ?_)
  have h : wq (ov_s v) n (fun x => .inl (tg_k x)) = .inr E := h
  refine wq_hE (P := fun E => E = eN) rfl (fun x E h => ?_) E h
  cases h
theorem sq_pageCount (hf : l.stackTraces = false) (hW : zz_Lw g K B z0 R0 I0 L0 v R I L z) (n : Int32) : zz_S g l mm_L_pageCount 1 6 [.ref B, .int n] (K, R, I, L, z) (zz_LW g K B z0 R0 I0 L0 (some (.int (wk_pageCount (ov_s v) n))) v) zz_no := by
  refine sx_pageCount hf hW n ((wq (ov_s v) n (fun x => .inl (nI (tg_p x)))), v) wq_tel _ zw_zy (fun E h => ?_)
  have h : wq (ov_s v) n (fun x => .inl (nI (tg_p x))) = .inr E := h
  refine wq_hE (P := fun E => E = eN) rfl (fun x E h => ?_) E h
  cases h
theorem sq_codeLength (hf : l.stackTraces = false) (hW : zz_Lw g K B z0 R0 I0 L0 v R I L z) (n : Int32) : zz_S g l mm_L_codeLength 1 6 [.ref B, .int n] (K, R, I, L, z) (zz_LW g K B z0 R0 I0 L0 (some (.int (wk_codeLength (ov_s v) n))) v) zz_no := by
  refine sx_codeLength hf hW n ((wq (ov_s v) n (fun x => .inl (nI (tg_c x).length))), v) wq_tel _ zw_zy (fun E h => ?_)
  have h : wq (ov_s v) n (fun x => .inl (nI (tg_c x).length)) = .inr E := h
  refine wq_hE (P := fun E => E = eN) rfl (fun x E h => ?_) E h
  cases h
theorem sq_codeChar (hf : l.stackTraces = false) (hW : zz_Lw g K B z0 R0 I0 L0 v R I L z) (n i : Int32) : zz_S g l mm_L_codeChar 2 12 [.ref B, .int n, .int i] (K, R, I, L, z) (zz_LW g K B z0 R0 I0 L0 (some (.int (wk_codeChar (ov_s v) n i))) v) zz_no := by
  refine sx_codeChar hf hW n i ((wq (ov_s v) n (fun x => if 0 ≤ i.toInt ∧ i.toInt < (tg_c x).length then .inl (zz_at0 (tg_c x) i) else .inr eI)), v) wq_tel _ zw_zy (fun E h => ?_)
  have h : wq (ov_s v) n (fun x => if 0 ≤ i.toInt ∧ i.toInt < (tg_c x).length then .inl (zz_at0 (tg_c x) i) else .inr eI) = .inr E := h
  refine wq_hE (P := fun E => E = eN ∨ E = eI) (Or.inl rfl) (fun x E h => ?_) E h
  exact Or.inr (zz_ie h)
theorem sq_rotOf (hf : l.stackTraces = false) (hW : zz_Lw g K B z0 R0 I0 L0 v R I L z) (n i : Int32) : zz_S g l mm_L_rotOf 2 12 [.ref B, .int n, .int i] (K, R, I, L, z) (zz_LW g K B z0 R0 I0 L0 (some (.int (wk_rotOf (ov_s v) n i))) v) zz_no := by
  refine sx_rotOf hf hW n i ((wq (ov_s v) n (fun x => if 0 ≤ i.toInt ∧ i.toInt < tg_p x then .inl (zz_rotj x i) else .inr eI)), v) wq_tel _ zw_zy (fun E h => ?_)
  have h : wq (ov_s v) n (fun x => if 0 ≤ i.toInt ∧ i.toInt < tg_p x then .inl (zz_rotj x i) else .inr eI) = .inr E := h
  refine wq_hE (P := fun E => E = eN ∨ E = eI) (Or.inl rfl) (fun x E h => ?_) E h
  exact Or.inr (zz_ie h)
theorem sq_untilRotten (hf : l.stackTraces = false) (hW : zz_Lw g K B z0 R0 I0 L0 v R I L z) (n : Int32) : zz_S g l mm_L_untilRotten 2 12 [.ref B, .int n] (K, R, I, L, z) (zz_LW g K B z0 R0 I0 L0 (some (.int (wk_untilRotten (ov_s v) n))) v) zz_no := by
  refine sx_untilRotten hf hW n ((wq (ov_s v) n (fun x => if zz_dur (ov_s v) x = -1 then .inr eN else .inl (zz_dur (ov_s v) x))), v) wq_tel _ zw_zy (fun E h => ?_)
  have h : wq (ov_s v) n (fun x => if zz_dur (ov_s v) x = -1 then .inr eN else .inl (zz_dur (ov_s v) x)) = .inr E := h
  refine wq_hE (P := fun E => E = eN) rfl (fun x E h => ?_) E h
  exact zz_ie2 h
theorem sq_decodedLength (hf : l.stackTraces = false) (hW : zz_Lw g K B z0 R0 I0 L0 v R I L z) (n : Int32) : zz_S g l mm_L_decodedLength 2 12 [.ref B, .int n] (K, R, I, L, z) (zz_LW g K B z0 R0 I0 L0 (some (.int (wk_decodedLength (ov_s v) n))) v) zz_no := by
  refine sx_decodedLength hf hW n ((wq (ov_s v) n (fun x => if zz_flt 0 false false (tg_c x) = -1 then .inl (nI (zz_dec x).length) else .inr eN)), v) wq_tel _ zw_zy (fun E h => ?_)
  have h : wq (ov_s v) n (fun x => if zz_flt 0 false false (tg_c x) = -1 then .inl (nI (zz_dec x).length) else .inr eN) = .inr E := h
  refine wq_hE (P := fun E => E = eN) rfl (fun x E h => ?_) E h
  exact zz_ie h
theorem sq_isReadable (hf : l.stackTraces = false) (hW : zz_Lw g K B z0 R0 I0 L0 v R I L z) (n : Int32) : zz_S g l mm_L_isReadable 1 6 [.ref B, .int n] (K, R, I, L, z) (zz_LW g K B z0 R0 I0 L0 (some (.int (wk_isReadable (ov_s v) n))) v) zz_no := by
  refine sx_isReadable hf hW n ((wq (ov_s v) n (fun x => .inl (zz_tf (0 ≤ zz_oc (zz_uir x))))), v) wq_tel _ zw_zy (fun E h => ?_)
  have h : wq (ov_s v) n (fun x => .inl (zz_tf (0 ≤ zz_oc (zz_uir x)))) = .inr E := h
  refine wq_hE (P := fun E => E = eN) rfl (fun x E h => ?_) E h
  cases h
/-- what the world says of its sizes -/
theorem zz_Lw.line (hW : zz_Lw g K B z0 R0 I0 L0 v R I L z) : (ov_l v).length ≤ 432 := by
  obtain ⟨-, f, ⟨-, -, h⟩, -⟩ := hW.1
  exact h.2.1
theorem zz_Lw.store (hW : zz_Lw g K B z0 R0 I0 L0 v R I L z) : (sv_r (ov_s v)).length ≤ 4 ∧ (sv_t (ov_s v)).length ≤ 32 ∧ ∀ (i : Nat) (x : zz_TG), (sv_t (ov_s v))[i]? = some x → (tg_c x).length ≤ 96 ∧ (tg_r x).length = 8 ∧ tg_p x ≤ 8 := by
  obtain ⟨-, f, -, ⟨σ, -, ⟨-, h1, -⟩, ⟨-, h2, h3⟩, -⟩, -⟩ := hW.1
  refine ⟨h1, h2, fun i x hx => ?_⟩
  obtain ⟨q1, q2, -, -, q5, -⟩ := h3 i x hx
  exact ⟨q1.2.1, q2, q5⟩
theorem zz_Lw.hist (hW : zz_Lw g K B z0 R0 I0 L0 v R I L z) : (ov_h v).length ≤ 8 ∧ (ov_m v).length ≤ 40 ∧ (ov_b v).length ≤ 60 := by
  obtain ⟨-, f, ⟨h1, h2, -⟩, -, -, ⟨-, -, -, h3, -⟩, -⟩ := hW.1
  exact ⟨h3, h1.2.1, h2.2.1⟩
/-- a telegram of the store is found by its number -/
theorem zz_fnd {ts : List zz_TG} {i : Nat} {x : zz_TG} (h : ts[i]? = some x) : ∃ p y, zz_pos (tg_n x) 0 ts = some p ∧ ts[p]? = some y ∧ zz_tat ts p = y ∧ tg_n y = tg_n x := by
  cases hp : zz_pos (tg_n x) 0 ts with
  | some p =>
    obtain ⟨-, y, hy, e⟩ := zz_pos_at hp
    exact ⟨p, y, rfl, hy, by unfold zz_tat; rw [List.getD_eq_getElem?_getD, hy]; rfl, e⟩
  | none =>
    exfalso
    have key : ∀ (ts : List zz_TG) (k i : Nat), ts[i]? = some x → zz_pos (tg_n x) k ts ≠ none := by
      intro ts
      induction ts with
      | nil => intro k i h; simp at h
      | cons y t ih =>
        intro k i h
        unfold zz_pos
        split
        · simp
        · rename_i hne
          cases i with
          | zero => simp at h; rw [h] at hne; exact absurd rfl hne
          | succ i => exact ih (k + 1) i (by simpa using h)
    exact key ts 0 i h hp
end Lawq
