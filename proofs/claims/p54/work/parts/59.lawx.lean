/-! THE LAW: a world with a frame; the wrappers over it -/
/-- the texts of the String constants -/
def zz_cts : List (List Int32) := zz_wds ++ [[], [nI 97, nI 98, nI 55, nI 92, nI 48, nI 32, nI 122, nI 51, nI 57], [nI 32, nI 62, nI 32], [nI 97, nI 49, nI 50], [], [], [nI 97, nI 98, nI 51, nI 92, nI 55], [nI 97, nI 103, nI 101, nI 32, nI 50, nI 59, nI 100, nI 114, nI 111, nI 112, nI 32], [nI 114, nI 101, nI 99, nI 97, nI 114, nI 118, nI 101, nI 32], [nI 59, nI 109, nI 111, nI 118, nI 101, nI 32], [nI 32, nI 49], [nI 113], [nI 97, nI 103, nI 101, nI 32, nI 51, nI 59, nI 100, nI 114, nI 111, nI 112, nI 32, nI 57, nI 57, nI 59, nI 100, nI 114, nI 111, nI 112, nI 32, nI 57, nI 57], [nI 97, nI 103, nI 101, nI 32, nI 49, nI 59, nI 109, nI 111, nI 118, nI 101, nI 32], [nI 32], [nI 97, nI 98, nI 99]]
def zz_ct (k : Nat) : List Int32 := zz_cts.getD k []
/-- what lies below: String constants, digits, the script (of n ints, in the cell q) -/
def zz_Ev (g : zz_G) (K : Nat → Nat × Nat) (R : Nat → Nat → Option Nat) (I : Nat → Nat → Int32) (q n : Nat) : Prop :=
  (∀ k, k < 22 → zz_Sg K R I (g.2.2.2.2 k) (g.2.2.2.2 (100 + k)) (zz_ct k) ∧ g.2.2.2.2 k < (zz_hb g).size ∧ g.2.2.2.2 (100 + k) < (zz_hb g).size) ∧ (zz_Dg g K I ∧ g.2.2.2.2 30 < (zz_hb g).size) ∧ K q = zz_a 0 n ∧ n ≤ 260 ∧ q < (zz_hb g).size
/-- the object at B is v; since z0 nothing else has changed -/
def zz_Lw (g : zz_G) (K : Nat → Nat × Nat) (B z0 : Nat) (R0 : Nat → Nat → Option Nat) (I0 : Nat → Nat → Int32) (L0 : Nat → Nat → Int64) (v : zz_OV) (R : Nat → Nat → Option Nat) (I : Nat → Nat → Int32) (L : Nat → Nat → Int64) (z : Nat) : Prop :=
  zz_Ob g K R I B v ∧ (∀ b, b < z0 → b < B ∨ B + 1460 ≤ b → R b = R0 b ∧ I b = I0 b) ∧ (∀ b, b < z0 → L b = L0 b) ∧ z0 ≤ z ∧ B + 1460 ≤ z0 ∧ zz_A g B
def zz_LW (g : zz_G) (K : Nat → Nat × Nat) (B z0 : Nat) (R0 : Nat → Nat → Option Nat) (I0 : Nat → Nat → Int32) (L0 : Nat → Nat → Int64) (x : Option Value) (w : zz_OV) : Option Value → zz_H → Prop := fun a h' => ∃ R' I' L' z', a = x ∧ h' = (K, R', I', L', z') ∧ zz_Lw g K B z0 R0 I0 L0 w R' I' L' z'
theorem pq_hE {v : zz_OV} {n : Int32} {F : zz_TG → zz_PR} {P : String → Prop} (h1 : P eN) (h2 : ∀ x E, (F x).1 = .inr E → P E) : ∀ E, (pq_tel v n F).1 = .inr E → P E := by
  intro E h
  unfold pq_tel at h
  split at h
  · cases h; exact h1
  · exact h2 _ E h
theorem zz_if_e {c : Prop} [Decidable c] {n : Int32} {e E : String} {v : zz_OV} (h : ((if c then .inl n else .inr e, v) : zz_PR).1 = .inr E) : E = e := by
  dsimp only at h
  split at h
  · cases h
  · cases h; rfl
theorem zz_if_e2 {c : Prop} [Decidable c] {n : Int32} {e E : String} {v : zz_OV} (h : ((if c then .inr e else .inl n, v) : zz_PR).1 = .inr E) : E = e := by
  dsimp only at h
  split at h
  · cases h; rfl
  · cases h
theorem eAU : eU ≠ eA := by decide +kernel
section Lawx
variable {g : zz_G} {l : Launch} {K : Nat → Nat × Nat} {R R0 : Nat → Nat → Option Nat} {I I0 : Nat → Nat → Int32} {L L0 : Nat → Nat → Int64} {z z0 B q n : Nat} {v w : zz_OV}
theorem zz_Ev.kept {K1 : Nat → Nat × Nat} {R1 : Nat → Nat → Option Nat} {I1 : Nat → Nat → Int32} {m : Nat} (h : zz_Ev g K R I q n) (hm : (zz_hb g).size ≤ m) (hk : ∀ b, b < m → K1 b = K b ∧ R1 b = R b ∧ I1 b = I b) : zz_Ev g K1 R1 I1 q n := by
  obtain ⟨h1, ⟨h2, h3⟩, h4, h5, h6⟩ := h
  have e30 := hk _ (Nat.lt_of_lt_of_le h3 hm)
  refine ⟨fun k hkk => ?_, ⟨⟨by rw [e30.1]; exact h2.1, fun j hj => by rw [e30.2.2]; exact h2.2 j hj⟩, h3⟩, by rw [(hk _ (Nat.lt_of_lt_of_le h6 hm)).1]; exact h4, h5, h6⟩
  obtain ⟨⟨k1, k2, k3, k4, k5, k6, k7⟩, l1, l2⟩ := h1 k hkk
  have e1 := hk _ (Nat.lt_of_lt_of_le l1 hm)
  have e2 := hk _ (Nat.lt_of_lt_of_le l2 hm)
  exact ⟨⟨by rw [e1.1]; exact k1, by rw [e1.2.1]; exact k2, by rw [e2.1]; exact k3, by rw [e1.2.2]; exact k4, k5, fun j hj => by rw [e2.2.2]; exact k6 j hj, k7⟩, l1, l2⟩
theorem zz_Ev.lw (h : zz_Ev g K R0 I0 q n) (hW : zz_Lw g K B z0 R0 I0 L0 v R I L z) : zz_Ev g K R I q n := by
  have hA : (zz_hb g).size ≤ B := hW.2.2.2.2.2
  have hz := hW.2.2.2.2.1
  exact h.kept hA fun b hb => ⟨rfl, hW.2.1 b (by omega) (Or.inl hb)⟩
theorem zz_Ev.wd (h : zz_Ev g K R I q n) : zz_Wd g K R I := fun k hk => by
  have h1 := h.1 k (by omega)
  have e : zz_ct k = zz_wd k := by
    unfold zz_ct zz_wd zz_cts
    rw [List.getD_eq_getElem?_getD, List.getElem?_append_left (show k < zz_wds.length from hk), ← List.getD_eq_getElem?_getD]
  rw [e] at h1
  exact h1
theorem zz_LQ.lw {x : Int32} {a : Option Value} {h' : zz_H} (hW : zz_Lw g K B z0 R0 I0 L0 v R I L z) (h : zz_LQ g K R I L z B x w a h') : zz_LW g K B z0 R0 I0 L0 (some (.int x)) w a h' := by
  obtain ⟨R', I', z', e1, e2, e3, e4, e5, e6⟩ := h
  obtain ⟨h1, h2, h3, h4, h5, h6⟩ := hW
  exact ⟨R', I', L, z', e1, e3, e4, fun b hb hq => ⟨(e5 b hq).trans (h2 b hb hq).1, (e6 b hq).trans (h2 b hb hq).2⟩, h3, Nat.le_trans h4 e2, h5, h6⟩
theorem zz_PQ.lw {r : zz_PR} {a : Option Value} {h' : zz_H} (hW : zz_Lw g K B z0 R0 I0 L0 v R I L z) (h : zz_PQ g K R I L z B r a h') : ∃ n, r.1 = .inl n ∧ zz_LW g K B z0 R0 I0 L0 (some (.int n)) r.2 a h' := by
  obtain ⟨n, R', I', e0, e1, e3, e4, e5, e6⟩ := h
  obtain ⟨h1, h2, h3, h4, h5, h6⟩ := hW
  exact ⟨n, e0, R', I', L, z, e1, e3, e4, fun b hb hq => ⟨(e5 b hq).trans (h2 b hb hq).1, (e6 b hq).trans (h2 b hb hq).2⟩, h3, h4, h5, h6⟩
theorem sx_type (hf : l.stackTraces = false) (hW : zz_Lw g K B z0 R0 I0 L0 v R I L z) (c : Int32) (hc : zz_ch c)  (rr : zz_PR) (hr1 : po_type v c = rr) (x : Int32) (hx : zw (zf2 eA) rr = x) (hE : ∀ E, rr.1 = .inr E → E = eA ∨ E = eS) : zz_S g l mm_L_type 1 6 [.ref B, .int c] (K, R, I, L, z) (zz_LW g K B z0 R0 I0 L0 (some (.int x)) rr.2) zz_no := by
  subst hr1
  subst hx
  exact zz_S.mono (sp_L_type hf hW.1 c hc hE) (fun a h1 hq => zz_LQ.lw hW hq) (fun E h1 hx => hx)
theorem sx_feed (hf : l.stackTraces = false) (hW : zz_Lw g K B z0 R0 I0 L0 v R I L z) (c : Int32) (hc : zz_ch c)  (rr : zz_PR) (hr1 : po_feed v c = rr) (x : Int32) (hx : zw zf1 rr = x) (hE : ∀ E, rr.1 = .inr E → E = eS) : zz_S g l mm_L_feed 1 6 [.ref B, .int c] (K, R, I, L, z) (zz_LW g K B z0 R0 I0 L0 (some (.int x)) rr.2) zz_no := by
  subst hr1
  subst hx
  exact zz_S.mono (sp_L_feed hf hW.1 c hc hE) (fun a h1 hq => zz_LQ.lw hW hq) (fun E h1 hx => hx)
theorem sx_addRoot (hf : l.stackTraces = false) (hW : zz_Lw g K B z0 R0 I0 L0 v R I L z) (d : Int32) (hr : rs_ok (zv_plant (ov_s v) d).1) (rr : zz_PR) (hr1 : po_ch v (fun s => zv_plant s d) = rr) (x : Int32) (hx : zw (zf2 eA) rr = x) (hE : ∀ E, rr.1 = .inr E → E = eA ∨ E = eU) : zz_S g l mm_L_addRoot 1 6 [.ref B, .int d] (K, R, I, L, z) (zz_LW g K B z0 R0 I0 L0 (some (.int x)) rr.2) zz_no := by
  subst hr1
  subst hx
  exact zz_S.mono (sp_L_addRoot hf hW.1 d hr hE) (fun a h1 hq => zz_LQ.lw hW hq) (fun E h1 hx => hx)
theorem sx_dry (hf : l.stackTraces = false) (hW : zz_Lw g K B z0 R0 I0 L0 v R I L z) (r : Int32) (hr : rs_ok (zv_dry (ov_s v) r).1) (rr : zz_PR) (hr1 : po_ch v (fun s => zv_dry s r) = rr) (x : Int32) (hx : zw (zf2 eI) rr = x) (hE : ∀ E, rr.1 = .inr E → E = eI ∨ E = eU) : zz_S g l mm_L_dry 1 6 [.ref B, .int r] (K, R, I, L, z) (zz_LW g K B z0 R0 I0 L0 (some (.int x)) rr.2) zz_no := by
  subst hr1
  subst hx
  exact zz_S.mono (sp_L_dry hf hW.1 r hr hE) (fun a h1 hq => zz_LQ.lw hW hq) (fun E h1 hx => hx)
theorem sx_dampness (hf : l.stackTraces = false) (hW : zz_Lw g K B z0 R0 I0 L0 v R I L z) (r : Int32)  (rr : zz_PR) (hr1 : ((if zz_hr (ov_s v) r then .inl (zz_dmp (ov_s v) r) else .inr eI, v) : zz_PR) = rr) (x : Int32) (hx : zw zf1 rr = x) (hE : ∀ E, rr.1 = .inr E → E = eI) : zz_S g l mm_L_dampness 1 6 [.ref B, .int r] (K, R, I, L, z) (zz_LW g K B z0 R0 I0 L0 (some (.int x)) rr.2) zz_no := by
  subst hr1
  subst hx
  exact zz_S.mono (sp_L_dampness hf hW.1 r hE) (fun a h1 hq => zz_LQ.lw hW hq) (fun E h1 hx => hx)
theorem sx_pagesIn (hf : l.stackTraces = false) (hW : zz_Lw g K B z0 R0 I0 L0 v R I L z) (r : Int32)  (rr : zz_PR) (hr1 : ((if zz_hr (ov_s v) r then .inl (zz_cpi (ov_s v) r) else .inr eI, v) : zz_PR) = rr) (x : Int32) (hx : zw zf1 rr = x) (hE : ∀ E, rr.1 = .inr E → E = eI) : zz_S g l mm_L_pagesIn 1 6 [.ref B, .int r] (K, R, I, L, z) (zz_LW g K B z0 R0 I0 L0 (some (.int x)) rr.2) zz_no := by
  subst hr1
  subst hx
  exact zz_S.mono (sp_L_pagesIn hf hW.1 r hE) (fun a h1 hq => zz_LQ.lw hW hq) (fun E h1 hx => hx)
theorem sx_carve (hf : l.stackTraces = false) (hW : zz_Lw g K B z0 R0 I0 L0 v R I L z) (r o : Int32) (hr : rs_ok (zv_carve (ov_s v) r o (ov_m v)).1) (rr : zz_PR) (hr1 : po_carve v r o = rr) (x : Int32) (hx : zw (zf3 eI eA) rr = x) (hE : ∀ E, rr.1 = .inr E → E = eI ∨ E = eA ∨ E = eU) : zz_S g l mm_L_carve 1 6 [.ref B, .int r, .int o] (K, R, I, L, z) (zz_LW g K B z0 R0 I0 L0 (some (.int x)) rr.2) zz_no := by
  subst hr1
  subst hx
  exact zz_S.mono (sp_L_carve hf hW.1 r o hr hE) (fun a h1 hq => zz_LQ.lw hW hq) (fun E h1 hx => hx)
theorem sx_damage (hf : l.stackTraces = false) (hW : zz_Lw g K B z0 R0 I0 L0 v R I L z) (n i c : Int32) (hc : zz_ch c) (hr : rs_ok (zv_dmg (ov_s v) n i c).1) (hch : ∀ o, (zv_dmg (ov_s v) n i c).1 = .inr o → 0 ≤ o → zz_ch o) (rr : zz_PR) (hr1 : po_ch v (fun s => zv_dmg s n i c) = rr) (x : Int32) (hx : zw (zf4 eN eI eA) rr = x) (hE : ∀ E, rr.1 = .inr E → E = eN ∨ E = eI ∨ E = eA ∨ E = eU) : zz_S g l mm_L_damage 1 6 [.ref B, .int n, .int i, .int c] (K, R, I, L, z) (zz_LW g K B z0 R0 I0 L0 (some (.int x)) rr.2) zz_no := by
  subst hr1
  subst hx
  exact zz_S.mono (sp_L_damage hf hW.1 n i c hc hr hch hE) (fun a h1 hq => zz_LQ.lw hW hq) (fun E h1 hx => hx)
theorem sx_recarve (hf : l.stackTraces = false) (hW : zz_Lw g K B z0 R0 I0 L0 v R I L z) (n : Int32) (hr : rs_ok (zv_anew (ov_s v) n).1) (rr : zz_PR) (hr1 : po_ch v (fun s => zv_anew s n) = rr) (x : Int32) (hx : zw (zf2 eN) rr = x) (hE : ∀ E, rr.1 = .inr E → E = eN ∨ E = eU) : zz_S g l mm_L_recarve 1 6 [.ref B, .int n] (K, R, I, L, z) (zz_LW g K B z0 R0 I0 L0 (some (.int x)) rr.2) zz_no := by
  subst hr1
  subst hx
  exact zz_S.mono (sp_L_recarve hf hW.1 n hr hE) (fun a h1 hq => zz_LQ.lw hW hq) (fun E h1 hx => hx)
theorem sx_move (hf : l.stackTraces = false) (hW : zz_Lw g K B z0 R0 I0 L0 v R I L z) (n r : Int32) (hr : rs_ok (zv_move (ov_s v) n r).1) (rr : zz_PR) (hr1 : po_ch v (fun s => zv_move s n r) = rr) (x : Int32) (hx : zw (zf3 eN eI) rr = x) (hE : ∀ E, rr.1 = .inr E → E = eN ∨ E = eI ∨ E = eU) : zz_S g l mm_L_move 1 6 [.ref B, .int n, .int r] (K, R, I, L, z) (zz_LW g K B z0 R0 I0 L0 (some (.int x)) rr.2) zz_no := by
  subst hr1
  subst hx
  exact zz_S.mono (sp_L_move hf hW.1 n r hr hE) (fun a h1 hq => zz_LQ.lw hW hq) (fun E h1 hx => hx)
theorem sx_drop (hf : l.stackTraces = false) (hW : zz_Lw g K B z0 R0 I0 L0 v R I L z) (n : Int32) (hr : rs_ok (zv_drop (ov_s v) n).1) (rr : zz_PR) (hr1 : po_ch v (fun s => zv_drop s n) = rr) (x : Int32) (hx : zw zf1 rr = x) (hE : ∀ E, rr.1 = .inr E → E = eN) : zz_S g l mm_L_drop 1 6 [.ref B, .int n] (K, R, I, L, z) (zz_LW g K B z0 R0 I0 L0 (some (.int x)) rr.2) zz_no := by
  subst hr1
  subst hx
  exact zz_S.mono (sp_L_drop hf hW.1 n hr hE) (fun a h1 hq => zz_LQ.lw hW hq) (fun E h1 hx => hx)
theorem sx_age (hf : l.stackTraces = false) (hW : zz_Lw g K B z0 R0 I0 L0 v R I L z) (d : Int32) (hr : rs_ok (zv_pass (ov_s v) d).1) (rr : zz_PR) (hr1 : po_ch v (fun s => zv_pass s d) = rr) (x : Int32) (hx : zw zf1 rr = x) (hE : ∀ E, rr.1 = .inr E → E = eA) : zz_S g l mm_L_age 1 6 [.ref B, .int d] (K, R, I, L, z) (zz_LW g K B z0 R0 I0 L0 (some (.int x)) rr.2) zz_no := by
  subst hr1
  subst hx
  exact zz_S.mono (sp_L_age hf hW.1 d hr hE) (fun a h1 hq => zz_LQ.lw hW hq) (fun E h1 hx => hx)
theorem sx_read (hf : l.stackTraces = false) (hW : zz_Lw g K B z0 R0 I0 L0 v R I L z) (n : Int32)  (rr : zz_PR) (hr1 : po_read v n = rr) (x : Int32) (hx : zw (zf2 eN) rr = x) (hE : ∀ E, rr.1 = .inr E → E = eN ∨ E = eU) : zz_S g l mm_L_read 1 6 [.ref B, .int n] (K, R, I, L, z) (zz_LW g K B z0 R0 I0 L0 (some (.int x)) rr.2) zz_no := by
  subst hr1
  subst hx
  exact zz_S.mono (sp_L_read hf hW.1 n hE) (fun a h1 hq => zz_LQ.lw hW hq) (fun E h1 hx => hx)
theorem sx_telegramAt (hf : l.stackTraces = false) (hW : zz_Lw g K B z0 R0 I0 L0 v R I L z) (i : Int32)  (rr : zz_PR) (hr1 : ((if 0 ≤ i.toInt ∧ i.toInt < (sv_t (ov_s v)).length then .inl (tg_n (zz_tat (sv_t (ov_s v)) i.toInt.toNat)) else .inr eI, v) : zz_PR) = rr) (x : Int32) (hx : zw zf1 rr = x) (hE : ∀ E, rr.1 = .inr E → E = eI) : zz_S g l mm_L_telegramAt 1 6 [.ref B, .int i] (K, R, I, L, z) (zz_LW g K B z0 R0 I0 L0 (some (.int x)) rr.2) zz_no := by
  subst hr1
  subst hx
  exact zz_S.mono (sp_L_telegramAt hf hW.1 i hE) (fun a h1 hq => zz_LQ.lw hW hq) (fun E h1 hx => hx)
theorem sx_byPriority (hf : l.stackTraces = false) (hW : zz_Lw g K B z0 R0 I0 L0 v R I L z) (r : Int32)  (rr : zz_PR) (hr1 : ((if zz_fbr zz_ahp (sv_t (ov_s v)) r (sv_t (ov_s v)) = -1 then .inr eN else .inl (zz_fbr zz_ahp (sv_t (ov_s v)) r (sv_t (ov_s v))), v) : zz_PR) = rr) (x : Int32) (hx : zw zf1 rr = x) (hE : ∀ E, rr.1 = .inr E → E = eN) : zz_S g l mm_L_byPriority 1 6 [.ref B, .int r] (K, R, I, L, z) (zz_LW g K B z0 R0 I0 L0 (some (.int x)) rr.2) zz_no := by
  subst hr1
  subst hx
  exact zz_S.mono (sp_L_byPriority hf hW.1 r hE) (fun a h1 hq => zz_LQ.lw hW hq) (fun E h1 hx => hx)
theorem sx_byRot (hf : l.stackTraces = false) (hW : zz_Lw g K B z0 R0 I0 L0 v R I L z) (r : Int32)  (rr : zz_PR) (hr1 : ((if zz_fbr zz_ahr (sv_t (ov_s v)) r (sv_t (ov_s v)) = -1 then .inr eN else .inl (zz_fbr zz_ahr (sv_t (ov_s v)) r (sv_t (ov_s v))), v) : zz_PR) = rr) (x : Int32) (hx : zw zf1 rr = x) (hE : ∀ E, rr.1 = .inr E → E = eN) : zz_S g l mm_L_byRot 1 6 [.ref B, .int r] (K, R, I, L, z) (zz_LW g K B z0 R0 I0 L0 (some (.int x)) rr.2) zz_no := by
  subst hr1
  subst hx
  exact zz_S.mono (sp_L_byRot hf hW.1 r hE) (fun a h1 hq => zz_LQ.lw hW hq) (fun E h1 hx => hx)
theorem sx_rootOf (hf : l.stackTraces = false) (hW : zz_Lw g K B z0 R0 I0 L0 v R I L z) (n : Int32)  (rr : zz_PR) (hr1 : pq_tel v n (fun x => (.inl (tg_o x), v)) = rr) (x : Int32) (hx : zw zf1 rr = x) (hE : ∀ E, rr.1 = .inr E → E = eN) : zz_S g l mm_L_rootOf 1 6 [.ref B, .int n] (K, R, I, L, z) (zz_LW g K B z0 R0 I0 L0 (some (.int x)) rr.2) zz_no := by
  subst hr1
  subst hx
  exact zz_S.mono (sp_L_rootOf hf hW.1 n hE) (fun a h1 hq => zz_LQ.lw hW hq) (fun E h1 hx => hx)
theorem sx_checksumOf (hf : l.stackTraces = false) (hW : zz_Lw g K B z0 R0 I0 L0 v R I L z) (n : Int32)  (rr : zz_PR) (hr1 : pq_tel v n (fun x => (.inl (tg_k x), v)) = rr) (x : Int32) (hx : zw zf1 rr = x) (hE : ∀ E, rr.1 = .inr E → E = eN) : zz_S g l mm_L_checksumOf 1 6 [.ref B, .int n] (K, R, I, L, z) (zz_LW g K B z0 R0 I0 L0 (some (.int x)) rr.2) zz_no := by
  subst hr1
  subst hx
  exact zz_S.mono (sp_L_checksumOf hf hW.1 n hE) (fun a h1 hq => zz_LQ.lw hW hq) (fun E h1 hx => hx)
theorem sx_pageCount (hf : l.stackTraces = false) (hW : zz_Lw g K B z0 R0 I0 L0 v R I L z) (n : Int32)  (rr : zz_PR) (hr1 : pq_tel v n (fun x => (.inl (nI (tg_p x)), v)) = rr) (x : Int32) (hx : zw zf1 rr = x) (hE : ∀ E, rr.1 = .inr E → E = eN) : zz_S g l mm_L_pageCount 1 6 [.ref B, .int n] (K, R, I, L, z) (zz_LW g K B z0 R0 I0 L0 (some (.int x)) rr.2) zz_no := by
  subst hr1
  subst hx
  exact zz_S.mono (sp_L_pageCount hf hW.1 n hE) (fun a h1 hq => zz_LQ.lw hW hq) (fun E h1 hx => hx)
theorem sx_codeLength (hf : l.stackTraces = false) (hW : zz_Lw g K B z0 R0 I0 L0 v R I L z) (n : Int32)  (rr : zz_PR) (hr1 : pq_tel v n (fun x => (.inl (nI (tg_c x).length), v)) = rr) (x : Int32) (hx : zw zf1 rr = x) (hE : ∀ E, rr.1 = .inr E → E = eN) : zz_S g l mm_L_codeLength 1 6 [.ref B, .int n] (K, R, I, L, z) (zz_LW g K B z0 R0 I0 L0 (some (.int x)) rr.2) zz_no := by
  subst hr1
  subst hx
  exact zz_S.mono (sp_L_codeLength hf hW.1 n hE) (fun a h1 hq => zz_LQ.lw hW hq) (fun E h1 hx => hx)
theorem sx_codeChar (hf : l.stackTraces = false) (hW : zz_Lw g K B z0 R0 I0 L0 v R I L z) (n i : Int32)  (rr : zz_PR) (hr1 : pq_tel v n (fun x => (if 0 ≤ i.toInt ∧ i.toInt < (tg_c x).length then .inl (zz_at0 (tg_c x) i) else .inr eI, v)) = rr) (x : Int32) (hx : zw (zf2 eN) rr = x) (hE : ∀ E, rr.1 = .inr E → E = eN ∨ E = eI) : zz_S g l mm_L_codeChar 2 12 [.ref B, .int n, .int i] (K, R, I, L, z) (zz_LW g K B z0 R0 I0 L0 (some (.int x)) rr.2) zz_no := by
  subst hr1
  subst hx
  exact zz_S.mono (sp_L_codeChar hf hW.1 n i hE) (fun a h1 hq => zz_LQ.lw hW hq) (fun E h1 hx => hx)
theorem sx_rotOf (hf : l.stackTraces = false) (hW : zz_Lw g K B z0 R0 I0 L0 v R I L z) (n i : Int32)  (rr : zz_PR) (hr1 : pq_tel v n (fun x => (if 0 ≤ i.toInt ∧ i.toInt < tg_p x then .inl (zz_rotj x i) else .inr eI, v)) = rr) (x : Int32) (hx : zw (zf2 eN) rr = x) (hE : ∀ E, rr.1 = .inr E → E = eN ∨ E = eI) : zz_S g l mm_L_rotOf 2 12 [.ref B, .int n, .int i] (K, R, I, L, z) (zz_LW g K B z0 R0 I0 L0 (some (.int x)) rr.2) zz_no := by
  subst hr1
  subst hx
  exact zz_S.mono (sp_L_rotOf hf hW.1 n i hE) (fun a h1 hq => zz_LQ.lw hW hq) (fun E h1 hx => hx)
theorem sx_untilRotten (hf : l.stackTraces = false) (hW : zz_Lw g K B z0 R0 I0 L0 v R I L z) (n : Int32)  (rr : zz_PR) (hr1 : pq_tel v n (fun x => (if zz_dur (ov_s v) x = -1 then .inr eN else .inl (zz_dur (ov_s v) x), v)) = rr) (x : Int32) (hx : zw zf1 rr = x) (hE : ∀ E, rr.1 = .inr E → E = eN) : zz_S g l mm_L_untilRotten 2 12 [.ref B, .int n] (K, R, I, L, z) (zz_LW g K B z0 R0 I0 L0 (some (.int x)) rr.2) zz_no := by
  subst hr1
  subst hx
  exact zz_S.mono (sp_L_untilRotten hf hW.1 n hE) (fun a h1 hq => zz_LQ.lw hW hq) (fun E h1 hx => hx)
theorem sx_decodedLength (hf : l.stackTraces = false) (hW : zz_Lw g K B z0 R0 I0 L0 v R I L z) (n : Int32)  (rr : zz_PR) (hr1 : pq_tel v n (fun x => (if zz_flt 0 false false (tg_c x) = -1 then .inl (nI (zz_dec x).length) else .inr eN, v)) = rr) (x : Int32) (hx : zw zf1 rr = x) (hE : ∀ E, rr.1 = .inr E → E = eN) : zz_S g l mm_L_decodedLength 2 12 [.ref B, .int n] (K, R, I, L, z) (zz_LW g K B z0 R0 I0 L0 (some (.int x)) rr.2) zz_no := by
  subst hr1
  subst hx
  exact zz_S.mono (sp_L_decodedLength hf hW.1 n hE) (fun a h1 hq => zz_LQ.lw hW hq) (fun E h1 hx => hx)
theorem sx_decodedByUnits (hf : l.stackTraces = false) (hW : zz_Lw g K B z0 R0 I0 L0 v R I L z) (n : Int32) (hn : zz_pos n 0 (sv_t (ov_s v)) = none)  (rr : zz_PR) (hr1 : ((.inr eN, v) : zz_PR) = rr) (x : Int32) (hx : zw zf1 rr = x) (hE : ∀ E, rr.1 = .inr E → E = eN) : zz_S g l mm_L_decodedByUnits 2 12 [.ref B, .int n] (K, R, I, L, z) (zz_LW g K B z0 R0 I0 L0 (some (.int x)) rr.2) zz_no := by
  subst hr1
  subst hx
  exact zz_S.mono (sp_L_decodedByUnits hf hW.1 n hn hE) (fun a h1 hq => zz_LQ.lw hW hq) (fun E h1 hx => hx)
theorem sx_execute (hf : l.stackTraces = false) (hW : zz_Lw g K B z0 R0 I0 L0 v R I L z)  (hEv : zz_Ev g K R0 I0 q n) (rr : zz_PR) (hr1 : po_exec v = rr) (x : Int32) (hx : zw (zf2 eA) rr = x) (hE : ∀ E, rr.1 = .inr E → E = eA ∨ E = eU) : zz_S g l mm_L_execute 1 6 [.ref B] (K, R, I, L, z) (zz_LW g K B z0 R0 I0 L0 (some (.int x)) rr.2) zz_no := by
  subst hr1
  subst hx
  exact zz_S.mono (sp_L_execute hf hW.1 (hEv.lw hW).wd hE) (fun a h1 hq => zz_LQ.lw hW hq) (fun E h1 hx => hx)
theorem sx_faultPosition (hf : l.stackTraces = false) (hW : zz_Lw g K B z0 R0 I0 L0 v R I L z)   (rr : zz_PR) (hr1 : ((if ov_k v = -1 then .inr eN else .inl (ov_k v), v) : zz_PR) = rr) (x : Int32) (hx : zw zf1 rr = x) (hE : ∀ E, rr.1 = .inr E → E = eN) : zz_S g l mm_L_faultPosition 1 6 [.ref B] (K, R, I, L, z) (zz_LW g K B z0 R0 I0 L0 (some (.int x)) rr.2) zz_no := by
  subst hr1
  subst hx
  exact zz_S.mono (sp_L_faultPosition hf hW.1  hE) (fun a h1 hq => zz_LQ.lw hW hq) (fun E h1 hx => hx)
theorem sx_write (hf : l.stackTraces = false) (hW : zz_Lw g K B z0 R0 I0 L0 v R I L z) (n : Int32)  (rr : zz_PR) (hr1 : pq_tel v n (fun x => (.inl (nI (zz_wto 432 x).length), ow_l v (zz_wto 432 x))) = rr) (x : Int32) (hx : zw zf1 rr = x) (hE : ∀ E, rr.1 = .inr E → E = eN) : zz_S g l mm_L_write 1 6 [.ref B, .int n] (K, R, I, L, z) (zz_LW g K B z0 R0 I0 L0 (some (.int x)) rr.2) zz_no := by
  subst hr1
  subst hx
  exact zz_S.mono (sp_L_write hf hW.1 n hE) (fun a h1 hq => zz_LQ.lw hW hq) (fun E h1 hx => hx)
theorem sx_lineChar (hf : l.stackTraces = false) (hW : zz_Lw g K B z0 R0 I0 L0 v R I L z) (i : Int32)  (rr : zz_PR) (hr1 : ((if 0 ≤ i.toInt ∧ i.toInt < (ov_l v).length then .inl (zz_at0 (ov_l v) i) else .inr eI, v) : zz_PR) = rr) (x : Int32) (hx : zw zf1 rr = x) (hE : ∀ E, rr.1 = .inr E → E = eI) : zz_S g l mm_L_lineChar 1 6 [.ref B, .int i] (K, R, I, L, z) (zz_LW g K B z0 R0 I0 L0 (some (.int x)) rr.2) zz_no := by
  subst hr1
  subst hx
  exact zz_S.mono (sp_L_lineChar hf hW.1 i hE) (fun a h1 hq => zz_LQ.lw hW hq) (fun E h1 hx => hx)
theorem sx_denial (hf : l.stackTraces = false) (hW : zz_Lw g K B z0 R0 I0 L0 v R I L z)   (rr : zz_PR) (hr1 : ((if (ov_d v).1 = -1 then .inr eN else .inl (ov_d v).1, v) : zz_PR) = rr) (x : Int32) (hx : zw zf1 rr = x) (hE : ∀ E, rr.1 = .inr E → E = eN) : zz_S g l mm_L_denial 1 6 [.ref B] (K, R, I, L, z) (zz_LW g K B z0 R0 I0 L0 (some (.int x)) rr.2) zz_no := by
  subst hr1
  subst hx
  exact zz_S.mono (sp_L_denial hf hW.1  hE) (fun a h1 hq => zz_LQ.lw hW hq) (fun E h1 hx => hx)
theorem sx_denialDetail (hf : l.stackTraces = false) (hW : zz_Lw g K B z0 R0 I0 L0 v R I L z)   (rr : zz_PR) (hr1 : ((if (ov_d v).1 = -1 then .inr eN else .inl (ov_d v).2.1, v) : zz_PR) = rr) (x : Int32) (hx : zw zf1 rr = x) (hE : ∀ E, rr.1 = .inr E → E = eN) : zz_S g l mm_L_denialDetail 1 6 [.ref B] (K, R, I, L, z) (zz_LW g K B z0 R0 I0 L0 (some (.int x)) rr.2) zz_no := by
  subst hr1
  subst hx
  exact zz_S.mono (sp_L_denialDetail hf hW.1  hE) (fun a h1 hq => zz_LQ.lw hW hq) (fun E h1 hx => hx)
theorem sx_denialCause (hf : l.stackTraces = false) (hW : zz_Lw g K B z0 R0 I0 L0 v R I L z)   (rr : zz_PR) (hr1 : ((if (ov_d v).2.2 = -1 then .inr eN else .inl (ov_d v).2.2, v) : zz_PR) = rr) (x : Int32) (hx : zw zf1 rr = x) (hE : ∀ E, rr.1 = .inr E → E = eN) : zz_S g l mm_L_denialCause 1 6 [.ref B] (K, R, I, L, z) (zz_LW g K B z0 R0 I0 L0 (some (.int x)) rr.2) zz_no := by
  subst hr1
  subst hx
  exact zz_S.mono (sp_L_denialCause hf hW.1  hE) (fun a h1 hq => zz_LQ.lw hW hq) (fun E h1 hx => hx)
theorem sx_undo (hf : l.stackTraces = false) (hW : zz_Lw g K B z0 R0 I0 L0 v R I L z)   (rr : zz_PR) (hr1 : po_undo v = rr) (x : Int32) (hx : zw zf1 rr = x) (hE : ∀ E, rr.1 = .inr E → E = eS) : zz_S g l mm_L_undo 1 6 [.ref B] (K, R, I, L, z) (zz_LW g K B z0 R0 I0 L0 (some (.int x)) rr.2) zz_no := by
  subst hr1
  subst hx
  exact zz_S.mono (sp_L_undo hf hW.1  hE) (fun a h1 hq => zz_LQ.lw hW hq) (fun E h1 hx => hx)
theorem sx_restore (hf : l.stackTraces = false) (hW : zz_Lw g K B z0 R0 I0 L0 v R I L z)   (rr : zz_PR) (hr1 : po_restore v = rr) (x : Int32) (hx : zw zf1 rr = x) (hE : ∀ E, rr.1 = .inr E → E = eS) : zz_S g l mm_L_restore 1 6 [.ref B] (K, R, I, L, z) (zz_LW g K B z0 R0 I0 L0 (some (.int x)) rr.2) zz_no := by
  subst hr1
  subst hx
  exact zz_S.mono (sp_L_restore hf hW.1  hE) (fun a h1 hq => zz_LQ.lw hW hq) (fun E h1 hx => hx)
theorem sx_isReadable (hf : l.stackTraces = false) (hW : zz_Lw g K B z0 R0 I0 L0 v R I L z) (n : Int32)  (rr : zz_PR) (hr1 : pq_tel v n (fun x => (.inl (zz_tf (0 ≤ zz_oc (zz_uir x))), v)) = rr) (x : Int32) (hx : zw zf1 rr = x) (hE : ∀ E, rr.1 = .inr E → E = eN) : zz_S g l mm_L_isReadable 1 6 [.ref B, .int n] (K, R, I, L, z) (zz_LW g K B z0 R0 I0 L0 (some (.int x)) rr.2) zz_no := by
  subst hr1
  subst hx
  exact zz_S.mono (sp_L_isReadable hf hW.1 n hE) (fun a h1 hq => zz_LQ.lw hW hq) (fun E h1 hx => hx)
theorem sx_P_clearMessage (hf : l.stackTraces = false) (hW : zz_Lw g K B z0 R0 I0 L0 v R I L z) : zz_S g l mm_P_clearMessage 0 0 [.ref B] (K, R, I, L, z) (zz_LW g K B z0 R0 I0 L0 (some (.int (nI (ov_m v).length))) (ow_m v [])) zz_no := by
  refine zz_S.mono (sp_P_clearMessage hf hW.1) (fun a h1 hq => ?_) (fun E h1 hx => ?_)
  · obtain ⟨n, e, h2⟩ := zz_PQ.lw hW hq
    cases e
    exact h2
  · obtain ⟨R', I', z', e, -⟩ := hx
    cases e
theorem sx_P_encodedLength (hf : l.stackTraces = false) (hW : zz_Lw g K B z0 R0 I0 L0 v R I L z) : zz_S g l mm_P_encodedLength 0 0 [.ref B] (K, R, I, L, z) (zz_LW g K B z0 R0 I0 L0 (some (.int (nI (zz_fold 864 0 (ov_m v) []).length))) v) zz_no := by
  refine zz_S.mono (sp_P_encodedLength hf hW.1) (fun a h1 hq => ?_) (fun E h1 hx => ?_)
  · obtain ⟨n, e, h2⟩ := zz_PQ.lw hW hq
    cases e
    exact h2
  · obtain ⟨R', I', z', e, -⟩ := hx
    cases e
theorem sx_P_telegramCount (hf : l.stackTraces = false) (hW : zz_Lw g K B z0 R0 I0 L0 v R I L z) : zz_S g l mm_P_telegramCount 0 0 [.ref B] (K, R, I, L, z) (zz_LW g K B z0 R0 I0 L0 (some (.int (nI (sv_t (ov_s v)).length))) v) zz_no := by
  refine zz_S.mono (sp_P_telegramCount hf hW.1) (fun a h1 hq => ?_) (fun E h1 hx => ?_)
  · obtain ⟨n, e, h2⟩ := zz_PQ.lw hW hq
    cases e
    exact h2
  · obtain ⟨R', I', z', e, -⟩ := hx
    cases e
theorem sx_P_rootCount (hf : l.stackTraces = false) (hW : zz_Lw g K B z0 R0 I0 L0 v R I L z) : zz_S g l mm_P_rootCount 0 0 [.ref B] (K, R, I, L, z) (zz_LW g K B z0 R0 I0 L0 (some (.int (nI (sv_r (ov_s v)).length))) v) zz_no := by
  refine zz_S.mono (sp_P_rootCount hf hW.1) (fun a h1 hq => ?_) (fun E h1 hx => ?_)
  · obtain ⟨n, e, h2⟩ := zz_PQ.lw hW hq
    cases e
    exact h2
  · obtain ⟨R', I', z', e, -⟩ := hx
    cases e
theorem sx_P_undoCount (hf : l.stackTraces = false) (hW : zz_Lw g K B z0 R0 I0 L0 v R I L z) : zz_S g l mm_P_undoCount 0 0 [.ref B] (K, R, I, L, z) (zz_LW g K B z0 R0 I0 L0 (some (.int (nI (ov_h v).length))) v) zz_no := by
  refine zz_S.mono (sp_P_undoCount hf hW.1) (fun a h1 hq => ?_) (fun E h1 hx => ?_)
  · obtain ⟨n, e, h2⟩ := zz_PQ.lw hW hq
    cases e
    exact h2
  · obtain ⟨R', I', z', e, -⟩ := hx
    cases e
theorem sx_P_day (hf : l.stackTraces = false) (hW : zz_Lw g K B z0 R0 I0 L0 v R I L z) : zz_S g l mm_P_day 0 0 [.ref B] (K, R, I, L, z) (zz_LW g K B z0 R0 I0 L0 (some (.int (sv_d (ov_s v)))) v) zz_no := by
  refine zz_S.mono (sp_P_day hf hW.1) (fun a h1 hq => ?_) (fun E h1 hx => ?_)
  · obtain ⟨n, e, h2⟩ := zz_PQ.lw hW hq
    cases e
    exact h2
  · obtain ⟨R', I', z', e, -⟩ := hx
    cases e
theorem sx_P_carvedCharacters (hf : l.stackTraces = false) (hW : zz_Lw g K B z0 R0 I0 L0 v R I L z) : zz_S g l mm_P_carvedCharacters 0 0 [.ref B] (K, R, I, L, z) (zz_LW g K B z0 R0 I0 L0 (some (.int (sv_c (ov_s v)))) v) zz_no := by
  refine zz_S.mono (sp_P_carvedCharacters hf hW.1) (fun a h1 hq => ?_) (fun E h1 hx => ?_)
  · obtain ⟨n, e, h2⟩ := zz_PQ.lw hW hq
    cases e
    exact h2
  · obtain ⟨R', I', z', e, -⟩ := hx
    cases e
theorem sx_P_rottenPages (hf : l.stackTraces = false) (hW : zz_Lw g K B z0 R0 I0 L0 v R I L z) : zz_S g l mm_P_rottenPages 0 0 [.ref B] (K, R, I, L, z) (zz_LW g K B z0 R0 I0 L0 (some (.int (zz_crp (ov_s v)))) v) zz_no := by
  refine zz_S.mono (sp_P_rottenPages hf hW.1) (fun a h1 hq => ?_) (fun E h1 hx => ?_)
  · obtain ⟨n, e, h2⟩ := zz_PQ.lw hW hq
    cases e
    exact h2
  · obtain ⟨R', I', z', e, -⟩ := hx
    cases e
theorem sx_P_saveSnapshot (hf : l.stackTraces = false) (hW : zz_Lw g K B z0 R0 I0 L0 v R I L z) : zz_S g l mm_P_saveSnapshot 0 0 [.ref B] (K, R, I, L, z) (zz_LW g K B z0 R0 I0 L0 (some (.int (nI (sv_t (ov_s v)).length))) (ow_p v (ov_s v))) zz_no := by
  refine zz_S.mono (sp_P_saveSnapshot hf hW.1) (fun a h1 hq => ?_) (fun E h1 hx => ?_)
  · obtain ⟨n, e, h2⟩ := zz_PQ.lw hW hq
    cases e
    exact h2
  · obtain ⟨R', I', z', e, -⟩ := hx
    cases e
end Lawx
