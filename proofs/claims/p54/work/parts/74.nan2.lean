/-! NO NAN, for the stores of the law -/
theorem zk_nan64 : ∀ a, a < 1441 → ∀ b, b < 16 → 1 ≤ b → FP.ddiv (FP.i2d (nI a)) (FP.i2d (nI b)) &&& 0x7fffffffffffffff ≤ 0x7ff0000000000000 := by decide +kernel
theorem zk_nan32 : ∀ a, a < 121 → ∀ b, b < 121 → 1 ≤ b → FP.fdiv (FP.i2f (nI a)) (FP.i2f (nI b)) &&& 0x7fffffff ≤ 0x7f800000 := by decide +kernel
theorem zk_nn_of {m : Nat} {s : zz_SV} (h : zk_I m s) (hm : m ≤ 15) : zk_nn s := by
  obtain ⟨-, -, k, h3, -, h5, h6⟩ := h
  refine ⟨fun hn => ?_, fun hp => ?_⟩
  · have e : zz_scl s = nI (0 + ((sv_t s).map fun x => (tg_c x).length).sum) := zk_fs_n (ff := fun x => (tg_c x).length) (sv_t s) 0 (fun x _ => rfl)
    have hb := zk_sum_le (ff := fun x => (tg_c x).length) (b := 96) (sv_t s) (fun x hx => (h6 x hx).2.2.2.1)
    unfold zz_md
    rw [e]
    exact zk_nan64 _ (by omega) _ (by omega) (by omega)
  · have e : zz_crp s = nI (0 + ((sv_t s).map fun x => zz_cnt (tg_s x)).sum) := zk_fs_n (ff := fun x => zz_cnt (tg_s x)) (sv_t s) 0 (fun x _ => rfl)
    have hb := zk_sum_le (ff := fun x => zz_cnt (tg_s x)) (b := 8) (sv_t s) (fun x hx => by
      obtain ⟨-, -, -, -, t5, t6, -⟩ := h6 x hx
      have := zk_cnt_le (tg_s x)
      rw [zk_s_len t5 t6] at this
      omega)
    have e2 : zz_cps s = nI (0 + ((sv_t s).map fun x => tg_p x).sum) := zk_fs_n (ff := fun x => tg_p x) (sv_t s) 0 (fun x _ => rfl)
    have hb2 := zk_sum_le (ff := fun x => tg_p x) (b := 8) (sv_t s) (fun x hx => (h6 x hx).2.2.2.2.2.1)
    have h0 : 0 + ((sv_t s).map fun x => tg_p x).sum ≠ 0 := fun q => hp (by rw [e2, q]; rfl)
    unfold zz_rs
    rw [e, e2]
    exact zk_nan32 _ (by omega) _ (by omega) (by omega)
