/-! MATH -/
section MathM
variable {g : zz_G} {l : Launch} {h : zz_H}
theorem sp_JM_max (hf : l.stackTraces = false) (x y : Int32) : zz_S g l mm_JM_max 0 0 [.int x, .int y] h (zz_is h (.int (if x < y then y else x))) zz_no := by
  refine z_startF hf rfl (by decide +kernel) (Nat.le_of_ble_eq_true rfl) ?_
  dsimp only [zz_lv0]
  refine z_iload_n ee_JM_max_0 rfl ?_
  refine z_iload_n ee_JM_max_1 rfl ?_
  refine z_icmp_lt ee_JM_max_2 (tgt := 9) (by decide) (fun c_2 => ?_) (fun c_2 => ?_)
  -- at 2
  · refine z_iload_n ee_JM_max_9 rfl ?_
    refine z_iret ee_JM_max_10 rfl (by omega) (by omega) ?_
    -- at 10
    exact ⟨rfl, by rw [if_pos c_2]⟩
  · refine z_iload_n ee_JM_max_5 rfl ?_
    refine z_goto ee_JM_max_6 (tgt := 10) (by decide) ?_
    refine z_iret ee_JM_max_10 rfl (by omega) (by omega) ?_
    -- at 10
    exact ⟨rfl, by rw [if_neg c_2]⟩
theorem sp_JM_min (hf : l.stackTraces = false) (x y : Int32) : zz_S g l mm_JM_min 0 0 [.int x, .int y] h (zz_is h (.int (if y < x then y else x))) zz_no := by
  refine z_startF hf rfl (by decide +kernel) (Nat.le_of_ble_eq_true rfl) ?_
  dsimp only [zz_lv0]
  refine z_iload_n ee_JM_min_0 rfl ?_
  refine z_iload_n ee_JM_min_1 rfl ?_
  refine z_icmp_gt ee_JM_min_2 (tgt := 9) (by decide) (fun c_2 => ?_) (fun c_2 => ?_)
  -- at 2
  · refine z_iload_n ee_JM_min_9 rfl ?_
    refine z_iret ee_JM_min_10 rfl (by omega) (by omega) ?_
    -- at 10
    exact ⟨rfl, by rw [if_pos c_2]⟩
  · refine z_iload_n ee_JM_min_5 rfl ?_
    refine z_goto ee_JM_min_6 (tgt := 10) (by decide) ?_
    refine z_iret ee_JM_min_10 rfl (by omega) (by omega) ?_
    -- at 10
    exact ⟨rfl, by rw [if_neg c_2]⟩
/-- min and max of numbers -/
theorem zz_min_n {a b : Nat} (ha : a < 2 ^ 31) (hb : b < 2 ^ 31) : (if nI b < nI a then nI b else nI a) = nI (min a b) := by
  by_cases q : b < a
  · rw [if_pos ((nI_ltI hb ha).mpr q), Nat.min_eq_right (by omega)]
  · rw [if_neg (fun z => q ((nI_ltI hb ha).mp z)), Nat.min_eq_left (by omega)]
theorem zz_max_n {a b : Nat} (ha : a < 2 ^ 31) (hb : b < 2 ^ 31) : (if nI a < nI b then nI b else nI a) = nI (max a b) := by
  by_cases q : a < b
  · rw [if_pos ((nI_ltI ha hb).mpr q), Nat.max_eq_right (by omega)]
  · rw [if_neg (fun z => q ((nI_ltI ha hb).mp z)), Nat.max_eq_left (by omega)]
theorem zz_xor9 : ∀ a, a < 20 → ¬ (nI a ^^^ nI 9) < 0 := by decide +kernel
theorem sp_JM_floorMod (hf : l.stackTraces = false) (a : Nat) (ha : a < 20) : zz_S g l mm_JM_floorMod 0 0 [.int (nI a), .int (nI 9)] h (zz_is h (.int (nI (a % 9)))) zz_no := by
  refine z_startF hf rfl (by decide +kernel) (Nat.le_of_ble_eq_true rfl) ?_
  dsimp only [zz_lv0]
  refine z_iload_n ee_JM_floorMod_0 rfl ?_
  refine z_iload_n ee_JM_floorMod_1 rfl ?_
  -- at 2
  refine z_irem ee_JM_floorMod_2 (by decide) ?_
  rw [pk_rem (by omega) (by omega) (by omega)]
  refine z_istore_m ee_JM_floorMod_3 (j := 2) rfl (by decide) ?_
  refine z_iload_n ee_JM_floorMod_4 rfl ?_
  refine z_iload_n ee_JM_floorMod_5 rfl ?_
  refine z_ixor ee_JM_floorMod_6 ?_
  refine z_if_ge ee_JM_floorMod_7 (tgt := 18) (by decide) (fun c_7 => ?_) (fun c_7 => ?_)
  -- at 7
  · refine z_iload_n ee_JM_floorMod_18 rfl ?_
    refine z_iret ee_JM_floorMod_19 rfl (by omega) (by omega) ?_
    -- at 19
    exact ⟨rfl, rfl⟩
  · exact absurd (Int32.not_le.mp c_7) (zz_xor9 a ha)
end MathM
