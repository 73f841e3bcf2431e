/-! THE LAW'S FIRST OBJECT: its states (printed by wip/p54/simgen.py) -/
def rs_okB : zz_RS → Bool
  | .inl q => decide (q.1 = nI 1 ∨ q.1 = nI 2 ∨ q.1 = nI 3 ∨ q.1 = nI 4 ∨ q.1 = nI 5 ∨ q.1 = nI 6 ∨ q.1 = nI 7 ∨ q.1 = nI 8)
  | .inr o => decide (o = -11 ∨ o = -12 ∨ o = -13 ∨ 0 ≤ o)
theorem rs_okb {r : zz_RS} (h : rs_okB r = true) : rs_ok r := by
  cases r with
  | inl q =>
    have h := of_decide_eq_true h
    rcases h with h | h | h | h | h | h | h | h
    · exact ⟨1, by omega, by omega, h⟩
    · exact ⟨2, by omega, by omega, h⟩
    · exact ⟨3, by omega, by omega, h⟩
    · exact ⟨4, by omega, by omega, h⟩
    · exact ⟨5, by omega, by omega, h⟩
    · exact ⟨6, by omega, by omega, h⟩
    · exact ⟨7, by omega, by omega, h⟩
    · exact ⟨8, by omega, by omega, h⟩
  | inr o =>
    have h2 : o = -11 ∨ o = -12 ∨ o = -13 ∨ 0 ≤ o := of_decide_eq_true h
    exact h2
def dq_T1 : DecidableEq (Nat × Int32 × Int32 × Int32 × Int32) := inferInstance
def dq_TG : DecidableEq zz_TG := haveI := dq_T1; inferInstanceAs (DecidableEq (List Int32 × List Int32 × Nat × Int32 × Int32 × Int32 × Int32))
def dq_S1 : DecidableEq (List zz_TG × Int32 × Int32 × Int32) := haveI := dq_TG; inferInstance
def dq_SV : DecidableEq zz_SV := haveI := dq_S1; inferInstanceAs (DecidableEq (List Int32 × List zz_TG × Int32 × Int32 × Int32))
def dq_O1 : DecidableEq (List zz_SV × Int32 × Int32 × Int32 × Int32) := haveI := dq_SV; inferInstance
def dq_O2 : DecidableEq (zz_SV × Bool × List zz_SV × Int32 × Int32 × Int32 × Int32) := haveI := dq_SV; haveI := dq_O1; inferInstance
def dq_OV : DecidableEq zz_OV := haveI := dq_SV; haveI := dq_O2; inferInstanceAs (DecidableEq (List Int32 × List Int32 × List Int32 × zz_SV × zz_SV × Bool × List zz_SV × Int32 × Int32 × Int32 × Int32))
def dq_PR : DecidableEq zz_PR := haveI := dq_OV; inferInstanceAs (DecidableEq ((Int32 ⊕ String) × zz_OV))
theorem tqO {a b : zz_OV} (h : @decide (a = b) (dq_OV a b) = true) : a = b := @of_decide_eq_true _ (dq_OV a b) h
theorem tqP {a b : zz_PR} (h : @decide (a = b) (dq_PR a b) = true) : a = b := @of_decide_eq_true _ (dq_PR a b) h
def es_0 : zz_SV := ([], [], nI 0, nI 0, nI 0)
def ve0 : zz_OV := ([], [], [], es_0, es_0, false, [], -1, (-1, nI 0, -1))
theorem te0 : ov_0 = ve0 := tqO (by decide +kernel)
theorem te1 : po_undo ve0 = (.inr eS, ve0) := tqP (by decide +kernel)
theorem te2 : po_restore ve0 = (.inr eS, ve0) := tqP (by decide +kernel)
def ve1 : zz_OV := ([], [], [], es_0, es_0, true, [], -1, (-1, nI 0, -1))
theorem te3 : ow_p ve0 (ov_s ve0) = ve1 := tqO (by decide +kernel)
def es_1 : zz_SV := ([], [], nI 0, nI 20, nI 0)
def ve2 : zz_OV := ([], [], [], es_1, es_0, true, [es_0], -1, (-1, nI 0, -1))
theorem te4_r : rs_okB (zv_pass (ov_s ve1) (nI 20)).1 = true := by decide +kernel
theorem te4 : po_ch ve1 (fun s => zv_pass s (nI 20)) = (.inl (nI 0), ve2) := tqP (by decide +kernel)
def ve3 : zz_OV := ([], [nI 65, nI 66, nI 67, nI 68, nI 69, nI 70, nI 71, nI 72, nI 73, nI 74, nI 75, nI 76, nI 77, nI 78, nI 79, nI 80, nI 81, nI 82, nI 83, nI 84, nI 85, nI 86, nI 87, nI 88, nI 89, nI 90, nI 91, nI 92, nI 93, nI 94, nI 95, nI 96, nI 97, nI 98, nI 99, nI 100, nI 101, nI 102, nI 103, nI 104, nI 105, nI 106, nI 107, nI 108, nI 109, nI 110, nI 111, nI 112, nI 113, nI 114, nI 115, nI 116, nI 117, nI 118, nI 119, nI 120, nI 121, nI 122, nI 123, nI 124], [], es_1, es_0, true, [es_0], -1, (-1, nI 0, -1))
theorem te5 : ow_b ve2 ((List.range 60).map fun i => nI (65 + i)) = ve3 := tqO (by decide +kernel)
theorem te6 : po_feed ve3 (nI 100) = (.inr eS, ve3) := tqP (by decide +kernel)
def ve4 : zz_OV := ([], [], [], es_1, es_0, true, [es_0], nI 0, (-1, nI 0, -1))
theorem te7 : po_exec ve3 = (.inr eA, ve4) := tqP (by decide +kernel)
def ve5 : zz_OV := ([], [nI 100], [], es_1, es_0, true, [es_0], nI 0, (-1, nI 0, -1))
theorem te8 : po_feed ve4 (nI 100) = (.inl (nI 1), ve5) := tqP (by decide +kernel)
def ve6 : zz_OV := ([], [], [], es_1, es_0, true, [es_0], nI 1, (-1, nI 0, -1))
theorem te9 : po_exec ve5 = (.inr eA, ve6) := tqP (by decide +kernel)
def ve7 : zz_OV := ([nI 120, nI 120, nI 120, nI 120, nI 120, nI 120, nI 120, nI 120, nI 120, nI 120, nI 120, nI 120, nI 120, nI 120, nI 120, nI 120, nI 120, nI 120, nI 120, nI 120, nI 120, nI 120, nI 120, nI 120, nI 120, nI 120, nI 120, nI 120, nI 120, nI 120, nI 120, nI 120, nI 120, nI 120, nI 120, nI 120, nI 120, nI 120, nI 120, nI 120], [], [], es_1, es_0, true, [es_0], nI 1, (-1, nI 0, -1))
theorem te10 : ow_m ve6 (List.replicate 40 (nI 120)) = ve7 := tqO (by decide +kernel)
theorem te11 : po_type ve7 (nI 120) = (.inr eS, ve7) := tqP (by decide +kernel)
theorem te12 : nI (zz_fold 864 0 (ov_m ve7) []).length = nI 10 := by decide +kernel
def va0 : zz_OV := ([], [], [], es_1, es_0, true, [es_0], nI 1, (-1, nI 0, -1))
theorem te13 : ow_m ve7 [] = va0 := tqO (by decide +kernel)
def es_2 : zz_SV := ([nI 5], [], nI 0, nI 20, nI 0)
def va1 : zz_OV := ([], [], [], es_2, es_0, true, [es_0, es_1], nI 1, (-1, nI 0, -1))
theorem ta0_r : rs_okB (zv_plant (ov_s va0) (nI 5)).1 = true := by decide +kernel
theorem ta0 : po_ch va0 (fun s => zv_plant s (nI 5)) = (.inl (nI 0), va1) := tqP (by decide +kernel)
def es_3 : zz_SV := ([nI 5, nI 5], [], nI 0, nI 20, nI 0)
def va2 : zz_OV := ([], [], [], es_3, es_0, true, [es_0, es_1, es_2], nI 1, (-1, nI 0, -1))
theorem ta1_r : rs_okB (zv_plant (ov_s va1) (nI 5)).1 = true := by decide +kernel
theorem ta1 : po_ch va1 (fun s => zv_plant s (nI 5)) = (.inl (nI 1), va2) := tqP (by decide +kernel)
def es_4 : zz_SV := ([nI 5, nI 5, nI 5], [], nI 0, nI 20, nI 0)
def va3 : zz_OV := ([], [], [], es_4, es_0, true, [es_0, es_1, es_2, es_3], nI 1, (-1, nI 0, -1))
theorem ta2_r : rs_okB (zv_plant (ov_s va2) (nI 5)).1 = true := by decide +kernel
theorem ta2 : po_ch va2 (fun s => zv_plant s (nI 5)) = (.inl (nI 2), va3) := tqP (by decide +kernel)
def es_5 : zz_SV := ([nI 5, nI 5, nI 5, nI 5], [], nI 0, nI 20, nI 0)
def va4 : zz_OV := ([], [], [], es_5, es_0, true, [es_0, es_1, es_2, es_3, es_4], nI 1, (-1, nI 0, -1))
theorem ta3_r : rs_okB (zv_plant (ov_s va3) (nI 5)).1 = true := by decide +kernel
theorem ta3 : po_ch va3 (fun s => zv_plant s (nI 5)) = (.inl (nI 3), va4) := tqP (by decide +kernel)
def va : Nat → zz_OV
  | 0 => va0
  | 1 => va1
  | 2 => va2
  | 3 => va3
  | _ => va4
theorem ta : ∀ k, k < 4 → rs_okB (zv_plant (ov_s (va k)) (nI 5)).1 = true ∧ po_ch (va k) (fun s => zv_plant s (nI 5)) = (.inl (nI k), va (k + 1)) := by
  intro k hk
  match k, hk with
  | 0, _ => exact ⟨ta0_r, ta0⟩
  | 1, _ => exact ⟨ta1_r, ta1⟩
  | 2, _ => exact ⟨ta2_r, ta2⟩
  | 3, _ => exact ⟨ta3_r, ta3⟩
def vc0 : zz_OV := va4
def es_6 : zz_SV := ([nI 5, nI 5, nI 5, nI 5], [([nI 97, nI 98, nI 99], [nI 0, nI 0, nI 0, nI 0, nI 0, nI 0, nI 0, nI 0], 1, nI 0, nI 0, nI 0, nI 8)], nI 1, nI 20, nI 3)
def vc1 : zz_OV := ([], [], [], es_6, es_0, true, [es_0, es_1, es_2, es_3, es_4, es_5], nI 1, (-1, nI 0, -1))
theorem tc0_r : rs_okB (zv_carve (ov_s (ow_m vc0 [nI 97, nI 98, nI 99])) (nI 0) (nI 0) [nI 97, nI 98, nI 99]).1 = true := by decide +kernel
theorem tc0 : po_carve (ow_m vc0 [nI 97, nI 98, nI 99]) (nI 0) (nI 0) = (.inl (nI 0), vc1) := tqP (by decide +kernel)
def es_7 : zz_SV := ([nI 5, nI 5, nI 5, nI 5], [([nI 97, nI 98, nI 99], [nI 0, nI 0, nI 0, nI 0, nI 0, nI 0, nI 0, nI 0], 1, nI 0, nI 0, nI 0, nI 8), ([nI 97, nI 98, nI 99], [nI 0, nI 0, nI 0, nI 0, nI 0, nI 0, nI 0, nI 0], 1, nI 1, nI 0, nI 1, nI 8)], nI 2, nI 20, nI 6)
def vc2 : zz_OV := ([], [], [], es_7, es_0, true, [es_0, es_1, es_2, es_3, es_4, es_5, es_6], nI 1, (-1, nI 0, -1))
theorem tc1_r : rs_okB (zv_carve (ov_s (ow_m vc1 [nI 97, nI 98, nI 99])) (nI 0) (nI 1) [nI 97, nI 98, nI 99]).1 = true := by decide +kernel
theorem tc1 : po_carve (ow_m vc1 [nI 97, nI 98, nI 99]) (nI 0) (nI 1) = (.inl (nI 1), vc2) := tqP (by decide +kernel)
def es_8 : zz_SV := ([nI 5, nI 5, nI 5, nI 5], [([nI 97, nI 98, nI 99], [nI 0, nI 0, nI 0, nI 0, nI 0, nI 0, nI 0, nI 0], 1, nI 0, nI 0, nI 0, nI 8), ([nI 97, nI 98, nI 99], [nI 0, nI 0, nI 0, nI 0, nI 0, nI 0, nI 0, nI 0], 1, nI 1, nI 0, nI 1, nI 8), ([nI 97, nI 98, nI 99], [nI 0, nI 0, nI 0, nI 0, nI 0, nI 0, nI 0, nI 0], 1, nI 2, nI 0, nI 2, nI 8)], nI 3, nI 20, nI 9)
def vc3 : zz_OV := ([], [], [], es_8, es_0, true, [es_0, es_1, es_2, es_3, es_4, es_5, es_6, es_7], nI 1, (-1, nI 0, -1))
theorem tc2_r : rs_okB (zv_carve (ov_s (ow_m vc2 [nI 97, nI 98, nI 99])) (nI 0) (nI 2) [nI 97, nI 98, nI 99]).1 = true := by decide +kernel
theorem tc2 : po_carve (ow_m vc2 [nI 97, nI 98, nI 99]) (nI 0) (nI 2) = (.inl (nI 2), vc3) := tqP (by decide +kernel)
def es_9 : zz_SV := ([nI 5, nI 5, nI 5, nI 5], [([nI 97, nI 98, nI 99], [nI 0, nI 0, nI 0, nI 0, nI 0, nI 0, nI 0, nI 0], 1, nI 0, nI 0, nI 0, nI 8), ([nI 97, nI 98, nI 99], [nI 0, nI 0, nI 0, nI 0, nI 0, nI 0, nI 0, nI 0], 1, nI 1, nI 0, nI 1, nI 8), ([nI 97, nI 98, nI 99], [nI 0, nI 0, nI 0, nI 0, nI 0, nI 0, nI 0, nI 0], 1, nI 2, nI 0, nI 2, nI 8), ([nI 97, nI 98, nI 99], [nI 0, nI 0, nI 0, nI 0, nI 0, nI 0, nI 0, nI 0], 1, nI 3, nI 0, nI 3, nI 8)], nI 4, nI 20, nI 12)
def vc4 : zz_OV := ([], [], [], es_9, es_0, true, [es_1, es_2, es_3, es_4, es_5, es_6, es_7, es_8], nI 1, (-1, nI 0, -1))
theorem tc3_r : rs_okB (zv_carve (ov_s (ow_m vc3 [nI 97, nI 98, nI 99])) (nI 0) (nI 3) [nI 97, nI 98, nI 99]).1 = true := by decide +kernel
theorem tc3 : po_carve (ow_m vc3 [nI 97, nI 98, nI 99]) (nI 0) (nI 3) = (.inl (nI 3), vc4) := tqP (by decide +kernel)
def es_10 : zz_SV := ([nI 5, nI 5, nI 5, nI 5], [([nI 97, nI 98, nI 99], [nI 0, nI 0, nI 0, nI 0, nI 0, nI 0, nI 0, nI 0], 1, nI 0, nI 0, nI 0, nI 8), ([nI 97, nI 98, nI 99], [nI 0, nI 0, nI 0, nI 0, nI 0, nI 0, nI 0, nI 0], 1, nI 1, nI 0, nI 1, nI 8), ([nI 97, nI 98, nI 99], [nI 0, nI 0, nI 0, nI 0, nI 0, nI 0, nI 0, nI 0], 1, nI 2, nI 0, nI 2, nI 8), ([nI 97, nI 98, nI 99], [nI 0, nI 0, nI 0, nI 0, nI 0, nI 0, nI 0, nI 0], 1, nI 3, nI 0, nI 3, nI 8), ([nI 97, nI 98, nI 99], [nI 0, nI 0, nI 0, nI 0, nI 0, nI 0, nI 0, nI 0], 1, nI 4, nI 0, nI 4, nI 8)], nI 5, nI 20, nI 15)
def vc5 : zz_OV := ([], [], [], es_10, es_0, true, [es_2, es_3, es_4, es_5, es_6, es_7, es_8, es_9], nI 1, (-1, nI 0, -1))
theorem tc4_r : rs_okB (zv_carve (ov_s (ow_m vc4 [nI 97, nI 98, nI 99])) (nI 0) (nI 4) [nI 97, nI 98, nI 99]).1 = true := by decide +kernel
theorem tc4 : po_carve (ow_m vc4 [nI 97, nI 98, nI 99]) (nI 0) (nI 4) = (.inl (nI 4), vc5) := tqP (by decide +kernel)
def es_11 : zz_SV := ([nI 5, nI 5, nI 5, nI 5], [([nI 97, nI 98, nI 99], [nI 0, nI 0, nI 0, nI 0, nI 0, nI 0, nI 0, nI 0], 1, nI 0, nI 0, nI 0, nI 8), ([nI 97, nI 98, nI 99], [nI 0, nI 0, nI 0, nI 0, nI 0, nI 0, nI 0, nI 0], 1, nI 1, nI 0, nI 1, nI 8), ([nI 97, nI 98, nI 99], [nI 0, nI 0, nI 0, nI 0, nI 0, nI 0, nI 0, nI 0], 1, nI 2, nI 0, nI 2, nI 8), ([nI 97, nI 98, nI 99], [nI 0, nI 0, nI 0, nI 0, nI 0, nI 0, nI 0, nI 0], 1, nI 3, nI 0, nI 3, nI 8), ([nI 97, nI 98, nI 99], [nI 0, nI 0, nI 0, nI 0, nI 0, nI 0, nI 0, nI 0], 1, nI 4, nI 0, nI 4, nI 8), ([nI 97, nI 98, nI 99], [nI 0, nI 0, nI 0, nI 0, nI 0, nI 0, nI 0, nI 0], 1, nI 5, nI 0, nI 5, nI 8)], nI 6, nI 20, nI 18)
def vc6 : zz_OV := ([], [], [], es_11, es_0, true, [es_3, es_4, es_5, es_6, es_7, es_8, es_9, es_10], nI 1, (-1, nI 0, -1))
theorem tc5_r : rs_okB (zv_carve (ov_s (ow_m vc5 [nI 97, nI 98, nI 99])) (nI 0) (nI 5) [nI 97, nI 98, nI 99]).1 = true := by decide +kernel
theorem tc5 : po_carve (ow_m vc5 [nI 97, nI 98, nI 99]) (nI 0) (nI 5) = (.inl (nI 5), vc6) := tqP (by decide +kernel)
def es_12 : zz_SV := ([nI 5, nI 5, nI 5, nI 5], [([nI 97, nI 98, nI 99], [nI 0, nI 0, nI 0, nI 0, nI 0, nI 0, nI 0, nI 0], 1, nI 0, nI 0, nI 0, nI 8), ([nI 97, nI 98, nI 99], [nI 0, nI 0, nI 0, nI 0, nI 0, nI 0, nI 0, nI 0], 1, nI 1, nI 0, nI 1, nI 8), ([nI 97, nI 98, nI 99], [nI 0, nI 0, nI 0, nI 0, nI 0, nI 0, nI 0, nI 0], 1, nI 2, nI 0, nI 2, nI 8), ([nI 97, nI 98, nI 99], [nI 0, nI 0, nI 0, nI 0, nI 0, nI 0, nI 0, nI 0], 1, nI 3, nI 0, nI 3, nI 8), ([nI 97, nI 98, nI 99], [nI 0, nI 0, nI 0, nI 0, nI 0, nI 0, nI 0, nI 0], 1, nI 4, nI 0, nI 4, nI 8), ([nI 97, nI 98, nI 99], [nI 0, nI 0, nI 0, nI 0, nI 0, nI 0, nI 0, nI 0], 1, nI 5, nI 0, nI 5, nI 8), ([nI 97, nI 98, nI 99], [nI 0, nI 0, nI 0, nI 0, nI 0, nI 0, nI 0, nI 0], 1, nI 6, nI 0, nI 6, nI 8)], nI 7, nI 20, nI 21)
def vc7 : zz_OV := ([], [], [], es_12, es_0, true, [es_4, es_5, es_6, es_7, es_8, es_9, es_10, es_11], nI 1, (-1, nI 0, -1))
theorem tc6_r : rs_okB (zv_carve (ov_s (ow_m vc6 [nI 97, nI 98, nI 99])) (nI 0) (nI 6) [nI 97, nI 98, nI 99]).1 = true := by decide +kernel
theorem tc6 : po_carve (ow_m vc6 [nI 97, nI 98, nI 99]) (nI 0) (nI 6) = (.inl (nI 6), vc7) := tqP (by decide +kernel)
def es_13 : zz_SV := ([nI 5, nI 5, nI 5, nI 5], [([nI 97, nI 98, nI 99], [nI 0, nI 0, nI 0, nI 0, nI 0, nI 0, nI 0, nI 0], 1, nI 0, nI 0, nI 0, nI 8), ([nI 97, nI 98, nI 99], [nI 0, nI 0, nI 0, nI 0, nI 0, nI 0, nI 0, nI 0], 1, nI 1, nI 0, nI 1, nI 8), ([nI 97, nI 98, nI 99], [nI 0, nI 0, nI 0, nI 0, nI 0, nI 0, nI 0, nI 0], 1, nI 2, nI 0, nI 2, nI 8), ([nI 97, nI 98, nI 99], [nI 0, nI 0, nI 0, nI 0, nI 0, nI 0, nI 0, nI 0], 1, nI 3, nI 0, nI 3, nI 8), ([nI 97, nI 98, nI 99], [nI 0, nI 0, nI 0, nI 0, nI 0, nI 0, nI 0, nI 0], 1, nI 4, nI 0, nI 4, nI 8), ([nI 97, nI 98, nI 99], [nI 0, nI 0, nI 0, nI 0, nI 0, nI 0, nI 0, nI 0], 1, nI 5, nI 0, nI 5, nI 8), ([nI 97, nI 98, nI 99], [nI 0, nI 0, nI 0, nI 0, nI 0, nI 0, nI 0, nI 0], 1, nI 6, nI 0, nI 6, nI 8), ([nI 97, nI 98, nI 99], [nI 0, nI 0, nI 0, nI 0, nI 0, nI 0, nI 0, nI 0], 1, nI 7, nI 0, nI 7, nI 8)], nI 8, nI 20, nI 24)
def vc8 : zz_OV := ([], [], [], es_13, es_0, true, [es_5, es_6, es_7, es_8, es_9, es_10, es_11, es_12], nI 1, (-1, nI 0, -1))
theorem tc7_r : rs_okB (zv_carve (ov_s (ow_m vc7 [nI 97, nI 98, nI 99])) (nI 0) (nI 7) [nI 97, nI 98, nI 99]).1 = true := by decide +kernel
theorem tc7 : po_carve (ow_m vc7 [nI 97, nI 98, nI 99]) (nI 0) (nI 7) = (.inl (nI 7), vc8) := tqP (by decide +kernel)
def vc9 : zz_OV := ([nI 97, nI 98, nI 99], [], [], es_13, es_0, true, [es_5, es_6, es_7, es_8, es_9, es_10, es_11, es_12], nI 1, (nI 1, nI 8, -1))
theorem tc8_r : rs_okB (zv_carve (ov_s (ow_m vc8 [nI 97, nI 98, nI 99])) (nI 0) (nI 8) [nI 97, nI 98, nI 99]).1 = true := by decide +kernel
theorem tc8 : po_carve (ow_m vc8 [nI 97, nI 98, nI 99]) (nI 0) (nI 8) = (.inr eU, vc9) := tqP (by decide +kernel)
def vc : Nat → zz_OV
  | 0 => vc0
  | 1 => vc1
  | 2 => vc2
  | 3 => vc3
  | 4 => vc4
  | 5 => vc5
  | 6 => vc6
  | 7 => vc7
  | 8 => vc8
  | _ => vc9
theorem tc : ∀ k, k < 8 → rs_okB (zv_carve (ov_s (ow_m (vc k) [nI 97, nI 98, nI 99])) (nI 0) (nI k) [nI 97, nI 98, nI 99]).1 = true ∧ po_carve (ow_m (vc k) [nI 97, nI 98, nI 99]) (nI 0) (nI k) = (.inl (nI k), vc (k + 1)) := by
  intro k hk
  match k, hk with
  | 0, _ => exact ⟨tc0_r, tc0⟩
  | 1, _ => exact ⟨tc1_r, tc1⟩
  | 2, _ => exact ⟨tc2_r, tc2⟩
  | 3, _ => exact ⟨tc3_r, tc3⟩
  | 4, _ => exact ⟨tc4_r, tc4⟩
  | 5, _ => exact ⟨tc5_r, tc5⟩
  | 6, _ => exact ⟨tc6_r, tc6⟩
  | 7, _ => exact ⟨tc7_r, tc7⟩
theorem td0 : ov_d vc9 = (nI 1, nI 8, -1) := by decide +kernel
theorem td1 : nI (ov_m vc9).length = nI 3 := by decide +kernel
def vd0 : zz_OV := ([], [], [], es_13, es_0, true, [es_5, es_6, es_7, es_8, es_9, es_10, es_11, es_12], nI 1, (nI 1, nI 8, -1))
theorem td2 : ow_m vc9 [] = vd0 := tqO (by decide +kernel)
theorem td3 : wk_pagesIn (ov_s vd0) (nI 0) = nI 8 := by decide +kernel
def es_14 : zz_SV := ([nI 5, nI 5, nI 5, nI 5], [([nI 97, nI 98, nI 99], [nI 15, nI 0, nI 0, nI 0, nI 0, nI 0, nI 0, nI 0], 1, nI 0, nI 0, nI 0, nI 8), ([nI 97, nI 98, nI 99], [nI 15, nI 0, nI 0, nI 0, nI 0, nI 0, nI 0, nI 0], 1, nI 1, nI 0, nI 1, nI 8), ([nI 97, nI 98, nI 99], [nI 15, nI 0, nI 0, nI 0, nI 0, nI 0, nI 0, nI 0], 1, nI 2, nI 0, nI 2, nI 8), ([nI 97, nI 98, nI 99], [nI 15, nI 0, nI 0, nI 0, nI 0, nI 0, nI 0, nI 0], 1, nI 3, nI 0, nI 3, nI 8), ([nI 97, nI 98, nI 99], [nI 15, nI 0, nI 0, nI 0, nI 0, nI 0, nI 0, nI 0], 1, nI 4, nI 0, nI 4, nI 8), ([nI 97, nI 98, nI 99], [nI 15, nI 0, nI 0, nI 0, nI 0, nI 0, nI 0, nI 0], 1, nI 5, nI 0, nI 5, nI 8), ([nI 97, nI 98, nI 99], [nI 15, nI 0, nI 0, nI 0, nI 0, nI 0, nI 0, nI 0], 1, nI 6, nI 0, nI 6, nI 8), ([nI 97, nI 98, nI 99], [nI 15, nI 0, nI 0, nI 0, nI 0, nI 0, nI 0, nI 0], 1, nI 7, nI 0, nI 7, nI 8)], nI 8, nI 23, nI 24)
def vd1 : zz_OV := ([], [], [], es_14, es_0, true, [es_6, es_7, es_8, es_9, es_10, es_11, es_12, es_13], nI 1, (nI 1, nI 8, -1))
theorem td4_r : rs_okB (zv_pass (ov_s vd0) (nI 3)).1 = true := by decide +kernel
theorem td4 : po_ch vd0 (fun s => zv_pass s (nI 3)) = (.inl (nI 0), vd1) := tqP (by decide +kernel)
def es_15 : zz_SV := ([nI 5, nI 5, nI 5, nI 5], [([nI 97, nI 98, nI 99], [nI 20, nI 0, nI 0, nI 0, nI 0, nI 0, nI 0, nI 0], 1, nI 0, nI 0, nI 0, nI 8), ([nI 97, nI 98, nI 99], [nI 20, nI 0, nI 0, nI 0, nI 0, nI 0, nI 0, nI 0], 1, nI 1, nI 0, nI 1, nI 8), ([nI 97, nI 98, nI 99], [nI 20, nI 0, nI 0, nI 0, nI 0, nI 0, nI 0, nI 0], 1, nI 2, nI 0, nI 2, nI 8), ([nI 97, nI 98, nI 99], [nI 20, nI 0, nI 0, nI 0, nI 0, nI 0, nI 0, nI 0], 1, nI 3, nI 0, nI 3, nI 8), ([nI 97, nI 98, nI 99], [nI 20, nI 0, nI 0, nI 0, nI 0, nI 0, nI 0, nI 0], 1, nI 4, nI 0, nI 4, nI 8), ([nI 97, nI 98, nI 99], [nI 20, nI 0, nI 0, nI 0, nI 0, nI 0, nI 0, nI 0], 1, nI 5, nI 0, nI 5, nI 8), ([nI 97, nI 98, nI 99], [nI 20, nI 0, nI 0, nI 0, nI 0, nI 0, nI 0, nI 0], 1, nI 6, nI 0, nI 6, nI 8), ([nI 97, nI 98, nI 99], [nI 20, nI 0, nI 0, nI 0, nI 0, nI 0, nI 0, nI 0], 1, nI 7, nI 0, nI 7, nI 8)], nI 8, nI 24, nI 24)
def vd2 : zz_OV := ([], [], [], es_15, es_0, true, [es_7, es_8, es_9, es_10, es_11, es_12, es_13, es_14], nI 1, (nI 1, nI 8, -1))
theorem td5_r : rs_okB (zv_pass (ov_s vd1) (nI 1)).1 = true := by decide +kernel
theorem td5 : po_ch vd1 (fun s => zv_pass s (nI 1)) = (.inl (nI 8), vd2) := tqP (by decide +kernel)
def es_16 : zz_SV := ([nI 5, nI 5, nI 5, nI 5], [([nI 97, nI 98, nI 99], [nI 20, nI 0, nI 0, nI 0, nI 0, nI 0, nI 0, nI 0], 1, nI 1, nI 0, nI 1, nI 8), ([nI 97, nI 98, nI 99], [nI 20, nI 0, nI 0, nI 0, nI 0, nI 0, nI 0, nI 0], 1, nI 2, nI 0, nI 2, nI 8), ([nI 97, nI 98, nI 99], [nI 20, nI 0, nI 0, nI 0, nI 0, nI 0, nI 0, nI 0], 1, nI 3, nI 0, nI 3, nI 8), ([nI 97, nI 98, nI 99], [nI 20, nI 0, nI 0, nI 0, nI 0, nI 0, nI 0, nI 0], 1, nI 4, nI 0, nI 4, nI 8), ([nI 97, nI 98, nI 99], [nI 20, nI 0, nI 0, nI 0, nI 0, nI 0, nI 0, nI 0], 1, nI 5, nI 0, nI 5, nI 8), ([nI 97, nI 98, nI 99], [nI 20, nI 0, nI 0, nI 0, nI 0, nI 0, nI 0, nI 0], 1, nI 6, nI 0, nI 6, nI 8), ([nI 97, nI 98, nI 99], [nI 20, nI 0, nI 0, nI 0, nI 0, nI 0, nI 0, nI 0], 1, nI 7, nI 0, nI 7, nI 8)], nI 8, nI 24, nI 24)
def vd3 : zz_OV := ([], [], [], es_16, es_0, true, [es_8, es_9, es_10, es_11, es_12, es_13, es_14, es_15], nI 1, (nI 1, nI 8, -1))
theorem td6_r : rs_okB (zv_drop (ov_s vd2) (nI 0)).1 = true := by decide +kernel
theorem td6 : po_ch vd2 (fun s => zv_drop s (nI 0)) = (.inl (nI 7), vd3) := tqP (by decide +kernel)
def vu7 : zz_OV := ([], [], [], es_15, es_0, true, [es_8, es_9, es_10, es_11, es_12, es_13, es_14], nI 1, (nI 1, nI 8, -1))
theorem tu_vu7 : po_undo vd3 = (.inl (nI 7), vu7) := tqP (by decide +kernel)
theorem tq0 : nI (sv_t (ov_s vu7)).length = nI 8 := by decide +kernel
def vu6 : zz_OV := ([], [], [], es_14, es_0, true, [es_8, es_9, es_10, es_11, es_12, es_13], nI 1, (nI 1, nI 8, -1))
theorem tu_vu6 : po_undo vu7 = (.inl (nI 6), vu6) := tqP (by decide +kernel)
theorem tq1 : zz_crp (ov_s vu6) = nI 0 := by decide +kernel
theorem tq2 : wk_rotOf (ov_s vu6) (nI 7) (nI 0) = nI 15 := by decide +kernel
def vu5 : zz_OV := ([], [], [], es_13, es_0, true, [es_8, es_9, es_10, es_11, es_12], nI 1, (nI 1, nI 8, -1))
theorem tu_vu5 : po_undo vu6 = (.inl (nI 5), vu5) := tqP (by decide +kernel)
theorem tq3 : wk_rotOf (ov_s vu5) (nI 7) (nI 0) = nI 0 := by decide +kernel
def vu4 : zz_OV := ([], [], [], es_12, es_0, true, [es_8, es_9, es_10, es_11], nI 1, (nI 1, nI 8, -1))
theorem tu_vu4 : po_undo vu5 = (.inl (nI 4), vu4) := tqP (by decide +kernel)
theorem tq4 : nI (sv_t (ov_s vu4)).length = nI 7 := by decide +kernel
theorem tq5 : sv_c (ov_s vu4) = nI 21 := by decide +kernel
def vu3 : zz_OV := ([], [], [], es_11, es_0, true, [es_8, es_9, es_10], nI 1, (nI 1, nI 8, -1))
theorem tu_vu3 : po_undo vu4 = (.inl (nI 3), vu3) := tqP (by decide +kernel)
def vu2 : zz_OV := ([], [], [], es_10, es_0, true, [es_8, es_9], nI 1, (nI 1, nI 8, -1))
theorem tu_vu2 : po_undo vu3 = (.inl (nI 2), vu2) := tqP (by decide +kernel)
def vu1 : zz_OV := ([], [], [], es_9, es_0, true, [es_8], nI 1, (nI 1, nI 8, -1))
theorem tu_vu1 : po_undo vu2 = (.inl (nI 1), vu1) := tqP (by decide +kernel)
def vu0 : zz_OV := ([], [], [], es_8, es_0, true, [], nI 1, (nI 1, nI 8, -1))
theorem tu_vu0 : po_undo vu1 = (.inl (nI 0), vu0) := tqP (by decide +kernel)
theorem tq6 : nI (sv_t (ov_s vu0)).length = nI 3 := by decide +kernel
theorem tq7 : po_undo vu0 = (.inr eS, vu0) := tqP (by decide +kernel)
def es_17 : zz_SV := ([nI 5, nI 5, nI 5, nI 5], [([nI 97, nI 98, nI 99], [nI 0, nI 0, nI 0, nI 0, nI 0, nI 0, nI 0, nI 0], 1, nI 0, nI 0, nI 0, nI 8), ([nI 97, nI 98, nI 99], [nI 0, nI 0, nI 0, nI 0, nI 0, nI 0, nI 0, nI 0], 1, nI 1, nI 0, nI 1, nI 8), ([nI 97, nI 98, nI 99], [nI 0, nI 0, nI 0, nI 0, nI 0, nI 0, nI 0, nI 0], 1, nI 2, nI 0, nI 2, nI 8), ([nI 113], [nI 0, nI 0, nI 0, nI 0, nI 0, nI 0, nI 0, nI 0], 1, nI 3, nI 1, nI 0, nI 16)], nI 4, nI 20, nI 10)
def vg0 : zz_OV := ([], [], [], es_17, es_0, true, [es_8], nI 1, (nI 1, nI 8, -1))
theorem tg0_r : rs_okB (zv_carve (ov_s (ow_m vu0 [nI 113])) (nI 1) (nI 0) [nI 113]).1 = true := by decide +kernel
theorem tg0 : po_carve (ow_m vu0 [nI 113]) (nI 1) (nI 0) = (.inl (nI 3), vg0) := tqP (by decide +kernel)
def vg1 : zz_OV := ([], [], [], es_0, es_0, true, [], nI 1, (nI 1, nI 8, -1))
theorem tg1 : po_restore vg0 = (.inl (nI 0), vg1) := tqP (by decide +kernel)
theorem tg2 : nI (sv_r (ov_s vg1)).length = nI 0 := by decide +kernel
theorem tg3 : sv_d (ov_s vg1) = nI 0 := by decide +kernel
theorem tg4 : sv_c (ov_s vg1) = nI 0 := by decide +kernel
theorem tg5 : po_undo vg1 = (.inr eS, vg1) := tqP (by decide +kernel)
theorem te_day : sv_d (ov_s ve2) = nI 20 := by decide +kernel
