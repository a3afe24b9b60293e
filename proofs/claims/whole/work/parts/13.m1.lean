/-! ===== the reference: its small methods ===== -/
def bw (v lo hi : Int32) : Int32 := if lo ≤ v ∧ v ≤ hi then 1 else 0
theorem bw_1 {v lo hi : Int32} (h1 : ¬ v < lo) (h2 : ¬ hi < v) : bw v lo hi = 1 := if_pos ⟨Int32.not_lt.mp h1, Int32.not_lt.mp h2⟩
theorem bw_l {v lo hi : Int32} (h1 : v < lo) : bw v lo hi = 0 := if_neg fun h => Int32.not_lt.mpr h.1 h1
theorem bw_h {v lo hi : Int32} (h1 : hi < v) : bw v lo hi = 0 := if_neg fun h => Int32.not_lt.mpr h.2 h1
abbrev rmX9_thrown : Room := { frames := 0, cells := 0, slots := 0, locals := 0 }
abbrev rmX9_fail : Room := { frames := 0, cells := 0, slots := 0, locals := 0 }
abbrev rmX9_within : Room := { frames := 0, cells := 0, slots := 0, locals := 0 }
abbrev rmX8_isWithin : Room := { frames := 0, cells := 0, slots := 0, locals := 0 }
set_option maxRecDepth 100000 in
theorem k_thrown {l : Launch} {s0 : State} {D : va_G} {cA : Nat → ClassId} {ad : Nat → Nat} (hG : cx_G l s0 D cA) (P : MS) : MC l s0 D cA ad yX9_thrown cX9_thrown 1 (some .int) rmX9_thrown [] P (some (.int (qS P 0))) P := by
  refine Ct.of (cA := cA) hG (by decide +kernel) (Nat.le_of_ble_eq_true rfl) ?_
  intro p e s m below meth c A C hnm hP hD hS ls hl
  have hx := cx_x C
  have hb := cx_b C
  have hl : lv_has ls 1 [(0, .ref (ad 0))] := hl
  refine lv_aload_n hx hb dX9_thrown_0 rfl (lv_at hl 0 rfl) ?_
  refine gm_0 (v := qS P 0) C hP rfl tm_666 dX9_thrown_1 ?_
  exact ct_iret C hS hP hD (⟨rfl, rfl⟩) (Nat.le_of_ble_eq_true rfl) (Nat.le_of_ble_eq_true rfl) dX9_thrown_4
set_option maxRecDepth 100000 in
theorem k_fail {l : Launch} {s0 : State} {D : va_G} {cA : Nat → ClassId} {ad : Nat → Nat} (hG : cx_G l s0 D cA) (P : MS) (k : Int32) : MC l s0 D cA ad yX9_fail cX9_fail 2 (some .int) rmX9_fail [.int k] P (some (.int 0)) (sS P 0 k) := by
  refine Ct.of (cA := cA) hG (by decide +kernel) (Nat.le_of_ble_eq_true rfl) ?_
  intro p e s m below meth c A C hnm hP hD hS ls hl
  have hx := cx_x C
  have hb := cx_b C
  have hl : lv_has ls 2 [(0, .ref (ad 0)), (1, .int k)] := hl
  refine lv_aload_n hx hb dX9_fail_0 rfl (lv_at hl 0 rfl) ?_
  refine lv_iload_n hx hb dX9_fail_1 rfl (lv_at hl 1 rfl) ?_
  refine pm_0 (v := k) C hP hD hS tm_666 dX9_fail_2 (fun H locs hP hD hS => ?_)
  refine lv_iconst (v := 0) hx hb dX9_fail_5 (by decide) ?_
  exact ct_iret C hS hP hD (⟨rfl, rfl⟩) (Nat.le_of_ble_eq_true rfl) (Nat.le_of_ble_eq_true rfl) dX9_fail_6
set_option maxRecDepth 100000 in
theorem k_within {l : Launch} {s0 : State} {D : va_G} {cA : Nat → ClassId} {ad : Nat → Nat} (hG : cx_G l s0 D cA) (v lo hi : Int32) : Ct l s0 D yX9_within (.code yX9_within cX9_within 3 (some .boolean) :: TB) rmX9_within [.int v, .int lo, .int hi] [] (fun rv rw => rv = some (.int (bw v lo hi)) ∧ rw = []) := by
  refine Ct.of (cA := cA) hG (by decide +kernel) (Nat.le_of_ble_eq_true rfl) ?_
  intro p e s m below meth c A C hnm hP hD hS ls hl
  have hx := cx_x C
  have hb := cx_b C
  have hl : lv_has ls 3 [(0, .int v), (1, .int lo), (2, .int hi)] := hl
  refine lv_iload_n hx hb dX9_within_0 rfl (lv_at hl 0 rfl) ?_
  refine lv_iload_n hx hb dX9_within_1 rfl (lv_at hl 1 rfl) ?_
  refine lv_icmp_lt (tgt := 14) hx hb dX9_within_2 (by decide) (fun c1 => ?_) (fun c1 => ?_)
  · refine lv_iconst (v := 0) hx hb dX9_within_14 (by decide) ?_
    exact ct_zret C (by first | rfl | decide) hS hP hD (⟨by first | rw [bw_l c1] | rw [bw_h c2], rfl⟩) (Nat.le_of_ble_eq_true rfl) (Nat.le_of_ble_eq_true rfl) dX9_within_15
  refine lv_iload_n hx hb dX9_within_5 rfl (lv_at hl 0 rfl) ?_
  refine lv_iload_n hx hb dX9_within_6 rfl (lv_at hl 2 rfl) ?_
  refine lv_icmp_gt (tgt := 14) hx hb dX9_within_7 (by decide) (fun c2 => ?_) (fun c2 => ?_)
  · refine lv_iconst (v := 0) hx hb dX9_within_14 (by decide) ?_
    exact ct_zret C (by first | rfl | decide) hS hP hD (⟨by first | rw [bw_l c1] | rw [bw_h c2], rfl⟩) (Nat.le_of_ble_eq_true rfl) (Nat.le_of_ble_eq_true rfl) dX9_within_15
  refine lv_iconst (v := 1) hx hb dX9_within_10 (by decide) ?_
  refine lv_goto (tgt := 15) hx hb dX9_within_11 (by decide) ?_
  exact ct_zret C (by first | rfl | decide) hS hP hD (⟨by rw [bw_1 c1 c2], rfl⟩) (Nat.le_of_ble_eq_true rfl) (Nat.le_of_ble_eq_true rfl) dX9_within_15
set_option maxRecDepth 100000 in
theorem k_isWithin {l : Launch} {s0 : State} {D : va_G} {cA : Nat → ClassId} {ad : Nat → Nat} (hG : cx_G l s0 D cA) (v lo hi : Int32) : Ct l s0 D yX8_isWithin (.code yX8_isWithin cX8_isWithin 3 (some .boolean) :: TB) rmX8_isWithin [.int v, .int lo, .int hi] [] (fun rv rw => rv = some (.int (bw v lo hi)) ∧ rw = []) := by
  refine Ct.of (cA := cA) hG (by decide +kernel) (Nat.le_of_ble_eq_true rfl) ?_
  intro p e s m below meth c A C hnm hP hD hS ls hl
  have hx := cx_x C
  have hb := cx_b C
  have hl : lv_has ls 3 [(0, .int v), (1, .int lo), (2, .int hi)] := hl
  refine lv_iload_n hx hb dX8_isWithin_0 rfl (lv_at hl 1 rfl) ?_
  refine lv_iload_n hx hb dX8_isWithin_1 rfl (lv_at hl 0 rfl) ?_
  refine lv_icmp_gt (tgt := 14) hx hb dX8_isWithin_2 (by decide) (fun c1 => ?_) (fun c1 => ?_)
  · refine lv_iconst (v := 0) hx hb dX8_isWithin_14 (by decide) ?_
    exact ct_zret C (by first | rfl | decide) hS hP hD (⟨by first | rw [bw_l c1] | rw [bw_h c2], rfl⟩) (Nat.le_of_ble_eq_true rfl) (Nat.le_of_ble_eq_true rfl) dX8_isWithin_15
  refine lv_iload_n hx hb dX8_isWithin_5 rfl (lv_at hl 0 rfl) ?_
  refine lv_iload_n hx hb dX8_isWithin_6 rfl (lv_at hl 2 rfl) ?_
  refine lv_icmp_gt (tgt := 14) hx hb dX8_isWithin_7 (by decide) (fun c2 => ?_) (fun c2 => ?_)
  · refine lv_iconst (v := 0) hx hb dX8_isWithin_14 (by decide) ?_
    exact ct_zret C (by first | rfl | decide) hS hP hD (⟨by first | rw [bw_l c1] | rw [bw_h c2], rfl⟩) (Nat.le_of_ble_eq_true rfl) (Nat.le_of_ble_eq_true rfl) dX8_isWithin_15
  refine lv_iconst (v := 1) hx hb dX8_isWithin_10 (by decide) ?_
  refine lv_goto (tgt := 15) hx hb dX8_isWithin_11 (by decide) ?_
  exact ct_zret C (by first | rfl | decide) hS hP hD (⟨by rw [bw_1 c1 c2], rfl⟩) (Nat.le_of_ble_eq_true rfl) (Nat.le_of_ble_eq_true rfl) dX8_isWithin_15
