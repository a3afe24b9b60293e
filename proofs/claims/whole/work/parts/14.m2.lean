/-! ===== the reference: methods with a consumer's number ===== -/
theorem wi_ok {j n : Nat} (h : j < n) (hn : n ≤ 8) : (0 : Int32) ≤ nI j ∧ nI j ≤ nI n - 1 := by
  obtain ⟨q, rfl⟩ : ∃ q, n = q + 1 := ⟨n - 1, by omega⟩
  rw [nI_pred]
  exact ⟨nI_pos' (by omega), nI_le (by omega) (by omega)⟩
theorem wi_of {cn : Int32} {n : Nat} (hn : n ≤ 8) (h : (0 : Int32) ≤ cn ∧ cn ≤ nI n - 1) : ∃ j, j < n ∧ cn = nI j := by
  obtain ⟨j, hj, rfl⟩ := nI_of (Int32.not_lt.mpr h.1)
  refine ⟨j, ?_, rfl⟩
  cases n with
  | zero =>
    have h2 := h.2
    rw [show nI 0 - 1 = (-1 : Int32) by decide +kernel] at h2
    exact absurd (Int32.le_trans h.1 h2) (by decide)
  | succ q =>
    have h2 := h.2
    rw [nI_pred, nI_leI (by omega) (by omega)] at h2
    omega
theorem bw_y {v lo hi : Int32} (h : lo ≤ v ∧ v ≤ hi) : bw v lo hi = 1 := if_pos h
theorem bw_n {v lo hi : Int32} (h : ¬ (lo ≤ v ∧ v ≤ hi)) : bw v lo hi = 0 := if_neg h
theorem k_within1 {l : Launch} {s0 : State} {D : va_G} {cA : Nat → ClassId} (hG : cx_G l s0 D cA) (v lo hi : Int32) (h : lo ≤ v ∧ v ≤ hi) : Ct l s0 D yX9_within (.code yX9_within cX9_within 3 (some .boolean) :: TB) rmX9_within [.int v, .int lo, .int hi] [] (fun rv rw => rv = some (.int 1) ∧ rw = []) := by
  have := k_within (ad := fun x => x) hG v lo hi
  rw [bw_y h] at this
  exact this
theorem k_within0 {l : Launch} {s0 : State} {D : va_G} {cA : Nat → ClassId} (hG : cx_G l s0 D cA) (v lo hi : Int32) (h : ¬ (lo ≤ v ∧ v ≤ hi)) : Ct l s0 D yX9_within (.code yX9_within cX9_within 3 (some .boolean) :: TB) rmX9_within [.int v, .int lo, .int hi] [] (fun rv rw => rv = some (.int 0) ∧ rw = []) := by
  have := k_within (ad := fun x => x) hG v lo hi
  rw [bw_n h] at this
  exact this
theorem ix8 {j : Nat} (h : j < 8) : ix (nI j) 8 j := ix_nI h (by decide)
abbrev rmX9_none : Room := { frames := 1, cells := 0, slots := 0, locals := 22 }
set_option maxRecDepth 100000 in
theorem k_none_ok {l : Launch} {s0 : State} {D : va_G} {cA : Nat → ClassId} {ad : Nat → Nat} (hG : cx_G l s0 D cA) {j n : Nat} (P : MS) (hn : qS P 8 = nI n) (hn8 : n ≤ 8) (hj : j < n) : MC l s0 D cA ad yX9_none cX9_none 2 (some .boolean) rmX9_none [.int (nI j)] P (some (.int 0)) P := by
  refine Ct.of (cA := cA) hG (by decide +kernel) (Nat.le_of_ble_eq_true rfl) ?_
  intro p e s m below meth c A C hnm hP hD hS ls hl
  have hx := cx_x C
  have hb := cx_b C
  have hl : lv_has ls 2 [(0, .ref (ad 0)), (1, .int (nI j))] := hl
  refine lv_iload_n hx hb dX9_none_0 rfl (lv_at hl 1 rfl) ?_
  refine lv_iconst (v := 0) hx hb dX9_none_1 (by decide) ?_
  refine lv_aload_n hx hb dX9_none_2 rfl (lv_at hl 0 rfl) ?_
  refine gm_8 (v := qS P 8) C hP rfl tm_674 dX9_none_3 ?_
  refine lv_iconst (v := 1) hx hb dX9_none_6 (by decide) ?_
  refine lv_isub hx hb dX9_none_7 ?_
  refine ct_S0 (As := [.int (nI j), .int 0, .int ((qS P 8) - 1)]) (rest := []) (r := some (.int 1)) C (k_within1 hG _ _ _ (by rw [hn]; exact wi_ok hj hn8)) tm_762 tm_763 tm_3 tm_764 hdX9_within.2 ⟨Nat.le_of_ble_eq_true rfl, Nat.le_of_ble_eq_true rfl⟩ hl.1 rfl (Nat.le_of_ble_eq_true rfl) dX9_none_8 ⟨Nat.le_of_ble_eq_true rfl, Nat.le_of_ble_eq_true rfl⟩ hP hD hS (fun H locs hP hD hS => ?_)
  refine lv_if_ne (tgt := 18) hx hb dX9_none_11 (by decide) (fun _ => ?_) (fun h9 => absurd h9 (by decide))
  refine lv_iconst (v := 0) hx hb dX9_none_18 (by decide) ?_
  exact ct_zret C (by first | rfl | decide) hS hP hD (⟨rfl, rfl⟩) (Nat.le_of_ble_eq_true rfl) (Nat.le_of_ble_eq_true rfl) dX9_none_19
set_option maxRecDepth 100000 in
theorem k_none_no {l : Launch} {s0 : State} {D : va_G} {cA : Nat → ClassId} {ad : Nat → Nat} (hG : cx_G l s0 D cA) {cn : Int32} (P : MS) (hc : ¬ ((0 : Int32) ≤ cn ∧ cn ≤ qS P 8 - 1)) : MC l s0 D cA ad yX9_none cX9_none 2 (some .boolean) rmX9_none [.int cn] P (some (.int 1)) P := by
  refine Ct.of (cA := cA) hG (by decide +kernel) (Nat.le_of_ble_eq_true rfl) ?_
  intro p e s m below meth c A C hnm hP hD hS ls hl
  have hx := cx_x C
  have hb := cx_b C
  have hl : lv_has ls 2 [(0, .ref (ad 0)), (1, .int cn)] := hl
  refine lv_iload_n hx hb dX9_none_0 rfl (lv_at hl 1 rfl) ?_
  refine lv_iconst (v := 0) hx hb dX9_none_1 (by decide) ?_
  refine lv_aload_n hx hb dX9_none_2 rfl (lv_at hl 0 rfl) ?_
  refine gm_8 (v := qS P 8) C hP rfl tm_674 dX9_none_3 ?_
  refine lv_iconst (v := 1) hx hb dX9_none_6 (by decide) ?_
  refine lv_isub hx hb dX9_none_7 ?_
  refine ct_S0 (As := [.int cn, .int 0, .int ((qS P 8) - 1)]) (rest := []) (r := some (.int 0)) C (k_within0 hG _ _ _ (hc)) tm_762 tm_763 tm_3 tm_764 hdX9_within.2 ⟨Nat.le_of_ble_eq_true rfl, Nat.le_of_ble_eq_true rfl⟩ hl.1 rfl (Nat.le_of_ble_eq_true rfl) dX9_none_8 ⟨Nat.le_of_ble_eq_true rfl, Nat.le_of_ble_eq_true rfl⟩ hP hD hS (fun H locs hP hD hS => ?_)
  refine lv_if_ne (tgt := 18) hx hb dX9_none_11 (by decide) (fun h9 => absurd rfl h9) (fun _ => ?_)
  refine lv_iconst (v := 1) hx hb dX9_none_14 (by decide) ?_
  refine lv_goto (tgt := 19) hx hb dX9_none_15 (by decide) ?_
  exact ct_zret C (by first | rfl | decide) hS hP hD (⟨rfl, rfl⟩) (Nat.le_of_ble_eq_true rfl) (Nat.le_of_ble_eq_true rfl) dX9_none_19
abbrev rmX9_noJournal : Room := { frames := 2, cells := 0, slots := 0, locals := 43 }
set_option maxRecDepth 100000 in
theorem k_noJ_ok {l : Launch} {s0 : State} {D : va_G} {cA : Nat → ClassId} {ad : Nat → Nat} (hG : cx_G l s0 D cA) {j n : Nat} (P : MS) (hn : qS P 8 = nI n) (hn8 : n ≤ 8) (hj : j < n) (hk : qI P 9 j = 3) : MC l s0 D cA ad yX9_noJournal cX9_noJournal 2 (some .boolean) rmX9_noJournal [.int (nI j)] P (some (.int 0)) P := by
  refine Ct.of (cA := cA) hG (by decide +kernel) (Nat.le_of_ble_eq_true rfl) ?_
  intro p e s m below meth c A C hnm hP hD hS ls hl
  have hx := cx_x C
  have hb := cx_b C
  have hl : lv_has ls 2 [(0, .ref (ad 0)), (1, .int (nI j))] := hl
  refine lv_aload_n hx hb dX9_noJournal_0 rfl (lv_at hl 0 rfl) ?_
  refine lv_iload_n hx hb dX9_noJournal_1 rfl (lv_at hl 1 rfl) ?_
  refine mc_V (As := [.int (nI j)]) (rest := []) (r := some (.int 0)) (T := P) C (k_none_ok (n := n) hG P hn hn8 hj) tm_789 tm_791 tm_897 tm_3 tm_792 rfl hdX9_none ⟨Nat.le_of_ble_eq_true rfl, Nat.le_of_ble_eq_true rfl⟩ hl.1 rfl (Nat.le_of_ble_eq_true rfl) dX9_noJournal_2 ⟨Nat.le_of_ble_eq_true rfl, Nat.le_of_ble_eq_true rfl⟩ hP hD hS (fun H locs hP hD hS => ?_)
  refine lv_if_ne (tgt := 18) hx hb dX9_noJournal_5 (by decide) (fun h9 => absurd rfl h9) (fun _ => ?_)
  refine lv_aload_n hx hb dX9_noJournal_8 rfl (lv_at hl 0 rfl) ?_
  refine gm_9 C hP tm_675 dX9_noJournal_9 ?_
  refine lv_iload_n hx hb dX9_noJournal_12 rfl (lv_at hl 1 rfl) ?_
  refine xl_9 (v := qI P 9 j) (j := j) C hP (ix8 (Nat.lt_of_lt_of_le hj hn8)) (rfl) dX9_noJournal_13 ?_
  refine lv_iconst (v := 3) hx hb dX9_noJournal_14 (by decide) ?_
  refine lv_icmp_eq (tgt := 22) hx hb dX9_noJournal_15 (by decide) (fun _ => ?_) (fun h9 => absurd (hk) h9)
  refine lv_iconst (v := 0) hx hb dX9_noJournal_22 (by decide) ?_
  exact ct_zret C (by first | rfl | decide) hS hP hD (⟨rfl, rfl⟩) (Nat.le_of_ble_eq_true rfl) (Nat.le_of_ble_eq_true rfl) dX9_noJournal_23
set_option maxRecDepth 100000 in
theorem k_noJ_k {l : Launch} {s0 : State} {D : va_G} {cA : Nat → ClassId} {ad : Nat → Nat} (hG : cx_G l s0 D cA) {j n : Nat} (P : MS) (hn : qS P 8 = nI n) (hn8 : n ≤ 8) (hj : j < n) (hk : ¬ qI P 9 j = 3) : MC l s0 D cA ad yX9_noJournal cX9_noJournal 2 (some .boolean) rmX9_noJournal [.int (nI j)] P (some (.int 1)) P := by
  refine Ct.of (cA := cA) hG (by decide +kernel) (Nat.le_of_ble_eq_true rfl) ?_
  intro p e s m below meth c A C hnm hP hD hS ls hl
  have hx := cx_x C
  have hb := cx_b C
  have hl : lv_has ls 2 [(0, .ref (ad 0)), (1, .int (nI j))] := hl
  refine lv_aload_n hx hb dX9_noJournal_0 rfl (lv_at hl 0 rfl) ?_
  refine lv_iload_n hx hb dX9_noJournal_1 rfl (lv_at hl 1 rfl) ?_
  refine mc_V (As := [.int (nI j)]) (rest := []) (r := some (.int 0)) (T := P) C (k_none_ok (n := n) hG P hn hn8 hj) tm_789 tm_791 tm_897 tm_3 tm_792 rfl hdX9_none ⟨Nat.le_of_ble_eq_true rfl, Nat.le_of_ble_eq_true rfl⟩ hl.1 rfl (Nat.le_of_ble_eq_true rfl) dX9_noJournal_2 ⟨Nat.le_of_ble_eq_true rfl, Nat.le_of_ble_eq_true rfl⟩ hP hD hS (fun H locs hP hD hS => ?_)
  refine lv_if_ne (tgt := 18) hx hb dX9_noJournal_5 (by decide) (fun h9 => absurd rfl h9) (fun _ => ?_)
  refine lv_aload_n hx hb dX9_noJournal_8 rfl (lv_at hl 0 rfl) ?_
  refine gm_9 C hP tm_675 dX9_noJournal_9 ?_
  refine lv_iload_n hx hb dX9_noJournal_12 rfl (lv_at hl 1 rfl) ?_
  refine xl_9 (v := qI P 9 j) (j := j) C hP (ix8 (Nat.lt_of_lt_of_le hj hn8)) (rfl) dX9_noJournal_13 ?_
  refine lv_iconst (v := 3) hx hb dX9_noJournal_14 (by decide) ?_
  refine lv_icmp_eq (tgt := 22) hx hb dX9_noJournal_15 (by decide) (fun h9 => absurd h9 (hk)) (fun _ => ?_)
  refine lv_iconst (v := 1) hx hb dX9_noJournal_18 (by decide) ?_
  refine lv_goto (tgt := 23) hx hb dX9_noJournal_19 (by decide) ?_
  exact ct_zret C (by first | rfl | decide) hS hP hD (⟨rfl, rfl⟩) (Nat.le_of_ble_eq_true rfl) (Nat.le_of_ble_eq_true rfl) dX9_noJournal_23
set_option maxRecDepth 100000 in
theorem k_noJ_no {l : Launch} {s0 : State} {D : va_G} {cA : Nat → ClassId} {ad : Nat → Nat} (hG : cx_G l s0 D cA) {cn : Int32} (P : MS) (hc : ¬ ((0 : Int32) ≤ cn ∧ cn ≤ qS P 8 - 1)) : MC l s0 D cA ad yX9_noJournal cX9_noJournal 2 (some .boolean) rmX9_noJournal [.int cn] P (some (.int 1)) P := by
  refine Ct.of (cA := cA) hG (by decide +kernel) (Nat.le_of_ble_eq_true rfl) ?_
  intro p e s m below meth c A C hnm hP hD hS ls hl
  have hx := cx_x C
  have hb := cx_b C
  have hl : lv_has ls 2 [(0, .ref (ad 0)), (1, .int cn)] := hl
  refine lv_aload_n hx hb dX9_noJournal_0 rfl (lv_at hl 0 rfl) ?_
  refine lv_iload_n hx hb dX9_noJournal_1 rfl (lv_at hl 1 rfl) ?_
  refine mc_V (As := [.int cn]) (rest := []) (r := some (.int 1)) (T := P) C (k_none_no hG P hc) tm_789 tm_791 tm_897 tm_3 tm_792 rfl hdX9_none ⟨Nat.le_of_ble_eq_true rfl, Nat.le_of_ble_eq_true rfl⟩ hl.1 rfl (Nat.le_of_ble_eq_true rfl) dX9_noJournal_2 ⟨Nat.le_of_ble_eq_true rfl, Nat.le_of_ble_eq_true rfl⟩ hP hD hS (fun H locs hP hD hS => ?_)
  refine lv_if_ne (tgt := 18) hx hb dX9_noJournal_5 (by decide) (fun _ => ?_) (fun h9 => absurd h9 (by decide))
  refine lv_iconst (v := 1) hx hb dX9_noJournal_18 (by decide) ?_
  refine lv_goto (tgt := 23) hx hb dX9_noJournal_19 (by decide) ?_
  exact ct_zret C (by first | rfl | decide) hS hP hD (⟨rfl, rfl⟩) (Nat.le_of_ble_eq_true rfl) (Nat.le_of_ble_eq_true rfl) dX9_noJournal_23
abbrev rmX9_replayed : Room := { frames := 0, cells := 0, slots := 0, locals := 0 }
set_option maxRecDepth 100000 in
theorem k_replayed {l : Launch} {s0 : State} {D : va_G} {cA : Nat → ClassId} {ad : Nat → Nat} (hG : cx_G l s0 D cA) (P : MS) : MC l s0 D cA ad yX9_replayed cX9_replayed 1 (some .long) rmX9_replayed [] P (some (.long (qR P))) (sS P 0 0) := by
  refine Ct.of (cA := cA) hG (by decide +kernel) (Nat.le_of_ble_eq_true rfl) ?_
  intro p e s m below meth c A C hnm hP hD hS ls hl
  have hx := cx_x C
  have hb := cx_b C
  have hl : lv_has ls 1 [(0, .ref (ad 0))] := hl
  refine lv_aload_n hx hb dX9_replayed_0 rfl (lv_at hl 0 rfl) ?_
  refine lv_iconst (v := 0) hx hb dX9_replayed_1 (by decide) ?_
  refine pm_0 (v := 0) C hP hD hS tm_666 dX9_replayed_2 (fun H locs hP hD hS => ?_)
  refine lv_aload_n hx hb dX9_replayed_5 rfl (lv_at hl 0 rfl) ?_
  refine gm_27 (v := qR P) C hP rfl tm_693 dX9_replayed_6 ?_
  exact ct_lret C hS hP hD (⟨rfl, rfl⟩) (Nat.le_of_ble_eq_true rfl) (Nat.le_of_ble_eq_true rfl) dX9_replayed_9
abbrev rmX9_total : Room := { frames := 2, cells := 0, slots := 0, locals := 43 }
abbrev rmX9_level : Room := { frames := 2, cells := 0, slots := 0, locals := 43 }
abbrev rmX9_mean : Room := { frames := 2, cells := 0, slots := 0, locals := 43 }
abbrev rmX9_octet : Room := { frames := 3, cells := 0, slots := 0, locals := 64 }
abbrev rmX9_tear : Room := { frames := 3, cells := 0, slots := 0, locals := 64 }
abbrev rmX9_count : Room := { frames := 2, cells := 0, slots := 0, locals := 43 }
abbrev rmX9_state : Room := { frames := 1, cells := 0, slots := 0, locals := 22 }
set_option maxRecDepth 100000 in
theorem k_total_no {l : Launch} {s0 : State} {D : va_G} {cA : Nat → ClassId} {ad : Nat → Nat} (hG : cx_G l s0 D cA) {cn : Int32} (P : MS) (hc : ¬ ((0 : Int32) ≤ cn ∧ cn ≤ qS P 8 - 1)) : MC l s0 D cA ad yX9_total cX9_total 2 (some .long) rmX9_total [.int cn] P (some (.long ((0 : Int32).toInt64))) (sS (sS P 0 0) 0 1) := by
  refine Ct.of (cA := cA) hG (by decide +kernel) (Nat.le_of_ble_eq_true rfl) ?_
  intro p e s m below meth c A C hnm hP hD hS ls hl
  have hx := cx_x C
  have hb := cx_b C
  have hl : lv_has ls 2 [(0, .ref (ad 0)), (1, .int cn)] := hl
  refine lv_aload_n hx hb dX9_total_0 rfl (lv_at hl 0 rfl) ?_
  refine lv_iconst (v := 0) hx hb dX9_total_1 (by decide) ?_
  refine pm_0 (v := 0) C hP hD hS tm_666 dX9_total_2 (fun H locs hP hD hS => ?_)
  refine lv_aload_n hx hb dX9_total_5 rfl (lv_at hl 0 rfl) ?_
  refine lv_iload_n hx hb dX9_total_6 rfl (lv_at hl 1 rfl) ?_
  refine mc_V (As := [.int cn]) (rest := []) (r := some (.int 1)) (T := sS P 0 0) C (k_none_no hG (sS P 0 0) hc) tm_789 tm_791 tm_897 tm_3 tm_792 rfl hdX9_none ⟨Nat.le_of_ble_eq_true rfl, Nat.le_of_ble_eq_true rfl⟩ hl.1 rfl (Nat.le_of_ble_eq_true rfl) dX9_total_7 ⟨Nat.le_of_ble_eq_true rfl, Nat.le_of_ble_eq_true rfl⟩ hP hD hS (fun H locs hP hD hS => ?_)
  refine lv_if_eq (tgt := 20) hx hb dX9_total_10 (by decide) (fun h9 => absurd h9 (by decide)) (fun _ => ?_)
  refine lv_aload_n hx hb dX9_total_13 rfl (lv_at hl 0 rfl) ?_
  refine lv_iconst (v := 1) hx hb dX9_total_14 (by decide) ?_
  refine mc_V (As := [.int 1]) (rest := []) (r := some (.int 0)) (T := sS (sS P 0 0) 0 1) C (k_fail hG _ _) tm_769 tm_771 tm_895 tm_3 tm_772 rfl hdX9_fail ⟨Nat.le_of_ble_eq_true rfl, Nat.le_of_ble_eq_true rfl⟩ hl.1 rfl (Nat.le_of_ble_eq_true rfl) dX9_total_15 ⟨Nat.le_of_ble_eq_true rfl, Nat.le_of_ble_eq_true rfl⟩ hP hD hS (fun H locs hP hD hS => ?_)
  refine lv_i2l (v := (0 : Int32).toInt64) hx hb dX9_total_18 rfl ?_
  exact ct_lret C hS hP hD (⟨rfl, rfl⟩) (Nat.le_of_ble_eq_true rfl) (Nat.le_of_ble_eq_true rfl) dX9_total_19
set_option maxRecDepth 100000 in
theorem k_level_no {l : Launch} {s0 : State} {D : va_G} {cA : Nat → ClassId} {ad : Nat → Nat} (hG : cx_G l s0 D cA) {cn : Int32} (P : MS) (hc : ¬ ((0 : Int32) ≤ cn ∧ cn ≤ qS P 8 - 1)) : MC l s0 D cA ad yX9_level cX9_level 2 (some .float) rmX9_level [.int cn] P (some (.float (FP.i2f (0 : Int32)))) (sS (sS P 0 0) 0 1) := by
  refine Ct.of (cA := cA) hG (by decide +kernel) (Nat.le_of_ble_eq_true rfl) ?_
  intro p e s m below meth c A C hnm hP hD hS ls hl
  have hx := cx_x C
  have hb := cx_b C
  have hl : lv_has ls 2 [(0, .ref (ad 0)), (1, .int cn)] := hl
  refine lv_aload_n hx hb dX9_level_0 rfl (lv_at hl 0 rfl) ?_
  refine lv_iconst (v := 0) hx hb dX9_level_1 (by decide) ?_
  refine pm_0 (v := 0) C hP hD hS tm_666 dX9_level_2 (fun H locs hP hD hS => ?_)
  refine lv_aload_n hx hb dX9_level_5 rfl (lv_at hl 0 rfl) ?_
  refine lv_iload_n hx hb dX9_level_6 rfl (lv_at hl 1 rfl) ?_
  refine mc_V (As := [.int cn]) (rest := []) (r := some (.int 1)) (T := sS P 0 0) C (k_none_no hG (sS P 0 0) hc) tm_789 tm_791 tm_897 tm_3 tm_792 rfl hdX9_none ⟨Nat.le_of_ble_eq_true rfl, Nat.le_of_ble_eq_true rfl⟩ hl.1 rfl (Nat.le_of_ble_eq_true rfl) dX9_level_7 ⟨Nat.le_of_ble_eq_true rfl, Nat.le_of_ble_eq_true rfl⟩ hP hD hS (fun H locs hP hD hS => ?_)
  refine lv_if_ne (tgt := 23) hx hb dX9_level_10 (by decide) (fun _ => ?_) (fun h9 => absurd h9 (by decide))
  refine lv_aload_n hx hb dX9_level_23 rfl (lv_at hl 0 rfl) ?_
  refine lv_iconst (v := 1) hx hb dX9_level_24 (by decide) ?_
  refine mc_V (As := [.int 1]) (rest := []) (r := some (.int 0)) (T := sS (sS P 0 0) 0 1) C (k_fail hG _ _) tm_769 tm_771 tm_895 tm_3 tm_772 rfl hdX9_fail ⟨Nat.le_of_ble_eq_true rfl, Nat.le_of_ble_eq_true rfl⟩ hl.1 rfl (Nat.le_of_ble_eq_true rfl) dX9_level_25 ⟨Nat.le_of_ble_eq_true rfl, Nat.le_of_ble_eq_true rfl⟩ hP hD hS (fun H locs hP hD hS => ?_)
  refine lv_i2f hx hb dX9_level_28 ?_
  refine lv_goto (tgt := 38) hx hb dX9_level_29 (by decide) ?_
  exact ct_fret C hS hP hD (⟨rfl, rfl⟩) (Nat.le_of_ble_eq_true rfl) (Nat.le_of_ble_eq_true rfl) dX9_level_38
set_option maxRecDepth 100000 in
theorem k_level_k {l : Launch} {s0 : State} {D : va_G} {cA : Nat → ClassId} {ad : Nat → Nat} (hG : cx_G l s0 D cA) {j n : Nat} (P : MS) (hn : qS P 8 = nI n) (hn8 : n ≤ 8) (hj : j < n) (hk : ¬ qI P 9 j = 1) : MC l s0 D cA ad yX9_level cX9_level 2 (some .float) rmX9_level [.int (nI j)] P (some (.float (FP.i2f (0 : Int32)))) (sS (sS P 0 0) 0 1) := by
  refine Ct.of (cA := cA) hG (by decide +kernel) (Nat.le_of_ble_eq_true rfl) ?_
  intro p e s m below meth c A C hnm hP hD hS ls hl
  have hx := cx_x C
  have hb := cx_b C
  have hl : lv_has ls 2 [(0, .ref (ad 0)), (1, .int (nI j))] := hl
  refine lv_aload_n hx hb dX9_level_0 rfl (lv_at hl 0 rfl) ?_
  refine lv_iconst (v := 0) hx hb dX9_level_1 (by decide) ?_
  refine pm_0 (v := 0) C hP hD hS tm_666 dX9_level_2 (fun H locs hP hD hS => ?_)
  refine lv_aload_n hx hb dX9_level_5 rfl (lv_at hl 0 rfl) ?_
  refine lv_iload_n hx hb dX9_level_6 rfl (lv_at hl 1 rfl) ?_
  refine mc_V (As := [.int (nI j)]) (rest := []) (r := some (.int 0)) (T := sS P 0 0) C (k_none_ok (n := n) hG (sS P 0 0) hn hn8 hj) tm_789 tm_791 tm_897 tm_3 tm_792 rfl hdX9_none ⟨Nat.le_of_ble_eq_true rfl, Nat.le_of_ble_eq_true rfl⟩ hl.1 rfl (Nat.le_of_ble_eq_true rfl) dX9_level_7 ⟨Nat.le_of_ble_eq_true rfl, Nat.le_of_ble_eq_true rfl⟩ hP hD hS (fun H locs hP hD hS => ?_)
  refine lv_if_ne (tgt := 23) hx hb dX9_level_10 (by decide) (fun h9 => absurd rfl h9) (fun _ => ?_)
  refine lv_aload_n hx hb dX9_level_13 rfl (lv_at hl 0 rfl) ?_
  refine gm_9 C hP tm_675 dX9_level_14 ?_
  refine lv_iload_n hx hb dX9_level_17 rfl (lv_at hl 1 rfl) ?_
  refine xl_9 (v := qI P 9 j) (j := j) C hP (ix8 (Nat.lt_of_lt_of_le hj hn8)) (rfl) dX9_level_18 ?_
  refine lv_iconst (v := 1) hx hb dX9_level_19 (by decide) ?_
  refine lv_icmp_eq (tgt := 32) hx hb dX9_level_20 (by decide) (fun h9 => absurd h9 (hk)) (fun _ => ?_)
  refine lv_aload_n hx hb dX9_level_23 rfl (lv_at hl 0 rfl) ?_
  refine lv_iconst (v := 1) hx hb dX9_level_24 (by decide) ?_
  refine mc_V (As := [.int 1]) (rest := []) (r := some (.int 0)) (T := sS (sS P 0 0) 0 1) C (k_fail hG _ _) tm_769 tm_771 tm_895 tm_3 tm_772 rfl hdX9_fail ⟨Nat.le_of_ble_eq_true rfl, Nat.le_of_ble_eq_true rfl⟩ hl.1 rfl (Nat.le_of_ble_eq_true rfl) dX9_level_25 ⟨Nat.le_of_ble_eq_true rfl, Nat.le_of_ble_eq_true rfl⟩ hP hD hS (fun H locs hP hD hS => ?_)
  refine lv_i2f hx hb dX9_level_28 ?_
  refine lv_goto (tgt := 38) hx hb dX9_level_29 (by decide) ?_
  exact ct_fret C hS hP hD (⟨rfl, rfl⟩) (Nat.le_of_ble_eq_true rfl) (Nat.le_of_ble_eq_true rfl) dX9_level_38
set_option maxRecDepth 100000 in
theorem k_mean_no {l : Launch} {s0 : State} {D : va_G} {cA : Nat → ClassId} {ad : Nat → Nat} (hG : cx_G l s0 D cA) {cn : Int32} (P : MS) (hc : ¬ ((0 : Int32) ≤ cn ∧ cn ≤ qS P 8 - 1)) : MC l s0 D cA ad yX9_mean cX9_mean 2 (some .double) rmX9_mean [.int cn] P (some (.double (FP.i2d (0 : Int32)))) (sS (sS P 0 0) 0 1) := by
  refine Ct.of (cA := cA) hG (by decide +kernel) (Nat.le_of_ble_eq_true rfl) ?_
  intro p e s m below meth c A C hnm hP hD hS ls hl
  have hx := cx_x C
  have hb := cx_b C
  have hl : lv_has ls 2 [(0, .ref (ad 0)), (1, .int cn)] := hl
  refine lv_aload_n hx hb dX9_mean_0 rfl (lv_at hl 0 rfl) ?_
  refine lv_iconst (v := 0) hx hb dX9_mean_1 (by decide) ?_
  refine pm_0 (v := 0) C hP hD hS tm_666 dX9_mean_2 (fun H locs hP hD hS => ?_)
  refine lv_aload_n hx hb dX9_mean_5 rfl (lv_at hl 0 rfl) ?_
  refine lv_iload_n hx hb dX9_mean_6 rfl (lv_at hl 1 rfl) ?_
  refine mc_V (As := [.int cn]) (rest := []) (r := some (.int 1)) (T := sS P 0 0) C (k_none_no hG (sS P 0 0) hc) tm_789 tm_791 tm_897 tm_3 tm_792 rfl hdX9_none ⟨Nat.le_of_ble_eq_true rfl, Nat.le_of_ble_eq_true rfl⟩ hl.1 rfl (Nat.le_of_ble_eq_true rfl) dX9_mean_7 ⟨Nat.le_of_ble_eq_true rfl, Nat.le_of_ble_eq_true rfl⟩ hP hD hS (fun H locs hP hD hS => ?_)
  refine lv_if_ne (tgt := 23) hx hb dX9_mean_10 (by decide) (fun _ => ?_) (fun h9 => absurd h9 (by decide))
  refine lv_aload_n hx hb dX9_mean_23 rfl (lv_at hl 0 rfl) ?_
  refine lv_iconst (v := 1) hx hb dX9_mean_24 (by decide) ?_
  refine mc_V (As := [.int 1]) (rest := []) (r := some (.int 0)) (T := sS (sS P 0 0) 0 1) C (k_fail hG _ _) tm_769 tm_771 tm_895 tm_3 tm_772 rfl hdX9_fail ⟨Nat.le_of_ble_eq_true rfl, Nat.le_of_ble_eq_true rfl⟩ hl.1 rfl (Nat.le_of_ble_eq_true rfl) dX9_mean_25 ⟨Nat.le_of_ble_eq_true rfl, Nat.le_of_ble_eq_true rfl⟩ hP hD hS (fun H locs hP hD hS => ?_)
  refine lv_i2d hx hb dX9_mean_28 ?_
  refine lv_goto (tgt := 38) hx hb dX9_mean_29 (by decide) ?_
  exact ct_dret C hS hP hD (⟨rfl, rfl⟩) (Nat.le_of_ble_eq_true rfl) (Nat.le_of_ble_eq_true rfl) dX9_mean_38
set_option maxRecDepth 100000 in
theorem k_mean_k {l : Launch} {s0 : State} {D : va_G} {cA : Nat → ClassId} {ad : Nat → Nat} (hG : cx_G l s0 D cA) {j n : Nat} (P : MS) (hn : qS P 8 = nI n) (hn8 : n ≤ 8) (hj : j < n) (hk : ¬ qI P 9 j = 2) : MC l s0 D cA ad yX9_mean cX9_mean 2 (some .double) rmX9_mean [.int (nI j)] P (some (.double (FP.i2d (0 : Int32)))) (sS (sS P 0 0) 0 1) := by
  refine Ct.of (cA := cA) hG (by decide +kernel) (Nat.le_of_ble_eq_true rfl) ?_
  intro p e s m below meth c A C hnm hP hD hS ls hl
  have hx := cx_x C
  have hb := cx_b C
  have hl : lv_has ls 2 [(0, .ref (ad 0)), (1, .int (nI j))] := hl
  refine lv_aload_n hx hb dX9_mean_0 rfl (lv_at hl 0 rfl) ?_
  refine lv_iconst (v := 0) hx hb dX9_mean_1 (by decide) ?_
  refine pm_0 (v := 0) C hP hD hS tm_666 dX9_mean_2 (fun H locs hP hD hS => ?_)
  refine lv_aload_n hx hb dX9_mean_5 rfl (lv_at hl 0 rfl) ?_
  refine lv_iload_n hx hb dX9_mean_6 rfl (lv_at hl 1 rfl) ?_
  refine mc_V (As := [.int (nI j)]) (rest := []) (r := some (.int 0)) (T := sS P 0 0) C (k_none_ok (n := n) hG (sS P 0 0) hn hn8 hj) tm_789 tm_791 tm_897 tm_3 tm_792 rfl hdX9_none ⟨Nat.le_of_ble_eq_true rfl, Nat.le_of_ble_eq_true rfl⟩ hl.1 rfl (Nat.le_of_ble_eq_true rfl) dX9_mean_7 ⟨Nat.le_of_ble_eq_true rfl, Nat.le_of_ble_eq_true rfl⟩ hP hD hS (fun H locs hP hD hS => ?_)
  refine lv_if_ne (tgt := 23) hx hb dX9_mean_10 (by decide) (fun h9 => absurd rfl h9) (fun _ => ?_)
  refine lv_aload_n hx hb dX9_mean_13 rfl (lv_at hl 0 rfl) ?_
  refine gm_9 C hP tm_675 dX9_mean_14 ?_
  refine lv_iload_n hx hb dX9_mean_17 rfl (lv_at hl 1 rfl) ?_
  refine xl_9 (v := qI P 9 j) (j := j) C hP (ix8 (Nat.lt_of_lt_of_le hj hn8)) (rfl) dX9_mean_18 ?_
  refine lv_iconst (v := 2) hx hb dX9_mean_19 (by decide) ?_
  refine lv_icmp_eq (tgt := 32) hx hb dX9_mean_20 (by decide) (fun h9 => absurd h9 (hk)) (fun _ => ?_)
  refine lv_aload_n hx hb dX9_mean_23 rfl (lv_at hl 0 rfl) ?_
  refine lv_iconst (v := 1) hx hb dX9_mean_24 (by decide) ?_
  refine mc_V (As := [.int 1]) (rest := []) (r := some (.int 0)) (T := sS (sS P 0 0) 0 1) C (k_fail hG _ _) tm_769 tm_771 tm_895 tm_3 tm_772 rfl hdX9_fail ⟨Nat.le_of_ble_eq_true rfl, Nat.le_of_ble_eq_true rfl⟩ hl.1 rfl (Nat.le_of_ble_eq_true rfl) dX9_mean_25 ⟨Nat.le_of_ble_eq_true rfl, Nat.le_of_ble_eq_true rfl⟩ hP hD hS (fun H locs hP hD hS => ?_)
  refine lv_i2d hx hb dX9_mean_28 ?_
  refine lv_goto (tgt := 38) hx hb dX9_mean_29 (by decide) ?_
  exact ct_dret C hS hP hD (⟨rfl, rfl⟩) (Nat.le_of_ble_eq_true rfl) (Nat.le_of_ble_eq_true rfl) dX9_mean_38
set_option maxRecDepth 100000 in
theorem k_octet_no {l : Launch} {s0 : State} {D : va_G} {cA : Nat → ClassId} {ad : Nat → Nat} (hG : cx_G l s0 D cA) {cn : Int32} (i : Int32) (P : MS) (hc : ¬ ((0 : Int32) ≤ cn ∧ cn ≤ qS P 8 - 1)) : MC l s0 D cA ad yX9_octet cX9_octet 3 (some .int) rmX9_octet [.int cn, .int i] P (some (.int 0)) (sS (sS P 0 0) 0 1) := by
  refine Ct.of (cA := cA) hG (by decide +kernel) (Nat.le_of_ble_eq_true rfl) ?_
  intro p e s m below meth c A C hnm hP hD hS ls hl
  have hx := cx_x C
  have hb := cx_b C
  have hl : lv_has ls 3 [(0, .ref (ad 0)), (1, .int cn), (2, .int i)] := hl
  refine lv_aload_n hx hb dX9_octet_0 rfl (lv_at hl 0 rfl) ?_
  refine lv_iconst (v := 0) hx hb dX9_octet_1 (by decide) ?_
  refine pm_0 (v := 0) C hP hD hS tm_666 dX9_octet_2 (fun H locs hP hD hS => ?_)
  refine lv_aload_n hx hb dX9_octet_5 rfl (lv_at hl 0 rfl) ?_
  refine lv_iload_n hx hb dX9_octet_6 rfl (lv_at hl 1 rfl) ?_
  refine mc_V (As := [.int cn]) (rest := []) (r := some (.int 1)) (T := sS P 0 0) C (k_noJ_no hG (sS P 0 0) hc) tm_843 tm_845 tm_905 tm_3 tm_846 rfl hdX9_noJournal ⟨Nat.le_of_ble_eq_true rfl, Nat.le_of_ble_eq_true rfl⟩ hl.1 rfl (Nat.le_of_ble_eq_true rfl) dX9_octet_7 ⟨Nat.le_of_ble_eq_true rfl, Nat.le_of_ble_eq_true rfl⟩ hP hD hS (fun H locs hP hD hS => ?_)
  refine lv_if_eq (tgt := 19) hx hb dX9_octet_10 (by decide) (fun h9 => absurd h9 (by decide)) (fun _ => ?_)
  refine lv_aload_n hx hb dX9_octet_13 rfl (lv_at hl 0 rfl) ?_
  refine lv_iconst (v := 1) hx hb dX9_octet_14 (by decide) ?_
  refine mc_V (As := [.int 1]) (rest := []) (r := some (.int 0)) (T := sS (sS P 0 0) 0 1) C (k_fail hG _ _) tm_769 tm_771 tm_895 tm_3 tm_772 rfl hdX9_fail ⟨Nat.le_of_ble_eq_true rfl, Nat.le_of_ble_eq_true rfl⟩ hl.1 rfl (Nat.le_of_ble_eq_true rfl) dX9_octet_15 ⟨Nat.le_of_ble_eq_true rfl, Nat.le_of_ble_eq_true rfl⟩ hP hD hS (fun H locs hP hD hS => ?_)
  exact ct_iret C hS hP hD (⟨rfl, rfl⟩) (Nat.le_of_ble_eq_true rfl) (Nat.le_of_ble_eq_true rfl) dX9_octet_18
set_option maxRecDepth 100000 in
theorem k_octet_k {l : Launch} {s0 : State} {D : va_G} {cA : Nat → ClassId} {ad : Nat → Nat} (hG : cx_G l s0 D cA) {j n : Nat} (i : Int32) (P : MS) (hn : qS P 8 = nI n) (hn8 : n ≤ 8) (hj : j < n) (hk : ¬ qI P 9 j = 3) : MC l s0 D cA ad yX9_octet cX9_octet 3 (some .int) rmX9_octet [.int (nI j), .int i] P (some (.int 0)) (sS (sS P 0 0) 0 1) := by
  refine Ct.of (cA := cA) hG (by decide +kernel) (Nat.le_of_ble_eq_true rfl) ?_
  intro p e s m below meth c A C hnm hP hD hS ls hl
  have hx := cx_x C
  have hb := cx_b C
  have hl : lv_has ls 3 [(0, .ref (ad 0)), (1, .int (nI j)), (2, .int i)] := hl
  refine lv_aload_n hx hb dX9_octet_0 rfl (lv_at hl 0 rfl) ?_
  refine lv_iconst (v := 0) hx hb dX9_octet_1 (by decide) ?_
  refine pm_0 (v := 0) C hP hD hS tm_666 dX9_octet_2 (fun H locs hP hD hS => ?_)
  refine lv_aload_n hx hb dX9_octet_5 rfl (lv_at hl 0 rfl) ?_
  refine lv_iload_n hx hb dX9_octet_6 rfl (lv_at hl 1 rfl) ?_
  refine mc_V (As := [.int (nI j)]) (rest := []) (r := some (.int 1)) (T := sS P 0 0) C (k_noJ_k (n := n) hG (sS P 0 0) hn hn8 hj hk) tm_843 tm_845 tm_905 tm_3 tm_846 rfl hdX9_noJournal ⟨Nat.le_of_ble_eq_true rfl, Nat.le_of_ble_eq_true rfl⟩ hl.1 rfl (Nat.le_of_ble_eq_true rfl) dX9_octet_7 ⟨Nat.le_of_ble_eq_true rfl, Nat.le_of_ble_eq_true rfl⟩ hP hD hS (fun H locs hP hD hS => ?_)
  refine lv_if_eq (tgt := 19) hx hb dX9_octet_10 (by decide) (fun h9 => absurd h9 (by decide)) (fun _ => ?_)
  refine lv_aload_n hx hb dX9_octet_13 rfl (lv_at hl 0 rfl) ?_
  refine lv_iconst (v := 1) hx hb dX9_octet_14 (by decide) ?_
  refine mc_V (As := [.int 1]) (rest := []) (r := some (.int 0)) (T := sS (sS P 0 0) 0 1) C (k_fail hG _ _) tm_769 tm_771 tm_895 tm_3 tm_772 rfl hdX9_fail ⟨Nat.le_of_ble_eq_true rfl, Nat.le_of_ble_eq_true rfl⟩ hl.1 rfl (Nat.le_of_ble_eq_true rfl) dX9_octet_15 ⟨Nat.le_of_ble_eq_true rfl, Nat.le_of_ble_eq_true rfl⟩ hP hD hS (fun H locs hP hD hS => ?_)
  exact ct_iret C hS hP hD (⟨rfl, rfl⟩) (Nat.le_of_ble_eq_true rfl) (Nat.le_of_ble_eq_true rfl) dX9_octet_18
set_option maxRecDepth 100000 in
theorem k_tear_no {l : Launch} {s0 : State} {D : va_G} {cA : Nat → ClassId} {ad : Nat → Nat} (hG : cx_G l s0 D cA) {cn : Int32} (i : Int32) (P : MS) (hc : ¬ ((0 : Int32) ≤ cn ∧ cn ≤ qS P 8 - 1)) : MC l s0 D cA ad yX9_tear cX9_tear 3 (some .int) rmX9_tear [.int cn, .int i] P (some (.int 0)) (sS (sS P 0 0) 0 1) := by
  refine Ct.of (cA := cA) hG (by decide +kernel) (Nat.le_of_ble_eq_true rfl) ?_
  intro p e s m below meth c A C hnm hP hD hS ls hl
  have hx := cx_x C
  have hb := cx_b C
  have hl : lv_has ls 3 [(0, .ref (ad 0)), (1, .int cn), (2, .int i)] := hl
  refine lv_aload_n hx hb dX9_tear_0 rfl (lv_at hl 0 rfl) ?_
  refine lv_iconst (v := 0) hx hb dX9_tear_1 (by decide) ?_
  refine pm_0 (v := 0) C hP hD hS tm_666 dX9_tear_2 (fun H locs hP hD hS => ?_)
  refine lv_aload_n hx hb dX9_tear_5 rfl (lv_at hl 0 rfl) ?_
  refine lv_iload_n hx hb dX9_tear_6 rfl (lv_at hl 1 rfl) ?_
  refine mc_V (As := [.int cn]) (rest := []) (r := some (.int 1)) (T := sS P 0 0) C (k_noJ_no hG (sS P 0 0) hc) tm_843 tm_845 tm_905 tm_3 tm_846 rfl hdX9_noJournal ⟨Nat.le_of_ble_eq_true rfl, Nat.le_of_ble_eq_true rfl⟩ hl.1 rfl (Nat.le_of_ble_eq_true rfl) dX9_tear_7 ⟨Nat.le_of_ble_eq_true rfl, Nat.le_of_ble_eq_true rfl⟩ hP hD hS (fun H locs hP hD hS => ?_)
  refine lv_if_ne (tgt := 27) hx hb dX9_tear_10 (by decide) (fun _ => ?_) (fun h9 => absurd h9 (by decide))
  refine lv_aload_n hx hb dX9_tear_27 rfl (lv_at hl 0 rfl) ?_
  refine lv_iconst (v := 1) hx hb dX9_tear_28 (by decide) ?_
  refine mc_V (As := [.int 1]) (rest := []) (r := some (.int 0)) (T := sS (sS P 0 0) 0 1) C (k_fail hG _ _) tm_769 tm_771 tm_895 tm_3 tm_772 rfl hdX9_fail ⟨Nat.le_of_ble_eq_true rfl, Nat.le_of_ble_eq_true rfl⟩ hl.1 rfl (Nat.le_of_ble_eq_true rfl) dX9_tear_29 ⟨Nat.le_of_ble_eq_true rfl, Nat.le_of_ble_eq_true rfl⟩ hP hD hS (fun H locs hP hD hS => ?_)
  exact ct_iret C hS hP hD (⟨rfl, rfl⟩) (Nat.le_of_ble_eq_true rfl) (Nat.le_of_ble_eq_true rfl) dX9_tear_32
set_option maxRecDepth 100000 in
theorem k_tear_k {l : Launch} {s0 : State} {D : va_G} {cA : Nat → ClassId} {ad : Nat → Nat} (hG : cx_G l s0 D cA) {j n : Nat} (i : Int32) (P : MS) (hn : qS P 8 = nI n) (hn8 : n ≤ 8) (hj : j < n) (hk : ¬ qI P 9 j = 3) : MC l s0 D cA ad yX9_tear cX9_tear 3 (some .int) rmX9_tear [.int (nI j), .int i] P (some (.int 0)) (sS (sS P 0 0) 0 1) := by
  refine Ct.of (cA := cA) hG (by decide +kernel) (Nat.le_of_ble_eq_true rfl) ?_
  intro p e s m below meth c A C hnm hP hD hS ls hl
  have hx := cx_x C
  have hb := cx_b C
  have hl : lv_has ls 3 [(0, .ref (ad 0)), (1, .int (nI j)), (2, .int i)] := hl
  refine lv_aload_n hx hb dX9_tear_0 rfl (lv_at hl 0 rfl) ?_
  refine lv_iconst (v := 0) hx hb dX9_tear_1 (by decide) ?_
  refine pm_0 (v := 0) C hP hD hS tm_666 dX9_tear_2 (fun H locs hP hD hS => ?_)
  refine lv_aload_n hx hb dX9_tear_5 rfl (lv_at hl 0 rfl) ?_
  refine lv_iload_n hx hb dX9_tear_6 rfl (lv_at hl 1 rfl) ?_
  refine mc_V (As := [.int (nI j)]) (rest := []) (r := some (.int 1)) (T := sS P 0 0) C (k_noJ_k (n := n) hG (sS P 0 0) hn hn8 hj hk) tm_843 tm_845 tm_905 tm_3 tm_846 rfl hdX9_noJournal ⟨Nat.le_of_ble_eq_true rfl, Nat.le_of_ble_eq_true rfl⟩ hl.1 rfl (Nat.le_of_ble_eq_true rfl) dX9_tear_7 ⟨Nat.le_of_ble_eq_true rfl, Nat.le_of_ble_eq_true rfl⟩ hP hD hS (fun H locs hP hD hS => ?_)
  refine lv_if_ne (tgt := 27) hx hb dX9_tear_10 (by decide) (fun _ => ?_) (fun h9 => absurd h9 (by decide))
  refine lv_aload_n hx hb dX9_tear_27 rfl (lv_at hl 0 rfl) ?_
  refine lv_iconst (v := 1) hx hb dX9_tear_28 (by decide) ?_
  refine mc_V (As := [.int 1]) (rest := []) (r := some (.int 0)) (T := sS (sS P 0 0) 0 1) C (k_fail hG _ _) tm_769 tm_771 tm_895 tm_3 tm_772 rfl hdX9_fail ⟨Nat.le_of_ble_eq_true rfl, Nat.le_of_ble_eq_true rfl⟩ hl.1 rfl (Nat.le_of_ble_eq_true rfl) dX9_tear_29 ⟨Nat.le_of_ble_eq_true rfl, Nat.le_of_ble_eq_true rfl⟩ hP hD hS (fun H locs hP hD hS => ?_)
  exact ct_iret C hS hP hD (⟨rfl, rfl⟩) (Nat.le_of_ble_eq_true rfl) (Nat.le_of_ble_eq_true rfl) dX9_tear_32
set_option maxRecDepth 100000 in
theorem k_tear_i {l : Launch} {s0 : State} {D : va_G} {cA : Nat → ClassId} {ad : Nat → Nat} (hG : cx_G l s0 D cA) {j n : Nat} {i : Int32} (P : MS) (hn : qS P 8 = nI n) (hn8 : n ≤ 8) (hj : j < n) (hk : qI P 9 j = 3) (hi : ¬ ((0 : Int32) ≤ i ∧ i ≤ qI P 25 j)) : MC l s0 D cA ad yX9_tear cX9_tear 3 (some .int) rmX9_tear [.int (nI j), .int i] P (some (.int 0)) (sS (sS P 0 0) 0 1) := by
  refine Ct.of (cA := cA) hG (by decide +kernel) (Nat.le_of_ble_eq_true rfl) ?_
  intro p e s m below meth c A C hnm hP hD hS ls hl
  have hx := cx_x C
  have hb := cx_b C
  have hl : lv_has ls 3 [(0, .ref (ad 0)), (1, .int (nI j)), (2, .int i)] := hl
  refine lv_aload_n hx hb dX9_tear_0 rfl (lv_at hl 0 rfl) ?_
  refine lv_iconst (v := 0) hx hb dX9_tear_1 (by decide) ?_
  refine pm_0 (v := 0) C hP hD hS tm_666 dX9_tear_2 (fun H locs hP hD hS => ?_)
  refine lv_aload_n hx hb dX9_tear_5 rfl (lv_at hl 0 rfl) ?_
  refine lv_iload_n hx hb dX9_tear_6 rfl (lv_at hl 1 rfl) ?_
  refine mc_V (As := [.int (nI j)]) (rest := []) (r := some (.int 0)) (T := sS P 0 0) C (k_noJ_ok (n := n) hG (sS P 0 0) hn hn8 hj hk) tm_843 tm_845 tm_905 tm_3 tm_846 rfl hdX9_noJournal ⟨Nat.le_of_ble_eq_true rfl, Nat.le_of_ble_eq_true rfl⟩ hl.1 rfl (Nat.le_of_ble_eq_true rfl) dX9_tear_7 ⟨Nat.le_of_ble_eq_true rfl, Nat.le_of_ble_eq_true rfl⟩ hP hD hS (fun H locs hP hD hS => ?_)
  refine lv_if_ne (tgt := 27) hx hb dX9_tear_10 (by decide) (fun h9 => absurd rfl h9) (fun _ => ?_)
  refine lv_iload_n hx hb dX9_tear_13 rfl (lv_at hl 2 rfl) ?_
  refine lv_iconst (v := 0) hx hb dX9_tear_14 (by decide) ?_
  refine lv_aload_n hx hb dX9_tear_15 rfl (lv_at hl 0 rfl) ?_
  refine gm_25 C hP tm_691 dX9_tear_16 ?_
  refine lv_iload_n hx hb dX9_tear_19 rfl (lv_at hl 1 rfl) ?_
  refine xl_25 (v := qI P 25 j) (j := j) C hP (ix8 (Nat.lt_of_lt_of_le hj hn8)) (rfl) dX9_tear_20 ?_
  refine ct_S0 (As := [.int i, .int 0, .int (qI P 25 j)]) (rest := []) (r := some (.int 0)) C (k_within0 hG _ _ _ (hi)) tm_762 tm_763 tm_3 tm_764 hdX9_within.2 ⟨Nat.le_of_ble_eq_true rfl, Nat.le_of_ble_eq_true rfl⟩ hl.1 rfl (Nat.le_of_ble_eq_true rfl) dX9_tear_21 ⟨Nat.le_of_ble_eq_true rfl, Nat.le_of_ble_eq_true rfl⟩ hP hD hS (fun H locs hP hD hS => ?_)
  refine lv_if_ne (tgt := 33) hx hb dX9_tear_24 (by decide) (fun h9 => absurd rfl h9) (fun _ => ?_)
  refine lv_aload_n hx hb dX9_tear_27 rfl (lv_at hl 0 rfl) ?_
  refine lv_iconst (v := 1) hx hb dX9_tear_28 (by decide) ?_
  refine mc_V (As := [.int 1]) (rest := []) (r := some (.int 0)) (T := sS (sS P 0 0) 0 1) C (k_fail hG _ _) tm_769 tm_771 tm_895 tm_3 tm_772 rfl hdX9_fail ⟨Nat.le_of_ble_eq_true rfl, Nat.le_of_ble_eq_true rfl⟩ hl.1 rfl (Nat.le_of_ble_eq_true rfl) dX9_tear_29 ⟨Nat.le_of_ble_eq_true rfl, Nat.le_of_ble_eq_true rfl⟩ hP hD hS (fun H locs hP hD hS => ?_)
  exact ct_iret C hS hP hD (⟨rfl, rfl⟩) (Nat.le_of_ble_eq_true rfl) (Nat.le_of_ble_eq_true rfl) dX9_tear_32
set_option maxRecDepth 100000 in
theorem k_count_no {l : Launch} {s0 : State} {D : va_G} {cA : Nat → ClassId} {ad : Nat → Nat} (hG : cx_G l s0 D cA) {cn : Int32} (i : Int32) (P : MS) (hc : ¬ ((0 : Int32) ≤ cn ∧ cn ≤ qS P 8 - 1)) : MC l s0 D cA ad yX9_count cX9_count 3 (some .int) rmX9_count [.int cn, .int i] P (some (.int 0)) (sS (sS P 0 0) 0 1) := by
  refine Ct.of (cA := cA) hG (by decide +kernel) (Nat.le_of_ble_eq_true rfl) ?_
  intro p e s m below meth c A C hnm hP hD hS ls hl
  have hx := cx_x C
  have hb := cx_b C
  have hl : lv_has ls 3 [(0, .ref (ad 0)), (1, .int cn), (2, .int i)] := hl
  refine lv_aload_n hx hb dX9_count_0 rfl (lv_at hl 0 rfl) ?_
  refine lv_iconst (v := 0) hx hb dX9_count_1 (by decide) ?_
  refine pm_0 (v := 0) C hP hD hS tm_666 dX9_count_2 (fun H locs hP hD hS => ?_)
  refine lv_aload_n hx hb dX9_count_5 rfl (lv_at hl 0 rfl) ?_
  refine lv_iload_n hx hb dX9_count_6 rfl (lv_at hl 1 rfl) ?_
  refine mc_V (As := [.int cn]) (rest := []) (r := some (.int 1)) (T := sS P 0 0) C (k_none_no hG (sS P 0 0) hc) tm_789 tm_791 tm_897 tm_3 tm_792 rfl hdX9_none ⟨Nat.le_of_ble_eq_true rfl, Nat.le_of_ble_eq_true rfl⟩ hl.1 rfl (Nat.le_of_ble_eq_true rfl) dX9_count_7 ⟨Nat.le_of_ble_eq_true rfl, Nat.le_of_ble_eq_true rfl⟩ hP hD hS (fun H locs hP hD hS => ?_)
  refine lv_if_ne (tgt := 22) hx hb dX9_count_10 (by decide) (fun _ => ?_) (fun h9 => absurd h9 (by decide))
  refine lv_aload_n hx hb dX9_count_22 rfl (lv_at hl 0 rfl) ?_
  refine lv_iconst (v := 1) hx hb dX9_count_23 (by decide) ?_
  refine mc_V (As := [.int 1]) (rest := []) (r := some (.int 0)) (T := sS (sS P 0 0) 0 1) C (k_fail hG _ _) tm_769 tm_771 tm_895 tm_3 tm_772 rfl hdX9_fail ⟨Nat.le_of_ble_eq_true rfl, Nat.le_of_ble_eq_true rfl⟩ hl.1 rfl (Nat.le_of_ble_eq_true rfl) dX9_count_24 ⟨Nat.le_of_ble_eq_true rfl, Nat.le_of_ble_eq_true rfl⟩ hP hD hS (fun H locs hP hD hS => ?_)
  exact ct_iret C hS hP hD (⟨rfl, rfl⟩) (Nat.le_of_ble_eq_true rfl) (Nat.le_of_ble_eq_true rfl) dX9_count_27
set_option maxRecDepth 100000 in
theorem k_count_i {l : Launch} {s0 : State} {D : va_G} {cA : Nat → ClassId} {ad : Nat → Nat} (hG : cx_G l s0 D cA) {j n : Nat} {i : Int32} (P : MS) (hn : qS P 8 = nI n) (hn8 : n ≤ 8) (hj : j < n) (hi : ¬ ((0 : Int32) ≤ i ∧ i ≤ 3)) : MC l s0 D cA ad yX9_count cX9_count 3 (some .int) rmX9_count [.int (nI j), .int i] P (some (.int 0)) (sS (sS P 0 0) 0 1) := by
  refine Ct.of (cA := cA) hG (by decide +kernel) (Nat.le_of_ble_eq_true rfl) ?_
  intro p e s m below meth c A C hnm hP hD hS ls hl
  have hx := cx_x C
  have hb := cx_b C
  have hl : lv_has ls 3 [(0, .ref (ad 0)), (1, .int (nI j)), (2, .int i)] := hl
  refine lv_aload_n hx hb dX9_count_0 rfl (lv_at hl 0 rfl) ?_
  refine lv_iconst (v := 0) hx hb dX9_count_1 (by decide) ?_
  refine pm_0 (v := 0) C hP hD hS tm_666 dX9_count_2 (fun H locs hP hD hS => ?_)
  refine lv_aload_n hx hb dX9_count_5 rfl (lv_at hl 0 rfl) ?_
  refine lv_iload_n hx hb dX9_count_6 rfl (lv_at hl 1 rfl) ?_
  refine mc_V (As := [.int (nI j)]) (rest := []) (r := some (.int 0)) (T := sS P 0 0) C (k_none_ok (n := n) hG (sS P 0 0) hn hn8 hj) tm_789 tm_791 tm_897 tm_3 tm_792 rfl hdX9_none ⟨Nat.le_of_ble_eq_true rfl, Nat.le_of_ble_eq_true rfl⟩ hl.1 rfl (Nat.le_of_ble_eq_true rfl) dX9_count_7 ⟨Nat.le_of_ble_eq_true rfl, Nat.le_of_ble_eq_true rfl⟩ hP hD hS (fun H locs hP hD hS => ?_)
  refine lv_if_ne (tgt := 22) hx hb dX9_count_10 (by decide) (fun h9 => absurd rfl h9) (fun _ => ?_)
  refine lv_iload_n hx hb dX9_count_13 rfl (lv_at hl 2 rfl) ?_
  refine lv_iconst (v := 0) hx hb dX9_count_14 (by decide) ?_
  refine lv_iconst (v := 3) hx hb dX9_count_15 (by decide) ?_
  refine ct_S0 (As := [.int i, .int 0, .int 3]) (rest := []) (r := some (.int 0)) C (k_within0 hG _ _ _ (hi)) tm_762 tm_763 tm_3 tm_764 hdX9_within.2 ⟨Nat.le_of_ble_eq_true rfl, Nat.le_of_ble_eq_true rfl⟩ hl.1 rfl (Nat.le_of_ble_eq_true rfl) dX9_count_16 ⟨Nat.le_of_ble_eq_true rfl, Nat.le_of_ble_eq_true rfl⟩ hP hD hS (fun H locs hP hD hS => ?_)
  refine lv_if_ne (tgt := 28) hx hb dX9_count_19 (by decide) (fun h9 => absurd rfl h9) (fun _ => ?_)
  refine lv_aload_n hx hb dX9_count_22 rfl (lv_at hl 0 rfl) ?_
  refine lv_iconst (v := 1) hx hb dX9_count_23 (by decide) ?_
  refine mc_V (As := [.int 1]) (rest := []) (r := some (.int 0)) (T := sS (sS P 0 0) 0 1) C (k_fail hG _ _) tm_769 tm_771 tm_895 tm_3 tm_772 rfl hdX9_fail ⟨Nat.le_of_ble_eq_true rfl, Nat.le_of_ble_eq_true rfl⟩ hl.1 rfl (Nat.le_of_ble_eq_true rfl) dX9_count_24 ⟨Nat.le_of_ble_eq_true rfl, Nat.le_of_ble_eq_true rfl⟩ hP hD hS (fun H locs hP hD hS => ?_)
  exact ct_iret C hS hP hD (⟨rfl, rfl⟩) (Nat.le_of_ble_eq_true rfl) (Nat.le_of_ble_eq_true rfl) dX9_count_27
set_option maxRecDepth 100000 in
theorem k_state_no {l : Launch} {s0 : State} {D : va_G} {cA : Nat → ClassId} {ad : Nat → Nat} (hG : cx_G l s0 D cA) {i : Int32} (z : Int64) (P : MS) (hi : ¬ ((0 : Int32) ≤ i ∧ i ≤ 2)) : MC l s0 D cA ad yX9_state cX9_state 4 (some .long) rmX9_state [.int i, .long z] P (some (.long ((0 : Int32).toInt64))) (sS (sS P 0 0) 0 1) := by
  refine Ct.of (cA := cA) hG (by decide +kernel) (Nat.le_of_ble_eq_true rfl) ?_
  intro p e s m below meth c A C hnm hP hD hS ls hl
  have hx := cx_x C
  have hb := cx_b C
  have hl : lv_has ls 4 [(0, .ref (ad 0)), (1, .int i), (2, .long z)] := hl
  refine lv_aload_n hx hb dX9_state_0 rfl (lv_at hl 0 rfl) ?_
  refine lv_iconst (v := 0) hx hb dX9_state_1 (by decide) ?_
  refine pm_0 (v := 0) C hP hD hS tm_666 dX9_state_2 (fun H locs hP hD hS => ?_)
  refine lv_iload_n hx hb dX9_state_5 rfl (lv_at hl 1 rfl) ?_
  refine lv_iconst (v := 0) hx hb dX9_state_6 (by decide) ?_
  refine lv_iconst (v := 2) hx hb dX9_state_7 (by decide) ?_
  refine ct_S0 (As := [.int i, .int 0, .int 2]) (rest := []) (r := some (.int 0)) C (k_within0 hG _ _ _ (hi)) tm_762 tm_763 tm_3 tm_764 hdX9_within.2 ⟨Nat.le_of_ble_eq_true rfl, Nat.le_of_ble_eq_true rfl⟩ hl.1 rfl (Nat.le_of_ble_eq_true rfl) dX9_state_8 ⟨Nat.le_of_ble_eq_true rfl, Nat.le_of_ble_eq_true rfl⟩ hP hD hS (fun H locs hP hD hS => ?_)
  refine lv_if_eq (tgt := 25) hx hb dX9_state_11 (by decide) (fun _ => ?_) (fun h9 => absurd (by decide) h9)
  refine lv_aload_n hx hb dX9_state_25 rfl (lv_at hl 0 rfl) ?_
  refine lv_iconst (v := 1) hx hb dX9_state_26 (by decide) ?_
  refine mc_V (As := [.int 1]) (rest := []) (r := some (.int 0)) (T := sS (sS P 0 0) 0 1) C (k_fail hG _ _) tm_769 tm_771 tm_895 tm_3 tm_772 rfl hdX9_fail ⟨Nat.le_of_ble_eq_true rfl, Nat.le_of_ble_eq_true rfl⟩ hl.1 rfl (Nat.le_of_ble_eq_true rfl) dX9_state_27 ⟨Nat.le_of_ble_eq_true rfl, Nat.le_of_ble_eq_true rfl⟩ hP hD hS (fun H locs hP hD hS => ?_)
  refine lv_i2l (v := (0 : Int32).toInt64) hx hb dX9_state_30 rfl ?_
  exact ct_lret C hS hP hD (⟨rfl, rfl⟩) (Nat.le_of_ble_eq_true rfl) (Nat.le_of_ble_eq_true rfl) dX9_state_31
set_option maxRecDepth 100000 in
theorem k_state_z {l : Launch} {s0 : State} {D : va_G} {cA : Nat → ClassId} {ad : Nat → Nat} (hG : cx_G l s0 D cA) {z : Int64} (P : MS) (hz : ¬ (0 : Int64) ≤ z) : MC l s0 D cA ad yX9_state cX9_state 4 (some .long) rmX9_state [.int 2, .long z] P (some (.long ((0 : Int32).toInt64))) (sS (sS P 0 0) 0 1) := by
  refine Ct.of (cA := cA) hG (by decide +kernel) (Nat.le_of_ble_eq_true rfl) ?_
  intro p e s m below meth c A C hnm hP hD hS ls hl
  have hx := cx_x C
  have hb := cx_b C
  have hl : lv_has ls 4 [(0, .ref (ad 0)), (1, .int 2), (2, .long z)] := hl
  refine lv_aload_n hx hb dX9_state_0 rfl (lv_at hl 0 rfl) ?_
  refine lv_iconst (v := 0) hx hb dX9_state_1 (by decide) ?_
  refine pm_0 (v := 0) C hP hD hS tm_666 dX9_state_2 (fun H locs hP hD hS => ?_)
  refine lv_iload_n hx hb dX9_state_5 rfl (lv_at hl 1 rfl) ?_
  refine lv_iconst (v := 0) hx hb dX9_state_6 (by decide) ?_
  refine lv_iconst (v := 2) hx hb dX9_state_7 (by decide) ?_
  refine ct_S0 (As := [.int 2, .int 0, .int 2]) (rest := []) (r := some (.int 1)) C (k_within1 hG _ _ _ (by decide)) tm_762 tm_763 tm_3 tm_764 hdX9_within.2 ⟨Nat.le_of_ble_eq_true rfl, Nat.le_of_ble_eq_true rfl⟩ hl.1 rfl (Nat.le_of_ble_eq_true rfl) dX9_state_8 ⟨Nat.le_of_ble_eq_true rfl, Nat.le_of_ble_eq_true rfl⟩ hP hD hS (fun H locs hP hD hS => ?_)
  refine lv_if_eq (tgt := 25) hx hb dX9_state_11 (by decide) (fun h9 => absurd h9 (by decide)) (fun _ => ?_)
  refine lv_iload_n hx hb dX9_state_14 rfl (lv_at hl 1 rfl) ?_
  refine lv_iconst (v := 2) hx hb dX9_state_15 (by decide) ?_
  refine lv_icmp_ne (tgt := 32) hx hb dX9_state_16 (by decide) (fun h9 => absurd rfl h9) (fun _ => ?_)
  refine lv_lload_n hx hb dX9_state_19 rfl (lv_at hl 2 rfl) ?_
  refine lv_lconst (v := 0) hx hb dX9_state_20 (by decide) ?_
  refine W.lcmp hx hb dX9_state_21 ?_
  refine lv_if_ge (tgt := 32) hx hb dX9_state_22 (by decide) (fun h9 => absurd h9 (fun h => hz ((lg_cmp_ge _ _).mp h))) (fun _ => ?_)
  refine lv_aload_n hx hb dX9_state_25 rfl (lv_at hl 0 rfl) ?_
  refine lv_iconst (v := 1) hx hb dX9_state_26 (by decide) ?_
  refine mc_V (As := [.int 1]) (rest := []) (r := some (.int 0)) (T := sS (sS P 0 0) 0 1) C (k_fail hG _ _) tm_769 tm_771 tm_895 tm_3 tm_772 rfl hdX9_fail ⟨Nat.le_of_ble_eq_true rfl, Nat.le_of_ble_eq_true rfl⟩ hl.1 rfl (Nat.le_of_ble_eq_true rfl) dX9_state_27 ⟨Nat.le_of_ble_eq_true rfl, Nat.le_of_ble_eq_true rfl⟩ hP hD hS (fun H locs hP hD hS => ?_)
  refine lv_i2l (v := (0 : Int32).toInt64) hx hb dX9_state_30 rfl ?_
  exact ct_lret C hS hP hD (⟨rfl, rfl⟩) (Nat.le_of_ble_eq_true rfl) (Nat.le_of_ble_eq_true rfl) dX9_state_31
set_option maxRecDepth 100000 in
theorem k_total_0 {l : Launch} {s0 : State} {D : va_G} {cA : Nat → ClassId} {ad : Nat → Nat} (hG : cx_G l s0 D cA) {j n : Nat} (P : MS) (hn : qS P 8 = nI n) (hn8 : n ≤ 8) (hj : j < n) (hk : qI P 9 j = 0) : MC l s0 D cA ad yX9_total cX9_total 2 (some .long) rmX9_total [.int (nI j)] P (some (.long (qJ P 22 j))) (sS P 0 0) := by
  refine Ct.of (cA := cA) hG (by decide +kernel) (Nat.le_of_ble_eq_true rfl) ?_
  intro p e s m below meth c A C hnm hP hD hS ls hl
  have hx := cx_x C
  have hb := cx_b C
  have hl : lv_has ls 2 [(0, .ref (ad 0)), (1, .int (nI j))] := hl
  refine lv_aload_n hx hb dX9_total_0 rfl (lv_at hl 0 rfl) ?_
  refine lv_iconst (v := 0) hx hb dX9_total_1 (by decide) ?_
  refine pm_0 (v := 0) C hP hD hS tm_666 dX9_total_2 (fun H locs hP hD hS => ?_)
  refine lv_aload_n hx hb dX9_total_5 rfl (lv_at hl 0 rfl) ?_
  refine lv_iload_n hx hb dX9_total_6 rfl (lv_at hl 1 rfl) ?_
  refine mc_V (As := [.int (nI j)]) (rest := []) (r := some (.int 0)) (T := sS P 0 0) C (k_none_ok (n := n) hG (sS P 0 0) hn hn8 hj) tm_789 tm_791 tm_897 tm_3 tm_792 rfl hdX9_none ⟨Nat.le_of_ble_eq_true rfl, Nat.le_of_ble_eq_true rfl⟩ hl.1 rfl (Nat.le_of_ble_eq_true rfl) dX9_total_7 ⟨Nat.le_of_ble_eq_true rfl, Nat.le_of_ble_eq_true rfl⟩ hP hD hS (fun H locs hP hD hS => ?_)
  refine lv_if_eq (tgt := 20) hx hb dX9_total_10 (by decide) (fun _ => ?_) (fun h9 => absurd (by decide) h9)
  refine lv_aload_n hx hb dX9_total_20 rfl (lv_at hl 0 rfl) ?_
  refine gm_9 C hP tm_675 dX9_total_21 ?_
  refine lv_iload_n hx hb dX9_total_24 rfl (lv_at hl 1 rfl) ?_
  refine xl_9 (v := qI P 9 j) (j := j) C hP (ix8 (Nat.lt_of_lt_of_le hj hn8)) (rfl) dX9_total_25 ?_
  refine lv_if_ne (tgt := 38) hx hb dX9_total_26 (by decide) (fun h9 => absurd (hk) h9) (fun _ => ?_)
  refine lv_aload_n hx hb dX9_total_29 rfl (lv_at hl 0 rfl) ?_
  refine gm_22 C hP tm_688 dX9_total_30 ?_
  refine lv_iload_n hx hb dX9_total_33 rfl (lv_at hl 1 rfl) ?_
  refine xl_22 (v := qJ P 22 j) (j := j) C hP (ix8 (Nat.lt_of_lt_of_le hj hn8)) (rfl) dX9_total_34 ?_
  refine lv_goto (tgt := 59) hx hb dX9_total_35 (by decide) ?_
  exact ct_lret C hS hP hD (⟨rfl, rfl⟩) (Nat.le_of_ble_eq_true rfl) (Nat.le_of_ble_eq_true rfl) dX9_total_59
set_option maxRecDepth 100000 in
theorem k_total_3 {l : Launch} {s0 : State} {D : va_G} {cA : Nat → ClassId} {ad : Nat → Nat} (hG : cx_G l s0 D cA) {j n : Nat} (P : MS) (hn : qS P 8 = nI n) (hn8 : n ≤ 8) (hj : j < n) (hk : qI P 9 j = 3) : MC l s0 D cA ad yX9_total cX9_total 2 (some .long) rmX9_total [.int (nI j)] P (some (.long (qI P 25 j).toInt64)) (sS P 0 0) := by
  refine Ct.of (cA := cA) hG (by decide +kernel) (Nat.le_of_ble_eq_true rfl) ?_
  intro p e s m below meth c A C hnm hP hD hS ls hl
  have hx := cx_x C
  have hb := cx_b C
  have hl : lv_has ls 2 [(0, .ref (ad 0)), (1, .int (nI j))] := hl
  refine lv_aload_n hx hb dX9_total_0 rfl (lv_at hl 0 rfl) ?_
  refine lv_iconst (v := 0) hx hb dX9_total_1 (by decide) ?_
  refine pm_0 (v := 0) C hP hD hS tm_666 dX9_total_2 (fun H locs hP hD hS => ?_)
  refine lv_aload_n hx hb dX9_total_5 rfl (lv_at hl 0 rfl) ?_
  refine lv_iload_n hx hb dX9_total_6 rfl (lv_at hl 1 rfl) ?_
  refine mc_V (As := [.int (nI j)]) (rest := []) (r := some (.int 0)) (T := sS P 0 0) C (k_none_ok (n := n) hG (sS P 0 0) hn hn8 hj) tm_789 tm_791 tm_897 tm_3 tm_792 rfl hdX9_none ⟨Nat.le_of_ble_eq_true rfl, Nat.le_of_ble_eq_true rfl⟩ hl.1 rfl (Nat.le_of_ble_eq_true rfl) dX9_total_7 ⟨Nat.le_of_ble_eq_true rfl, Nat.le_of_ble_eq_true rfl⟩ hP hD hS (fun H locs hP hD hS => ?_)
  refine lv_if_eq (tgt := 20) hx hb dX9_total_10 (by decide) (fun _ => ?_) (fun h9 => absurd (by decide) h9)
  refine lv_aload_n hx hb dX9_total_20 rfl (lv_at hl 0 rfl) ?_
  refine gm_9 C hP tm_675 dX9_total_21 ?_
  refine lv_iload_n hx hb dX9_total_24 rfl (lv_at hl 1 rfl) ?_
  refine xl_9 (v := qI P 9 j) (j := j) C hP (ix8 (Nat.lt_of_lt_of_le hj hn8)) (rfl) dX9_total_25 ?_
  refine lv_if_ne (tgt := 38) hx hb dX9_total_26 (by decide) (fun _ => ?_) (fun h9 => absurd h9 (by rw [hk]; decide))
  refine lv_aload_n hx hb dX9_total_38 rfl (lv_at hl 0 rfl) ?_
  refine gm_9 C hP tm_675 dX9_total_39 ?_
  refine lv_iload_n hx hb dX9_total_42 rfl (lv_at hl 1 rfl) ?_
  refine xl_9 (v := qI P 9 j) (j := j) C hP (ix8 (Nat.lt_of_lt_of_le hj hn8)) (rfl) dX9_total_43 ?_
  refine lv_iconst (v := 3) hx hb dX9_total_44 (by decide) ?_
  refine lv_icmp_ne (tgt := 58) hx hb dX9_total_45 (by decide) (fun h9 => absurd (hk) h9) (fun _ => ?_)
  refine lv_aload_n hx hb dX9_total_48 rfl (lv_at hl 0 rfl) ?_
  refine gm_25 C hP tm_691 dX9_total_49 ?_
  refine lv_iload_n hx hb dX9_total_52 rfl (lv_at hl 1 rfl) ?_
  refine xl_25 (v := qI P 25 j) (j := j) C hP (ix8 (Nat.lt_of_lt_of_le hj hn8)) (rfl) dX9_total_53 ?_
  refine lv_i2l (v := (qI P 25 j).toInt64) hx hb dX9_total_54 rfl ?_
  refine lv_goto (tgt := 59) hx hb dX9_total_55 (by decide) ?_
  exact ct_lret C hS hP hD (⟨rfl, rfl⟩) (Nat.le_of_ble_eq_true rfl) (Nat.le_of_ble_eq_true rfl) dX9_total_59
set_option maxRecDepth 100000 in
theorem k_total_x {l : Launch} {s0 : State} {D : va_G} {cA : Nat → ClassId} {ad : Nat → Nat} (hG : cx_G l s0 D cA) {j n : Nat} (P : MS) (hn : qS P 8 = nI n) (hn8 : n ≤ 8) (hj : j < n) (hk : ¬ qI P 9 j = 0) (hk3 : ¬ qI P 9 j = 3) : MC l s0 D cA ad yX9_total cX9_total 2 (some .long) rmX9_total [.int (nI j)] P (some (.long 0)) (sS P 0 0) := by
  refine Ct.of (cA := cA) hG (by decide +kernel) (Nat.le_of_ble_eq_true rfl) ?_
  intro p e s m below meth c A C hnm hP hD hS ls hl
  have hx := cx_x C
  have hb := cx_b C
  have hl : lv_has ls 2 [(0, .ref (ad 0)), (1, .int (nI j))] := hl
  refine lv_aload_n hx hb dX9_total_0 rfl (lv_at hl 0 rfl) ?_
  refine lv_iconst (v := 0) hx hb dX9_total_1 (by decide) ?_
  refine pm_0 (v := 0) C hP hD hS tm_666 dX9_total_2 (fun H locs hP hD hS => ?_)
  refine lv_aload_n hx hb dX9_total_5 rfl (lv_at hl 0 rfl) ?_
  refine lv_iload_n hx hb dX9_total_6 rfl (lv_at hl 1 rfl) ?_
  refine mc_V (As := [.int (nI j)]) (rest := []) (r := some (.int 0)) (T := sS P 0 0) C (k_none_ok (n := n) hG (sS P 0 0) hn hn8 hj) tm_789 tm_791 tm_897 tm_3 tm_792 rfl hdX9_none ⟨Nat.le_of_ble_eq_true rfl, Nat.le_of_ble_eq_true rfl⟩ hl.1 rfl (Nat.le_of_ble_eq_true rfl) dX9_total_7 ⟨Nat.le_of_ble_eq_true rfl, Nat.le_of_ble_eq_true rfl⟩ hP hD hS (fun H locs hP hD hS => ?_)
  refine lv_if_eq (tgt := 20) hx hb dX9_total_10 (by decide) (fun _ => ?_) (fun h9 => absurd (by decide) h9)
  refine lv_aload_n hx hb dX9_total_20 rfl (lv_at hl 0 rfl) ?_
  refine gm_9 C hP tm_675 dX9_total_21 ?_
  refine lv_iload_n hx hb dX9_total_24 rfl (lv_at hl 1 rfl) ?_
  refine xl_9 (v := qI P 9 j) (j := j) C hP (ix8 (Nat.lt_of_lt_of_le hj hn8)) (rfl) dX9_total_25 ?_
  refine lv_if_ne (tgt := 38) hx hb dX9_total_26 (by decide) (fun _ => ?_) (fun h9 => absurd h9 (hk))
  refine lv_aload_n hx hb dX9_total_38 rfl (lv_at hl 0 rfl) ?_
  refine gm_9 C hP tm_675 dX9_total_39 ?_
  refine lv_iload_n hx hb dX9_total_42 rfl (lv_at hl 1 rfl) ?_
  refine xl_9 (v := qI P 9 j) (j := j) C hP (ix8 (Nat.lt_of_lt_of_le hj hn8)) (rfl) dX9_total_43 ?_
  refine lv_iconst (v := 3) hx hb dX9_total_44 (by decide) ?_
  refine lv_icmp_ne (tgt := 58) hx hb dX9_total_45 (by decide) (fun _ => ?_) (fun h9 => absurd h9 (hk3))
  refine lv_lconst (v := 0) hx hb dX9_total_58 (by decide) ?_
  exact ct_lret C hS hP hD (⟨rfl, rfl⟩) (Nat.le_of_ble_eq_true rfl) (Nat.le_of_ble_eq_true rfl) dX9_total_59
set_option maxRecDepth 100000 in
theorem k_level {l : Launch} {s0 : State} {D : va_G} {cA : Nat → ClassId} {ad : Nat → Nat} (hG : cx_G l s0 D cA) {j n : Nat} (P : MS) (hn : qS P 8 = nI n) (hn8 : n ≤ 8) (hj : j < n) (hk : qI P 9 j = 1) : MC l s0 D cA ad yX9_level cX9_level 2 (some .float) rmX9_level [.int (nI j)] P (some (.float (qF P j))) (sS P 0 0) := by
  refine Ct.of (cA := cA) hG (by decide +kernel) (Nat.le_of_ble_eq_true rfl) ?_
  intro p e s m below meth c A C hnm hP hD hS ls hl
  have hx := cx_x C
  have hb := cx_b C
  have hl : lv_has ls 2 [(0, .ref (ad 0)), (1, .int (nI j))] := hl
  refine lv_aload_n hx hb dX9_level_0 rfl (lv_at hl 0 rfl) ?_
  refine lv_iconst (v := 0) hx hb dX9_level_1 (by decide) ?_
  refine pm_0 (v := 0) C hP hD hS tm_666 dX9_level_2 (fun H locs hP hD hS => ?_)
  refine lv_aload_n hx hb dX9_level_5 rfl (lv_at hl 0 rfl) ?_
  refine lv_iload_n hx hb dX9_level_6 rfl (lv_at hl 1 rfl) ?_
  refine mc_V (As := [.int (nI j)]) (rest := []) (r := some (.int 0)) (T := sS P 0 0) C (k_none_ok (n := n) hG (sS P 0 0) hn hn8 hj) tm_789 tm_791 tm_897 tm_3 tm_792 rfl hdX9_none ⟨Nat.le_of_ble_eq_true rfl, Nat.le_of_ble_eq_true rfl⟩ hl.1 rfl (Nat.le_of_ble_eq_true rfl) dX9_level_7 ⟨Nat.le_of_ble_eq_true rfl, Nat.le_of_ble_eq_true rfl⟩ hP hD hS (fun H locs hP hD hS => ?_)
  refine lv_if_ne (tgt := 23) hx hb dX9_level_10 (by decide) (fun h9 => absurd rfl h9) (fun _ => ?_)
  refine lv_aload_n hx hb dX9_level_13 rfl (lv_at hl 0 rfl) ?_
  refine gm_9 C hP tm_675 dX9_level_14 ?_
  refine lv_iload_n hx hb dX9_level_17 rfl (lv_at hl 1 rfl) ?_
  refine xl_9 (v := qI P 9 j) (j := j) C hP (ix8 (Nat.lt_of_lt_of_le hj hn8)) (rfl) dX9_level_18 ?_
  refine lv_iconst (v := 1) hx hb dX9_level_19 (by decide) ?_
  refine lv_icmp_eq (tgt := 32) hx hb dX9_level_20 (by decide) (fun _ => ?_) (fun h9 => absurd (hk) h9)
  refine lv_aload_n hx hb dX9_level_32 rfl (lv_at hl 0 rfl) ?_
  refine gm_23 C hP tm_689 dX9_level_33 ?_
  refine lv_iload_n hx hb dX9_level_36 rfl (lv_at hl 1 rfl) ?_
  refine xl_23 (v := qF P j) (j := j) C hP (ix8 (Nat.lt_of_lt_of_le hj hn8)) (rfl) dX9_level_37 ?_
  exact ct_fret C hS hP hD (⟨rfl, rfl⟩) (Nat.le_of_ble_eq_true rfl) (Nat.le_of_ble_eq_true rfl) dX9_level_38
set_option maxRecDepth 100000 in
theorem k_mean {l : Launch} {s0 : State} {D : va_G} {cA : Nat → ClassId} {ad : Nat → Nat} (hG : cx_G l s0 D cA) {j n : Nat} (P : MS) (hn : qS P 8 = nI n) (hn8 : n ≤ 8) (hj : j < n) (hk : qI P 9 j = 2) : MC l s0 D cA ad yX9_mean cX9_mean 2 (some .double) rmX9_mean [.int (nI j)] P (some (.double (qD P j))) (sS P 0 0) := by
  refine Ct.of (cA := cA) hG (by decide +kernel) (Nat.le_of_ble_eq_true rfl) ?_
  intro p e s m below meth c A C hnm hP hD hS ls hl
  have hx := cx_x C
  have hb := cx_b C
  have hl : lv_has ls 2 [(0, .ref (ad 0)), (1, .int (nI j))] := hl
  refine lv_aload_n hx hb dX9_mean_0 rfl (lv_at hl 0 rfl) ?_
  refine lv_iconst (v := 0) hx hb dX9_mean_1 (by decide) ?_
  refine pm_0 (v := 0) C hP hD hS tm_666 dX9_mean_2 (fun H locs hP hD hS => ?_)
  refine lv_aload_n hx hb dX9_mean_5 rfl (lv_at hl 0 rfl) ?_
  refine lv_iload_n hx hb dX9_mean_6 rfl (lv_at hl 1 rfl) ?_
  refine mc_V (As := [.int (nI j)]) (rest := []) (r := some (.int 0)) (T := sS P 0 0) C (k_none_ok (n := n) hG (sS P 0 0) hn hn8 hj) tm_789 tm_791 tm_897 tm_3 tm_792 rfl hdX9_none ⟨Nat.le_of_ble_eq_true rfl, Nat.le_of_ble_eq_true rfl⟩ hl.1 rfl (Nat.le_of_ble_eq_true rfl) dX9_mean_7 ⟨Nat.le_of_ble_eq_true rfl, Nat.le_of_ble_eq_true rfl⟩ hP hD hS (fun H locs hP hD hS => ?_)
  refine lv_if_ne (tgt := 23) hx hb dX9_mean_10 (by decide) (fun h9 => absurd rfl h9) (fun _ => ?_)
  refine lv_aload_n hx hb dX9_mean_13 rfl (lv_at hl 0 rfl) ?_
  refine gm_9 C hP tm_675 dX9_mean_14 ?_
  refine lv_iload_n hx hb dX9_mean_17 rfl (lv_at hl 1 rfl) ?_
  refine xl_9 (v := qI P 9 j) (j := j) C hP (ix8 (Nat.lt_of_lt_of_le hj hn8)) (rfl) dX9_mean_18 ?_
  refine lv_iconst (v := 2) hx hb dX9_mean_19 (by decide) ?_
  refine lv_icmp_eq (tgt := 32) hx hb dX9_mean_20 (by decide) (fun _ => ?_) (fun h9 => absurd (hk) h9)
  refine lv_aload_n hx hb dX9_mean_32 rfl (lv_at hl 0 rfl) ?_
  refine gm_24 C hP tm_690 dX9_mean_33 ?_
  refine lv_iload_n hx hb dX9_mean_36 rfl (lv_at hl 1 rfl) ?_
  refine xl_24 (v := qD P j) (j := j) C hP (ix8 (Nat.lt_of_lt_of_le hj hn8)) (rfl) dX9_mean_37 ?_
  exact ct_dret C hS hP hD (⟨rfl, rfl⟩) (Nat.le_of_ble_eq_true rfl) (Nat.le_of_ble_eq_true rfl) dX9_mean_38
theorem nI_400 {j i : Nat} : (400 : Int32) * nI j + nI i = nI (400 * j + i) := by rw [← nI_add, ← pk_mul]; rfl
set_option maxRecDepth 100000 in
theorem k_octet {l : Launch} {s0 : State} {D : va_G} {cA : Nat → ClassId} {ad : Nat → Nat} (hG : cx_G l s0 D cA) {j n i : Nat} (P : MS) (hn : qS P 8 = nI n) (hn8 : n ≤ 8) (hj : j < n) (hk : qI P 9 j = 3) (hi : (0 : Int32) ≤ nI i ∧ nI i ≤ qI P 25 j - 1) (hi4 : i < 400) : MC l s0 D cA ad yX9_octet cX9_octet 3 (some .int) rmX9_octet [.int (nI j), .int (nI i)] P (some (.int (qI P 26 (400 * j + i)))) (sS P 0 0) := by
  refine Ct.of (cA := cA) hG (by decide +kernel) (Nat.le_of_ble_eq_true rfl) ?_
  intro p e s m below meth c A C hnm hP hD hS ls hl
  have hx := cx_x C
  have hb := cx_b C
  have hl : lv_has ls 3 [(0, .ref (ad 0)), (1, .int (nI j)), (2, .int (nI i))] := hl
  refine lv_aload_n hx hb dX9_octet_0 rfl (lv_at hl 0 rfl) ?_
  refine lv_iconst (v := 0) hx hb dX9_octet_1 (by decide) ?_
  refine pm_0 (v := 0) C hP hD hS tm_666 dX9_octet_2 (fun H locs hP hD hS => ?_)
  refine lv_aload_n hx hb dX9_octet_5 rfl (lv_at hl 0 rfl) ?_
  refine lv_iload_n hx hb dX9_octet_6 rfl (lv_at hl 1 rfl) ?_
  refine mc_V (As := [.int (nI j)]) (rest := []) (r := some (.int 0)) (T := sS P 0 0) C (k_noJ_ok (n := n) hG (sS P 0 0) hn hn8 hj hk) tm_843 tm_845 tm_905 tm_3 tm_846 rfl hdX9_noJournal ⟨Nat.le_of_ble_eq_true rfl, Nat.le_of_ble_eq_true rfl⟩ hl.1 rfl (Nat.le_of_ble_eq_true rfl) dX9_octet_7 ⟨Nat.le_of_ble_eq_true rfl, Nat.le_of_ble_eq_true rfl⟩ hP hD hS (fun H locs hP hD hS => ?_)
  refine lv_if_eq (tgt := 19) hx hb dX9_octet_10 (by decide) (fun _ => ?_) (fun h9 => absurd (by decide) h9)
  refine lv_iload_n hx hb dX9_octet_19 rfl (lv_at hl 2 rfl) ?_
  refine lv_iconst (v := 0) hx hb dX9_octet_20 (by decide) ?_
  refine lv_aload_n hx hb dX9_octet_21 rfl (lv_at hl 0 rfl) ?_
  refine gm_25 C hP tm_691 dX9_octet_22 ?_
  refine lv_iload_n hx hb dX9_octet_25 rfl (lv_at hl 1 rfl) ?_
  refine xl_25 (v := qI P 25 j) (j := j) C hP (ix8 (Nat.lt_of_lt_of_le hj hn8)) (rfl) dX9_octet_26 ?_
  refine lv_iconst (v := 1) hx hb dX9_octet_27 (by decide) ?_
  refine lv_isub hx hb dX9_octet_28 ?_
  refine ct_S0 (As := [.int (nI i), .int 0, .int ((qI P 25 j) - 1)]) (rest := []) (r := some (.int 1)) C (k_within1 hG _ _ _ (hi)) tm_762 tm_763 tm_3 tm_764 hdX9_within.2 ⟨Nat.le_of_ble_eq_true rfl, Nat.le_of_ble_eq_true rfl⟩ hl.1 rfl (Nat.le_of_ble_eq_true rfl) dX9_octet_29 ⟨Nat.le_of_ble_eq_true rfl, Nat.le_of_ble_eq_true rfl⟩ hP hD hS (fun H locs hP hD hS => ?_)
  refine lv_if_eq (tgt := 50) hx hb dX9_octet_32 (by decide) (fun h9 => absurd h9 (by decide)) (fun _ => ?_)
  refine lv_aload_n hx hb dX9_octet_35 rfl (lv_at hl 0 rfl) ?_
  refine gm_26 C hP tm_692 dX9_octet_36 ?_
  refine lv_sipush (v := 400) hx hb dX9_octet_39 (by decide) ?_
  refine lv_iload_n hx hb dX9_octet_42 rfl (lv_at hl 1 rfl) ?_
  refine lv_imul hx hb dX9_octet_43 ?_
  refine lv_iload_n hx hb dX9_octet_44 rfl (lv_at hl 2 rfl) ?_
  refine lv_iadd hx hb dX9_octet_45 ?_
  refine xl_26 (v := qI P 26 (400 * j + i)) (j := 400 * j + i) C hP (ix_eq nI_400 (by omega) (by decide)) (rfl) dX9_octet_46 ?_
  refine lv_goto (tgt := 55) hx hb dX9_octet_47 (by decide) ?_
  exact ct_iret C hS hP hD (⟨rfl, rfl⟩) (Nat.le_of_ble_eq_true rfl) (Nat.le_of_ble_eq_true rfl) dX9_octet_55
set_option maxRecDepth 100000 in
theorem k_octet_i {l : Launch} {s0 : State} {D : va_G} {cA : Nat → ClassId} {ad : Nat → Nat} (hG : cx_G l s0 D cA) {j n : Nat} {i : Int32} (P : MS) (hn : qS P 8 = nI n) (hn8 : n ≤ 8) (hj : j < n) (hk : qI P 9 j = 3) (hi : ¬ ((0 : Int32) ≤ i ∧ i ≤ qI P 25 j - 1)) : MC l s0 D cA ad yX9_octet cX9_octet 3 (some .int) rmX9_octet [.int (nI j), .int i] P (some (.int 0)) (sS (sS P 0 0) 0 2) := by
  refine Ct.of (cA := cA) hG (by decide +kernel) (Nat.le_of_ble_eq_true rfl) ?_
  intro p e s m below meth c A C hnm hP hD hS ls hl
  have hx := cx_x C
  have hb := cx_b C
  have hl : lv_has ls 3 [(0, .ref (ad 0)), (1, .int (nI j)), (2, .int i)] := hl
  refine lv_aload_n hx hb dX9_octet_0 rfl (lv_at hl 0 rfl) ?_
  refine lv_iconst (v := 0) hx hb dX9_octet_1 (by decide) ?_
  refine pm_0 (v := 0) C hP hD hS tm_666 dX9_octet_2 (fun H locs hP hD hS => ?_)
  refine lv_aload_n hx hb dX9_octet_5 rfl (lv_at hl 0 rfl) ?_
  refine lv_iload_n hx hb dX9_octet_6 rfl (lv_at hl 1 rfl) ?_
  refine mc_V (As := [.int (nI j)]) (rest := []) (r := some (.int 0)) (T := sS P 0 0) C (k_noJ_ok (n := n) hG (sS P 0 0) hn hn8 hj hk) tm_843 tm_845 tm_905 tm_3 tm_846 rfl hdX9_noJournal ⟨Nat.le_of_ble_eq_true rfl, Nat.le_of_ble_eq_true rfl⟩ hl.1 rfl (Nat.le_of_ble_eq_true rfl) dX9_octet_7 ⟨Nat.le_of_ble_eq_true rfl, Nat.le_of_ble_eq_true rfl⟩ hP hD hS (fun H locs hP hD hS => ?_)
  refine lv_if_eq (tgt := 19) hx hb dX9_octet_10 (by decide) (fun _ => ?_) (fun h9 => absurd (by decide) h9)
  refine lv_iload_n hx hb dX9_octet_19 rfl (lv_at hl 2 rfl) ?_
  refine lv_iconst (v := 0) hx hb dX9_octet_20 (by decide) ?_
  refine lv_aload_n hx hb dX9_octet_21 rfl (lv_at hl 0 rfl) ?_
  refine gm_25 C hP tm_691 dX9_octet_22 ?_
  refine lv_iload_n hx hb dX9_octet_25 rfl (lv_at hl 1 rfl) ?_
  refine xl_25 (v := qI P 25 j) (j := j) C hP (ix8 (Nat.lt_of_lt_of_le hj hn8)) (rfl) dX9_octet_26 ?_
  refine lv_iconst (v := 1) hx hb dX9_octet_27 (by decide) ?_
  refine lv_isub hx hb dX9_octet_28 ?_
  refine ct_S0 (As := [.int i, .int 0, .int ((qI P 25 j) - 1)]) (rest := []) (r := some (.int 0)) C (k_within0 hG _ _ _ (hi)) tm_762 tm_763 tm_3 tm_764 hdX9_within.2 ⟨Nat.le_of_ble_eq_true rfl, Nat.le_of_ble_eq_true rfl⟩ hl.1 rfl (Nat.le_of_ble_eq_true rfl) dX9_octet_29 ⟨Nat.le_of_ble_eq_true rfl, Nat.le_of_ble_eq_true rfl⟩ hP hD hS (fun H locs hP hD hS => ?_)
  refine lv_if_eq (tgt := 50) hx hb dX9_octet_32 (by decide) (fun _ => ?_) (fun h9 => absurd (by decide) h9)
  refine lv_aload_n hx hb dX9_octet_50 rfl (lv_at hl 0 rfl) ?_
  refine lv_iconst (v := 2) hx hb dX9_octet_51 (by decide) ?_
  refine mc_V (As := [.int 2]) (rest := []) (r := some (.int 0)) (T := sS (sS P 0 0) 0 2) C (k_fail hG _ _) tm_769 tm_771 tm_895 tm_3 tm_772 rfl hdX9_fail ⟨Nat.le_of_ble_eq_true rfl, Nat.le_of_ble_eq_true rfl⟩ hl.1 rfl (Nat.le_of_ble_eq_true rfl) dX9_octet_52 ⟨Nat.le_of_ble_eq_true rfl, Nat.le_of_ble_eq_true rfl⟩ hP hD hS (fun H locs hP hD hS => ?_)
  exact ct_iret C hS hP hD (⟨rfl, rfl⟩) (Nat.le_of_ble_eq_true rfl) (Nat.le_of_ble_eq_true rfl) dX9_octet_55
set_option maxRecDepth 100000 in
theorem k_tear {l : Launch} {s0 : State} {D : va_G} {cA : Nat → ClassId} {ad : Nat → Nat} (hG : cx_G l s0 D cA) {j n : Nat} {i : Int32} (P : MS) (hn : qS P 8 = nI n) (hn8 : n ≤ 8) (hj : j < n) (hk : qI P 9 j = 3) (hi : (0 : Int32) ≤ i ∧ i ≤ qI P 25 j) : MC l s0 D cA ad yX9_tear cX9_tear 3 (some .int) rmX9_tear [.int (nI j), .int i] P (some (.int (qI P 25 j - i))) (sI (sS P 0 0) 25 j (qI P 25 j - i)) := by
  refine Ct.of (cA := cA) hG (by decide +kernel) (Nat.le_of_ble_eq_true rfl) ?_
  intro p e s m below meth c A C hnm hP hD hS ls hl
  have hx := cx_x C
  have hb := cx_b C
  have hl : lv_has ls 3 [(0, .ref (ad 0)), (1, .int (nI j)), (2, .int i)] := hl
  refine lv_aload_n hx hb dX9_tear_0 rfl (lv_at hl 0 rfl) ?_
  refine lv_iconst (v := 0) hx hb dX9_tear_1 (by decide) ?_
  refine pm_0 (v := 0) C hP hD hS tm_666 dX9_tear_2 (fun H locs hP hD hS => ?_)
  refine lv_aload_n hx hb dX9_tear_5 rfl (lv_at hl 0 rfl) ?_
  refine lv_iload_n hx hb dX9_tear_6 rfl (lv_at hl 1 rfl) ?_
  refine mc_V (As := [.int (nI j)]) (rest := []) (r := some (.int 0)) (T := sS P 0 0) C (k_noJ_ok (n := n) hG (sS P 0 0) hn hn8 hj hk) tm_843 tm_845 tm_905 tm_3 tm_846 rfl hdX9_noJournal ⟨Nat.le_of_ble_eq_true rfl, Nat.le_of_ble_eq_true rfl⟩ hl.1 rfl (Nat.le_of_ble_eq_true rfl) dX9_tear_7 ⟨Nat.le_of_ble_eq_true rfl, Nat.le_of_ble_eq_true rfl⟩ hP hD hS (fun H locs hP hD hS => ?_)
  refine lv_if_ne (tgt := 27) hx hb dX9_tear_10 (by decide) (fun h9 => absurd rfl h9) (fun _ => ?_)
  refine lv_iload_n hx hb dX9_tear_13 rfl (lv_at hl 2 rfl) ?_
  refine lv_iconst (v := 0) hx hb dX9_tear_14 (by decide) ?_
  refine lv_aload_n hx hb dX9_tear_15 rfl (lv_at hl 0 rfl) ?_
  refine gm_25 C hP tm_691 dX9_tear_16 ?_
  refine lv_iload_n hx hb dX9_tear_19 rfl (lv_at hl 1 rfl) ?_
  refine xl_25 (v := qI P 25 j) (j := j) C hP (ix8 (Nat.lt_of_lt_of_le hj hn8)) (rfl) dX9_tear_20 ?_
  refine ct_S0 (As := [.int i, .int 0, .int (qI P 25 j)]) (rest := []) (r := some (.int 1)) C (k_within1 hG _ _ _ (hi)) tm_762 tm_763 tm_3 tm_764 hdX9_within.2 ⟨Nat.le_of_ble_eq_true rfl, Nat.le_of_ble_eq_true rfl⟩ hl.1 rfl (Nat.le_of_ble_eq_true rfl) dX9_tear_21 ⟨Nat.le_of_ble_eq_true rfl, Nat.le_of_ble_eq_true rfl⟩ hP hD hS (fun H locs hP hD hS => ?_)
  refine lv_if_ne (tgt := 33) hx hb dX9_tear_24 (by decide) (fun _ => ?_) (fun h9 => absurd h9 (by decide))
  refine lv_aload_n hx hb dX9_tear_33 rfl (lv_at hl 0 rfl) ?_
  refine gm_25 C hP tm_691 dX9_tear_34 ?_
  refine lv_iload_n hx hb dX9_tear_37 rfl (lv_at hl 1 rfl) ?_
  refine lv_dup2_11 hx hb dX9_tear_38 rfl rfl ?_
  refine xl_25 (v := qI P 25 j) (j := j) C hP (ix8 (Nat.lt_of_lt_of_le hj hn8)) (rfl) dX9_tear_39 ?_
  refine lv_iload_n hx hb dX9_tear_40 rfl (lv_at hl 2 rfl) ?_
  refine lv_isub hx hb dX9_tear_41 ?_
  refine xs_25 (x := (qI P 25 j) - i) (j := j) C hP hD hS (ix8 (Nat.lt_of_lt_of_le hj hn8)) dX9_tear_42 (fun H locs hP hD hS => ?_)
  refine lv_aload_n hx hb dX9_tear_43 rfl (lv_at hl 0 rfl) ?_
  refine gm_25 C hP tm_691 dX9_tear_44 ?_
  refine lv_iload_n hx hb dX9_tear_47 rfl (lv_at hl 1 rfl) ?_
  refine xl_25 (v := (qI P 25 j) - i) (j := j) C hP (ix8 (Nat.lt_of_lt_of_le hj hn8)) (qI_s (P := (sS P 0 0)) (k := 25) (j := j) (v := (qI P 25 j) - i)) dX9_tear_48 ?_
  exact ct_iret C hS hP hD (⟨rfl, rfl⟩) (Nat.le_of_ble_eq_true rfl) (Nat.le_of_ble_eq_true rfl) dX9_tear_49
set_option maxRecDepth 100000 in
theorem k_count_0 {l : Launch} {s0 : State} {D : va_G} {cA : Nat → ClassId} {ad : Nat → Nat} (hG : cx_G l s0 D cA) {j n : Nat} (P : MS) (hn : qS P 8 = nI n) (hn8 : n ≤ 8) (hj : j < n) : MC l s0 D cA ad yX9_count cX9_count 3 (some .int) rmX9_count [.int (nI j), .int 0] P (some (.int (qI P 15 j))) (sS P 0 0) := by
  refine Ct.of (cA := cA) hG (by decide +kernel) (Nat.le_of_ble_eq_true rfl) ?_
  intro p e s m below meth c A C hnm hP hD hS ls hl
  have hx := cx_x C
  have hb := cx_b C
  have hl : lv_has ls 3 [(0, .ref (ad 0)), (1, .int (nI j)), (2, .int 0)] := hl
  refine lv_aload_n hx hb dX9_count_0 rfl (lv_at hl 0 rfl) ?_
  refine lv_iconst (v := 0) hx hb dX9_count_1 (by decide) ?_
  refine pm_0 (v := 0) C hP hD hS tm_666 dX9_count_2 (fun H locs hP hD hS => ?_)
  refine lv_aload_n hx hb dX9_count_5 rfl (lv_at hl 0 rfl) ?_
  refine lv_iload_n hx hb dX9_count_6 rfl (lv_at hl 1 rfl) ?_
  refine mc_V (As := [.int (nI j)]) (rest := []) (r := some (.int 0)) (T := sS P 0 0) C (k_none_ok (n := n) hG (sS P 0 0) hn hn8 hj) tm_789 tm_791 tm_897 tm_3 tm_792 rfl hdX9_none ⟨Nat.le_of_ble_eq_true rfl, Nat.le_of_ble_eq_true rfl⟩ hl.1 rfl (Nat.le_of_ble_eq_true rfl) dX9_count_7 ⟨Nat.le_of_ble_eq_true rfl, Nat.le_of_ble_eq_true rfl⟩ hP hD hS (fun H locs hP hD hS => ?_)
  refine lv_if_ne (tgt := 22) hx hb dX9_count_10 (by decide) (fun h9 => absurd rfl h9) (fun _ => ?_)
  refine lv_iload_n hx hb dX9_count_13 rfl (lv_at hl 2 rfl) ?_
  refine lv_iconst (v := 0) hx hb dX9_count_14 (by decide) ?_
  refine lv_iconst (v := 3) hx hb dX9_count_15 (by decide) ?_
  refine ct_S0 (As := [.int 0, .int 0, .int 3]) (rest := []) (r := some (.int 1)) C (k_within1 hG _ _ _ (by decide)) tm_762 tm_763 tm_3 tm_764 hdX9_within.2 ⟨Nat.le_of_ble_eq_true rfl, Nat.le_of_ble_eq_true rfl⟩ hl.1 rfl (Nat.le_of_ble_eq_true rfl) dX9_count_16 ⟨Nat.le_of_ble_eq_true rfl, Nat.le_of_ble_eq_true rfl⟩ hP hD hS (fun H locs hP hD hS => ?_)
  refine lv_if_ne (tgt := 28) hx hb dX9_count_19 (by decide) (fun _ => ?_) (fun h9 => absurd h9 (by decide))
  refine lv_iload_n hx hb dX9_count_28 rfl (lv_at hl 2 rfl) ?_
  refine lv_if_ne (tgt := 41) hx hb dX9_count_29 (by decide) (fun h9 => absurd rfl h9) (fun _ => ?_)
  refine lv_aload_n hx hb dX9_count_32 rfl (lv_at hl 0 rfl) ?_
  refine gm_15 C hP tm_681 dX9_count_33 ?_
  refine lv_iload_n hx hb dX9_count_36 rfl (lv_at hl 1 rfl) ?_
  refine xl_15 (v := qI P 15 j) (j := j) C hP (ix8 (Nat.lt_of_lt_of_le hj hn8)) (rfl) dX9_count_37 ?_
  refine lv_goto (tgt := 83) hx hb dX9_count_38 (by decide) ?_
  exact ct_iret C hS hP hD (⟨rfl, rfl⟩) (Nat.le_of_ble_eq_true rfl) (Nat.le_of_ble_eq_true rfl) dX9_count_83
set_option maxRecDepth 100000 in
theorem k_count_1 {l : Launch} {s0 : State} {D : va_G} {cA : Nat → ClassId} {ad : Nat → Nat} (hG : cx_G l s0 D cA) {j n : Nat} (P : MS) (hn : qS P 8 = nI n) (hn8 : n ≤ 8) (hj : j < n) : MC l s0 D cA ad yX9_count cX9_count 3 (some .int) rmX9_count [.int (nI j), .int 1] P (some (.int (qI P 16 j))) (sS P 0 0) := by
  refine Ct.of (cA := cA) hG (by decide +kernel) (Nat.le_of_ble_eq_true rfl) ?_
  intro p e s m below meth c A C hnm hP hD hS ls hl
  have hx := cx_x C
  have hb := cx_b C
  have hl : lv_has ls 3 [(0, .ref (ad 0)), (1, .int (nI j)), (2, .int 1)] := hl
  refine lv_aload_n hx hb dX9_count_0 rfl (lv_at hl 0 rfl) ?_
  refine lv_iconst (v := 0) hx hb dX9_count_1 (by decide) ?_
  refine pm_0 (v := 0) C hP hD hS tm_666 dX9_count_2 (fun H locs hP hD hS => ?_)
  refine lv_aload_n hx hb dX9_count_5 rfl (lv_at hl 0 rfl) ?_
  refine lv_iload_n hx hb dX9_count_6 rfl (lv_at hl 1 rfl) ?_
  refine mc_V (As := [.int (nI j)]) (rest := []) (r := some (.int 0)) (T := sS P 0 0) C (k_none_ok (n := n) hG (sS P 0 0) hn hn8 hj) tm_789 tm_791 tm_897 tm_3 tm_792 rfl hdX9_none ⟨Nat.le_of_ble_eq_true rfl, Nat.le_of_ble_eq_true rfl⟩ hl.1 rfl (Nat.le_of_ble_eq_true rfl) dX9_count_7 ⟨Nat.le_of_ble_eq_true rfl, Nat.le_of_ble_eq_true rfl⟩ hP hD hS (fun H locs hP hD hS => ?_)
  refine lv_if_ne (tgt := 22) hx hb dX9_count_10 (by decide) (fun h9 => absurd rfl h9) (fun _ => ?_)
  refine lv_iload_n hx hb dX9_count_13 rfl (lv_at hl 2 rfl) ?_
  refine lv_iconst (v := 0) hx hb dX9_count_14 (by decide) ?_
  refine lv_iconst (v := 3) hx hb dX9_count_15 (by decide) ?_
  refine ct_S0 (As := [.int 1, .int 0, .int 3]) (rest := []) (r := some (.int 1)) C (k_within1 hG _ _ _ (by decide)) tm_762 tm_763 tm_3 tm_764 hdX9_within.2 ⟨Nat.le_of_ble_eq_true rfl, Nat.le_of_ble_eq_true rfl⟩ hl.1 rfl (Nat.le_of_ble_eq_true rfl) dX9_count_16 ⟨Nat.le_of_ble_eq_true rfl, Nat.le_of_ble_eq_true rfl⟩ hP hD hS (fun H locs hP hD hS => ?_)
  refine lv_if_ne (tgt := 28) hx hb dX9_count_19 (by decide) (fun _ => ?_) (fun h9 => absurd h9 (by decide))
  refine lv_iload_n hx hb dX9_count_28 rfl (lv_at hl 2 rfl) ?_
  refine lv_if_ne (tgt := 41) hx hb dX9_count_29 (by decide) (fun _ => ?_) (fun h9 => absurd h9 (by decide))
  refine lv_iload_n hx hb dX9_count_41 rfl (lv_at hl 2 rfl) ?_
  refine lv_iconst (v := 1) hx hb dX9_count_42 (by decide) ?_
  refine lv_icmp_ne (tgt := 55) hx hb dX9_count_43 (by decide) (fun h9 => absurd rfl h9) (fun _ => ?_)
  refine lv_aload_n hx hb dX9_count_46 rfl (lv_at hl 0 rfl) ?_
  refine gm_16 C hP tm_682 dX9_count_47 ?_
  refine lv_iload_n hx hb dX9_count_50 rfl (lv_at hl 1 rfl) ?_
  refine xl_16 (v := qI P 16 j) (j := j) C hP (ix8 (Nat.lt_of_lt_of_le hj hn8)) (rfl) dX9_count_51 ?_
  refine lv_goto (tgt := 83) hx hb dX9_count_52 (by decide) ?_
  exact ct_iret C hS hP hD (⟨rfl, rfl⟩) (Nat.le_of_ble_eq_true rfl) (Nat.le_of_ble_eq_true rfl) dX9_count_83
set_option maxRecDepth 100000 in
theorem k_count_2 {l : Launch} {s0 : State} {D : va_G} {cA : Nat → ClassId} {ad : Nat → Nat} (hG : cx_G l s0 D cA) {j n : Nat} (P : MS) (hn : qS P 8 = nI n) (hn8 : n ≤ 8) (hj : j < n) : MC l s0 D cA ad yX9_count cX9_count 3 (some .int) rmX9_count [.int (nI j), .int 2] P (some (.int (qI P 17 j))) (sS P 0 0) := by
  refine Ct.of (cA := cA) hG (by decide +kernel) (Nat.le_of_ble_eq_true rfl) ?_
  intro p e s m below meth c A C hnm hP hD hS ls hl
  have hx := cx_x C
  have hb := cx_b C
  have hl : lv_has ls 3 [(0, .ref (ad 0)), (1, .int (nI j)), (2, .int 2)] := hl
  refine lv_aload_n hx hb dX9_count_0 rfl (lv_at hl 0 rfl) ?_
  refine lv_iconst (v := 0) hx hb dX9_count_1 (by decide) ?_
  refine pm_0 (v := 0) C hP hD hS tm_666 dX9_count_2 (fun H locs hP hD hS => ?_)
  refine lv_aload_n hx hb dX9_count_5 rfl (lv_at hl 0 rfl) ?_
  refine lv_iload_n hx hb dX9_count_6 rfl (lv_at hl 1 rfl) ?_
  refine mc_V (As := [.int (nI j)]) (rest := []) (r := some (.int 0)) (T := sS P 0 0) C (k_none_ok (n := n) hG (sS P 0 0) hn hn8 hj) tm_789 tm_791 tm_897 tm_3 tm_792 rfl hdX9_none ⟨Nat.le_of_ble_eq_true rfl, Nat.le_of_ble_eq_true rfl⟩ hl.1 rfl (Nat.le_of_ble_eq_true rfl) dX9_count_7 ⟨Nat.le_of_ble_eq_true rfl, Nat.le_of_ble_eq_true rfl⟩ hP hD hS (fun H locs hP hD hS => ?_)
  refine lv_if_ne (tgt := 22) hx hb dX9_count_10 (by decide) (fun h9 => absurd rfl h9) (fun _ => ?_)
  refine lv_iload_n hx hb dX9_count_13 rfl (lv_at hl 2 rfl) ?_
  refine lv_iconst (v := 0) hx hb dX9_count_14 (by decide) ?_
  refine lv_iconst (v := 3) hx hb dX9_count_15 (by decide) ?_
  refine ct_S0 (As := [.int 2, .int 0, .int 3]) (rest := []) (r := some (.int 1)) C (k_within1 hG _ _ _ (by decide)) tm_762 tm_763 tm_3 tm_764 hdX9_within.2 ⟨Nat.le_of_ble_eq_true rfl, Nat.le_of_ble_eq_true rfl⟩ hl.1 rfl (Nat.le_of_ble_eq_true rfl) dX9_count_16 ⟨Nat.le_of_ble_eq_true rfl, Nat.le_of_ble_eq_true rfl⟩ hP hD hS (fun H locs hP hD hS => ?_)
  refine lv_if_ne (tgt := 28) hx hb dX9_count_19 (by decide) (fun _ => ?_) (fun h9 => absurd h9 (by decide))
  refine lv_iload_n hx hb dX9_count_28 rfl (lv_at hl 2 rfl) ?_
  refine lv_if_ne (tgt := 41) hx hb dX9_count_29 (by decide) (fun _ => ?_) (fun h9 => absurd h9 (by decide))
  refine lv_iload_n hx hb dX9_count_41 rfl (lv_at hl 2 rfl) ?_
  refine lv_iconst (v := 1) hx hb dX9_count_42 (by decide) ?_
  refine lv_icmp_ne (tgt := 55) hx hb dX9_count_43 (by decide) (fun _ => ?_) (fun h9 => absurd h9 (by decide))
  refine lv_iload_n hx hb dX9_count_55 rfl (lv_at hl 2 rfl) ?_
  refine lv_iconst (v := 2) hx hb dX9_count_56 (by decide) ?_
  refine lv_icmp_ne (tgt := 69) hx hb dX9_count_57 (by decide) (fun h9 => absurd rfl h9) (fun _ => ?_)
  refine lv_aload_n hx hb dX9_count_60 rfl (lv_at hl 0 rfl) ?_
  refine gm_17 C hP tm_683 dX9_count_61 ?_
  refine lv_iload_n hx hb dX9_count_64 rfl (lv_at hl 1 rfl) ?_
  refine xl_17 (v := qI P 17 j) (j := j) C hP (ix8 (Nat.lt_of_lt_of_le hj hn8)) (rfl) dX9_count_65 ?_
  refine lv_goto (tgt := 83) hx hb dX9_count_66 (by decide) ?_
  exact ct_iret C hS hP hD (⟨rfl, rfl⟩) (Nat.le_of_ble_eq_true rfl) (Nat.le_of_ble_eq_true rfl) dX9_count_83
set_option maxRecDepth 100000 in
theorem k_count_3 {l : Launch} {s0 : State} {D : va_G} {cA : Nat → ClassId} {ad : Nat → Nat} (hG : cx_G l s0 D cA) {j n : Nat} (P : MS) (hn : qS P 8 = nI n) (hn8 : n ≤ 8) (hj : j < n) : MC l s0 D cA ad yX9_count cX9_count 3 (some .int) rmX9_count [.int (nI j), .int 3] P (some (.int (if qI P 14 j = 0 then 0 else 1))) (sS P 0 0) := by
  refine Ct.of (cA := cA) hG (by decide +kernel) (Nat.le_of_ble_eq_true rfl) ?_
  intro p e s m below meth c A C hnm hP hD hS ls hl
  have hx := cx_x C
  have hb := cx_b C
  have hl : lv_has ls 3 [(0, .ref (ad 0)), (1, .int (nI j)), (2, .int 3)] := hl
  refine lv_aload_n hx hb dX9_count_0 rfl (lv_at hl 0 rfl) ?_
  refine lv_iconst (v := 0) hx hb dX9_count_1 (by decide) ?_
  refine pm_0 (v := 0) C hP hD hS tm_666 dX9_count_2 (fun H locs hP hD hS => ?_)
  refine lv_aload_n hx hb dX9_count_5 rfl (lv_at hl 0 rfl) ?_
  refine lv_iload_n hx hb dX9_count_6 rfl (lv_at hl 1 rfl) ?_
  refine mc_V (As := [.int (nI j)]) (rest := []) (r := some (.int 0)) (T := sS P 0 0) C (k_none_ok (n := n) hG (sS P 0 0) hn hn8 hj) tm_789 tm_791 tm_897 tm_3 tm_792 rfl hdX9_none ⟨Nat.le_of_ble_eq_true rfl, Nat.le_of_ble_eq_true rfl⟩ hl.1 rfl (Nat.le_of_ble_eq_true rfl) dX9_count_7 ⟨Nat.le_of_ble_eq_true rfl, Nat.le_of_ble_eq_true rfl⟩ hP hD hS (fun H locs hP hD hS => ?_)
  refine lv_if_ne (tgt := 22) hx hb dX9_count_10 (by decide) (fun h9 => absurd rfl h9) (fun _ => ?_)
  refine lv_iload_n hx hb dX9_count_13 rfl (lv_at hl 2 rfl) ?_
  refine lv_iconst (v := 0) hx hb dX9_count_14 (by decide) ?_
  refine lv_iconst (v := 3) hx hb dX9_count_15 (by decide) ?_
  refine ct_S0 (As := [.int 3, .int 0, .int 3]) (rest := []) (r := some (.int 1)) C (k_within1 hG _ _ _ (by decide)) tm_762 tm_763 tm_3 tm_764 hdX9_within.2 ⟨Nat.le_of_ble_eq_true rfl, Nat.le_of_ble_eq_true rfl⟩ hl.1 rfl (Nat.le_of_ble_eq_true rfl) dX9_count_16 ⟨Nat.le_of_ble_eq_true rfl, Nat.le_of_ble_eq_true rfl⟩ hP hD hS (fun H locs hP hD hS => ?_)
  refine lv_if_ne (tgt := 28) hx hb dX9_count_19 (by decide) (fun _ => ?_) (fun h9 => absurd h9 (by decide))
  refine lv_iload_n hx hb dX9_count_28 rfl (lv_at hl 2 rfl) ?_
  refine lv_if_ne (tgt := 41) hx hb dX9_count_29 (by decide) (fun _ => ?_) (fun h9 => absurd h9 (by decide))
  refine lv_iload_n hx hb dX9_count_41 rfl (lv_at hl 2 rfl) ?_
  refine lv_iconst (v := 1) hx hb dX9_count_42 (by decide) ?_
  refine lv_icmp_ne (tgt := 55) hx hb dX9_count_43 (by decide) (fun _ => ?_) (fun h9 => absurd h9 (by decide))
  refine lv_iload_n hx hb dX9_count_55 rfl (lv_at hl 2 rfl) ?_
  refine lv_iconst (v := 2) hx hb dX9_count_56 (by decide) ?_
  refine lv_icmp_ne (tgt := 69) hx hb dX9_count_57 (by decide) (fun _ => ?_) (fun h9 => absurd h9 (by decide))
  refine lv_aload_n hx hb dX9_count_69 rfl (lv_at hl 0 rfl) ?_
  refine gm_14 C hP tm_680 dX9_count_70 ?_
  refine lv_iload_n hx hb dX9_count_73 rfl (lv_at hl 1 rfl) ?_
  refine xl_14 (v := qI P 14 j) (j := j) C hP (ix8 (Nat.lt_of_lt_of_le hj hn8)) (rfl) dX9_count_74 ?_
  refine lv_if_eq (tgt := 82) hx hb dX9_count_75 (by decide) (fun ch => ?_) (fun ch => ?_)
  · refine lv_iconst (v := 0) hx hb dX9_count_82 (by decide) ?_
    exact ct_iret C hS hP hD (⟨by rw [if_pos ch], rfl⟩) (Nat.le_of_ble_eq_true rfl) (Nat.le_of_ble_eq_true rfl) dX9_count_83
  refine lv_iconst (v := 1) hx hb dX9_count_78 (by decide) ?_
  refine lv_goto (tgt := 83) hx hb dX9_count_79 (by decide) ?_
  exact ct_iret C hS hP hD (⟨by rw [if_neg ch], rfl⟩) (Nat.le_of_ble_eq_true rfl) (Nat.le_of_ble_eq_true rfl) dX9_count_83
set_option maxRecDepth 100000 in
theorem k_state_0 {l : Launch} {s0 : State} {D : va_G} {cA : Nat → ClassId} {ad : Nat → Nat} (hG : cx_G l s0 D cA) (z : Int64) (P : MS) : MC l s0 D cA ad yX9_state cX9_state 4 (some .long) rmX9_state [.int 0, .long z] P (some (.long (qS P 3).toInt64)) (sS P 0 0) := by
  refine Ct.of (cA := cA) hG (by decide +kernel) (Nat.le_of_ble_eq_true rfl) ?_
  intro p e s m below meth c A C hnm hP hD hS ls hl
  have hx := cx_x C
  have hb := cx_b C
  have hl : lv_has ls 4 [(0, .ref (ad 0)), (1, .int 0), (2, .long z)] := hl
  refine lv_aload_n hx hb dX9_state_0 rfl (lv_at hl 0 rfl) ?_
  refine lv_iconst (v := 0) hx hb dX9_state_1 (by decide) ?_
  refine pm_0 (v := 0) C hP hD hS tm_666 dX9_state_2 (fun H locs hP hD hS => ?_)
  refine lv_iload_n hx hb dX9_state_5 rfl (lv_at hl 1 rfl) ?_
  refine lv_iconst (v := 0) hx hb dX9_state_6 (by decide) ?_
  refine lv_iconst (v := 2) hx hb dX9_state_7 (by decide) ?_
  refine ct_S0 (As := [.int 0, .int 0, .int 2]) (rest := []) (r := some (.int 1)) C (k_within1 hG _ _ _ (by decide)) tm_762 tm_763 tm_3 tm_764 hdX9_within.2 ⟨Nat.le_of_ble_eq_true rfl, Nat.le_of_ble_eq_true rfl⟩ hl.1 rfl (Nat.le_of_ble_eq_true rfl) dX9_state_8 ⟨Nat.le_of_ble_eq_true rfl, Nat.le_of_ble_eq_true rfl⟩ hP hD hS (fun H locs hP hD hS => ?_)
  refine lv_if_eq (tgt := 25) hx hb dX9_state_11 (by decide) (fun h9 => absurd h9 (by decide)) (fun _ => ?_)
  refine lv_iload_n hx hb dX9_state_14 rfl (lv_at hl 1 rfl) ?_
  refine lv_iconst (v := 2) hx hb dX9_state_15 (by decide) ?_
  refine lv_icmp_ne (tgt := 32) hx hb dX9_state_16 (by decide) (fun _ => ?_) (fun h9 => absurd h9 (by decide))
  refine lv_iload_n hx hb dX9_state_32 rfl (lv_at hl 1 rfl) ?_
  refine lv_if_ne (tgt := 44) hx hb dX9_state_33 (by decide) (fun h9 => absurd rfl h9) (fun _ => ?_)
  refine lv_aload_n hx hb dX9_state_36 rfl (lv_at hl 0 rfl) ?_
  refine gm_3 (v := qS P 3) C hP rfl tm_669 dX9_state_37 ?_
  refine lv_i2l (v := (qS P 3).toInt64) hx hb dX9_state_40 rfl ?_
  refine lv_goto (tgt := 71) hx hb dX9_state_41 (by decide) ?_
  exact ct_lret C hS hP hD (⟨rfl, rfl⟩) (Nat.le_of_ble_eq_true rfl) (Nat.le_of_ble_eq_true rfl) dX9_state_71
set_option maxRecDepth 100000 in
theorem k_state_1 {l : Launch} {s0 : State} {D : va_G} {cA : Nat → ClassId} {ad : Nat → Nat} (hG : cx_G l s0 D cA) (z : Int64) (P : MS) : MC l s0 D cA ad yX9_state cX9_state 4 (some .long) rmX9_state [.int 1, .long z] P (some (.long (qS P 4).toInt64)) (sS P 0 0) := by
  refine Ct.of (cA := cA) hG (by decide +kernel) (Nat.le_of_ble_eq_true rfl) ?_
  intro p e s m below meth c A C hnm hP hD hS ls hl
  have hx := cx_x C
  have hb := cx_b C
  have hl : lv_has ls 4 [(0, .ref (ad 0)), (1, .int 1), (2, .long z)] := hl
  refine lv_aload_n hx hb dX9_state_0 rfl (lv_at hl 0 rfl) ?_
  refine lv_iconst (v := 0) hx hb dX9_state_1 (by decide) ?_
  refine pm_0 (v := 0) C hP hD hS tm_666 dX9_state_2 (fun H locs hP hD hS => ?_)
  refine lv_iload_n hx hb dX9_state_5 rfl (lv_at hl 1 rfl) ?_
  refine lv_iconst (v := 0) hx hb dX9_state_6 (by decide) ?_
  refine lv_iconst (v := 2) hx hb dX9_state_7 (by decide) ?_
  refine ct_S0 (As := [.int 1, .int 0, .int 2]) (rest := []) (r := some (.int 1)) C (k_within1 hG _ _ _ (by decide)) tm_762 tm_763 tm_3 tm_764 hdX9_within.2 ⟨Nat.le_of_ble_eq_true rfl, Nat.le_of_ble_eq_true rfl⟩ hl.1 rfl (Nat.le_of_ble_eq_true rfl) dX9_state_8 ⟨Nat.le_of_ble_eq_true rfl, Nat.le_of_ble_eq_true rfl⟩ hP hD hS (fun H locs hP hD hS => ?_)
  refine lv_if_eq (tgt := 25) hx hb dX9_state_11 (by decide) (fun h9 => absurd h9 (by decide)) (fun _ => ?_)
  refine lv_iload_n hx hb dX9_state_14 rfl (lv_at hl 1 rfl) ?_
  refine lv_iconst (v := 2) hx hb dX9_state_15 (by decide) ?_
  refine lv_icmp_ne (tgt := 32) hx hb dX9_state_16 (by decide) (fun _ => ?_) (fun h9 => absurd h9 (by decide))
  refine lv_iload_n hx hb dX9_state_32 rfl (lv_at hl 1 rfl) ?_
  refine lv_if_ne (tgt := 44) hx hb dX9_state_33 (by decide) (fun _ => ?_) (fun h9 => absurd h9 (by decide))
  refine lv_iload_n hx hb dX9_state_44 rfl (lv_at hl 1 rfl) ?_
  refine lv_iconst (v := 1) hx hb dX9_state_45 (by decide) ?_
  refine lv_icmp_ne (tgt := 57) hx hb dX9_state_46 (by decide) (fun h9 => absurd rfl h9) (fun _ => ?_)
  refine lv_aload_n hx hb dX9_state_49 rfl (lv_at hl 0 rfl) ?_
  refine gm_4 (v := qS P 4) C hP rfl tm_670 dX9_state_50 ?_
  refine lv_i2l (v := (qS P 4).toInt64) hx hb dX9_state_53 rfl ?_
  refine lv_goto (tgt := 71) hx hb dX9_state_54 (by decide) ?_
  exact ct_lret C hS hP hD (⟨rfl, rfl⟩) (Nat.le_of_ble_eq_true rfl) (Nat.le_of_ble_eq_true rfl) dX9_state_71
set_option maxRecDepth 100000 in
theorem k_state_2 {l : Launch} {s0 : State} {D : va_G} {cA : Nat → ClassId} {ad : Nat → Nat} (hG : cx_G l s0 D cA) {z : Int64} {i : Nat} (P : MS) (hz : (0 : Int64) ≤ z) (hne : ¬ (qS P 1).toInt64 = 0) (hi : ix (z - z / (qS P 1).toInt64 * (qS P 1).toInt64).toInt32 16 i) : MC l s0 D cA ad yX9_state cX9_state 4 (some .long) rmX9_state [.int 2, .long z] P (some (.long (qI P 7 i).toInt64)) (sS P 0 0) := by
  refine Ct.of (cA := cA) hG (by decide +kernel) (Nat.le_of_ble_eq_true rfl) ?_
  intro p e s m below meth c A C hnm hP hD hS ls hl
  have hx := cx_x C
  have hb := cx_b C
  have hl : lv_has ls 4 [(0, .ref (ad 0)), (1, .int 2), (2, .long z)] := hl
  refine lv_aload_n hx hb dX9_state_0 rfl (lv_at hl 0 rfl) ?_
  refine lv_iconst (v := 0) hx hb dX9_state_1 (by decide) ?_
  refine pm_0 (v := 0) C hP hD hS tm_666 dX9_state_2 (fun H locs hP hD hS => ?_)
  refine lv_iload_n hx hb dX9_state_5 rfl (lv_at hl 1 rfl) ?_
  refine lv_iconst (v := 0) hx hb dX9_state_6 (by decide) ?_
  refine lv_iconst (v := 2) hx hb dX9_state_7 (by decide) ?_
  refine ct_S0 (As := [.int 2, .int 0, .int 2]) (rest := []) (r := some (.int 1)) C (k_within1 hG _ _ _ (by decide)) tm_762 tm_763 tm_3 tm_764 hdX9_within.2 ⟨Nat.le_of_ble_eq_true rfl, Nat.le_of_ble_eq_true rfl⟩ hl.1 rfl (Nat.le_of_ble_eq_true rfl) dX9_state_8 ⟨Nat.le_of_ble_eq_true rfl, Nat.le_of_ble_eq_true rfl⟩ hP hD hS (fun H locs hP hD hS => ?_)
  refine lv_if_eq (tgt := 25) hx hb dX9_state_11 (by decide) (fun h9 => absurd h9 (by decide)) (fun _ => ?_)
  refine lv_iload_n hx hb dX9_state_14 rfl (lv_at hl 1 rfl) ?_
  refine lv_iconst (v := 2) hx hb dX9_state_15 (by decide) ?_
  refine lv_icmp_ne (tgt := 32) hx hb dX9_state_16 (by decide) (fun h9 => absurd rfl h9) (fun _ => ?_)
  refine lv_lload_n hx hb dX9_state_19 rfl (lv_at hl 2 rfl) ?_
  refine lv_lconst (v := 0) hx hb dX9_state_20 (by decide) ?_
  refine W.lcmp hx hb dX9_state_21 ?_
  refine lv_if_ge (tgt := 32) hx hb dX9_state_22 (by decide) (fun _ => ?_) (fun h9 => absurd ((lg_cmp_ge _ _).mpr hz) h9)
  refine lv_iload_n hx hb dX9_state_32 rfl (lv_at hl 1 rfl) ?_
  refine lv_if_ne (tgt := 44) hx hb dX9_state_33 (by decide) (fun _ => ?_) (fun h9 => absurd h9 (by decide))
  refine lv_iload_n hx hb dX9_state_44 rfl (lv_at hl 1 rfl) ?_
  refine lv_iconst (v := 1) hx hb dX9_state_45 (by decide) ?_
  refine lv_icmp_ne (tgt := 57) hx hb dX9_state_46 (by decide) (fun _ => ?_) (fun h9 => absurd h9 (by decide))
  refine lv_aload_n hx hb dX9_state_57 rfl (lv_at hl 0 rfl) ?_
  refine gm_7 C hP tm_673 dX9_state_58 ?_
  refine lv_lload_n hx hb dX9_state_61 rfl (lv_at hl 2 rfl) ?_
  refine lv_aload_n hx hb dX9_state_62 rfl (lv_at hl 0 rfl) ?_
  refine gm_1 (v := qS P 1) C hP rfl tm_667 dX9_state_63 ?_
  refine lv_i2l (v := (qS P 1).toInt64) hx hb dX9_state_66 rfl ?_
  refine lv_lrem hx hb dX9_state_67 (hne) ?_
  refine lv_l2i (v := (z - z / ((qS P 1).toInt64) * ((qS P 1).toInt64)).toInt32) hx hb dX9_state_68 rfl ?_
  refine xl_7 (v := qI P 7 i) (j := i) C hP (hi) (rfl) dX9_state_69 ?_
  refine lv_i2l (v := (qI P 7 i).toInt64) hx hb dX9_state_70 rfl ?_
  exact ct_lret C hS hP hD (⟨rfl, rfl⟩) (Nat.le_of_ble_eq_true rfl) (Nat.le_of_ble_eq_true rfl) dX9_state_71
