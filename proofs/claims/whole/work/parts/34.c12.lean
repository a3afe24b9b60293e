/-! ===== the class: the rest of its methods, where they do not throw ===== -/
abbrev rmX8_level : Room := { frames := 2, cells := 0, slots := 0, locals := 44 }
abbrev rmX8_mean : Room := { frames := 2, cells := 0, slots := 0, locals := 44 }
abbrev rmX8_journalOf : Room := { frames := 2, cells := 0, slots := 0, locals := 44 }
set_option maxRecDepth 100000 in
theorem c_level {l : Launch} {s0 : State} {D : va_G} {cA : Nat → ClassId} (hG : cx_G l s0 D cA) {S : Mem} {x r ca pa n : Nat} {A1 : Nat → Nat} {j hd : Nat}  (h : plA S x r ca pa n A1) (hj : j < n) (hd0 : mR S 0 (A1 j) = some hd) (h1 : hd ∈ mL S) (h2 : mK S hd = 5) : PC l s0 D cA yX8_level cX8_level 4 (some .float) rmX8_level [.ref x, .int (nI j)] S (some (.float (mF S 0 hd))) (fun S1 => S1 = S) := by
  refine Ct.of (cA := cA) hG (by decide +kernel) (Nat.le_of_ble_eq_true rfl) ?_
  intro p e s m below meth c A C hnm hP hD hS ls hl
  have hx := cx_x C
  have hb := cx_b C
  have hl : lv_has ls 4 [(0, .ref x), (1, .int (nI j))] := hl
  refine lv_aload_n hx hb dX8_level_0 rfl (lv_at hl 0 rfl) ?_
  refine lv_iload_n hx hb dX8_level_1 rfl (lv_at hl 1 rfl) ?_
  refine pc_V (As := [.int (nI j)]) (rest := []) (r := some (.ref (A1 j))) C (c_exist (S := S) hG h hj) tm_430 tm_432 tm_882 tm_1 tm_433 hdX8_existing ⟨Nat.le_of_ble_eq_true rfl, Nat.le_of_ble_eq_true rfl⟩ (rcv_8 C hP h.1.1 h.1.2) hl.1 rfl (Nat.le_of_ble_eq_true rfl) dX8_level_2 ⟨Nat.le_of_ble_eq_true rfl, Nat.le_of_ble_eq_true rfl⟩ hP hD hS (fun S1 H locs hQ hP hD hS => ?_)
  rw [hQ] at hP hD
  refine gf_0_0s (b := hd) C hP (h.2.2.2.2.2.2 j (hj)).2.1 (h.2.2.2.2.2.2 j (hj)).2.2 (hd0) tm_288 dX8_level_5 ?_
  refine lv_astore_n (lv' := [(3, .ref hd), (0, .ref x), (1, .int (nI j))]) hx hb dX8_level_8 rfl hl (by decide) rfl (fun ls hl => ?_)
  refine lv_aload_n hx hb dX8_level_9 rfl (lv_at hl 0 rfl) ?_
  refine va_instY (C := "RingPipeline$Smooth") hx hb (cx_own C) (cx_t C _ tm_207) (cx_cast C tn_873) (rcv_6 C hP h1 h2) dX8_level_10 ?_
  refine lv_if_eq (tgt := 26) hx hb dX8_level_13 (by decide) (fun h9 => absurd h9 (by decide)) (fun _ => ?_)
  refine lv_aload_n hx hb dX8_level_16 rfl (lv_at hl 0 rfl) ?_
  refine va_castY (C := "RingPipeline$Smooth") hx hb (cx_own C) (cx_t C _ tm_207) (cx_cast C tn_873) (rcv_6 C hP h1 h2) dX8_level_17 ?_
  refine lv_astore_n (lv' := [(2, .ref hd), (3, .ref hd), (0, .ref x), (1, .int (nI j))]) hx hb dX8_level_20 rfl hl (by decide) rfl (fun ls hl => ?_)
  refine lv_aload_n hx hb dX8_level_21 rfl (lv_at hl 0 rfl) ?_
  refine gv_6_0 (v := mF S 0 hd) C hP h1 h2 (rfl) tm_214 dX8_level_22 ?_
  exact ct_fret C hS hP hD (⟨rfl, _, rfl, rfl⟩) (Nat.le_of_ble_eq_true rfl) (Nat.le_of_ble_eq_true rfl) dX8_level_25
set_option maxRecDepth 100000 in
theorem c_mean {l : Launch} {s0 : State} {D : va_G} {cA : Nat → ClassId} (hG : cx_G l s0 D cA) {S : Mem} {x r ca pa n : Nat} {A1 : Nat → Nat} {j hd : Nat}  (h : plA S x r ca pa n A1) (hj : j < n) (hd0 : mR S 0 (A1 j) = some hd) (h1 : hd ∈ mL S) (h2 : mK S hd = 2) : PC l s0 D cA yX8_mean cX8_mean 4 (some .double) rmX8_mean [.ref x, .int (nI j)] S (some (.double (mE S 0 hd))) (fun S1 => S1 = S) := by
  refine Ct.of (cA := cA) hG (by decide +kernel) (Nat.le_of_ble_eq_true rfl) ?_
  intro p e s m below meth c A C hnm hP hD hS ls hl
  have hx := cx_x C
  have hb := cx_b C
  have hl : lv_has ls 4 [(0, .ref x), (1, .int (nI j))] := hl
  refine lv_aload_n hx hb dX8_mean_0 rfl (lv_at hl 0 rfl) ?_
  refine lv_iload_n hx hb dX8_mean_1 rfl (lv_at hl 1 rfl) ?_
  refine pc_V (As := [.int (nI j)]) (rest := []) (r := some (.ref (A1 j))) C (c_exist (S := S) hG h hj) tm_430 tm_432 tm_882 tm_1 tm_433 hdX8_existing ⟨Nat.le_of_ble_eq_true rfl, Nat.le_of_ble_eq_true rfl⟩ (rcv_8 C hP h.1.1 h.1.2) hl.1 rfl (Nat.le_of_ble_eq_true rfl) dX8_mean_2 ⟨Nat.le_of_ble_eq_true rfl, Nat.le_of_ble_eq_true rfl⟩ hP hD hS (fun S1 H locs hQ hP hD hS => ?_)
  rw [hQ] at hP hD
  refine gf_0_0s (b := hd) C hP (h.2.2.2.2.2.2 j (hj)).2.1 (h.2.2.2.2.2.2 j (hj)).2.2 (hd0) tm_288 dX8_mean_5 ?_
  refine lv_astore_n (lv' := [(3, .ref hd), (0, .ref x), (1, .int (nI j))]) hx hb dX8_mean_8 rfl hl (by decide) rfl (fun ls hl => ?_)
  refine lv_aload_n hx hb dX8_mean_9 rfl (lv_at hl 0 rfl) ?_
  refine va_instY (C := "RingPipeline$Mean") hx hb (cx_own C) (cx_t C _ tm_221) (cx_cast C tn_874) (rcv_3 C hP h1 h2) dX8_mean_10 ?_
  refine lv_if_eq (tgt := 26) hx hb dX8_mean_13 (by decide) (fun h9 => absurd h9 (by decide)) (fun _ => ?_)
  refine lv_aload_n hx hb dX8_mean_16 rfl (lv_at hl 0 rfl) ?_
  refine va_castY (C := "RingPipeline$Mean") hx hb (cx_own C) (cx_t C _ tm_221) (cx_cast C tn_874) (rcv_3 C hP h1 h2) dX8_mean_17 ?_
  refine lv_astore_n (lv' := [(2, .ref hd), (3, .ref hd), (0, .ref x), (1, .int (nI j))]) hx hb dX8_mean_20 rfl hl (by decide) rfl (fun ls hl => ?_)
  refine lv_aload_n hx hb dX8_mean_21 rfl (lv_at hl 0 rfl) ?_
  refine gv_3_0 (v := mE S 0 hd) C hP h1 h2 (rfl) tm_228 dX8_mean_22 ?_
  exact ct_dret C hS hP hD (⟨rfl, _, rfl, rfl⟩) (Nat.le_of_ble_eq_true rfl) (Nat.le_of_ble_eq_true rfl) dX8_mean_25
set_option maxRecDepth 100000 in
theorem c_journalOf {l : Launch} {s0 : State} {D : va_G} {cA : Nat → ClassId} (hG : cx_G l s0 D cA) {S : Mem} {x r ca pa n : Nat} {A1 : Nat → Nat} {j hd : Nat}  (h : plA S x r ca pa n A1) (hj : j < n) (hd0 : mR S 0 (A1 j) = some hd) (h1 : hd ∈ mL S) (h2 : mK S hd = 1) : PC l s0 D cA yX8_journalOf cX8_journalOf 4 (some (.object "RingPipeline$Journal")) rmX8_journalOf [.ref x, .int (nI j)] S (some (.ref hd)) (fun S1 => S1 = S) := by
  refine Ct.of (cA := cA) hG (by decide +kernel) (Nat.le_of_ble_eq_true rfl) ?_
  intro p e s m below meth c A C hnm hP hD hS ls hl
  have hx := cx_x C
  have hb := cx_b C
  have hl : lv_has ls 4 [(0, .ref x), (1, .int (nI j))] := hl
  refine lv_aload_n hx hb dX8_journalOf_0 rfl (lv_at hl 0 rfl) ?_
  refine lv_iload_n hx hb dX8_journalOf_1 rfl (lv_at hl 1 rfl) ?_
  refine pc_V (As := [.int (nI j)]) (rest := []) (r := some (.ref (A1 j))) C (c_exist (S := S) hG h hj) tm_430 tm_432 tm_882 tm_1 tm_433 hdX8_existing ⟨Nat.le_of_ble_eq_true rfl, Nat.le_of_ble_eq_true rfl⟩ (rcv_8 C hP h.1.1 h.1.2) hl.1 rfl (Nat.le_of_ble_eq_true rfl) dX8_journalOf_2 ⟨Nat.le_of_ble_eq_true rfl, Nat.le_of_ble_eq_true rfl⟩ hP hD hS (fun S1 H locs hQ hP hD hS => ?_)
  rw [hQ] at hP hD
  refine gf_0_0s (b := hd) C hP (h.2.2.2.2.2.2 j (hj)).2.1 (h.2.2.2.2.2.2 j (hj)).2.2 (hd0) tm_288 dX8_journalOf_5 ?_
  refine lv_astore_n (lv' := [(3, .ref hd), (0, .ref x), (1, .int (nI j))]) hx hb dX8_journalOf_8 rfl hl (by decide) rfl (fun ls hl => ?_)
  refine lv_aload_n hx hb dX8_journalOf_9 rfl (lv_at hl 0 rfl) ?_
  refine va_instY (C := "RingPipeline$Journal") hx hb (cx_own C) (cx_t C _ tm_241) (cx_cast C tn_875) (rcv_2 C hP h1 h2) dX8_journalOf_10 ?_
  refine lv_if_eq (tgt := 23) hx hb dX8_journalOf_13 (by decide) (fun h9 => absurd h9 (by decide)) (fun _ => ?_)
  refine lv_aload_n hx hb dX8_journalOf_16 rfl (lv_at hl 0 rfl) ?_
  refine va_castY (C := "RingPipeline$Journal") hx hb (cx_own C) (cx_t C _ tm_241) (cx_cast C tn_875) (rcv_2 C hP h1 h2) dX8_journalOf_17 ?_
  refine lv_astore_n (lv' := [(2, .ref hd), (3, .ref hd), (0, .ref x), (1, .int (nI j))]) hx hb dX8_journalOf_20 rfl hl (by decide) rfl (fun ls hl => ?_)
  refine lv_aload_n hx hb dX8_journalOf_21 rfl (lv_at hl 0 rfl) ?_
  exact ct_aret (r := some hd) C hS hP hD (⟨rfl, _, rfl, rfl⟩) (Nat.le_of_ble_eq_true rfl) (Nat.le_of_ble_eq_true rfl) dX8_journalOf_22
abbrev rmX8_octet : Room := { frames := 3, cells := 0, slots := 0, locals := 67 }
abbrev rmX8_tear : Room := { frames := 3, cells := 0, slots := 0, locals := 67 }
abbrev rmX8_replay : Room := { frames := 4, cells := 0, slots := 0, locals := 87 }
set_option maxRecDepth 100000 in
theorem c_octet {l : Launch} {s0 : State} {D : va_G} {cA : Nat → ClassId} (hG : cx_G l s0 D cA) {S : Mem} {x r ca pa n : Nat} {A1 : Nat → Nat} {j hd b z i : Nat}  (h : plA S x r ca pa n A1) (hj : j < n) (hd0 : mR S 0 (A1 j) = some hd) (hJ : jrA S hd b z) (hz : z ≤ 400) (hi : i < z) (hw : (0 : Int32) ≤ nI i ∧ nI i ≤ nI z - 1) : PC l s0 D cA yX8_octet cX8_octet 4 (some .int) rmX8_octet [.ref x, .int (nI j), .int (nI i)] S (some (.int (byf S b i))) (fun S1 => S1 = S) := by
  refine Ct.of (cA := cA) hG (by decide +kernel) (Nat.le_of_ble_eq_true rfl) ?_
  intro p e s m below meth c A C hnm hP hD hS ls hl
  have hx := cx_x C
  have hb := cx_b C
  have hl : lv_has ls 4 [(0, .ref x), (1, .int (nI j)), (2, .int (nI i))] := hl
  refine lv_aload_n hx hb dX8_octet_0 rfl (lv_at hl 0 rfl) ?_
  refine lv_iload_n hx hb dX8_octet_1 rfl (lv_at hl 1 rfl) ?_
  refine pc_V (As := [.int (nI j)]) (rest := []) (r := some (.ref hd)) C (c_journalOf (S := S) hG h hj hd0 hJ.1.1 hJ.1.2) tm_587 tm_589 tm_891 tm_1 tm_590 hdX8_journalOf ⟨Nat.le_of_ble_eq_true rfl, Nat.le_of_ble_eq_true rfl⟩ (rcv_8 C hP h.1.1 h.1.2) hl.1 rfl (Nat.le_of_ble_eq_true rfl) dX8_octet_2 ⟨Nat.le_of_ble_eq_true rfl, Nat.le_of_ble_eq_true rfl⟩ hP hD hS (fun S1 H locs hQ hP hD hS => ?_)
  rw [hQ] at hP hD
  refine lv_astore_n (lv' := [(3, .ref hd), (0, .ref x), (1, .int (nI j)), (2, .int (nI i))]) hx hb dX8_octet_5 rfl hl (by decide) rfl (fun ls hl => ?_)
  refine lv_iload_n hx hb dX8_octet_6 rfl (lv_at hl 3 rfl) ?_
  refine lv_iconst (v := 0) hx hb dX8_octet_7 (by decide) ?_
  refine lv_aload_n hx hb dX8_octet_8 rfl (lv_at hl 0 rfl) ?_
  refine gv_2_1 (v := nI z) C hP hJ.1.1 hJ.1.2 (hJ.2.2.2) tm_249 dX8_octet_9 ?_
  refine lv_iconst (v := 1) hx hb dX8_octet_12 (by decide) ?_
  refine lv_isub hx hb dX8_octet_13 ?_
  refine ct_S0 (As := [.int (nI i), .int 0, .int ((nI z) - 1)]) (rest := []) (r := some (.int 1)) C (w8_1 hG _ _ _ (hw)) tm_93 tm_94 tm_1 tm_95 hdX8_isWithin.2 ⟨Nat.le_of_ble_eq_true rfl, Nat.le_of_ble_eq_true rfl⟩ hl.1 rfl (Nat.le_of_ble_eq_true rfl) dX8_octet_14 ⟨Nat.le_of_ble_eq_true rfl, Nat.le_of_ble_eq_true rfl⟩ hP hD hS (fun H locs hP hD hS => ?_)
  refine lv_if_ne (tgt := 30) hx hb dX8_octet_17 (by decide) (fun _ => ?_) (fun h9 => absurd h9 (by decide))
  refine lv_aload_n hx hb dX8_octet_30 rfl (lv_at hl 0 rfl) ?_
  refine lv_iload_n hx hb dX8_octet_31 rfl (lv_at hl 3 rfl) ?_
  refine pc_V (As := [.int (nI i)]) (rest := []) (r := some (.int (byf S b i))) C (c_byteAt (S := S) hG i hJ hi hz) tm_608 tm_492 tm_493 tm_14 tm_494 hdX2_byteAt ⟨Nat.le_of_ble_eq_true rfl, Nat.le_of_ble_eq_true rfl⟩ (rcv_2 C hP hJ.1.1 hJ.1.2) hl.1 rfl (Nat.le_of_ble_eq_true rfl) dX8_octet_32 ⟨Nat.le_of_ble_eq_true rfl, Nat.le_of_ble_eq_true rfl⟩ hP hD hS (fun S2 H locs hQ hP hD hS => ?_)
  rw [hQ] at hP hD
  exact ct_iret C hS hP hD (⟨rfl, _, rfl, rfl⟩) (Nat.le_of_ble_eq_true rfl) (Nat.le_of_ble_eq_true rfl) dX8_octet_35
set_option maxRecDepth 100000 in
theorem c_tear {l : Launch} {s0 : State} {D : va_G} {cA : Nat → ClassId} (hG : cx_G l s0 D cA) {S : Mem} {x r ca pa n : Nat} {A1 : Nat → Nat} {j hd b z : Nat} (k : Int32)  (h : plA S x r ca pa n A1) (hj : j < n) (hd0 : mR S 0 (A1 j) = some hd) (hJ : jrA S hd b z) (hw : (0 : Int32) ≤ k ∧ k ≤ nI z) : PC l s0 D cA yX8_tear cX8_tear 4 (some .int) rmX8_tear [.ref x, .int (nI j), .int k] S (some (.int (nI z - k))) (fun S1 => S1 = uI S 1 hd (nI z - k)) := by
  refine Ct.of (cA := cA) hG (by decide +kernel) (Nat.le_of_ble_eq_true rfl) ?_
  intro p e s m below meth c A C hnm hP hD hS ls hl
  have hx := cx_x C
  have hb := cx_b C
  have hl : lv_has ls 4 [(0, .ref x), (1, .int (nI j)), (2, .int k)] := hl
  refine lv_aload_n hx hb dX8_tear_0 rfl (lv_at hl 0 rfl) ?_
  refine lv_iload_n hx hb dX8_tear_1 rfl (lv_at hl 1 rfl) ?_
  refine pc_V (As := [.int (nI j)]) (rest := []) (r := some (.ref hd)) C (c_journalOf (S := S) hG h hj hd0 hJ.1.1 hJ.1.2) tm_587 tm_589 tm_891 tm_1 tm_590 hdX8_journalOf ⟨Nat.le_of_ble_eq_true rfl, Nat.le_of_ble_eq_true rfl⟩ (rcv_8 C hP h.1.1 h.1.2) hl.1 rfl (Nat.le_of_ble_eq_true rfl) dX8_tear_2 ⟨Nat.le_of_ble_eq_true rfl, Nat.le_of_ble_eq_true rfl⟩ hP hD hS (fun S1 H locs hQ hP hD hS => ?_)
  rw [hQ] at hP hD
  refine lv_astore_n (lv' := [(3, .ref hd), (0, .ref x), (1, .int (nI j)), (2, .int k)]) hx hb dX8_tear_5 rfl hl (by decide) rfl (fun ls hl => ?_)
  refine lv_iload_n hx hb dX8_tear_6 rfl (lv_at hl 3 rfl) ?_
  refine lv_iconst (v := 0) hx hb dX8_tear_7 (by decide) ?_
  refine lv_aload_n hx hb dX8_tear_8 rfl (lv_at hl 0 rfl) ?_
  refine gv_2_1 (v := nI z) C hP hJ.1.1 hJ.1.2 (hJ.2.2.2) tm_249 dX8_tear_9 ?_
  refine ct_S0 (As := [.int k, .int 0, .int (nI z)]) (rest := []) (r := some (.int 1)) C (w8_1 hG _ _ _ (hw)) tm_93 tm_94 tm_1 tm_95 hdX8_isWithin.2 ⟨Nat.le_of_ble_eq_true rfl, Nat.le_of_ble_eq_true rfl⟩ hl.1 rfl (Nat.le_of_ble_eq_true rfl) dX8_tear_12 ⟨Nat.le_of_ble_eq_true rfl, Nat.le_of_ble_eq_true rfl⟩ hP hD hS (fun H locs hP hD hS => ?_)
  refine lv_if_ne (tgt := 28) hx hb dX8_tear_15 (by decide) (fun _ => ?_) (fun h9 => absurd h9 (by decide))
  refine lv_aload_n hx hb dX8_tear_28 rfl (lv_at hl 0 rfl) ?_
  refine lv_dup hx hb dX8_tear_29 rfl ?_
  refine gv_2_1 (v := nI z) C hP hJ.1.1 hJ.1.2 (hJ.2.2.2) tm_249 dX8_tear_30 ?_
  refine lv_iload_n hx hb dX8_tear_33 rfl (lv_at hl 3 rfl) ?_
  refine lv_isub hx hb dX8_tear_34 ?_
  refine pf_2_1 (v := (nI z) - k) C hP hD hS hJ.1.1 hJ.1.2 tm_249 dX8_tear_35 (fun H locs hP hD hS => ?_)
  refine lv_aload_n hx hb dX8_tear_38 rfl (lv_at hl 0 rfl) ?_
  refine gv_2_1 (v := (nI z) - k) C hP hJ.1.1 hJ.1.2 (mI_s (S := S) (k := 1) (a := hd) (v := (nI z) - k)) tm_249 dX8_tear_39 ?_
  exact ct_iret C hS hP hD (⟨rfl, _, rfl, rfl⟩) (Nat.le_of_ble_eq_true rfl) (Nat.le_of_ble_eq_true rfl) dX8_tear_42
set_option maxRecDepth 100000 in
theorem c_replay {l : Launch} {s0 : State} {D : va_G} {cA : Nat → ClassId} (hG : cx_G l s0 D cA) {S : Mem} {x r ca pa n : Nat} {A1 : Nat → Nat} {j hd b z : Nat}  (h : plA S x r ca pa n A1) (hj : j < n) (hd0 : mR S 0 (A1 j) = some hd) (hJ : jrA S hd b z) (hz : z ≤ 400) : PC l s0 D cA yX8_replay cX8_replay 4 (some .int) rmX8_replay [.ref x, .int (nI j)] S (some (.int (nI (snN (byf S b) z 31 0)))) (fun S1 => S1 = uJ S 5 x (rpS (byf S b) 0 (snN (byf S b) z 31 0))) := by
  refine Ct.of (cA := cA) hG (by decide +kernel) (Nat.le_of_ble_eq_true rfl) ?_
  intro p e s m below meth c A C hnm hP hD hS ls hl
  have hx := cx_x C
  have hb := cx_b C
  have hl : lv_has ls 4 [(0, .ref x), (1, .int (nI j))] := hl
  refine lv_aload_n hx hb dX8_replay_0 rfl (lv_at hl 0 rfl) ?_
  refine lv_iload_n hx hb dX8_replay_1 rfl (lv_at hl 1 rfl) ?_
  refine pc_V (As := [.int (nI j)]) (rest := []) (r := some (.ref hd)) C (c_journalOf (S := S) hG h hj hd0 hJ.1.1 hJ.1.2) tm_587 tm_589 tm_891 tm_1 tm_590 hdX8_journalOf ⟨Nat.le_of_ble_eq_true rfl, Nat.le_of_ble_eq_true rfl⟩ (rcv_8 C hP h.1.1 h.1.2) hl.1 rfl (Nat.le_of_ble_eq_true rfl) dX8_replay_2 ⟨Nat.le_of_ble_eq_true rfl, Nat.le_of_ble_eq_true rfl⟩ hP hD hS (fun S1 H locs hQ hP hD hS => ?_)
  rw [hQ] at hP hD
  refine lv_astore_n (lv' := [(2, .ref hd), (0, .ref x), (1, .int (nI j))]) hx hb dX8_replay_5 rfl hl (by decide) rfl (fun ls hl => ?_)
  refine lv_aload_n hx hb dX8_replay_6 rfl (lv_at hl 0 rfl) ?_
  refine pc_V (As := []) (rest := []) (r := some (.int (nI (snN (byf S b) z 31 0)))) C (c_soundR (S := S) hG hJ hz) tm_624 tm_625 tm_626 tm_14 tm_627 hdX2_soundRecords ⟨Nat.le_of_ble_eq_true rfl, Nat.le_of_ble_eq_true rfl⟩ (rcv_2 C hP hJ.1.1 hJ.1.2) hl.1 rfl (Nat.le_of_ble_eq_true rfl) dX8_replay_7 ⟨Nat.le_of_ble_eq_true rfl, Nat.le_of_ble_eq_true rfl⟩ hP hD hS (fun S2 H locs hQ hP hD hS => ?_)
  rw [hQ] at hP hD
  refine lv_istore_n (lv' := [(3, .int (nI (snN (byf S b) z 31 0))), (2, .ref hd), (0, .ref x), (1, .int (nI j))]) hx hb dX8_replay_10 rfl hl (by decide) rfl (fun ls hl => ?_)
  refine lv_aload_n hx hb dX8_replay_11 rfl (lv_at hl 2 rfl) ?_
  refine lv_aload_n hx hb dX8_replay_12 rfl (lv_at hl 1 rfl) ?_
  refine lv_iload_n hx hb dX8_replay_13 rfl (lv_at hl 0 rfl) ?_
  refine pc_V (As := [.int (nI (snN (byf S b) z 31 0))]) (rest := [.ref x]) (r := some (.long (rpS (byf S b) 0 (snN (byf S b) z 31 0)))) C (c_sumF (S := S) hG (snN (byf S b) z 31 0) hJ hz (snN_le 31 0 (by omega))) tm_632 tm_633 tm_634 tm_14 tm_635 hdX2_sumOfFirst ⟨Nat.le_of_ble_eq_true rfl, Nat.le_of_ble_eq_true rfl⟩ (rcv_2 C hP hJ.1.1 hJ.1.2) hl.1 rfl (Nat.le_of_ble_eq_true rfl) dX8_replay_14 ⟨Nat.le_of_ble_eq_true rfl, Nat.le_of_ble_eq_true rfl⟩ hP hD hS (fun S3 H locs hQ hP hD hS => ?_)
  rw [hQ] at hP hD
  refine pf_8_5 (v := rpS (byf S b) 0 (snN (byf S b) z 31 0)) C hP hD hS h.1.1 h.1.2 tm_63 dX8_replay_17 (fun H locs hP hD hS => ?_)
  refine lv_iload_n hx hb dX8_replay_20 rfl (lv_at hl 0 rfl) ?_
  exact ct_iret C hS hP hD (⟨rfl, _, rfl, rfl⟩) (Nat.le_of_ble_eq_true rfl) (Nat.le_of_ble_eq_true rfl) dX8_replay_21
abbrev rmX8_count : Room := { frames := 2, cells := 0, slots := 0, locals := 44 }
set_option maxRecDepth 100000 in
theorem c_count0 {l : Launch} {s0 : State} {D : va_G} {cA : Nat → ClassId} (hG : cx_G l s0 D cA) {S : Mem} {x r ca pa n : Nat} {A1 : Nat → Nat} {j : Nat}  (h : plA S x r ca pa n A1) (hj : j < n) : PC l s0 D cA yX8_count cX8_count 4 (some .int) rmX8_count [.ref x, .int (nI j), .int 0] S (some (.int (mI S 6 (A1 j)))) (fun S1 => S1 = S) := by
  refine Ct.of (cA := cA) hG (by decide +kernel) (Nat.le_of_ble_eq_true rfl) ?_
  intro p e s m below meth c A C hnm hP hD hS ls hl
  have hx := cx_x C
  have hb := cx_b C
  have hl : lv_has ls 4 [(0, .ref x), (1, .int (nI j)), (2, .int 0)] := hl
  refine lv_aload_n hx hb dX8_count_0 rfl (lv_at hl 0 rfl) ?_
  refine lv_iload_n hx hb dX8_count_1 rfl (lv_at hl 1 rfl) ?_
  refine pc_V (As := [.int (nI j)]) (rest := []) (r := some (.ref (A1 j))) C (c_exist (S := S) hG h hj) tm_430 tm_432 tm_882 tm_1 tm_433 hdX8_existing ⟨Nat.le_of_ble_eq_true rfl, Nat.le_of_ble_eq_true rfl⟩ (rcv_8 C hP h.1.1 h.1.2) hl.1 rfl (Nat.le_of_ble_eq_true rfl) dX8_count_2 ⟨Nat.le_of_ble_eq_true rfl, Nat.le_of_ble_eq_true rfl⟩ hP hD hS (fun S1 H locs hQ hP hD hS => ?_)
  rw [hQ] at hP hD
  refine lv_astore_n (lv' := [(3, .ref (A1 j)), (0, .ref x), (1, .int (nI j)), (2, .int 0)]) hx hb dX8_count_5 rfl hl (by decide) rfl (fun ls hl => ?_)
  refine lv_iload_n hx hb dX8_count_6 rfl (lv_at hl 3 rfl) ?_
  refine lv_tableIn (tgt := 36) hx hb dX8_count_7 (by decide) (by decide) (off := 29) (by decide) (by decide) ?_
  refine lv_aload_n hx hb dX8_count_36 rfl (lv_at hl 0 rfl) ?_
  refine gv_0_6 (v := mI S 6 (A1 j)) C hP (h.2.2.2.2.2.2 j (hj)).2.1 (h.2.2.2.2.2.2 j (hj)).2.2 (rfl) tm_298 dX8_count_37 ?_
  exact ct_iret C hS hP hD (⟨rfl, _, rfl, rfl⟩) (Nat.le_of_ble_eq_true rfl) (Nat.le_of_ble_eq_true rfl) dX8_count_40
set_option maxRecDepth 100000 in
theorem c_count1 {l : Launch} {s0 : State} {D : va_G} {cA : Nat → ClassId} (hG : cx_G l s0 D cA) {S : Mem} {x r ca pa n : Nat} {A1 : Nat → Nat} {j : Nat}  (h : plA S x r ca pa n A1) (hj : j < n) : PC l s0 D cA yX8_count cX8_count 4 (some .int) rmX8_count [.ref x, .int (nI j), .int 1] S (some (.int (mI S 7 (A1 j)))) (fun S1 => S1 = S) := by
  refine Ct.of (cA := cA) hG (by decide +kernel) (Nat.le_of_ble_eq_true rfl) ?_
  intro p e s m below meth c A C hnm hP hD hS ls hl
  have hx := cx_x C
  have hb := cx_b C
  have hl : lv_has ls 4 [(0, .ref x), (1, .int (nI j)), (2, .int 1)] := hl
  refine lv_aload_n hx hb dX8_count_0 rfl (lv_at hl 0 rfl) ?_
  refine lv_iload_n hx hb dX8_count_1 rfl (lv_at hl 1 rfl) ?_
  refine pc_V (As := [.int (nI j)]) (rest := []) (r := some (.ref (A1 j))) C (c_exist (S := S) hG h hj) tm_430 tm_432 tm_882 tm_1 tm_433 hdX8_existing ⟨Nat.le_of_ble_eq_true rfl, Nat.le_of_ble_eq_true rfl⟩ (rcv_8 C hP h.1.1 h.1.2) hl.1 rfl (Nat.le_of_ble_eq_true rfl) dX8_count_2 ⟨Nat.le_of_ble_eq_true rfl, Nat.le_of_ble_eq_true rfl⟩ hP hD hS (fun S1 H locs hQ hP hD hS => ?_)
  rw [hQ] at hP hD
  refine lv_astore_n (lv' := [(3, .ref (A1 j)), (0, .ref x), (1, .int (nI j)), (2, .int 1)]) hx hb dX8_count_5 rfl hl (by decide) rfl (fun ls hl => ?_)
  refine lv_iload_n hx hb dX8_count_6 rfl (lv_at hl 3 rfl) ?_
  refine lv_tableIn (tgt := 41) hx hb dX8_count_7 (by decide) (by decide) (off := 34) (by decide) (by decide) ?_
  refine lv_aload_n hx hb dX8_count_41 rfl (lv_at hl 0 rfl) ?_
  refine gv_0_7 (v := mI S 7 (A1 j)) C hP (h.2.2.2.2.2.2 j (hj)).2.1 (h.2.2.2.2.2.2 j (hj)).2.2 (rfl) tm_300 dX8_count_42 ?_
  exact ct_iret C hS hP hD (⟨rfl, _, rfl, rfl⟩) (Nat.le_of_ble_eq_true rfl) (Nat.le_of_ble_eq_true rfl) dX8_count_45
set_option maxRecDepth 100000 in
theorem c_count2 {l : Launch} {s0 : State} {D : va_G} {cA : Nat → ClassId} (hG : cx_G l s0 D cA) {S : Mem} {x r ca pa n : Nat} {A1 : Nat → Nat} {j : Nat}  (h : plA S x r ca pa n A1) (hj : j < n) : PC l s0 D cA yX8_count cX8_count 4 (some .int) rmX8_count [.ref x, .int (nI j), .int 2] S (some (.int (mI S 8 (A1 j)))) (fun S1 => S1 = S) := by
  refine Ct.of (cA := cA) hG (by decide +kernel) (Nat.le_of_ble_eq_true rfl) ?_
  intro p e s m below meth c A C hnm hP hD hS ls hl
  have hx := cx_x C
  have hb := cx_b C
  have hl : lv_has ls 4 [(0, .ref x), (1, .int (nI j)), (2, .int 2)] := hl
  refine lv_aload_n hx hb dX8_count_0 rfl (lv_at hl 0 rfl) ?_
  refine lv_iload_n hx hb dX8_count_1 rfl (lv_at hl 1 rfl) ?_
  refine pc_V (As := [.int (nI j)]) (rest := []) (r := some (.ref (A1 j))) C (c_exist (S := S) hG h hj) tm_430 tm_432 tm_882 tm_1 tm_433 hdX8_existing ⟨Nat.le_of_ble_eq_true rfl, Nat.le_of_ble_eq_true rfl⟩ (rcv_8 C hP h.1.1 h.1.2) hl.1 rfl (Nat.le_of_ble_eq_true rfl) dX8_count_2 ⟨Nat.le_of_ble_eq_true rfl, Nat.le_of_ble_eq_true rfl⟩ hP hD hS (fun S1 H locs hQ hP hD hS => ?_)
  rw [hQ] at hP hD
  refine lv_astore_n (lv' := [(3, .ref (A1 j)), (0, .ref x), (1, .int (nI j)), (2, .int 2)]) hx hb dX8_count_5 rfl hl (by decide) rfl (fun ls hl => ?_)
  refine lv_iload_n hx hb dX8_count_6 rfl (lv_at hl 3 rfl) ?_
  refine lv_tableIn (tgt := 46) hx hb dX8_count_7 (by decide) (by decide) (off := 39) (by decide) (by decide) ?_
  refine lv_aload_n hx hb dX8_count_46 rfl (lv_at hl 0 rfl) ?_
  refine gv_0_8 (v := mI S 8 (A1 j)) C hP (h.2.2.2.2.2.2 j (hj)).2.1 (h.2.2.2.2.2.2 j (hj)).2.2 (rfl) tm_302 dX8_count_47 ?_
  exact ct_iret C hS hP hD (⟨rfl, _, rfl, rfl⟩) (Nat.le_of_ble_eq_true rfl) (Nat.le_of_ble_eq_true rfl) dX8_count_50
set_option maxRecDepth 100000 in
theorem c_count3_0 {l : Launch} {s0 : State} {D : va_G} {cA : Nat → ClassId} (hG : cx_G l s0 D cA) {S : Mem} {x r ca pa n : Nat} {A1 : Nat → Nat} {j : Nat}  (h : plA S x r ca pa n A1) (hj : j < n) (hh9 : mI S 9 (A1 j) = 0) : PC l s0 D cA yX8_count cX8_count 4 (some .int) rmX8_count [.ref x, .int (nI j), .int 3] S (some (.int 0)) (fun S1 => S1 = S) := by
  refine Ct.of (cA := cA) hG (by decide +kernel) (Nat.le_of_ble_eq_true rfl) ?_
  intro p e s m below meth c A C hnm hP hD hS ls hl
  have hx := cx_x C
  have hb := cx_b C
  have hl : lv_has ls 4 [(0, .ref x), (1, .int (nI j)), (2, .int 3)] := hl
  refine lv_aload_n hx hb dX8_count_0 rfl (lv_at hl 0 rfl) ?_
  refine lv_iload_n hx hb dX8_count_1 rfl (lv_at hl 1 rfl) ?_
  refine pc_V (As := [.int (nI j)]) (rest := []) (r := some (.ref (A1 j))) C (c_exist (S := S) hG h hj) tm_430 tm_432 tm_882 tm_1 tm_433 hdX8_existing ⟨Nat.le_of_ble_eq_true rfl, Nat.le_of_ble_eq_true rfl⟩ (rcv_8 C hP h.1.1 h.1.2) hl.1 rfl (Nat.le_of_ble_eq_true rfl) dX8_count_2 ⟨Nat.le_of_ble_eq_true rfl, Nat.le_of_ble_eq_true rfl⟩ hP hD hS (fun S1 H locs hQ hP hD hS => ?_)
  rw [hQ] at hP hD
  refine lv_astore_n (lv' := [(3, .ref (A1 j)), (0, .ref x), (1, .int (nI j)), (2, .int 3)]) hx hb dX8_count_5 rfl hl (by decide) rfl (fun ls hl => ?_)
  refine lv_iload_n hx hb dX8_count_6 rfl (lv_at hl 3 rfl) ?_
  refine lv_tableIn (tgt := 51) hx hb dX8_count_7 (by decide) (by decide) (off := 44) (by decide) (by decide) ?_
  refine lv_aload_n hx hb dX8_count_51 rfl (lv_at hl 0 rfl) ?_
  refine gv_0_9 (v := mI S 9 (A1 j)) C hP (h.2.2.2.2.2.2 j (hj)).2.1 (h.2.2.2.2.2.2 j (hj)).2.2 (rfl) tm_304 dX8_count_52 ?_
  refine lv_if_eq (tgt := 62) hx hb dX8_count_55 (by decide) (fun _ => ?_) (fun h9 => absurd (hh9) h9)
  refine lv_iconst (v := 0) hx hb dX8_count_62 (by decide) ?_
  exact ct_iret C hS hP hD (⟨rfl, _, rfl, rfl⟩) (Nat.le_of_ble_eq_true rfl) (Nat.le_of_ble_eq_true rfl) dX8_count_63
set_option maxRecDepth 100000 in
theorem c_count3_1 {l : Launch} {s0 : State} {D : va_G} {cA : Nat → ClassId} (hG : cx_G l s0 D cA) {S : Mem} {x r ca pa n : Nat} {A1 : Nat → Nat} {j : Nat}  (h : plA S x r ca pa n A1) (hj : j < n) (hh9 : ¬ mI S 9 (A1 j) = 0) : PC l s0 D cA yX8_count cX8_count 4 (some .int) rmX8_count [.ref x, .int (nI j), .int 3] S (some (.int 1)) (fun S1 => S1 = S) := by
  refine Ct.of (cA := cA) hG (by decide +kernel) (Nat.le_of_ble_eq_true rfl) ?_
  intro p e s m below meth c A C hnm hP hD hS ls hl
  have hx := cx_x C
  have hb := cx_b C
  have hl : lv_has ls 4 [(0, .ref x), (1, .int (nI j)), (2, .int 3)] := hl
  refine lv_aload_n hx hb dX8_count_0 rfl (lv_at hl 0 rfl) ?_
  refine lv_iload_n hx hb dX8_count_1 rfl (lv_at hl 1 rfl) ?_
  refine pc_V (As := [.int (nI j)]) (rest := []) (r := some (.ref (A1 j))) C (c_exist (S := S) hG h hj) tm_430 tm_432 tm_882 tm_1 tm_433 hdX8_existing ⟨Nat.le_of_ble_eq_true rfl, Nat.le_of_ble_eq_true rfl⟩ (rcv_8 C hP h.1.1 h.1.2) hl.1 rfl (Nat.le_of_ble_eq_true rfl) dX8_count_2 ⟨Nat.le_of_ble_eq_true rfl, Nat.le_of_ble_eq_true rfl⟩ hP hD hS (fun S1 H locs hQ hP hD hS => ?_)
  rw [hQ] at hP hD
  refine lv_astore_n (lv' := [(3, .ref (A1 j)), (0, .ref x), (1, .int (nI j)), (2, .int 3)]) hx hb dX8_count_5 rfl hl (by decide) rfl (fun ls hl => ?_)
  refine lv_iload_n hx hb dX8_count_6 rfl (lv_at hl 3 rfl) ?_
  refine lv_tableIn (tgt := 51) hx hb dX8_count_7 (by decide) (by decide) (off := 44) (by decide) (by decide) ?_
  refine lv_aload_n hx hb dX8_count_51 rfl (lv_at hl 0 rfl) ?_
  refine gv_0_9 (v := mI S 9 (A1 j)) C hP (h.2.2.2.2.2.2 j (hj)).2.1 (h.2.2.2.2.2.2 j (hj)).2.2 (rfl) tm_304 dX8_count_52 ?_
  refine lv_if_eq (tgt := 62) hx hb dX8_count_55 (by decide) (fun h9 => absurd h9 (hh9)) (fun _ => ?_)
  refine lv_iconst (v := 1) hx hb dX8_count_58 (by decide) ?_
  refine lv_goto (tgt := 63) hx hb dX8_count_59 (by decide) ?_
  exact ct_iret C hS hP hD (⟨rfl, _, rfl, rfl⟩) (Nat.le_of_ble_eq_true rfl) (Nat.le_of_ble_eq_true rfl) dX8_count_63
abbrev rmX8_state : Room := { frames := 2, cells := 0, slots := 0, locals := 44 }
set_option maxRecDepth 100000 in
theorem c_state0 {l : Launch} {s0 : State} {D : va_G} {cA : Nat → ClassId} (hG : cx_G l s0 D cA) {S : Mem} {x r ca pa n v g u N : Nat} {A1 : Nat → Nat} {q : Int64} (sq : Int64)  (h : plA S x r ca pa n A1) (hg : rgA S r v g u N) (hq : mJ S 3 r = q) : PC l s0 D cA yX8_state cX8_state 4 (some .long) rmX8_state [.ref x, .int 0, .long sq] S (some (.long q)) (fun S1 => S1 = S) := by
  refine Ct.of (cA := cA) hG (by decide +kernel) (Nat.le_of_ble_eq_true rfl) ?_
  intro p e s m below meth c A C hnm hP hD hS ls hl
  have hx := cx_x C
  have hb := cx_b C
  have hl : lv_has ls 4 [(0, .ref x), (1, .int 0), (2, .long sq)] := hl
  refine lv_iload_n hx hb dX8_state_0 rfl (lv_at hl 1 rfl) ?_
  refine lv_if_ne (tgt := 12) hx hb dX8_state_1 (by decide) (fun h9 => absurd rfl h9) (fun _ => ?_)
  refine lv_aload_n hx hb dX8_state_4 rfl (lv_at hl 0 rfl) ?_
  refine gf_8_0s (b := r) C hP h.1.1 h.1.2 (h.2.1.1) tm_58 dX8_state_5 ?_
  refine gv_5_3 (v := q) C hP hg.1.1 hg.1.2 (hq) tm_42 dX8_state_8 ?_
  exact ct_lret C hS hP hD (⟨rfl, _, rfl, rfl⟩) (Nat.le_of_ble_eq_true rfl) (Nat.le_of_ble_eq_true rfl) dX8_state_11
set_option maxRecDepth 100000 in
theorem c_state1 {l : Launch} {s0 : State} {D : va_G} {cA : Nat → ClassId} (hG : cx_G l s0 D cA) {S : Mem} {x r ca pa n v g u N : Nat} {A1 : Nat → Nat} {q : Int64} (sq : Int64)  (h : plA S x r ca pa n A1) (hg : rgA S r v g u N) (hq : mJ S 4 r = q) : PC l s0 D cA yX8_state cX8_state 4 (some .long) rmX8_state [.ref x, .int 1, .long sq] S (some (.long q)) (fun S1 => S1 = S) := by
  refine Ct.of (cA := cA) hG (by decide +kernel) (Nat.le_of_ble_eq_true rfl) ?_
  intro p e s m below meth c A C hnm hP hD hS ls hl
  have hx := cx_x C
  have hb := cx_b C
  have hl : lv_has ls 4 [(0, .ref x), (1, .int 1), (2, .long sq)] := hl
  refine lv_iload_n hx hb dX8_state_0 rfl (lv_at hl 1 rfl) ?_
  refine lv_if_ne (tgt := 12) hx hb dX8_state_1 (by decide) (fun _ => ?_) (fun h9 => absurd h9 (by decide))
  refine lv_iload_n hx hb dX8_state_12 rfl (lv_at hl 1 rfl) ?_
  refine lv_iconst (v := 1) hx hb dX8_state_13 (by decide) ?_
  refine lv_icmp_ne (tgt := 25) hx hb dX8_state_14 (by decide) (fun h9 => absurd rfl h9) (fun _ => ?_)
  refine lv_aload_n hx hb dX8_state_17 rfl (lv_at hl 0 rfl) ?_
  refine gf_8_0s (b := r) C hP h.1.1 h.1.2 (h.2.1.1) tm_58 dX8_state_18 ?_
  refine gv_5_4 (v := q) C hP hg.1.1 hg.1.2 (hq) tm_44 dX8_state_21 ?_
  exact ct_lret C hS hP hD (⟨rfl, _, rfl, rfl⟩) (Nat.le_of_ble_eq_true rfl) (Nat.le_of_ble_eq_true rfl) dX8_state_24
set_option maxRecDepth 100000 in
theorem c_state2 {l : Launch} {s0 : State} {D : va_G} {cA : Nat → ClassId} (hG : cx_G l s0 D cA) {S : Mem} {x r ca pa n v g u N : Nat} {A1 : Nat → Nat} (k : Nat)  (h : plA S x r ca pa n A1) (hg : rgA S r v g u N) (hk : k < 2 ^ 63) (h0 : ¬ lN k < 0) : PC l s0 D cA yX8_state cX8_state 4 (some .long) rmX8_state [.ref x, .int 2, .long (lN k)] S (some (.long (maJ S u (k % N)))) (fun S1 => S1 = S) := by
  refine Ct.of (cA := cA) hG (by decide +kernel) (Nat.le_of_ble_eq_true rfl) ?_
  intro p e s m below meth c A C hnm hP hD hS ls hl
  have hx := cx_x C
  have hb := cx_b C
  have hl : lv_has ls 4 [(0, .ref x), (1, .int 2), (2, .long (lN k))] := hl
  refine lv_iload_n hx hb dX8_state_0 rfl (lv_at hl 1 rfl) ?_
  refine lv_if_ne (tgt := 12) hx hb dX8_state_1 (by decide) (fun _ => ?_) (fun h9 => absurd h9 (by decide))
  refine lv_iload_n hx hb dX8_state_12 rfl (lv_at hl 1 rfl) ?_
  refine lv_iconst (v := 1) hx hb dX8_state_13 (by decide) ?_
  refine lv_icmp_ne (tgt := 25) hx hb dX8_state_14 (by decide) (fun _ => ?_) (fun h9 => absurd h9 (by decide))
  refine lv_iload_n hx hb dX8_state_25 rfl (lv_at hl 1 rfl) ?_
  refine lv_iconst (v := 2) hx hb dX8_state_26 (by decide) ?_
  refine lv_icmp_ne (tgt := 45) hx hb dX8_state_27 (by decide) (fun h9 => absurd rfl h9) (fun _ => ?_)
  refine lv_lload_n hx hb dX8_state_30 rfl (lv_at hl 2 rfl) ?_
  refine lv_lconst (v := 0) hx hb dX8_state_31 (by decide) ?_
  refine W.lcmp hx hb dX8_state_32 ?_
  refine lv_if_lt (tgt := 45) hx hb dX8_state_33 (by decide) (fun h9 => absurd h9 (fun q => h0 ((lg_cmp_lt ..).mp q))) (fun _ => ?_)
  refine lv_aload_n hx hb dX8_state_36 rfl (lv_at hl 0 rfl) ?_
  refine gf_8_0s (b := r) C hP h.1.1 h.1.2 (h.2.1.1) tm_58 dX8_state_37 ?_
  refine lv_lload_n hx hb dX8_state_40 rfl (lv_at hl 2 rfl) ?_
  refine pc_V (As := [.long (lN k)]) (rest := []) (r := some (.long (maJ S u (k % N)))) C (c_publishedInSlotOf (S := S) hG k hg hk) tm_655 tm_656 tm_657 tm_2 tm_658 hdX5_publishedInSlotOf ⟨Nat.le_of_ble_eq_true rfl, Nat.le_of_ble_eq_true rfl⟩ (rcv_5 C hP hg.1.1 hg.1.2) hl.1 rfl (Nat.le_of_ble_eq_true rfl) dX8_state_41 ⟨Nat.le_of_ble_eq_true rfl, Nat.le_of_ble_eq_true rfl⟩ hP hD hS (fun S1 H locs hQ hP hD hS => ?_)
  rw [hQ] at hP hD
  exact ct_lret C hS hP hD (⟨rfl, _, rfl, rfl⟩) (Nat.le_of_ble_eq_true rfl) (Nat.le_of_ble_eq_true rfl) dX8_state_44
abbrev rmX8_publish : Room := { frames := 2, cells := 0, slots := 0, locals := 48 }
theorem c_open_1 {l : Launch} {s0 : State} {D : va_G} {cA : Nat → ClassId} (hG : cx_G l s0 D cA) {S : Mem} {r v g u N : Nat} {cu : Int64} (y : Int32) (k : Nat) (h : rgA S r v g u N) (hcu : mJ S 3 r = cu) (hk : k < 2 ^ 63) (h0 : ¬ lN k < 0) (h1 : lN k ≤ cu) (h2 : maJ S u (k % N) < lN k ∧ maI S g (k % N) = y) : PC l s0 D cA yX5_isOpen cX5_isOpen 5 (some .boolean) rmX5_isOpen [.ref r, .int y, .long (lN k)] S (some (.int 1)) (fun S1 => S1 = S) := by
  have := c_open_k hG y k h hcu hk h0 h1
  rw [if_pos h2] at this
  exact this
theorem avC_le {f : Nat → Int64} {N : Nat} : ∀ d a, avC f N d a ≤ a + d
  | 0, a => Nat.le_refl _
  | d + 1, a => by
    rw [avC]
    split
    · have := avC_le (f := f) (N := N) d (a + 1); omega
    · omega
set_option maxRecDepth 100000 in
theorem c_publish {l : Launch} {s0 : State} {D : va_G} {cA : Nat → ClassId} (hG : cx_G l s0 D cA) {S : Mem} {x r ca pa n v g u N : Nat} {A1 : Nat → Nat} {cu a : Nat} (p9 : Int32) (k : Nat) (y : Int64)  (h : plA S x r ca pa n A1) (hg : rgA S r v g u N) (hk : k < 2 ^ 61) (hcu : mJ S 3 r = eL cu) (hc9 : cu ≤ 10000) (ha : mJ S 4 r = eL a) (hac : a ≤ cu) (h0 : ¬ lN k < 0) (h1 : lN k ≤ eL cu) (h2 : maJ S u (k % N) < lN k ∧ maI S g (k % N) = p9) : PC l s0 D cA yX8_publish cX8_publish 6 (some .boolean) rmX8_publish [.ref x, .int p9, .long (lN k), .long y] S (some (.int (if k < avC (maJ (wrS S v u (k % N) y (lN k)) u) N (cu - a) a then 1 else 0))) (fun S1 => S1 = uJ (wrS S v u (k % N) y (lN k)) 4 r (eL (avC (maJ (wrS S v u (k % N) y (lN k)) u) N (cu - a) a))) := by
  have hk6 := hk
  have hk : k < 2 ^ 63 := by omega
  have hle := avC_le (f := maJ (wrS S v u (k % N) y (lN k)) u) (N := N) (cu - a) a
  refine Ct.of (cA := cA) hG (by decide +kernel) (Nat.le_of_ble_eq_true rfl) ?_
  intro p e s m below meth c A C hnm hP hD hS ls hl
  have hx := cx_x C
  have hb := cx_b C
  have hl : lv_has ls 6 [(0, .ref x), (1, .int p9), (2, .long (lN k)), (4, .long y)] := hl
  refine lv_aload_n hx hb dX8_publish_0 rfl (lv_at hl 0 rfl) ?_
  refine gf_8_0s (b := r) C hP h.1.1 h.1.2 (h.2.1.1) tm_58 dX8_publish_1 ?_
  refine lv_iload_n hx hb dX8_publish_4 rfl (lv_at hl 1 rfl) ?_
  refine lv_lload_n hx hb dX8_publish_5 rfl (lv_at hl 2 rfl) ?_
  refine pc_V (As := [.int p9, .long (lN k)]) (rest := []) (r := some (.int 1)) C (c_open_1 (S := S) hG _ k hg hcu hk h0 h1 h2) tm_399 tm_400 tm_401 tm_2 tm_402 hdX5_isOpen ⟨Nat.le_of_ble_eq_true rfl, Nat.le_of_ble_eq_true rfl⟩ (rcv_5 C hP hg.1.1 hg.1.2) hl.1 rfl (Nat.le_of_ble_eq_true rfl) dX8_publish_6 ⟨Nat.le_of_ble_eq_true rfl, Nat.le_of_ble_eq_true rfl⟩ hP hD hS (fun S1 H locs hQ hP hD hS => ?_)
  rw [hQ] at hP hD
  refine lv_if_ne (tgt := 22) hx hb dX8_publish_9 (by decide) (fun _ => ?_) (fun h9 => absurd h9 (by decide))
  refine lv_aload_n hx hb dX8_publish_22 rfl (lv_at hl 0 rfl) ?_
  refine gf_8_0s (b := r) C hP h.1.1 h.1.2 (h.2.1.1) tm_58 dX8_publish_23 ?_
  refine lv_lload_n hx hb dX8_publish_26 rfl (lv_at hl 2 rfl) ?_
  refine lv_lload hx hb dX8_publish_27 (lv_at hl 3 rfl) ?_
  refine pc_V (As := [.long (lN k), .long y]) (rest := []) (r := none) C (c_write (S := S) (cu := cu) (a := a) hG k y hg hk hcu hc9 ha hac) tm_419 tm_420 tm_421 tm_2 tm_422 hdX5_write ⟨Nat.le_of_ble_eq_true rfl, Nat.le_of_ble_eq_true rfl⟩ (rcv_5 C hP hg.1.1 hg.1.2) hl.1 rfl (Nat.le_of_ble_eq_true rfl) dX8_publish_29 ⟨Nat.le_of_ble_eq_true rfl, Nat.le_of_ble_eq_true rfl⟩ hP hD hS (fun S2 H locs hQ hP hD hS => ?_)
  rw [hQ] at hP hD
  refine lv_lload_n hx hb dX8_publish_32 rfl (lv_at hl 2 rfl) ?_
  refine lv_aload_n hx hb dX8_publish_33 rfl (lv_at hl 0 rfl) ?_
  refine gf_8_0s (b := r) C hP h.1.1 h.1.2 (h.2.1.1) tm_58 dX8_publish_34 ?_
  refine gv_5_4 (v := eL (avC (maJ (wrS S v u (k % N) y (lN k)) u) N (cu - a) a)) C hP hg.1.1 hg.1.2 (mJ_s (S := wrS S v u (k % N) y (lN k)) (k := 4) (a := r) (v := eL (avC (maJ (wrS S v u (k % N) y (lN k)) u) N (cu - a) a))) tm_44 dX8_publish_37 ?_
  refine W.lcmp hx hb dX8_publish_40 ?_
  refine lv_if_gt (tgt := 48) hx hb dX8_publish_41 (by decide) (fun c41 => ?_) (fun c41 => ?_)
  · rw [lg_cmp_gt] at c41
    refine lv_iconst (v := 0) hx hb dX8_publish_48 (by decide) ?_
    exact ct_zret C (by first | rfl | decide) hS hP hD (⟨by rw [if_neg (fun q => absurd ((lN_leE (by omega) (by omega)).mpr q) (Int64.not_le.mpr c41))], _, rfl, rfl⟩) (Nat.le_of_ble_eq_true rfl) (Nat.le_of_ble_eq_true rfl) dX8_publish_49
  rw [lg_cmp_gt] at c41
  refine lv_iconst (v := 1) hx hb dX8_publish_44 (by decide) ?_
  refine lv_goto (tgt := 49) hx hb dX8_publish_45 (by decide) ?_
  exact ct_zret C (by first | rfl | decide) hS hP hD (⟨by rw [if_pos ((lN_leE (by omega) (by omega)).mp (Int64.not_lt.mp c41))], _, rfl, rfl⟩) (Nat.le_of_ble_eq_true rfl) (Nat.le_of_ble_eq_true rfl) dX8_publish_49
