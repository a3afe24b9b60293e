/-! ===== the class: its handlers ===== -/
abbrev rmX7_handles : Room := { frames := 0, cells := 0, slots := 0, locals := 0 }
abbrev rmX7_keep : Room := { frames := 0, cells := 0, slots := 0, locals := 0 }
abbrev rmX7_restore : Room := { frames := 0, cells := 0, slots := 0, locals := 0 }
abbrev rmX6_handles : Room := { frames := 0, cells := 0, slots := 0, locals := 0 }
abbrev rmX6_keep : Room := { frames := 0, cells := 0, slots := 0, locals := 0 }
abbrev rmX6_restore : Room := { frames := 0, cells := 0, slots := 0, locals := 0 }
abbrev rmX3_handles : Room := { frames := 0, cells := 0, slots := 0, locals := 0 }
abbrev rmX3_keep : Room := { frames := 0, cells := 0, slots := 0, locals := 0 }
abbrev rmX3_restore : Room := { frames := 0, cells := 0, slots := 0, locals := 0 }
abbrev rmX7_amount : Room := { frames := 0, cells := 0, slots := 0, locals := 0 }
set_option maxRecDepth 100000 in
theorem c_sum_y {l : Launch} {s0 : State} {D : va_G} {cA : Nat → ClassId} (hG : cx_G l s0 D cA) {S : Mem} {a : Nat} (sq v : Int64) (g : Int32)  (h1 : a ∈ mL S) (h2 : mK S a = 6) (hv : ¬ v = -1) : PC l s0 D cA yX7_handles cX7_handles 6 (some .boolean) rmX7_handles [.ref a, .long sq, .long v, .int g] S (some (.int 1)) (fun S1 => S1 = uJ S 0 a (mJ S 0 a + v)) := by
  refine Ct.of (cA := cA) hG (by decide +kernel) (Nat.le_of_ble_eq_true rfl) ?_
  intro p e s m below meth c A C hnm hP hD hS ls hl
  have hx := cx_x C
  have hb := cx_b C
  have hl : lv_has ls 6 [(0, .ref a), (1, .long sq), (3, .long v), (5, .int g)] := hl
  refine lv_lload_n hx hb dX7_handles_0 rfl (lv_at hl 2 rfl) ?_
  refine lv_ldc2 (v := (-1)) hx hb (cx_own C) (cx_t C _ tm_505) dX7_handles_1 ?_
  refine W.lcmp hx hb dX7_handles_4 ?_
  refine lv_if_ne (tgt := 10) hx hb dX7_handles_5 (by decide) (fun _ => ?_) (fun h9 => absurd h9 (fun q => hv ((lg_cmp_eq ..).mp q)))
  refine lv_aload_n hx hb dX7_handles_10 rfl (lv_at hl 0 rfl) ?_
  refine lv_dup hx hb dX7_handles_11 rfl ?_
  refine gv_7_0 (v := mJ S 0 a) C hP h1 h2 (rfl) tm_200 dX7_handles_12 ?_
  refine lv_lload_n hx hb dX7_handles_15 rfl (lv_at hl 2 rfl) ?_
  refine lv_ladd hx hb dX7_handles_16 ?_
  refine pf_7_0 (v := (mJ S 0 a) + v) C hP hD hS h1 h2 tm_200 dX7_handles_17 (fun H locs hP hD hS => ?_)
  refine lv_iconst (v := 1) hx hb dX7_handles_20 (by decide) ?_
  exact ct_zret C (by first | rfl | decide) hS hP hD (⟨rfl, _, rfl, rfl⟩) (Nat.le_of_ble_eq_true rfl) (Nat.le_of_ble_eq_true rfl) dX7_handles_21
set_option maxRecDepth 100000 in
theorem c_sum_n {l : Launch} {s0 : State} {D : va_G} {cA : Nat → ClassId} (hG : cx_G l s0 D cA) {S : Mem} {a : Nat} (sq v : Int64) (g : Int32)  (h1 : a ∈ mL S) (h2 : mK S a = 6) (hv : v = -1) : PC l s0 D cA yX7_handles cX7_handles 6 (some .boolean) rmX7_handles [.ref a, .long sq, .long v, .int g] S (some (.int 0)) (fun S1 => S1 = S) := by
  refine Ct.of (cA := cA) hG (by decide +kernel) (Nat.le_of_ble_eq_true rfl) ?_
  intro p e s m below meth c A C hnm hP hD hS ls hl
  have hx := cx_x C
  have hb := cx_b C
  have hl : lv_has ls 6 [(0, .ref a), (1, .long sq), (3, .long v), (5, .int g)] := hl
  refine lv_lload_n hx hb dX7_handles_0 rfl (lv_at hl 2 rfl) ?_
  refine lv_ldc2 (v := (-1)) hx hb (cx_own C) (cx_t C _ tm_505) dX7_handles_1 ?_
  refine W.lcmp hx hb dX7_handles_4 ?_
  refine lv_if_ne (tgt := 10) hx hb dX7_handles_5 (by decide) (fun h9 => absurd ((lg_cmp_eq ..).mpr hv) h9) (fun _ => ?_)
  refine lv_iconst (v := 0) hx hb dX7_handles_8 (by decide) ?_
  exact ct_zret C (by first | rfl | decide) hS hP hD (⟨rfl, _, rfl, rfl⟩) (Nat.le_of_ble_eq_true rfl) (Nat.le_of_ble_eq_true rfl) dX7_handles_9
set_option maxRecDepth 100000 in
theorem c_sum_k {l : Launch} {s0 : State} {D : va_G} {cA : Nat → ClassId} (hG : cx_G l s0 D cA) {S : Mem} {a : Nat}  (h1 : a ∈ mL S) (h2 : mK S a = 6) : PC l s0 D cA yX7_keep cX7_keep 1 none rmX7_keep [.ref a] S (none) (fun S1 => S1 = uJ S 1 a (mJ S 0 a)) := by
  refine Ct.of (cA := cA) hG (by decide +kernel) (Nat.le_of_ble_eq_true rfl) ?_
  intro p e s m below meth c A C hnm hP hD hS ls hl
  have hx := cx_x C
  have hb := cx_b C
  have hl : lv_has ls 1 [(0, .ref a)] := hl
  refine lv_aload_n hx hb dX7_keep_0 rfl (lv_at hl 0 rfl) ?_
  refine lv_aload_n hx hb dX7_keep_1 rfl (lv_at hl 0 rfl) ?_
  refine gv_7_0 (v := mJ S 0 a) C hP h1 h2 (rfl) tm_200 dX7_keep_2 ?_
  refine pf_7_1 (v := mJ S 0 a) C hP hD hS h1 h2 tm_201 dX7_keep_5 (fun H locs hP hD hS => ?_)
  exact ct_vret C hS hP hD (⟨rfl, _, rfl, rfl⟩) (Nat.le_of_ble_eq_true rfl) (Nat.le_of_ble_eq_true rfl) dX7_keep_8
set_option maxRecDepth 100000 in
theorem c_sum_r {l : Launch} {s0 : State} {D : va_G} {cA : Nat → ClassId} (hG : cx_G l s0 D cA) {S : Mem} {a : Nat}  (h1 : a ∈ mL S) (h2 : mK S a = 6) : PC l s0 D cA yX7_restore cX7_restore 1 none rmX7_restore [.ref a] S (none) (fun S1 => S1 = uJ S 0 a (mJ S 1 a)) := by
  refine Ct.of (cA := cA) hG (by decide +kernel) (Nat.le_of_ble_eq_true rfl) ?_
  intro p e s m below meth c A C hnm hP hD hS ls hl
  have hx := cx_x C
  have hb := cx_b C
  have hl : lv_has ls 1 [(0, .ref a)] := hl
  refine lv_aload_n hx hb dX7_restore_0 rfl (lv_at hl 0 rfl) ?_
  refine lv_aload_n hx hb dX7_restore_1 rfl (lv_at hl 0 rfl) ?_
  refine gv_7_1 (v := mJ S 1 a) C hP h1 h2 (rfl) tm_201 dX7_restore_2 ?_
  refine pf_7_0 (v := mJ S 1 a) C hP hD hS h1 h2 tm_200 dX7_restore_5 (fun H locs hP hD hS => ?_)
  exact ct_vret C hS hP hD (⟨rfl, _, rfl, rfl⟩) (Nat.le_of_ble_eq_true rfl) (Nat.le_of_ble_eq_true rfl) dX7_restore_8
set_option maxRecDepth 100000 in
theorem c_sum_a {l : Launch} {s0 : State} {D : va_G} {cA : Nat → ClassId} (hG : cx_G l s0 D cA) {S : Mem} {a : Nat}  (h1 : a ∈ mL S) (h2 : mK S a = 6) : PC l s0 D cA yX7_amount cX7_amount 1 (some .long) rmX7_amount [.ref a] S (some (.long (mJ S 0 a))) (fun S1 => S1 = S) := by
  refine Ct.of (cA := cA) hG (by decide +kernel) (Nat.le_of_ble_eq_true rfl) ?_
  intro p e s m below meth c A C hnm hP hD hS ls hl
  have hx := cx_x C
  have hb := cx_b C
  have hl : lv_has ls 1 [(0, .ref a)] := hl
  refine lv_aload_n hx hb dX7_amount_0 rfl (lv_at hl 0 rfl) ?_
  refine gv_7_0 (v := mJ S 0 a) C hP h1 h2 (rfl) tm_200 dX7_amount_1 ?_
  exact ct_lret C hS hP hD (⟨rfl, _, rfl, rfl⟩) (Nat.le_of_ble_eq_true rfl) (Nat.le_of_ble_eq_true rfl) dX7_amount_4
set_option maxRecDepth 100000 in
theorem c_smo_y {l : Launch} {s0 : State} {D : va_G} {cA : Nat → ClassId} (hG : cx_G l s0 D cA) {S : Mem} {a : Nat} (sq v : Int64) (g : Int32)  (h1 : a ∈ mL S) (h2 : mK S a = 5) (hv : 0 ≤ v) (hn : lvOk (mF S 0 a) v) : PC l s0 D cA yX6_handles cX6_handles 6 (some .boolean) rmX6_handles [.ref a, .long sq, .long v, .int g] S (some (.int 1)) (fun S1 => S1 = uF S 0 a (lvN (mF S 0 a) v)) := by
  refine Ct.of (cA := cA) hG (by decide +kernel) (Nat.le_of_ble_eq_true rfl) ?_
  intro p e s m below meth c A C hnm hP hD hS ls hl
  have hx := cx_x C
  have hb := cx_b C
  have hl : lv_has ls 6 [(0, .ref a), (1, .long sq), (3, .long v), (5, .int g)] := hl
  refine lv_lload_n hx hb dX6_handles_0 rfl (lv_at hl 2 rfl) ?_
  refine lv_lconst (v := 0) hx hb dX6_handles_1 (by decide) ?_
  refine W.lcmp hx hb dX6_handles_2 ?_
  refine lv_if_ge (tgt := 8) hx hb dX6_handles_3 (by decide) (fun _ => ?_) (fun h9 => absurd ((lg_cmp_ge ..).mpr hv) h9)
  refine lv_aload_n hx hb dX6_handles_8 rfl (lv_at hl 0 rfl) ?_
  refine lv_aload_n hx hb dX6_handles_9 rfl (lv_at hl 0 rfl) ?_
  refine gv_6_0 (v := mF S 0 a) C hP h1 h2 (rfl) tm_213 dX6_handles_10 ?_
  refine lv_lload_n hx hb dX6_handles_13 rfl (lv_at hl 2 rfl) ?_
  refine lv_l2f hx hb dX6_handles_14 ?_
  refine lv_aload_n hx hb dX6_handles_15 rfl (lv_at hl 0 rfl) ?_
  refine gv_6_0 (v := mF S 0 a) C hP h1 h2 (rfl) tm_213 dX6_handles_16 ?_
  refine lv_fsub hx hb dX6_handles_19 (hn.1) ?_
  refine lv_ldcf (v := 1048576000) hx hb (cx_own C) (cx_t C _ tm_501) dX6_handles_20 ?_
  refine lv_fmul hx hb dX6_handles_22 (hn.2.1) ?_
  refine lv_fadd hx hb dX6_handles_23 (hn.2.2) ?_
  refine pf_6_0 (v := FP.fadd (mF S 0 a) (FP.fmul (FP.fsub (FP.l2f v) (mF S 0 a)) 1048576000)) C hP hD hS h1 h2 tm_213 dX6_handles_24 (fun H locs hP hD hS => ?_)
  refine lv_iconst (v := 1) hx hb dX6_handles_27 (by decide) ?_
  exact ct_zret C (by first | rfl | decide) hS hP hD (⟨rfl, _, rfl, rfl⟩) (Nat.le_of_ble_eq_true rfl) (Nat.le_of_ble_eq_true rfl) dX6_handles_28
set_option maxRecDepth 100000 in
theorem c_smo_n {l : Launch} {s0 : State} {D : va_G} {cA : Nat → ClassId} (hG : cx_G l s0 D cA) {S : Mem} {a : Nat} (sq v : Int64) (g : Int32)  (h1 : a ∈ mL S) (h2 : mK S a = 5) (hv : ¬ 0 ≤ v) : PC l s0 D cA yX6_handles cX6_handles 6 (some .boolean) rmX6_handles [.ref a, .long sq, .long v, .int g] S (some (.int 0)) (fun S1 => S1 = S) := by
  refine Ct.of (cA := cA) hG (by decide +kernel) (Nat.le_of_ble_eq_true rfl) ?_
  intro p e s m below meth c A C hnm hP hD hS ls hl
  have hx := cx_x C
  have hb := cx_b C
  have hl : lv_has ls 6 [(0, .ref a), (1, .long sq), (3, .long v), (5, .int g)] := hl
  refine lv_lload_n hx hb dX6_handles_0 rfl (lv_at hl 2 rfl) ?_
  refine lv_lconst (v := 0) hx hb dX6_handles_1 (by decide) ?_
  refine W.lcmp hx hb dX6_handles_2 ?_
  refine lv_if_ge (tgt := 8) hx hb dX6_handles_3 (by decide) (fun h9 => absurd h9 (fun q => hv ((lg_cmp_ge ..).mp q))) (fun _ => ?_)
  refine lv_iconst (v := 0) hx hb dX6_handles_6 (by decide) ?_
  exact ct_zret C (by first | rfl | decide) hS hP hD (⟨rfl, _, rfl, rfl⟩) (Nat.le_of_ble_eq_true rfl) (Nat.le_of_ble_eq_true rfl) dX6_handles_7
set_option maxRecDepth 100000 in
theorem c_smo_k {l : Launch} {s0 : State} {D : va_G} {cA : Nat → ClassId} (hG : cx_G l s0 D cA) {S : Mem} {a : Nat}  (h1 : a ∈ mL S) (h2 : mK S a = 5) : PC l s0 D cA yX6_keep cX6_keep 1 none rmX6_keep [.ref a] S (none) (fun S1 => S1 = uF S 1 a (mF S 0 a)) := by
  refine Ct.of (cA := cA) hG (by decide +kernel) (Nat.le_of_ble_eq_true rfl) ?_
  intro p e s m below meth c A C hnm hP hD hS ls hl
  have hx := cx_x C
  have hb := cx_b C
  have hl : lv_has ls 1 [(0, .ref a)] := hl
  refine lv_aload_n hx hb dX6_keep_0 rfl (lv_at hl 0 rfl) ?_
  refine lv_aload_n hx hb dX6_keep_1 rfl (lv_at hl 0 rfl) ?_
  refine gv_6_0 (v := mF S 0 a) C hP h1 h2 (rfl) tm_213 dX6_keep_2 ?_
  refine pf_6_1 (v := mF S 0 a) C hP hD hS h1 h2 tm_215 dX6_keep_5 (fun H locs hP hD hS => ?_)
  exact ct_vret C hS hP hD (⟨rfl, _, rfl, rfl⟩) (Nat.le_of_ble_eq_true rfl) (Nat.le_of_ble_eq_true rfl) dX6_keep_8
set_option maxRecDepth 100000 in
theorem c_smo_r {l : Launch} {s0 : State} {D : va_G} {cA : Nat → ClassId} (hG : cx_G l s0 D cA) {S : Mem} {a : Nat}  (h1 : a ∈ mL S) (h2 : mK S a = 5) : PC l s0 D cA yX6_restore cX6_restore 1 none rmX6_restore [.ref a] S (none) (fun S1 => S1 = uF S 0 a (mF S 1 a)) := by
  refine Ct.of (cA := cA) hG (by decide +kernel) (Nat.le_of_ble_eq_true rfl) ?_
  intro p e s m below meth c A C hnm hP hD hS ls hl
  have hx := cx_x C
  have hb := cx_b C
  have hl : lv_has ls 1 [(0, .ref a)] := hl
  refine lv_aload_n hx hb dX6_restore_0 rfl (lv_at hl 0 rfl) ?_
  refine lv_aload_n hx hb dX6_restore_1 rfl (lv_at hl 0 rfl) ?_
  refine gv_6_1 (v := mF S 1 a) C hP h1 h2 (rfl) tm_215 dX6_restore_2 ?_
  refine pf_6_0 (v := mF S 1 a) C hP hD hS h1 h2 tm_213 dX6_restore_5 (fun H locs hP hD hS => ?_)
  exact ct_vret C hS hP hD (⟨rfl, _, rfl, rfl⟩) (Nat.le_of_ble_eq_true rfl) (Nat.le_of_ble_eq_true rfl) dX6_restore_8
set_option maxRecDepth 100000 in
theorem c_mea_y {l : Launch} {s0 : State} {D : va_G} {cA : Nat → ClassId} (hG : cx_G l s0 D cA) {S : Mem} {a : Nat} (sq v : Int64) (g : Int32)  (h1 : a ∈ mL S) (h2 : mK S a = 2) (hv : 0 ≤ v) (hn : mnOk (mE S 0 a) v (mI S 1 a + 1)) : PC l s0 D cA yX3_handles cX3_handles 6 (some .boolean) rmX3_handles [.ref a, .long sq, .long v, .int g] S (some (.int 1)) (fun S1 => S1 = uE (uI S 1 a (mI S 1 a + 1)) 0 a (mnN (mE S 0 a) v (mI S 1 a + 1))) := by
  refine Ct.of (cA := cA) hG (by decide +kernel) (Nat.le_of_ble_eq_true rfl) ?_
  intro p e s m below meth c A C hnm hP hD hS ls hl
  have hx := cx_x C
  have hb := cx_b C
  have hl : lv_has ls 6 [(0, .ref a), (1, .long sq), (3, .long v), (5, .int g)] := hl
  refine lv_lload_n hx hb dX3_handles_0 rfl (lv_at hl 2 rfl) ?_
  refine lv_lconst (v := 0) hx hb dX3_handles_1 (by decide) ?_
  refine W.lcmp hx hb dX3_handles_2 ?_
  refine lv_if_ge (tgt := 8) hx hb dX3_handles_3 (by decide) (fun _ => ?_) (fun h9 => absurd ((lg_cmp_ge ..).mpr hv) h9)
  refine lv_aload_n hx hb dX3_handles_8 rfl (lv_at hl 0 rfl) ?_
  refine lv_dup hx hb dX3_handles_9 rfl ?_
  refine gv_3_1 (v := mI S 1 a) C hP h1 h2 (rfl) tm_229 dX3_handles_10 ?_
  refine lv_iconst (v := 1) hx hb dX3_handles_13 (by decide) ?_
  refine lv_iadd hx hb dX3_handles_14 ?_
  refine pf_3_1 (v := (mI S 1 a) + 1) C hP hD hS h1 h2 tm_229 dX3_handles_15 (fun H locs hP hD hS => ?_)
  refine lv_aload_n hx hb dX3_handles_18 rfl (lv_at hl 0 rfl) ?_
  refine lv_aload_n hx hb dX3_handles_19 rfl (lv_at hl 0 rfl) ?_
  refine gv_3_0 (v := mE S 0 a) C hP h1 h2 (rfl) tm_227 dX3_handles_20 ?_
  refine lv_lload_n hx hb dX3_handles_23 rfl (lv_at hl 2 rfl) ?_
  refine lv_l2d hx hb dX3_handles_24 ?_
  refine lv_aload_n hx hb dX3_handles_25 rfl (lv_at hl 0 rfl) ?_
  refine gv_3_0 (v := mE S 0 a) C hP h1 h2 (rfl) tm_227 dX3_handles_26 ?_
  refine lv_dsub hx hb dX3_handles_29 (hn.1) ?_
  refine lv_aload_n hx hb dX3_handles_30 rfl (lv_at hl 0 rfl) ?_
  refine gv_3_1 (v := (mI S 1 a) + 1) C hP h1 h2 (mI_s (S := S) (k := 1) (a := a) (v := (mI S 1 a) + 1)) tm_229 dX3_handles_31 ?_
  refine lv_i2d hx hb dX3_handles_34 ?_
  refine lv_ddiv hx hb dX3_handles_35 (hn.2.1) ?_
  refine lv_dadd hx hb dX3_handles_36 (hn.2.2) ?_
  refine pf_3_0 (v := FP.dadd (mE S 0 a) (FP.ddiv (FP.dsub (FP.l2d v) (mE S 0 a)) (FP.i2d ((mI S 1 a) + 1)))) C hP hD hS h1 h2 tm_227 dX3_handles_37 (fun H locs hP hD hS => ?_)
  refine lv_iconst (v := 1) hx hb dX3_handles_40 (by decide) ?_
  exact ct_zret C (by first | rfl | decide) hS hP hD (⟨rfl, _, rfl, rfl⟩) (Nat.le_of_ble_eq_true rfl) (Nat.le_of_ble_eq_true rfl) dX3_handles_41
set_option maxRecDepth 100000 in
theorem c_mea_n {l : Launch} {s0 : State} {D : va_G} {cA : Nat → ClassId} (hG : cx_G l s0 D cA) {S : Mem} {a : Nat} (sq v : Int64) (g : Int32)  (h1 : a ∈ mL S) (h2 : mK S a = 2) (hv : ¬ 0 ≤ v) : PC l s0 D cA yX3_handles cX3_handles 6 (some .boolean) rmX3_handles [.ref a, .long sq, .long v, .int g] S (some (.int 0)) (fun S1 => S1 = S) := by
  refine Ct.of (cA := cA) hG (by decide +kernel) (Nat.le_of_ble_eq_true rfl) ?_
  intro p e s m below meth c A C hnm hP hD hS ls hl
  have hx := cx_x C
  have hb := cx_b C
  have hl : lv_has ls 6 [(0, .ref a), (1, .long sq), (3, .long v), (5, .int g)] := hl
  refine lv_lload_n hx hb dX3_handles_0 rfl (lv_at hl 2 rfl) ?_
  refine lv_lconst (v := 0) hx hb dX3_handles_1 (by decide) ?_
  refine W.lcmp hx hb dX3_handles_2 ?_
  refine lv_if_ge (tgt := 8) hx hb dX3_handles_3 (by decide) (fun h9 => absurd h9 (fun q => hv ((lg_cmp_ge ..).mp q))) (fun _ => ?_)
  refine lv_iconst (v := 0) hx hb dX3_handles_6 (by decide) ?_
  exact ct_zret C (by first | rfl | decide) hS hP hD (⟨rfl, _, rfl, rfl⟩) (Nat.le_of_ble_eq_true rfl) (Nat.le_of_ble_eq_true rfl) dX3_handles_7
set_option maxRecDepth 100000 in
theorem c_mea_k {l : Launch} {s0 : State} {D : va_G} {cA : Nat → ClassId} (hG : cx_G l s0 D cA) {S : Mem} {a : Nat}  (h1 : a ∈ mL S) (h2 : mK S a = 2) : PC l s0 D cA yX3_keep cX3_keep 1 none rmX3_keep [.ref a] S (none) (fun S1 => S1 = uI (uE S 2 a (mE S 0 a)) 3 a (mI S 1 a)) := by
  refine Ct.of (cA := cA) hG (by decide +kernel) (Nat.le_of_ble_eq_true rfl) ?_
  intro p e s m below meth c A C hnm hP hD hS ls hl
  have hx := cx_x C
  have hb := cx_b C
  have hl : lv_has ls 1 [(0, .ref a)] := hl
  refine lv_aload_n hx hb dX3_keep_0 rfl (lv_at hl 0 rfl) ?_
  refine lv_aload_n hx hb dX3_keep_1 rfl (lv_at hl 0 rfl) ?_
  refine gv_3_0 (v := mE S 0 a) C hP h1 h2 (rfl) tm_227 dX3_keep_2 ?_
  refine pf_3_2 (v := mE S 0 a) C hP hD hS h1 h2 tm_230 dX3_keep_5 (fun H locs hP hD hS => ?_)
  refine lv_aload_n hx hb dX3_keep_8 rfl (lv_at hl 0 rfl) ?_
  refine lv_aload_n hx hb dX3_keep_9 rfl (lv_at hl 0 rfl) ?_
  refine gv_3_1 (v := mI S 1 a) C hP h1 h2 (rfl) tm_229 dX3_keep_10 ?_
  refine pf_3_3 (v := mI S 1 a) C hP hD hS h1 h2 tm_231 dX3_keep_13 (fun H locs hP hD hS => ?_)
  exact ct_vret C hS hP hD (⟨rfl, _, rfl, rfl⟩) (Nat.le_of_ble_eq_true rfl) (Nat.le_of_ble_eq_true rfl) dX3_keep_16
set_option maxRecDepth 100000 in
theorem c_mea_r {l : Launch} {s0 : State} {D : va_G} {cA : Nat → ClassId} (hG : cx_G l s0 D cA) {S : Mem} {a : Nat}  (h1 : a ∈ mL S) (h2 : mK S a = 2) : PC l s0 D cA yX3_restore cX3_restore 1 none rmX3_restore [.ref a] S (none) (fun S1 => S1 = uI (uE S 0 a (mE S 2 a)) 1 a (mI S 3 a)) := by
  refine Ct.of (cA := cA) hG (by decide +kernel) (Nat.le_of_ble_eq_true rfl) ?_
  intro p e s m below meth c A C hnm hP hD hS ls hl
  have hx := cx_x C
  have hb := cx_b C
  have hl : lv_has ls 1 [(0, .ref a)] := hl
  refine lv_aload_n hx hb dX3_restore_0 rfl (lv_at hl 0 rfl) ?_
  refine lv_aload_n hx hb dX3_restore_1 rfl (lv_at hl 0 rfl) ?_
  refine gv_3_2 (v := mE S 2 a) C hP h1 h2 (rfl) tm_230 dX3_restore_2 ?_
  refine pf_3_0 (v := mE S 2 a) C hP hD hS h1 h2 tm_227 dX3_restore_5 (fun H locs hP hD hS => ?_)
  refine lv_aload_n hx hb dX3_restore_8 rfl (lv_at hl 0 rfl) ?_
  refine lv_aload_n hx hb dX3_restore_9 rfl (lv_at hl 0 rfl) ?_
  refine gv_3_3 (v := mI S 3 a) C hP h1 h2 (rfl) tm_231 dX3_restore_10 ?_
  refine pf_3_1 (v := mI S 3 a) C hP hD hS h1 h2 tm_229 dX3_restore_13 (fun H locs hP hD hS => ?_)
  exact ct_vret C hS hP hD (⟨rfl, _, rfl, rfl⟩) (Nat.le_of_ble_eq_true rfl) (Nat.le_of_ble_eq_true rfl) dX3_restore_16
abbrev rmX1_amount : Room := { frames := 0, cells := 0, slots := 0, locals := 0 }
/-- a journal's object, its bytes, how long it is -/
def jrA (S : Mem) (a b z : Nat) : Prop := (a ∈ mL S ∧ mK S a = 1) ∧ mR S 0 a = some b ∧ (b ∈ mL S ∧ mK S b = 9 ∧ mN S b = 400) ∧ mI S 1 a = nI z
def byf (S : Mem) (b : Nat) (i : Nat) : Int32 := maI S b i &&& 255
/-- a byte more -/
def apS (S : Mem) (a b z : Nat) (x : Int64) : Mem := uI (uaI S b z (vp_nar .byte x.toInt32.toInt8.toInt32)) 1 a (nI (z + 1))
theorem apS_A {S : Mem} {a b z : Nat} {x : Int64} (h : jrA S a b z) : jrA (apS S a b z x) a b (z + 1) := ⟨h.1, h.2.1, h.2.2.1, mI_s⟩
def shu (v : Int64) (y : Int32) : Int64 := (v.toUInt64 >>> (y.toInt64.toUInt64 &&& Int64.toUInt64 63)).toInt64
def jbL (a b : Nat) (v : Int64) : Nat → Nat → Mem → Mem
  | 0, _, S => S
  | k + 1, z, S => jbL a b v k (z + 1) (apS S a b z (shu v (8 * nI k)))
theorem jbL_A {a b : Nat} {v : Int64} : ∀ (k z : Nat) (S : Mem), jrA S a b z → jrA (jbL a b v k z S) a b (z + k)
  | 0, _, _, h => h
  | k + 1, z, S, h => by
    have := jbL_A (v := v) k (z + 1) (apS S a b z (shu v (8 * nI k))) (apS_A h)
    rw [show z + (k + 1) = z + 1 + k by omega]
    exact this
def jr9 (S : Mem) (a b z : Nat) (e v : Int64) (g : Int32) : Mem := apS (jbL a b v 8 (z + 3) (apS (apS (apS S a b z 13) a b (z + 1) (shu e 8)) a b (z + 2) e)) a b (z + 11) g.toInt64
/-- a record more -/
def jrS (S : Mem) (a b z : Nat) (e v : Int64) (g : Int32) : Mem := apS (jr9 S a b z e v g) a b (z + 12) (smF (byf (jr9 S a b z e v g) b) z 12 &&& 255).toInt64
def whC (f : Nat → Int32) (s : Nat) : Bool := decide (f s = 13 ∧ f (s + 12) = smF f s 12 &&& 255)
def snN (f : Nat → Int32) (z : Nat) : Nat → Nat → Nat
  | 0, r => r
  | d + 1, r => if 13 * r + 13 ≤ z ∧ whC f (13 * r) = true then snN f z d (r + 1) else r
theorem snN_le {f : Nat → Int32} {z : Nat} : ∀ d r, 13 * r ≤ z → 13 * snN f z d r ≤ z
  | 0, _, h => h
  | d + 1, r, h => by
    rw [snN]
    split
    · rename_i q
      exact snN_le d (r + 1) (by omega)
    · exact h
abbrev rmX2_append : Room := { frames := 0, cells := 0, slots := 0, locals := 0 }
abbrev rmX2_byteAt : Room := { frames := 0, cells := 0, slots := 0, locals := 0 }
abbrev rmX2_amount : Room := { frames := 0, cells := 0, slots := 0, locals := 0 }
abbrev rmX2_keep : Room := { frames := 0, cells := 0, slots := 0, locals := 0 }
abbrev rmX2_restore : Room := { frames := 0, cells := 0, slots := 0, locals := 0 }
set_option maxRecDepth 100000 in
theorem c_append {l : Launch} {s0 : State} {D : va_G} {cA : Nat → ClassId} (hG : cx_G l s0 D cA) {S : Mem} {a b z : Nat} (x : Int64)  (h : jrA S a b z) (hz : z < 400) : PC l s0 D cA yX2_append cX2_append 3 none rmX2_append [.ref a, .long x] S (none) (fun S1 => S1 = apS S a b z x) := by
  refine Ct.of (cA := cA) hG (by decide +kernel) (Nat.le_of_ble_eq_true rfl) ?_
  intro p e s m below meth c A C hnm hP hD hS ls hl
  have hx := cx_x C
  have hb := cx_b C
  have hl : lv_has ls 3 [(0, .ref a), (1, .long x)] := hl
  refine lv_aload_n hx hb dX2_append_0 rfl (lv_at hl 0 rfl) ?_
  refine gv_2_1 (v := nI z) C hP h.1.1 h.1.2 (h.2.2.2) tm_248 dX2_append_1 ?_
  refine lv_aload_n hx hb dX2_append_4 rfl (lv_at hl 0 rfl) ?_
  refine gf_2_0s (b := b) C hP h.1.1 h.1.2 (h.2.1) tm_247 dX2_append_5 ?_
  refine anv_B (N := 400) C hP h.2.2.1.1 h.2.2.1.2.1 (h.2.2.1.2.2) dX2_append_8 ?_
  refine lv_icmp_ge (tgt := 34) hx hb dX2_append_9 (by decide) (fun h9 => absurd h9 (nI_ge hz (by decide))) (fun _ => ?_)
  refine lv_aload_n hx hb dX2_append_12 rfl (lv_at hl 0 rfl) ?_
  refine gf_2_0s (b := b) C hP h.1.1 h.1.2 (h.2.1) tm_247 dX2_append_13 ?_
  refine lv_aload_n hx hb dX2_append_16 rfl (lv_at hl 0 rfl) ?_
  refine gv_2_1 (v := nI z) C hP h.1.1 h.1.2 (h.2.2.2) tm_248 dX2_append_17 ?_
  refine lv_lload_n hx hb dX2_append_20 rfl (lv_at hl 1 rfl) ?_
  refine lv_l2i (v := x.toInt32) hx hb dX2_append_21 rfl ?_
  refine lv_i2b (v := x.toInt32.toInt8.toInt32) hx hb dX2_append_22 rfl ?_
  refine as_B (x := x.toInt32.toInt8.toInt32) (j := z) C hP hD hS h.2.2.1.1 h.2.2.1.2.1 (ixN h.2.2.1.2.2 (ix_nI (hz) (by decide))) dX2_append_23 (fun H locs hP hD hS => ?_)
  refine lv_aload_n hx hb dX2_append_24 rfl (lv_at hl 0 rfl) ?_
  refine lv_dup hx hb dX2_append_25 rfl ?_
  refine gv_2_1 (v := nI z) C hP h.1.1 h.1.2 (h.2.2.2) tm_248 dX2_append_26 ?_
  refine lv_iconst (v := 1) hx hb dX2_append_29 (by decide) ?_
  refine lv_iadd hx hb dX2_append_30 ?_
  refine pf_2_1 (v := (nI z) + 1) C hP hD hS h.1.1 h.1.2 tm_248 dX2_append_31 (fun H locs hP hD hS => ?_)
  exact ct_vret C hS hP hD (⟨rfl, _, rfl, by rw [nI_1]; rfl⟩) (Nat.le_of_ble_eq_true rfl) (Nat.le_of_ble_eq_true rfl) dX2_append_34
set_option maxRecDepth 100000 in
theorem c_byteAt {l : Launch} {s0 : State} {D : va_G} {cA : Nat → ClassId} (hG : cx_G l s0 D cA) {S : Mem} {a b z : Nat} (i : Nat)  (h : jrA S a b z) (hi : i < z) (hz : z ≤ 400) : PC l s0 D cA yX2_byteAt cX2_byteAt 2 (some .int) rmX2_byteAt [.ref a, .int (nI i)] S (some (.int (byf S b i))) (fun S1 => S1 = S) := by
  refine Ct.of (cA := cA) hG (by decide +kernel) (Nat.le_of_ble_eq_true rfl) ?_
  intro p e s m below meth c A C hnm hP hD hS ls hl
  have hx := cx_x C
  have hb := cx_b C
  have hl : lv_has ls 2 [(0, .ref a), (1, .int (nI i))] := hl
  refine lv_iload_n hx hb dX2_byteAt_0 rfl (lv_at hl 1 rfl) ?_
  refine lv_if_lt (tgt := 25) hx hb dX2_byteAt_1 (by decide) (fun h9 => absurd h9 (nI_pos (by omega))) (fun _ => ?_)
  refine lv_iload_n hx hb dX2_byteAt_4 rfl (lv_at hl 1 rfl) ?_
  refine lv_aload_n hx hb dX2_byteAt_5 rfl (lv_at hl 0 rfl) ?_
  refine gv_2_1 (v := nI z) C hP h.1.1 h.1.2 (h.2.2.2) tm_248 dX2_byteAt_6 ?_
  refine lv_icmp_ge (tgt := 25) hx hb dX2_byteAt_9 (by decide) (fun h9 => absurd h9 (nI_ge hi (by omega))) (fun _ => ?_)
  refine lv_aload_n hx hb dX2_byteAt_12 rfl (lv_at hl 0 rfl) ?_
  refine gf_2_0s (b := b) C hP h.1.1 h.1.2 (h.2.1) tm_247 dX2_byteAt_13 ?_
  refine lv_iload_n hx hb dX2_byteAt_16 rfl (lv_at hl 1 rfl) ?_
  refine av_B (j := i) (v := maI S b i) C hP h.2.2.1.1 h.2.2.1.2.1 (ixN h.2.2.1.2.2 (ix_nI (by omega) (by decide))) (rfl) dX2_byteAt_17 ?_
  refine lv_sipush (v := 255) hx hb dX2_byteAt_18 (by decide) ?_
  refine lv_iand hx hb dX2_byteAt_21 ?_
  refine lv_goto (tgt := 26) hx hb dX2_byteAt_22 (by decide) ?_
  exact ct_iret C hS hP hD (⟨rfl, _, rfl, rfl⟩) (Nat.le_of_ble_eq_true rfl) (Nat.le_of_ble_eq_true rfl) dX2_byteAt_26
set_option maxRecDepth 100000 in
theorem c_jamount {l : Launch} {s0 : State} {D : va_G} {cA : Nat → ClassId} (hG : cx_G l s0 D cA) {S : Mem} {a b z : Nat}  (h : jrA S a b z) : PC l s0 D cA yX2_amount cX2_amount 1 (some .long) rmX2_amount [.ref a] S (some (.long (nI z).toInt64)) (fun S1 => S1 = S) := by
  refine Ct.of (cA := cA) hG (by decide +kernel) (Nat.le_of_ble_eq_true rfl) ?_
  intro p e s m below meth c A C hnm hP hD hS ls hl
  have hx := cx_x C
  have hb := cx_b C
  have hl : lv_has ls 1 [(0, .ref a)] := hl
  refine lv_aload_n hx hb dX2_amount_0 rfl (lv_at hl 0 rfl) ?_
  refine gv_2_1 (v := nI z) C hP h.1.1 h.1.2 (h.2.2.2) tm_248 dX2_amount_1 ?_
  refine lv_i2l (v := (nI z).toInt64) hx hb dX2_amount_4 rfl ?_
  exact ct_lret C hS hP hD (⟨rfl, _, rfl, rfl⟩) (Nat.le_of_ble_eq_true rfl) (Nat.le_of_ble_eq_true rfl) dX2_amount_5
set_option maxRecDepth 100000 in
theorem c_jkeep {l : Launch} {s0 : State} {D : va_G} {cA : Nat → ClassId} (hG : cx_G l s0 D cA) {S : Mem} {a b z : Nat}  (h : jrA S a b z) : PC l s0 D cA yX2_keep cX2_keep 1 none rmX2_keep [.ref a] S (none) (fun S1 => S1 = uI S 2 a (nI z)) := by
  refine Ct.of (cA := cA) hG (by decide +kernel) (Nat.le_of_ble_eq_true rfl) ?_
  intro p e s m below meth c A C hnm hP hD hS ls hl
  have hx := cx_x C
  have hb := cx_b C
  have hl : lv_has ls 1 [(0, .ref a)] := hl
  refine lv_aload_n hx hb dX2_keep_0 rfl (lv_at hl 0 rfl) ?_
  refine lv_aload_n hx hb dX2_keep_1 rfl (lv_at hl 0 rfl) ?_
  refine gv_2_1 (v := nI z) C hP h.1.1 h.1.2 (h.2.2.2) tm_248 dX2_keep_2 ?_
  refine pf_2_2 (v := nI z) C hP hD hS h.1.1 h.1.2 tm_250 dX2_keep_5 (fun H locs hP hD hS => ?_)
  exact ct_vret C hS hP hD (⟨rfl, _, rfl, rfl⟩) (Nat.le_of_ble_eq_true rfl) (Nat.le_of_ble_eq_true rfl) dX2_keep_8
set_option maxRecDepth 100000 in
theorem c_jrestore {l : Launch} {s0 : State} {D : va_G} {cA : Nat → ClassId} (hG : cx_G l s0 D cA) {S : Mem} {a b z : Nat}  (h : jrA S a b z) : PC l s0 D cA yX2_restore cX2_restore 1 none rmX2_restore [.ref a] S (none) (fun S1 => S1 = uI S 1 a (mI S 2 a)) := by
  refine Ct.of (cA := cA) hG (by decide +kernel) (Nat.le_of_ble_eq_true rfl) ?_
  intro p e s m below meth c A C hnm hP hD hS ls hl
  have hx := cx_x C
  have hb := cx_b C
  have hl : lv_has ls 1 [(0, .ref a)] := hl
  refine lv_aload_n hx hb dX2_restore_0 rfl (lv_at hl 0 rfl) ?_
  refine lv_aload_n hx hb dX2_restore_1 rfl (lv_at hl 0 rfl) ?_
  refine gv_2_2 (v := mI S 2 a) C hP h.1.1 h.1.2 (rfl) tm_250 dX2_restore_2 ?_
  refine pf_2_1 (v := mI S 2 a) C hP hD hS h.1.1 h.1.2 tm_248 dX2_restore_5 (fun H locs hP hD hS => ?_)
  exact ct_vret C hS hP hD (⟨rfl, _, rfl, rfl⟩) (Nat.le_of_ble_eq_true rfl) (Nat.le_of_ble_eq_true rfl) dX2_restore_8
section Jr1
variable {p : Program} {l : Launch} {e : Env} {R : Room} {s : State} {m : MethodId} {args : Array Value} {below : List Frame} {meth : Method} {c : Code} {H : Heap} {locs : List Loc} {cells slots : Nat} {Q : State → Prop}
variable {s0 : State} {D : va_G} {cA : Nat → ClassId} {A : Nat → Prop} {ad : Nat → Nat}
set_option maxRecDepth 100000 in
theorem lp_sumR (C : cx_C p l s m args meth c s0 D cA cX2_sumOfRecordAt 4 (some .int) RX2 A) (hG : cx_G l s0 D cA) {S : Mem} {a b z q : Nat} (h : jrA S a b z) (hz : z ≤ 400) (hq : q + 12 ≤ z) (hR0 : rmX2_byteAt.frames + 1 ≤ R.frames ∧ 8 + (2 + 11) + rmX2_byteAt.locals ≤ R.locals) (hC0 : cells + rmX2_byteAt.cells ≤ R.cells ∧ slots + rmX2_byteAt.slots ≤ R.slots) 
    (kk : ∀ (H : Heap) (locs : List Loc) (ls : Array Slot), va_P D vwCl (pW cA S) H → va_D A (pW cA S) → va_S A s.heap H locs → lv_has ls 4 [(2, .int (smF (byf S b) q 12))] → W p l e R s m args below meth c H locs cells slots Q (F0 m 26 ls [])) :
    ∀ d k : Nat, k + d = 12 → ∀ x : Int32, x = smF (byf S b) q k → ∀ (H : Heap) (locs : List Loc) (ls : Array Slot), va_P D vwCl (pW cA S) H → va_D A (pW cA S) → va_S A s.heap H locs → lv_has ls 4 [(3, .int (nI k)), (2, .int x), (0, .ref a), (1, .int (nI q))] → W p l e R s m args below meth c H locs cells slots Q (F0 m 4 ls []) := by
  have hx := cx_x C
  have hb := cx_b C
  intro d
  induction d with
  | zero =>
    intro k hk x hx2 H locs ls hP hD hS hl
    have hk : k = 12 := hk
    subst hk
    subst hx2
    refine lv_iload_n hx hb dX2_sumOfRecordAt_4 rfl (lv_at hl 0 rfl) ?_
    refine lv_bipush (v := 12) hx hb dX2_sumOfRecordAt_5 (by decide) ?_
    refine lv_icmp_ge (tgt := 26) hx hb dX2_sumOfRecordAt_7 (by decide) (fun _ => ?_) (fun h9 => absurd (by decide +kernel) h9)
    exact kk H locs ls hP hD hS (lv_sub hl [1] rfl)
  | succ d ih =>
    intro k hk x hx2 H locs ls hP hD hS hl
    refine lv_iload_n hx hb dX2_sumOfRecordAt_4 rfl (lv_at hl 0 rfl) ?_
    refine lv_bipush (v := 12) hx hb dX2_sumOfRecordAt_5 (by decide) ?_
    refine lv_icmp_ge (tgt := 26) hx hb dX2_sumOfRecordAt_7 (by decide) (fun h9 => absurd h9 (nI_ge (b := 12) (by omega) (by omega))) (fun _ => ?_)
    refine lv_iload_n hx hb dX2_sumOfRecordAt_10 rfl (lv_at hl 1 rfl) ?_
    refine lv_aload_n hx hb dX2_sumOfRecordAt_11 rfl (lv_at hl 2 rfl) ?_
    refine lv_iload_n hx hb dX2_sumOfRecordAt_12 rfl (lv_at hl 3 rfl) ?_
    refine lv_iload_n hx hb dX2_sumOfRecordAt_13 rfl (lv_at hl 0 rfl) ?_
    refine lv_iadd hx hb dX2_sumOfRecordAt_14 ?_
    rw [nI_add]
    refine pc_V (As := [.int (nI (q + k))]) (rest := [.int x]) (r := some (.int (byf S b (q + k)))) C (c_byteAt (S := S) (z := z) hG (q + k) h (by omega) hz) tm_491 tm_492 tm_493 tm_14 tm_494 hdX2_byteAt hR0 (rcv_2 C hP h.1.1 h.1.2) hl.1 rfl (Nat.le_of_ble_eq_true rfl) dX2_sumOfRecordAt_15 hC0 hP hD hS (fun S1 H locs hQ hP hD hS => ?_)
    rw [hQ] at hP hD
    refine lv_iadd hx hb dX2_sumOfRecordAt_18 ?_
    refine lv_istore_n (lv' := [(2, .int (x + (byf S b (q + k)))), (3, .int (nI k)), (0, .ref a), (1, .int (nI q))]) hx hb dX2_sumOfRecordAt_19 rfl hl (by decide) rfl (fun ls hl => ?_)
    refine lv_iinc (v := nI k + 1) (lv' := [(3, .int (nI k + 1)), (2, .int (x + (byf S b (q + k)))), (0, .ref a), (1, .int (nI q))]) hx hb dX2_sumOfRecordAt_20 hl (k := 1) rfl (by first | rfl | decide) (by decide) rfl (fun ls hl => ?_)
    refine lv_goto (tgt := 4) hx hb dX2_sumOfRecordAt_23 (by decide) ?_
    rw [nI_1] at hl
    exact ih (k + 1) (by omega) _ (by rw [smF, ← hx2]) H locs ls hP hD hS (lv_sub hl [0, 1, 2, 3] rfl)
set_option maxRecDepth 100000 in
theorem lp_jb {T9 : Mem} (C : cx_C p l s m args meth c s0 D cA cX2_handles 8 (some .boolean) RX2 A) (hG : cx_G l s0 D cA) {a b z0 : Nat} {sq v : Int64} {g : Int32} (hR0 : rmX2_append.frames + 1 ≤ R.frames ∧ 8 + (3 + 11) + rmX2_append.locals ≤ R.locals) (hC0 : cells + rmX2_append.cells ≤ R.cells ∧ slots + rmX2_append.slots ≤ R.slots) 
    (kk : ∀ (T : Mem) (H : Heap) (locs : List Loc) (ls : Array Slot), T = T9 → va_P D vwCl (pW cA T) H → va_D A (pW cA T) → va_S A s.heap H locs → lv_has ls 8 [(0, .ref a), (1, .long sq), (3, .long v), (5, .int g), (6, .int (nI z0))] → W p l e R s m args below meth c H locs cells slots Q (F0 m 73 ls [])) :
    ∀ (k z : Nat) (S : Mem), k ≤ 8 → z + k < 400 → jrA S a b z → jbL a b v k z S = T9 → ∀ (H : Heap) (locs : List Loc) (ls : Array Slot), va_P D vwCl (pW cA S) H → va_D A (pW cA S) → va_S A s.heap H locs → lv_has ls 8 [(7, .int (nI k - 1)), (0, .ref a), (1, .long sq), (3, .long v), (5, .int g), (6, .int (nI z0))] → W p l e R s m args below meth c H locs cells slots Q (F0 m 51 ls []) := by
  have hx := cx_x C
  have hb := cx_b C
  intro k
  induction k with
  | zero =>
    intro z S _ _ h hT H locs ls hP hD hS hl
    refine lv_iload hx hb dX2_handles_51 (lv_at hl 0 rfl) ?_
    refine lv_if_lt (tgt := 73) hx hb dX2_handles_53 (by decide) (fun _ => ?_) (fun h9 => absurd (by decide +kernel) h9)
    exact kk S H locs ls hT hP hD hS (lv_sub hl [1, 2, 3, 4, 5] rfl)
  | succ k ih =>
    intro z S hk hz4 h hT H locs ls hP hD hS hl
    rw [nI_pred] at hl
    refine lv_iload hx hb dX2_handles_51 (lv_at hl 0 rfl) ?_
    refine lv_if_lt (tgt := 73) hx hb dX2_handles_53 (by decide) (fun h9 => absurd h9 (Int32.not_lt.mpr (nI_pos' (by omega)))) (fun _ => ?_)
    refine lv_aload_n hx hb dX2_handles_56 rfl (lv_at hl 1 rfl) ?_
    refine lv_lload_n hx hb dX2_handles_57 rfl (lv_at hl 3 rfl) ?_
    refine lv_bipush (v := 8) hx hb dX2_handles_58 (by decide) ?_
    refine lv_iload hx hb dX2_handles_60 (lv_at hl 0 rfl) ?_
    refine lv_imul hx hb dX2_handles_62 ?_
    refine lv_lushr (v := (v.toUInt64 >>> ((8 * (nI k)).toInt64.toUInt64 &&& Int64.toUInt64 63)).toInt64) hx hb dX2_handles_63 rfl ?_
    refine pc_V (As := [.long ((v.toUInt64 >>> ((8 * (nI k)).toInt64.toUInt64 &&& Int64.toUInt64 63)).toInt64)]) (rest := []) (r := none) C (c_append (S := S) (z := z) hG _ (h) (by omega)) tm_483 tm_485 tm_886 tm_14 tm_486 hdX2_append hR0 (rcv_2 C hP h.1.1 h.1.2) hl.1 rfl (Nat.le_of_ble_eq_true rfl) dX2_handles_64 hC0 hP hD hS (fun S1 H locs hQ hP hD hS => ?_)
    rw [hQ] at hP hD
    refine lv_iinc (v := nI k + (-1)) (lv' := [(7, .int (nI k + (-1))), (0, .ref a), (1, .long sq), (3, .long v), (5, .int g), (6, .int (nI z0))]) hx hb dX2_handles_67 hl (k := 0) rfl (by first | rfl | decide) (by decide) rfl (fun ls hl => ?_)
    refine lv_goto (tgt := 51) hx hb dX2_handles_70 (by decide) ?_
    rw [show nI k + (-1) = nI k - 1 from (Int32.sub_eq_add_neg ..).symm] at hl
    exact ih (z + 1) _ (by omega) (by omega) (apS_A h) hT H locs ls hP hD hS (lv_sub hl [0, 1, 2, 3, 4, 5] rfl)
end Jr1
abbrev rmX2_sumOfRecordAt : Room := { frames := 1, cells := 0, slots := 0, locals := 21 }
set_option maxRecDepth 100000 in
theorem c_sumR {l : Launch} {s0 : State} {D : va_G} {cA : Nat → ClassId} (hG : cx_G l s0 D cA) {S : Mem} {a b z : Nat} (q : Nat)  (h : jrA S a b z) (hz : z ≤ 400) (hq : q + 12 ≤ z) : PC l s0 D cA yX2_sumOfRecordAt cX2_sumOfRecordAt 4 (some .int) rmX2_sumOfRecordAt [.ref a, .int (nI q)] S (some (.int (smF (byf S b) q 12 &&& 255))) (fun S1 => S1 = S) := by
  refine Ct.of (cA := cA) hG (by decide +kernel) (Nat.le_of_ble_eq_true rfl) ?_
  intro p e s m below meth c A C hnm hP hD hS ls hl
  have hx := cx_x C
  have hb := cx_b C
  have hl : lv_has ls 4 [(0, .ref a), (1, .int (nI q))] := hl
  refine lv_iconst (v := 0) hx hb dX2_sumOfRecordAt_0 (by decide) ?_
  refine lv_istore_n (lv' := [(2, .int 0), (0, .ref a), (1, .int (nI q))]) hx hb dX2_sumOfRecordAt_1 rfl hl (by decide) rfl (fun ls hl => ?_)
  refine lv_iconst (v := 0) hx hb dX2_sumOfRecordAt_2 (by decide) ?_
  refine lv_istore_n (lv' := [(3, .int 0), (2, .int 0), (0, .ref a), (1, .int (nI q))]) hx hb dX2_sumOfRecordAt_3 rfl hl (by decide) rfl (fun ls hl => ?_)
  refine lp_sumR (R := rmX2_sumOfRecordAt) (z := z) C hG h hz hq ⟨Nat.le_of_ble_eq_true rfl, Nat.le_of_ble_eq_true rfl⟩ ⟨Nat.le_of_ble_eq_true rfl, Nat.le_of_ble_eq_true rfl⟩ (fun H locs ls hP hD hS hl => ?_) 12 0 (by decide) _ rfl _ _ ls hP hD hS (lv_sub hl [0, 1, 2, 3] rfl)
  refine lv_iload_n hx hb dX2_sumOfRecordAt_26 rfl (lv_at hl 0 rfl) ?_
  refine lv_sipush (v := 255) hx hb dX2_sumOfRecordAt_27 (by decide) ?_
  refine lv_iand hx hb dX2_sumOfRecordAt_30 ?_
  exact ct_iret C hS hP hD (⟨rfl, _, rfl, rfl⟩) (Nat.le_of_ble_eq_true rfl) (Nat.le_of_ble_eq_true rfl) dX2_sumOfRecordAt_31
abbrev rmX2_handles : Room := { frames := 2, cells := 0, slots := 0, locals := 44 }
theorem nI_sub {x y : Nat} (h : y ≤ x) (hx : x < 2 ^ 31) : nI x - nI y = nI (x - y) := by
  obtain ⟨d, rfl⟩ : ∃ d, x = y + d := ⟨x - y, by omega⟩
  rw [← nI_add, Nat.add_sub_cancel_left, Int32.add_comm]
  exact Int32.add_sub_cancel ..
theorem j_full {z : Nat} (hz : z ≤ 400) : (13 : Int32) ≤ 400 - nI z ↔ z + 13 ≤ 400 := by
  rw [show (400 : Int32) = nI 400 by decide, show (13 : Int32) = nI 13 by decide, nI_sub hz (by decide), nI_leI (by decide) (by omega)]
  omega
set_option maxRecDepth 100000 in
theorem c_jou_l {l : Launch} {s0 : State} {D : va_G} {cA : Nat → ClassId} (hG : cx_G l s0 D cA) {S : Mem} {a b z : Nat} (sq v : Int64) (g : Int32)  (h : jrA S a b z) (hv : ¬ 0 ≤ v) : PC l s0 D cA yX2_handles cX2_handles 8 (some .boolean) rmX2_handles [.ref a, .long sq, .long v, .int g] S (some (.int 0)) (fun S1 => S1 = S) := by
  refine Ct.of (cA := cA) hG (by decide +kernel) (Nat.le_of_ble_eq_true rfl) ?_
  intro p e s m below meth c A C hnm hP hD hS ls hl
  have hx := cx_x C
  have hb := cx_b C
  have hl : lv_has ls 8 [(0, .ref a), (1, .long sq), (3, .long v), (5, .int g)] := hl
  refine lv_lload_n hx hb dX2_handles_0 rfl (lv_at hl 2 rfl) ?_
  refine lv_lconst (v := 0) hx hb dX2_handles_1 (by decide) ?_
  refine W.lcmp hx hb dX2_handles_2 ?_
  refine lv_if_lt (tgt := 19) hx hb dX2_handles_3 (by decide) (fun _ => ?_) (fun h9 => absurd ((lg_cmp_lt ..).mpr (Int64.not_le.mp hv)) h9)
  refine lv_iconst (v := 0) hx hb dX2_handles_19 (by decide) ?_
  exact ct_zret C (by first | rfl | decide) hS hP hD (⟨rfl, _, rfl, rfl⟩) (Nat.le_of_ble_eq_true rfl) (Nat.le_of_ble_eq_true rfl) dX2_handles_20
set_option maxRecDepth 100000 in
theorem c_jou_f {l : Launch} {s0 : State} {D : va_G} {cA : Nat → ClassId} (hG : cx_G l s0 D cA) {S : Mem} {a b z : Nat} (sq v : Int64) (g : Int32)  (h : jrA S a b z) (hz : z ≤ 400) (hv : 0 ≤ v) (hf : ¬ z + 13 ≤ 400) : PC l s0 D cA yX2_handles cX2_handles 8 (some .boolean) rmX2_handles [.ref a, .long sq, .long v, .int g] S (some (.int 0)) (fun S1 => S1 = S) := by
  refine Ct.of (cA := cA) hG (by decide +kernel) (Nat.le_of_ble_eq_true rfl) ?_
  intro p e s m below meth c A C hnm hP hD hS ls hl
  have hx := cx_x C
  have hb := cx_b C
  have hl : lv_has ls 8 [(0, .ref a), (1, .long sq), (3, .long v), (5, .int g)] := hl
  refine lv_lload_n hx hb dX2_handles_0 rfl (lv_at hl 2 rfl) ?_
  refine lv_lconst (v := 0) hx hb dX2_handles_1 (by decide) ?_
  refine W.lcmp hx hb dX2_handles_2 ?_
  refine lv_if_lt (tgt := 19) hx hb dX2_handles_3 (by decide) (fun h9 => absurd h9 (fun q => absurd ((lg_cmp_lt ..).mp q) (Int64.not_lt.mpr hv))) (fun _ => ?_)
  refine lv_bipush (v := 13) hx hb dX2_handles_6 (by decide) ?_
  refine lv_sipush (v := 400) hx hb dX2_handles_8 (by decide) ?_
  refine lv_aload_n hx hb dX2_handles_11 rfl (lv_at hl 0 rfl) ?_
  refine gv_2_1 (v := nI z) C hP h.1.1 h.1.2 (h.2.2.2) tm_248 dX2_handles_12 ?_
  refine lv_isub hx hb dX2_handles_15 ?_
  refine lv_icmp_le (tgt := 21) hx hb dX2_handles_16 (by decide) (fun h9 => absurd h9 (fun q => hf ((j_full hz).mp q))) (fun _ => ?_)
  refine lv_iconst (v := 0) hx hb dX2_handles_19 (by decide) ?_
  exact ct_zret C (by first | rfl | decide) hS hP hD (⟨rfl, _, rfl, rfl⟩) (Nat.le_of_ble_eq_true rfl) (Nat.le_of_ble_eq_true rfl) dX2_handles_20
set_option maxRecDepth 100000 in
theorem c_jou_y {l : Launch} {s0 : State} {D : va_G} {cA : Nat → ClassId} (hG : cx_G l s0 D cA) {S : Mem} {a b z : Nat} (sq v : Int64) (g : Int32)  (h : jrA S a b z) (hv : 0 ≤ v) (hf : z + 13 ≤ 400) : PC l s0 D cA yX2_handles cX2_handles 8 (some .boolean) rmX2_handles [.ref a, .long sq, .long v, .int g] S (some (.int 1)) (fun S1 => S1 = jrS S a b z sq v g) := by
  refine Ct.of (cA := cA) hG (by decide +kernel) (Nat.le_of_ble_eq_true rfl) ?_
  intro p e s m below meth c A C hnm hP hD hS ls hl
  have hx := cx_x C
  have hb := cx_b C
  have hl : lv_has ls 8 [(0, .ref a), (1, .long sq), (3, .long v), (5, .int g)] := hl
  refine lv_lload_n hx hb dX2_handles_0 rfl (lv_at hl 2 rfl) ?_
  refine lv_lconst (v := 0) hx hb dX2_handles_1 (by decide) ?_
  refine W.lcmp hx hb dX2_handles_2 ?_
  refine lv_if_lt (tgt := 19) hx hb dX2_handles_3 (by decide) (fun h9 => absurd h9 (fun q => absurd ((lg_cmp_lt ..).mp q) (Int64.not_lt.mpr hv))) (fun _ => ?_)
  refine lv_bipush (v := 13) hx hb dX2_handles_6 (by decide) ?_
  refine lv_sipush (v := 400) hx hb dX2_handles_8 (by decide) ?_
  refine lv_aload_n hx hb dX2_handles_11 rfl (lv_at hl 0 rfl) ?_
  refine gv_2_1 (v := nI z) C hP h.1.1 h.1.2 (h.2.2.2) tm_248 dX2_handles_12 ?_
  refine lv_isub hx hb dX2_handles_15 ?_
  refine lv_icmp_le (tgt := 21) hx hb dX2_handles_16 (by decide) (fun _ => ?_) (fun h9 => absurd ((j_full (by omega)).mpr hf) h9)
  refine lv_aload_n hx hb dX2_handles_21 rfl (lv_at hl 0 rfl) ?_
  refine gv_2_1 (v := nI z) C hP h.1.1 h.1.2 (h.2.2.2) tm_248 dX2_handles_22 ?_
  refine lv_istore (lv' := [(6, .int (nI z)), (0, .ref a), (1, .long sq), (3, .long v), (5, .int g)]) hx hb dX2_handles_25 hl (by decide) rfl (fun ls hl => ?_)
  refine lv_aload_n hx hb dX2_handles_27 rfl (lv_at hl 1 rfl) ?_
  refine lv_ldc2 (v := 13) hx hb (cx_own C) (cx_t C _ tm_482) dX2_handles_28 ?_
  refine pc_V (As := [.long 13]) (rest := []) (r := none) C (c_append (S := S) (z := z) hG _ (h) (by omega)) tm_483 tm_485 tm_886 tm_14 tm_486 hdX2_append ⟨Nat.le_of_ble_eq_true rfl, Nat.le_of_ble_eq_true rfl⟩ (rcv_2 C hP h.1.1 h.1.2) hl.1 rfl (Nat.le_of_ble_eq_true rfl) dX2_handles_31 ⟨Nat.le_of_ble_eq_true rfl, Nat.le_of_ble_eq_true rfl⟩ hP hD hS (fun S1 H locs hQ hP hD hS => ?_)
  rw [hQ] at hP hD
  refine lv_aload_n hx hb dX2_handles_34 rfl (lv_at hl 1 rfl) ?_
  refine lv_lload_n hx hb dX2_handles_35 rfl (lv_at hl 2 rfl) ?_
  refine lv_bipush (v := 8) hx hb dX2_handles_36 (by decide) ?_
  refine lv_lushr (v := (sq.toUInt64 >>> ((8 : Int32).toInt64.toUInt64 &&& Int64.toUInt64 63)).toInt64) hx hb dX2_handles_38 rfl ?_
  refine pc_V (As := [.long ((sq.toUInt64 >>> ((8 : Int32).toInt64.toUInt64 &&& Int64.toUInt64 63)).toInt64)]) (rest := []) (r := none) C (c_append (S := apS S a b (z) 13) (z := z + 1) hG _ (apS_A h) (by omega)) tm_483 tm_485 tm_886 tm_14 tm_486 hdX2_append ⟨Nat.le_of_ble_eq_true rfl, Nat.le_of_ble_eq_true rfl⟩ (rcv_2 C hP h.1.1 h.1.2) hl.1 rfl (Nat.le_of_ble_eq_true rfl) dX2_handles_39 ⟨Nat.le_of_ble_eq_true rfl, Nat.le_of_ble_eq_true rfl⟩ hP hD hS (fun S2 H locs hQ hP hD hS => ?_)
  rw [hQ] at hP hD
  refine lv_aload_n hx hb dX2_handles_42 rfl (lv_at hl 1 rfl) ?_
  refine lv_lload_n hx hb dX2_handles_43 rfl (lv_at hl 2 rfl) ?_
  refine pc_V (As := [.long sq]) (rest := []) (r := none) C (c_append (S := apS (apS S a b (z) 13) a b (z + 1) (shu sq 8)) (z := z + 2) hG _ (apS_A (apS_A h)) (by omega)) tm_483 tm_485 tm_886 tm_14 tm_486 hdX2_append ⟨Nat.le_of_ble_eq_true rfl, Nat.le_of_ble_eq_true rfl⟩ (rcv_2 C hP h.1.1 h.1.2) hl.1 rfl (Nat.le_of_ble_eq_true rfl) dX2_handles_44 ⟨Nat.le_of_ble_eq_true rfl, Nat.le_of_ble_eq_true rfl⟩ hP hD hS (fun S3 H locs hQ hP hD hS => ?_)
  rw [hQ] at hP hD
  refine lv_bipush (v := 7) hx hb dX2_handles_47 (by decide) ?_
  refine lv_istore (lv' := [(7, .int 7), (6, .int (nI z)), (0, .ref a), (1, .long sq), (3, .long v), (5, .int g)]) hx hb dX2_handles_49 hl (by decide) rfl (fun ls hl => ?_)
  refine lp_jb (R := rmX2_handles) (z0 := z) (T9 := jbL a b v 8 (z + 3) (apS (apS (apS S a b z 13) a b (z + 1) (shu sq 8)) a b (z + 2) sq)) C hG ⟨Nat.le_of_ble_eq_true rfl, Nat.le_of_ble_eq_true rfl⟩ ⟨Nat.le_of_ble_eq_true rfl, Nat.le_of_ble_eq_true rfl⟩ (fun T H locs ls hT hP hD hS hl => ?_) 8 (z + 3) _ (by decide) (by omega) (apS_A (apS_A (apS_A h))) rfl _ _ ls hP hD hS (lv_sub hl [0, 2, 3, 4, 5, 1] rfl)
  have h8 : jrA T a b (z + 11) := by rw [hT]; exact jbL_A 8 (z + 3) _ (apS_A (apS_A (apS_A h)))
  refine lv_aload_n hx hb dX2_handles_73 rfl (lv_at hl 0 rfl) ?_
  refine lv_iload hx hb dX2_handles_74 (lv_at hl 3 rfl) ?_
  refine lv_i2l (v := g.toInt64) hx hb dX2_handles_76 rfl ?_
  refine pc_V (As := [.long g.toInt64]) (rest := []) (r := none) C (c_append (S := T) (z := z + 11) hG _ (h8) (by omega)) tm_483 tm_485 tm_886 tm_14 tm_486 hdX2_append ⟨Nat.le_of_ble_eq_true rfl, Nat.le_of_ble_eq_true rfl⟩ (rcv_2 C hP h8.1.1 h8.1.2) hl.1 rfl (Nat.le_of_ble_eq_true rfl) dX2_handles_77 ⟨Nat.le_of_ble_eq_true rfl, Nat.le_of_ble_eq_true rfl⟩ hP hD hS (fun S4 H locs hQ hP hD hS => ?_)
  rw [hQ] at hP hD
  refine lv_aload_n hx hb dX2_handles_80 rfl (lv_at hl 0 rfl) ?_
  refine lv_aload_n hx hb dX2_handles_81 rfl (lv_at hl 0 rfl) ?_
  refine lv_iload hx hb dX2_handles_82 (lv_at hl 4 rfl) ?_
  refine pc_V (As := [.int (nI z)]) (rest := [.ref a]) (r := some (.int (smF (byf (apS T a b (z + 11) g.toInt64) b) z 12 &&& 255))) C (c_sumR (S := apS T a b (z + 11) g.toInt64) (z := z + 12) hG z (apS_A h8) (by omega) (by omega)) tm_487 tm_489 tm_887 tm_14 tm_490 hdX2_sumOfRecordAt ⟨Nat.le_of_ble_eq_true rfl, Nat.le_of_ble_eq_true rfl⟩ (rcv_2 C hP h8.1.1 h8.1.2) hl.1 rfl (Nat.le_of_ble_eq_true rfl) dX2_handles_84 ⟨Nat.le_of_ble_eq_true rfl, Nat.le_of_ble_eq_true rfl⟩ hP hD hS (fun S5 H locs hQ hP hD hS => ?_)
  rw [hQ] at hP hD
  refine lv_i2l (v := (smF (byf (apS T a b (z + 11) g.toInt64) b) z 12 &&& 255).toInt64) hx hb dX2_handles_87 rfl ?_
  refine pc_V (As := [.long ((smF (byf (apS T a b (z + 11) g.toInt64) b) z 12 &&& 255).toInt64)]) (rest := []) (r := none) C (c_append (S := apS T a b (z + 11) g.toInt64) (z := z + 12) hG _ (apS_A h8) (by omega)) tm_483 tm_485 tm_886 tm_14 tm_486 hdX2_append ⟨Nat.le_of_ble_eq_true rfl, Nat.le_of_ble_eq_true rfl⟩ (rcv_2 C hP h8.1.1 h8.1.2) hl.1 rfl (Nat.le_of_ble_eq_true rfl) dX2_handles_88 ⟨Nat.le_of_ble_eq_true rfl, Nat.le_of_ble_eq_true rfl⟩ hP hD hS (fun S6 H locs hQ hP hD hS => ?_)
  rw [hQ] at hP hD
  refine lv_iconst (v := 1) hx hb dX2_handles_91 (by decide) ?_
  exact ct_zret C (by first | rfl | decide) hS hP hD (⟨rfl, _, rfl, by unfold jrS jr9; rw [← hT]⟩) (Nat.le_of_ble_eq_true rfl) (Nat.le_of_ble_eq_true rfl) dX2_handles_92
abbrev rmX2_isSoundAt : Room := { frames := 2, cells := 0, slots := 0, locals := 44 }
set_option maxRecDepth 100000 in
theorem c_sound {l : Launch} {s0 : State} {D : va_G} {cA : Nat → ClassId} (hG : cx_G l s0 D cA) {S : Mem} {a b z : Nat} (q : Nat)  (h : jrA S a b z) (hz : z ≤ 400) (hq : q + 13 ≤ z) : PC l s0 D cA yX2_isSoundAt cX2_isSoundAt 2 (some .boolean) rmX2_isSoundAt [.ref a, .int (nI q)] S (some (.int (if whC (byf S b) q then 1 else 0))) (fun S1 => S1 = S) := by
  refine Ct.of (cA := cA) hG (by decide +kernel) (Nat.le_of_ble_eq_true rfl) ?_
  intro p e s m below meth c A C hnm hP hD hS ls hl
  have hx := cx_x C
  have hb := cx_b C
  have hl : lv_has ls 2 [(0, .ref a), (1, .int (nI q))] := hl
  refine lv_aload_n hx hb dX2_isSoundAt_0 rfl (lv_at hl 0 rfl) ?_
  refine lv_iload_n hx hb dX2_isSoundAt_1 rfl (lv_at hl 1 rfl) ?_
  refine pc_V (As := [.int (nI q)]) (rest := []) (r := some (.int (byf S b q))) C (c_byteAt (S := S) (z := z) hG q h (by omega) hz) tm_491 tm_492 tm_493 tm_14 tm_494 hdX2_byteAt ⟨Nat.le_of_ble_eq_true rfl, Nat.le_of_ble_eq_true rfl⟩ (rcv_2 C hP h.1.1 h.1.2) hl.1 rfl (Nat.le_of_ble_eq_true rfl) dX2_isSoundAt_2 ⟨Nat.le_of_ble_eq_true rfl, Nat.le_of_ble_eq_true rfl⟩ hP hD hS (fun S1 H locs hQ hP hD hS => ?_)
  rw [hQ] at hP hD
  refine lv_bipush (v := 13) hx hb dX2_isSoundAt_5 (by decide) ?_
  refine lv_icmp_ne (tgt := 32) hx hb dX2_isSoundAt_7 (by decide) (fun w1 => ?_) (fun w1 => ?_)
  · refine lv_iconst (v := 0) hx hb dX2_isSoundAt_32 (by decide) ?_
    exact ct_zret C (by first | rfl | decide) hS hP hD (⟨by rw [show whC (byf S b) q = false from decide_eq_false (fun h => by first | exact w1 h.1 | exact w2 h.2)]; rfl, _, rfl, rfl⟩) (Nat.le_of_ble_eq_true rfl) (Nat.le_of_ble_eq_true rfl) dX2_isSoundAt_33
  refine lv_aload_n hx hb dX2_isSoundAt_10 rfl (lv_at hl 0 rfl) ?_
  refine lv_iload_n hx hb dX2_isSoundAt_11 rfl (lv_at hl 1 rfl) ?_
  refine lv_bipush (v := 13) hx hb dX2_isSoundAt_12 (by decide) ?_
  refine lv_iadd hx hb dX2_isSoundAt_14 ?_
  refine lv_iconst (v := 1) hx hb dX2_isSoundAt_15 (by decide) ?_
  refine lv_isub hx hb dX2_isSoundAt_16 ?_
  rw [show nI q + 13 - 1 = nI (q + 12) by rw [show (13 : Int32) = nI 13 by decide, nI_add, show q + 13 = q + 12 + 1 by omega, nI_pred]]
  refine pc_V (As := [.int (nI (q + 12))]) (rest := []) (r := some (.int (byf S b (q + 12)))) C (c_byteAt (S := S) (z := z) hG (q + 12) h (by omega) hz) tm_491 tm_492 tm_493 tm_14 tm_494 hdX2_byteAt ⟨Nat.le_of_ble_eq_true rfl, Nat.le_of_ble_eq_true rfl⟩ (rcv_2 C hP h.1.1 h.1.2) hl.1 rfl (Nat.le_of_ble_eq_true rfl) dX2_isSoundAt_17 ⟨Nat.le_of_ble_eq_true rfl, Nat.le_of_ble_eq_true rfl⟩ hP hD hS (fun S2 H locs hQ hP hD hS => ?_)
  rw [hQ] at hP hD
  refine lv_aload_n hx hb dX2_isSoundAt_20 rfl (lv_at hl 0 rfl) ?_
  refine lv_iload_n hx hb dX2_isSoundAt_21 rfl (lv_at hl 1 rfl) ?_
  refine pc_V (As := [.int (nI q)]) (rest := [.int (byf S b (q + 12))]) (r := some (.int (smF (byf S b) q 12 &&& 255))) C (c_sumR (S := S) (z := z) hG q (h) (hz) (by omega)) tm_487 tm_489 tm_887 tm_14 tm_490 hdX2_sumOfRecordAt ⟨Nat.le_of_ble_eq_true rfl, Nat.le_of_ble_eq_true rfl⟩ (rcv_2 C hP h.1.1 h.1.2) hl.1 rfl (Nat.le_of_ble_eq_true rfl) dX2_isSoundAt_22 ⟨Nat.le_of_ble_eq_true rfl, Nat.le_of_ble_eq_true rfl⟩ hP hD hS (fun S3 H locs hQ hP hD hS => ?_)
  rw [hQ] at hP hD
  refine lv_icmp_ne (tgt := 32) hx hb dX2_isSoundAt_25 (by decide) (fun w2 => ?_) (fun w2 => ?_)
  · refine lv_iconst (v := 0) hx hb dX2_isSoundAt_32 (by decide) ?_
    exact ct_zret C (by first | rfl | decide) hS hP hD (⟨by rw [show whC (byf S b) q = false from decide_eq_false (fun h => by first | exact w1 h.1 | exact w2 h.2)]; rfl, _, rfl, rfl⟩) (Nat.le_of_ble_eq_true rfl) (Nat.le_of_ble_eq_true rfl) dX2_isSoundAt_33
  refine lv_iconst (v := 1) hx hb dX2_isSoundAt_28 (by decide) ?_
  refine lv_goto (tgt := 33) hx hb dX2_isSoundAt_29 (by decide) ?_
  exact ct_zret C (by first | rfl | decide) hS hP hD (⟨by rw [show whC (byf S b) q = true from decide_eq_true ⟨w1, w2⟩]; rfl, _, rfl, rfl⟩) (Nat.le_of_ble_eq_true rfl) (Nat.le_of_ble_eq_true rfl) dX2_isSoundAt_33
section Jr2
variable {p : Program} {l : Launch} {e : Env} {R : Room} {s : State} {m : MethodId} {args : Array Value} {below : List Frame} {meth : Method} {c : Code} {H : Heap} {locs : List Loc} {cells slots : Nat} {Q : State → Prop}
variable {s0 : State} {D : va_G} {cA : Nat → ClassId} {A : Nat → Prop} {ad : Nat → Nat}
set_option maxRecDepth 100000 in
theorem lp_sr (C : cx_C p l s m args meth c s0 D cA cX2_soundRecords 3 (some .int) RX2 A) (hG : cx_G l s0 D cA) {S : Mem} {a b z R0 : Nat} (h : jrA S a b z) (hz : z ≤ 400) (hR0 : rmX2_isSoundAt.frames + 1 ≤ R.frames ∧ 8 + (2 + 11) + rmX2_isSoundAt.locals ≤ R.locals) (hC0 : cells + rmX2_isSoundAt.cells ≤ R.cells ∧ slots + rmX2_isSoundAt.slots ≤ R.slots) 
    (kk : ∀ (H : Heap) (locs : List Loc) (ls : Array Slot), va_P D vwCl (pW cA S) H → va_D A (pW cA S) → va_S A s.heap H locs → lv_has ls 3 [(1, .int (nI R0))] → W p l e R s m args below meth c H locs cells slots Q (F0 m 35 ls [])) :
    ∀ d i : Nat, i + d = 31 → snN (byf S b) z d i = R0 → ∀ (H : Heap) (locs : List Loc) (ls : Array Slot), va_P D vwCl (pW cA S) H → va_D A (pW cA S) → va_S A s.heap H locs → lv_has ls 3 [(2, .int (nI (13 * i))), (1, .int (nI i)), (0, .ref a)] → W p l e R s m args below meth c H locs cells slots Q (F0 m 4 ls []) := by
  have hx := cx_x C
  have hb := cx_b C
  intro d
  induction d with
  | zero =>
    intro i hk hN H locs ls hP hD hS hl
    have hN : i = R0 := hN
    refine lv_iload_n hx hb dX2_soundRecords_4 rfl (lv_at hl 0 rfl) ?_
    refine lv_bipush (v := 13) hx hb dX2_soundRecords_5 (by decide) ?_
    refine lv_iadd hx hb dX2_soundRecords_7 ?_
    refine lv_aload_n hx hb dX2_soundRecords_8 rfl (lv_at hl 2 rfl) ?_
    refine gv_2_1 (v := nI z) C hP h.1.1 h.1.2 (h.2.2.2) tm_248 dX2_soundRecords_9 ?_
    refine lv_icmp_gt (tgt := 35) hx hb dX2_soundRecords_12 (by decide) (fun _ => ?_) (fun h9 => absurd (by rw [show nI (13 * i) + 13 = nI (13 * i + 13) by rw [show (13 : Int32) = nI 13 by decide, nI_add]]; exact nI_lt (by omega) (by omega)) h9)
    subst hN
    exact kk H locs ls hP hD hS (lv_sub hl [1] rfl)
  | succ d ih =>
    intro i hk hN H locs ls hP hD hS hl
    refine lv_iload_n hx hb dX2_soundRecords_4 rfl (lv_at hl 0 rfl) ?_
    refine lv_bipush (v := 13) hx hb dX2_soundRecords_5 (by decide) ?_
    refine lv_iadd hx hb dX2_soundRecords_7 ?_
    refine lv_aload_n hx hb dX2_soundRecords_8 rfl (lv_at hl 2 rfl) ?_
    refine gv_2_1 (v := nI z) C hP h.1.1 h.1.2 (h.2.2.2) tm_248 dX2_soundRecords_9 ?_
    refine lv_icmp_gt (tgt := 35) hx hb dX2_soundRecords_12 (by decide) (fun cz => ?_) (fun cz => ?_)
    · first
       | (rw [snN, if_neg (fun h => absurd (nI_le h.1 (by omega)) (Int32.not_le.mpr (by rw [show nI (13 * i) + 13 = nI (13 * i + 13) by rw [show (13 : Int32) = nI 13 by decide, nI_add]] at cz; exact cz)))] at hN)
       | (rw [snN, if_neg (fun h => by rw [if_pos h.2] at cw; exact absurd cw (by decide))] at hN)
      have hN : i = R0 := hN
      subst hN
      exact kk H locs ls hP hD hS (lv_sub hl [1] rfl)
    have hz2 : 13 * i + 13 ≤ z := by rw [show nI (13 * i) + 13 = nI (13 * i + 13) by rw [show (13 : Int32) = nI 13 by decide, nI_add]] at cz; exact (nI_leI (by omega) (by omega)).mp (Int32.not_lt.mp cz)
    refine lv_aload_n hx hb dX2_soundRecords_15 rfl (lv_at hl 2 rfl) ?_
    refine lv_iload_n hx hb dX2_soundRecords_16 rfl (lv_at hl 0 rfl) ?_
    refine pc_V (As := [.int (nI (13 * i))]) (rest := []) (r := some (.int (if whC (byf S b) (13 * i) then 1 else 0))) C (c_sound (S := S) (z := z) hG (13 * i) h hz (by omega)) tm_628 tm_630 tm_892 tm_14 tm_631 hdX2_isSoundAt hR0 (rcv_2 C hP h.1.1 h.1.2) hl.1 rfl (Nat.le_of_ble_eq_true rfl) dX2_soundRecords_17 hC0 hP hD hS (fun S1 H locs hQ hP hD hS => ?_)
    rw [hQ] at hP hD
    refine lv_if_ne (tgt := 26) hx hb dX2_soundRecords_20 (by decide) (fun cw => ?_) (fun cw => ?_)
    · refine lv_iinc (v := nI i + 1) (lv' := [(1, .int (nI i + 1)), (2, .int (nI (13 * i))), (0, .ref a)]) hx hb dX2_soundRecords_26 hl (k := 1) rfl (by first | rfl | decide) (by decide) rfl (fun ls hl => ?_)
      refine lv_iinc (v := nI (13 * i) + 13) (lv' := [(2, .int (nI (13 * i) + 13)), (1, .int (nI i + 1)), (0, .ref a)]) hx hb dX2_soundRecords_29 hl (k := 1) rfl (by first | rfl | decide) (by decide) rfl (fun ls hl => ?_)
      refine lv_goto (tgt := 4) hx hb dX2_soundRecords_32 (by decide) ?_
      have hw : whC (byf S b) (13 * i) = true := Decidable.byContradiction fun h => cw (if_neg h)
      rw [snN, if_pos ⟨hz2, hw⟩] at hN
      rw [nI_1, show nI (13 * i) + 13 = nI (13 * (i + 1)) by rw [show (13 : Int32) = nI 13 by decide, nI_add, Nat.mul_add]] at hl
      exact ih (i + 1) (by omega) hN H locs ls hP hD hS (lv_sub hl [0, 1, 2] rfl)
    refine lv_goto (tgt := 35) hx hb dX2_soundRecords_23 (by decide) ?_
    first
     | (rw [snN, if_neg (fun h => absurd (nI_le h.1 (by omega)) (Int32.not_le.mpr (by rw [show nI (13 * i) + 13 = nI (13 * i + 13) by rw [show (13 : Int32) = nI 13 by decide, nI_add]] at cz; exact cz)))] at hN)
     | (rw [snN, if_neg (fun h => by rw [if_pos h.2] at cw; exact absurd cw (by decide))] at hN)
    have hN : i = R0 := hN
    subst hN
    exact kk H locs ls hP hD hS (lv_sub hl [1] rfl)
set_option maxRecDepth 100000 in
theorem lp_val (C : cx_C p l s m args meth c s0 D cA cX2_valueAt 5 (some .long) RX2 A) (hG : cx_G l s0 D cA) {S : Mem} {a b z q : Nat} (h : jrA S a b z) (hz : z ≤ 400) (hq : q + 8 ≤ z) (hR0 : rmX2_byteAt.frames + 1 ≤ R.frames ∧ 8 + (2 + 11) + rmX2_byteAt.locals ≤ R.locals) (hC0 : cells + rmX2_byteAt.cells ≤ R.cells ∧ slots + rmX2_byteAt.slots ≤ R.slots) 
    (kk : ∀ (H : Heap) (locs : List Loc) (ls : Array Slot), va_P D vwCl (pW cA S) H → va_D A (pW cA S) → va_S A s.heap H locs → lv_has ls 5 [(2, .long (rvL (byf S b) q 8))] → W p l e R s m args below meth c H locs cells slots Q (F0 m 33 ls [])) :
    ∀ d k : Nat, k + d = 8 → ∀ x : Int64, x = rvL (byf S b) q k → ∀ (H : Heap) (locs : List Loc) (ls : Array Slot), va_P D vwCl (pW cA S) H → va_D A (pW cA S) → va_S A s.heap H locs → lv_has ls 5 [(4, .int (nI k)), (2, .long x), (0, .ref a), (1, .int (nI q))] → W p l e R s m args below meth c H locs cells slots Q (F0 m 5 ls []) := by
  have hx := cx_x C
  have hb := cx_b C
  intro d
  induction d with
  | zero =>
    intro k hk x hx2 H locs ls hP hD hS hl
    have hk : k = 8 := hk
    subst hk
    subst hx2
    refine lv_iload hx hb dX2_valueAt_5 (lv_at hl 0 rfl) ?_
    refine lv_bipush (v := 8) hx hb dX2_valueAt_7 (by decide) ?_
    refine lv_icmp_ge (tgt := 33) hx hb dX2_valueAt_9 (by decide) (fun _ => ?_) (fun h9 => absurd (by decide +kernel) h9)
    exact kk H locs ls hP hD hS (lv_sub hl [1] rfl)
  | succ d ih =>
    intro k hk x hx2 H locs ls hP hD hS hl
    refine lv_iload hx hb dX2_valueAt_5 (lv_at hl 0 rfl) ?_
    refine lv_bipush (v := 8) hx hb dX2_valueAt_7 (by decide) ?_
    refine lv_icmp_ge (tgt := 33) hx hb dX2_valueAt_9 (by decide) (fun h9 => absurd h9 (nI_ge (b := 8) (by omega) (by omega))) (fun _ => ?_)
    refine lv_lload_n hx hb dX2_valueAt_12 rfl (lv_at hl 1 rfl) ?_
    refine lv_bipush (v := 8) hx hb dX2_valueAt_13 (by decide) ?_
    refine lv_lshl (v := x <<< ((8 : Int32).toInt64 &&& 63)) hx hb dX2_valueAt_15 rfl ?_
    refine lv_aload_n hx hb dX2_valueAt_16 rfl (lv_at hl 2 rfl) ?_
    refine lv_iload_n hx hb dX2_valueAt_17 rfl (lv_at hl 3 rfl) ?_
    refine lv_iload hx hb dX2_valueAt_18 (lv_at hl 0 rfl) ?_
    refine lv_iadd hx hb dX2_valueAt_20 ?_
    rw [nI_add]
    refine pc_V (As := [.int (nI (q + k))]) (rest := [.long (x <<< ((8 : Int32).toInt64 &&& 63))]) (r := some (.int (byf S b (q + k)))) C (c_byteAt (S := S) (z := z) hG (q + k) h (by omega) hz) tm_491 tm_492 tm_493 tm_14 tm_494 hdX2_byteAt hR0 (rcv_2 C hP h.1.1 h.1.2) hl.1 rfl (Nat.le_of_ble_eq_true rfl) dX2_valueAt_21 hC0 hP hD hS (fun S1 H locs hQ hP hD hS => ?_)
    rw [hQ] at hP hD
    refine lv_i2l (v := (byf S b (q + k)).toInt64) hx hb dX2_valueAt_24 rfl ?_
    refine lv_lor hx hb dX2_valueAt_25 ?_
    refine lv_lstore_n (lv' := [(2, .long ((x <<< ((8 : Int32).toInt64 &&& 63)) ||| ((byf S b (q + k)).toInt64))), (4, .int (nI k)), (0, .ref a), (1, .int (nI q))]) hx hb dX2_valueAt_26 rfl hl (by decide) rfl (fun ls hl => ?_)
    refine lv_iinc (v := nI k + 1) (lv' := [(4, .int (nI k + 1)), (2, .long ((x <<< ((8 : Int32).toInt64 &&& 63)) ||| ((byf S b (q + k)).toInt64))), (0, .ref a), (1, .int (nI q))]) hx hb dX2_valueAt_27 hl (k := 1) rfl (by first | rfl | decide) (by decide) rfl (fun ls hl => ?_)
    refine lv_goto (tgt := 5) hx hb dX2_valueAt_30 (by decide) ?_
    rw [nI_1] at hl
    exact ih (k + 1) (by omega) _ (by rw [rvL, ← hx2]) H locs ls hP hD hS (lv_sub hl [0, 1, 2, 3] rfl)
end Jr2
abbrev rmX2_soundRecords : Room := { frames := 3, cells := 0, slots := 0, locals := 65 }
abbrev rmX2_valueAt : Room := { frames := 1, cells := 0, slots := 0, locals := 21 }
set_option maxRecDepth 100000 in
theorem c_soundR {l : Launch} {s0 : State} {D : va_G} {cA : Nat → ClassId} (hG : cx_G l s0 D cA) {S : Mem} {a b z : Nat}  (h : jrA S a b z) (hz : z ≤ 400) : PC l s0 D cA yX2_soundRecords cX2_soundRecords 3 (some .int) rmX2_soundRecords [.ref a] S (some (.int (nI (snN (byf S b) z 31 0)))) (fun S1 => S1 = S) := by
  refine Ct.of (cA := cA) hG (by decide +kernel) (Nat.le_of_ble_eq_true rfl) ?_
  intro p e s m below meth c A C hnm hP hD hS ls hl
  have hx := cx_x C
  have hb := cx_b C
  have hl : lv_has ls 3 [(0, .ref a)] := hl
  refine lv_iconst (v := 0) hx hb dX2_soundRecords_0 (by decide) ?_
  refine lv_istore_n (lv' := [(1, .int 0), (0, .ref a)]) hx hb dX2_soundRecords_1 rfl hl (by decide) rfl (fun ls hl => ?_)
  refine lv_iconst (v := 0) hx hb dX2_soundRecords_2 (by decide) ?_
  refine lv_istore_n (lv' := [(2, .int 0), (1, .int 0), (0, .ref a)]) hx hb dX2_soundRecords_3 rfl hl (by decide) rfl (fun ls hl => ?_)
  refine lp_sr (R := rmX2_soundRecords) (z := z) C hG h hz ⟨Nat.le_of_ble_eq_true rfl, Nat.le_of_ble_eq_true rfl⟩ ⟨Nat.le_of_ble_eq_true rfl, Nat.le_of_ble_eq_true rfl⟩ (fun H locs ls hP hD hS hl => ?_) 31 0 (by decide) rfl _ _ ls hP hD hS (lv_sub hl [0, 1, 2] rfl)
  refine lv_iload_n hx hb dX2_soundRecords_35 rfl (lv_at hl 0 rfl) ?_
  exact ct_iret C hS hP hD (⟨rfl, _, rfl, rfl⟩) (Nat.le_of_ble_eq_true rfl) (Nat.le_of_ble_eq_true rfl) dX2_soundRecords_36
set_option maxRecDepth 100000 in
theorem c_valueAt {l : Launch} {s0 : State} {D : va_G} {cA : Nat → ClassId} (hG : cx_G l s0 D cA) {S : Mem} {a b z : Nat} (q : Nat)  (h : jrA S a b z) (hz : z ≤ 400) (hq : q + 8 ≤ z) : PC l s0 D cA yX2_valueAt cX2_valueAt 5 (some .long) rmX2_valueAt [.ref a, .int (nI q)] S (some (.long (rvL (byf S b) q 8))) (fun S1 => S1 = S) := by
  refine Ct.of (cA := cA) hG (by decide +kernel) (Nat.le_of_ble_eq_true rfl) ?_
  intro p e s m below meth c A C hnm hP hD hS ls hl
  have hx := cx_x C
  have hb := cx_b C
  have hl : lv_has ls 5 [(0, .ref a), (1, .int (nI q))] := hl
  refine lv_lconst (v := 0) hx hb dX2_valueAt_0 (by decide) ?_
  refine lv_lstore_n (lv' := [(2, .long 0), (0, .ref a), (1, .int (nI q))]) hx hb dX2_valueAt_1 rfl hl (by decide) rfl (fun ls hl => ?_)
  refine lv_iconst (v := 0) hx hb dX2_valueAt_2 (by decide) ?_
  refine lv_istore (lv' := [(4, .int 0), (2, .long 0), (0, .ref a), (1, .int (nI q))]) hx hb dX2_valueAt_3 hl (by decide) rfl (fun ls hl => ?_)
  refine lp_val (R := rmX2_valueAt) (z := z) C hG h hz hq ⟨Nat.le_of_ble_eq_true rfl, Nat.le_of_ble_eq_true rfl⟩ ⟨Nat.le_of_ble_eq_true rfl, Nat.le_of_ble_eq_true rfl⟩ (fun H locs ls hP hD hS hl => ?_) 8 0 (by decide) _ rfl _ _ ls hP hD hS (lv_sub hl [0, 1, 2, 3] rfl)
  refine lv_lload_n hx hb dX2_valueAt_33 rfl (lv_at hl 0 rfl) ?_
  exact ct_lret C hS hP hD (⟨rfl, _, rfl, rfl⟩) (Nat.le_of_ble_eq_true rfl) (Nat.le_of_ble_eq_true rfl) dX2_valueAt_34
section Jr3
variable {p : Program} {l : Launch} {e : Env} {R : Room} {s : State} {m : MethodId} {args : Array Value} {below : List Frame} {meth : Method} {c : Code} {H : Heap} {locs : List Loc} {cells slots : Nat} {Q : State → Prop}
variable {s0 : State} {D : va_G} {cA : Nat → ClassId} {A : Nat → Prop} {ad : Nat → Nat}
set_option maxRecDepth 100000 in
theorem lp_sof (C : cx_C p l s m args meth c s0 D cA cX2_sumOfFirst 5 (some .long) RX2 A) (hG : cx_G l s0 D cA) {S : Mem} {a b z M : Nat} (h : jrA S a b z) (hz : z ≤ 400) (hq : 13 * M ≤ z) (hR0 : rmX2_valueAt.frames + 1 ≤ R.frames ∧ 8 + (5 + 11) + rmX2_valueAt.locals ≤ R.locals) (hC0 : cells + rmX2_valueAt.cells ≤ R.cells ∧ slots + rmX2_valueAt.slots ≤ R.slots) 
    (kk : ∀ (H : Heap) (locs : List Loc) (ls : Array Slot), va_P D vwCl (pW cA S) H → va_D A (pW cA S) → va_S A s.heap H locs → lv_has ls 5 [(2, .long (rpS (byf S b) 0 M))] → W p l e R s m args below meth c H locs cells slots Q (F0 m 31 ls [])) :
    ∀ d k : Nat, k + d = M → ∀ x : Int64, x = rpS (byf S b) 0 k → ∀ (H : Heap) (locs : List Loc) (ls : Array Slot), va_P D vwCl (pW cA S) H → va_D A (pW cA S) → va_S A s.heap H locs → lv_has ls 5 [(4, .int (nI k)), (2, .long x), (0, .ref a), (1, .int (nI M))] → W p l e R s m args below meth c H locs cells slots Q (F0 m 5 ls []) := by
  have hx := cx_x C
  have hb := cx_b C
  intro d
  induction d with
  | zero =>
    intro k hk x hx2 H locs ls hP hD hS hl
    have hk : k = M := hk
    subst hk
    subst hx2
    refine lv_iload hx hb dX2_sumOfFirst_5 (lv_at hl 0 rfl) ?_
    refine lv_iload_n hx hb dX2_sumOfFirst_7 rfl (lv_at hl 3 rfl) ?_
    refine lv_icmp_ge (tgt := 31) hx hb dX2_sumOfFirst_8 (by decide) (fun _ => ?_) (fun h9 => absurd (Int32.le_refl _) h9)
    exact kk H locs ls hP hD hS (lv_sub hl [1] rfl)
  | succ d ih =>
    intro k hk x hx2 H locs ls hP hD hS hl
    refine lv_iload hx hb dX2_sumOfFirst_5 (lv_at hl 0 rfl) ?_
    refine lv_iload_n hx hb dX2_sumOfFirst_7 rfl (lv_at hl 3 rfl) ?_
    refine lv_icmp_ge (tgt := 31) hx hb dX2_sumOfFirst_8 (by decide) (fun h9 => absurd h9 (nI_ge (by omega) (by omega))) (fun _ => ?_)
    refine lv_lload_n hx hb dX2_sumOfFirst_11 rfl (lv_at hl 1 rfl) ?_
    refine lv_aload_n hx hb dX2_sumOfFirst_12 rfl (lv_at hl 2 rfl) ?_
    refine lv_bipush (v := 13) hx hb dX2_sumOfFirst_13 (by decide) ?_
    refine lv_iload hx hb dX2_sumOfFirst_15 (lv_at hl 0 rfl) ?_
    refine lv_imul hx hb dX2_sumOfFirst_17 ?_
    refine lv_iconst (v := 3) hx hb dX2_sumOfFirst_18 (by decide) ?_
    refine lv_iadd hx hb dX2_sumOfFirst_19 ?_
    rw [show (13 : Int32) * nI k + 3 = nI (0 + 13 * k + 3) by rw [show (13 : Int32) = nI 13 by decide, pk_mul, show (3 : Int32) = nI 3 by decide, nI_add, Nat.zero_add]]
    refine pc_V (As := [.int (nI (0 + 13 * k + 3))]) (rest := [.long x]) (r := some (.long (rvL (byf S b) (0 + 13 * k + 3) 8))) C (c_valueAt (S := S) (z := z) hG (0 + 13 * k + 3) h hz (by omega)) tm_636 tm_638 tm_893 tm_14 tm_639 hdX2_valueAt hR0 (rcv_2 C hP h.1.1 h.1.2) hl.1 rfl (Nat.le_of_ble_eq_true rfl) dX2_sumOfFirst_20 hC0 hP hD hS (fun S1 H locs hQ hP hD hS => ?_)
    rw [hQ] at hP hD
    refine lv_ladd hx hb dX2_sumOfFirst_23 ?_
    refine lv_lstore_n (lv' := [(2, .long (x + (rvL (byf S b) (0 + 13 * k + 3) 8))), (4, .int (nI k)), (0, .ref a), (1, .int (nI M))]) hx hb dX2_sumOfFirst_24 rfl hl (by decide) rfl (fun ls hl => ?_)
    refine lv_iinc (v := nI k + 1) (lv' := [(4, .int (nI k + 1)), (2, .long (x + (rvL (byf S b) (0 + 13 * k + 3) 8))), (0, .ref a), (1, .int (nI M))]) hx hb dX2_sumOfFirst_25 hl (k := 1) rfl (by first | rfl | decide) (by decide) rfl (fun ls hl => ?_)
    refine lv_goto (tgt := 5) hx hb dX2_sumOfFirst_28 (by decide) ?_
    rw [nI_1] at hl
    exact ih (k + 1) (by omega) _ (by rw [rpS, ← hx2]) H locs ls hP hD hS (lv_sub hl [0, 1, 2, 3] rfl)
end Jr3
abbrev rmX2_sumOfFirst : Room := { frames := 2, cells := 0, slots := 0, locals := 45 }
set_option maxRecDepth 100000 in
theorem c_sumF {l : Launch} {s0 : State} {D : va_G} {cA : Nat → ClassId} (hG : cx_G l s0 D cA) {S : Mem} {a b z : Nat} (M : Nat)  (h : jrA S a b z) (hz : z ≤ 400) (hq : 13 * M ≤ z) : PC l s0 D cA yX2_sumOfFirst cX2_sumOfFirst 5 (some .long) rmX2_sumOfFirst [.ref a, .int (nI M)] S (some (.long (rpS (byf S b) 0 M))) (fun S1 => S1 = S) := by
  refine Ct.of (cA := cA) hG (by decide +kernel) (Nat.le_of_ble_eq_true rfl) ?_
  intro p e s m below meth c A C hnm hP hD hS ls hl
  have hx := cx_x C
  have hb := cx_b C
  have hl : lv_has ls 5 [(0, .ref a), (1, .int (nI M))] := hl
  refine lv_lconst (v := 0) hx hb dX2_sumOfFirst_0 (by decide) ?_
  refine lv_lstore_n (lv' := [(2, .long 0), (0, .ref a), (1, .int (nI M))]) hx hb dX2_sumOfFirst_1 rfl hl (by decide) rfl (fun ls hl => ?_)
  refine lv_iconst (v := 0) hx hb dX2_sumOfFirst_2 (by decide) ?_
  refine lv_istore (lv' := [(4, .int 0), (2, .long 0), (0, .ref a), (1, .int (nI M))]) hx hb dX2_sumOfFirst_3 hl (by decide) rfl (fun ls hl => ?_)
  refine lp_sof (R := rmX2_sumOfFirst) (z := z) (M := M) C hG h hz hq ⟨Nat.le_of_ble_eq_true rfl, Nat.le_of_ble_eq_true rfl⟩ ⟨Nat.le_of_ble_eq_true rfl, Nat.le_of_ble_eq_true rfl⟩ (fun H locs ls hP hD hS hl => ?_) M 0 (by omega) _ rfl _ _ ls hP hD hS (lv_sub hl [0, 1, 2, 3] rfl)
  refine lv_lload_n hx hb dX2_sumOfFirst_31 rfl (lv_at hl 0 rfl) ?_
  exact ct_lret C hS hP hD (⟨rfl, _, rfl, rfl⟩) (Nat.le_of_ble_eq_true rfl) (Nat.le_of_ble_eq_true rfl) dX2_sumOfFirst_32
