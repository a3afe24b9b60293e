/-! ===== the class: the new object, new handlers ===== -/
abbrev rmX8_init : Room := { frames := 2, cells := 6, slots := 63, locals := 42 }
set_option maxRecDepth 100000 in
theorem c_new4 {l : Launch} {s0 : State} {D : va_G} {cA : Nat → ClassId} (hG : cx_G l s0 D cA) {S : Mem} {a : Nat}  (h1 : a ∈ mL S) (h2 : mK S a = 7)  : PC l s0 D cA yX8_init cX8_init 2 none rmX8_init [.ref a, .int 4] S (none) (fun S1 => ∃ q0 q1 q2 M0 M1 M2 M3, q0 ∉ mL S ∧ q1 ∉ mL (uR M0 1 a (some q0)) ∧ q2 ∉ mL (uR M1 2 a (some q1)) ∧ M0 = nw S q0 15 8 ∧ M1 = nw (uR M0 1 a (some q0)) q1 16 2 ∧ M2 = nw (uR M1 2 a (some q1)) q2 4 0 ∧ RI M2 M3 q2 4 ∧ S1 = uR M3 0 a (some q2)) := by
  refine Ct.of (cA := cA) hG (by decide +kernel) (Nat.le_of_ble_eq_true rfl) ?_
  intro p e s m below meth c A C hnm hP hD hS ls hl
  have hx := cx_x C
  have hb := cx_b C
  have hl : lv_has ls 2 [(0, .ref a), (1, .int 4)] := hl
  refine lv_aload_n hx hb dX8_init_0 rfl (lv_at hl 0 rfl) ?_
  refine ct_obj C hl.1 tm_24 (Nat.le_of_ble_eq_true rfl) (Nat.le_of_ble_eq_true rfl) dX8_init_1 ?_
  refine lv_aload_n hx hb dX8_init_4 rfl (lv_at hl 0 rfl) ?_
  refine lv_bipush (v := 8) hx hb dX8_init_5 (by decide) ?_
  refine nwa_C (N := 8) C hP hD hS tm_27 (by decide) (by decide +kernel) (by decide) (Nat.le_of_ble_eq_true rfl) (Nat.le_of_ble_eq_true rfl) dX8_init_7 (fun q0 H hq0 hP hD hS => ?_)
  obtain ⟨M0, eM0⟩ : ∃ M9, M9 = nw S q0 15 8 := ⟨_, rfl⟩
  rw [← eM0] at hP hD
  have lM0_0 : a ∈ mL M0 := by rw [eM0]; exact nw_L (S := S) (q := q0) (k := 15) (n := 8) (a := a) h1
  have kM0_0 := (show mK M0 a = mK S a by rw [eM0]; exact nw_K (S := S) (q := q0) (k := 15) (n := 8) (a := a) h1 hq0).trans h2
  have lM0q : q0 ∈ mL M0 := by rw [eM0]; exact nw_q (S := S) (q := q0) (k := 15) (n := 8)
  have kM0q : mK M0 q0 = 15 := by rw [eM0]; exact nw_Kq (S := S) (q := q0) (k := 15) (n := 8)
  have nM0q : mN M0 q0 = 8 := by rw [eM0]; exact nw_Nq (S := S) (q := q0) (k := 15) (n := 8)
  refine pf_8_1 (v := some q0) C hnm hP hD hS lM0_0 kM0_0 tm_59 dX8_init_10 (fun H locs hP hD hS => ?_)
  refine lv_aload_n hx hb dX8_init_13 rfl (lv_at hl 0 rfl) ?_
  refine lv_iconst (v := 2) hx hb dX8_init_14 (by decide) ?_
  refine nwa_P (N := 2) C hP hD hS tm_29 (by decide) (by decide +kernel) (by decide) (Nat.le_of_ble_eq_true rfl) (Nat.le_of_ble_eq_true rfl) dX8_init_15 (fun q1 H hq1 hP hD hS => ?_)
  obtain ⟨M1, eM1⟩ : ∃ M9, M9 = nw (uR M0 1 a (some q0)) q1 16 2 := ⟨_, rfl⟩
  rw [← eM1] at hP hD
  have lM1_0 : a ∈ mL M1 := by rw [eM1]; exact nw_L (S := uR M0 1 a (some q0)) (q := q1) (k := 16) (n := 2) (a := a) lM0_0
  have kM1_0 := (show mK M1 a = mK (uR M0 1 a (some q0)) a by rw [eM1]; exact nw_K (S := uR M0 1 a (some q0)) (q := q1) (k := 16) (n := 2) (a := a) lM0_0 hq1).trans kM0_0
  have lM1_1 : q0 ∈ mL M1 := by rw [eM1]; exact nw_L (S := uR M0 1 a (some q0)) (q := q1) (k := 16) (n := 2) (a := q0) lM0q
  have kM1_1 := (show mK M1 q0 = mK (uR M0 1 a (some q0)) q0 by rw [eM1]; exact nw_K (S := uR M0 1 a (some q0)) (q := q1) (k := 16) (n := 2) (a := q0) lM0q hq1).trans kM0q
  have nM1_1 := (show mN M1 q0 = mN (uR M0 1 a (some q0)) q0 by rw [eM1]; exact nw_N (S := uR M0 1 a (some q0)) (q := q1) (k := 16) (n := 2) (a := q0) lM0q hq1).trans nM0q
  have lM1q : q1 ∈ mL M1 := by rw [eM1]; exact nw_q (S := uR M0 1 a (some q0)) (q := q1) (k := 16) (n := 2)
  have kM1q : mK M1 q1 = 16 := by rw [eM1]; exact nw_Kq (S := uR M0 1 a (some q0)) (q := q1) (k := 16) (n := 2)
  have nM1q : mN M1 q1 = 2 := by rw [eM1]; exact nw_Nq (S := uR M0 1 a (some q0)) (q := q1) (k := 16) (n := 2)
  refine pf_8_2 (v := some q1) C hnm hP hD hS lM1_0 kM1_0 tm_60 dX8_init_18 (fun H locs hP hD hS => ?_)
  refine lv_aload_n hx hb dX8_init_21 rfl (lv_at hl 0 rfl) ?_
  refine nwo_5 C hP hD hS tm_31 (Nat.le_of_ble_eq_true rfl) (Nat.le_of_ble_eq_true rfl) dX8_init_22 (fun q2 H hq2 hP hD hS => ?_)
  obtain ⟨M2, eM2⟩ : ∃ M9, M9 = nw (uR M1 2 a (some q1)) q2 4 0 := ⟨_, rfl⟩
  rw [← eM2] at hP hD
  have lM2_0 : a ∈ mL M2 := by rw [eM2]; exact nw_L (S := uR M1 2 a (some q1)) (q := q2) (k := 4) (n := 0) (a := a) lM1_0
  have kM2_0 := (show mK M2 a = mK (uR M1 2 a (some q1)) a by rw [eM2]; exact nw_K (S := uR M1 2 a (some q1)) (q := q2) (k := 4) (n := 0) (a := a) lM1_0 hq2).trans kM1_0
  have lM2_1 : q0 ∈ mL M2 := by rw [eM2]; exact nw_L (S := uR M1 2 a (some q1)) (q := q2) (k := 4) (n := 0) (a := q0) lM1_1
  have kM2_1 := (show mK M2 q0 = mK (uR M1 2 a (some q1)) q0 by rw [eM2]; exact nw_K (S := uR M1 2 a (some q1)) (q := q2) (k := 4) (n := 0) (a := q0) lM1_1 hq2).trans kM1_1
  have nM2_1 := (show mN M2 q0 = mN (uR M1 2 a (some q1)) q0 by rw [eM2]; exact nw_N (S := uR M1 2 a (some q1)) (q := q2) (k := 4) (n := 0) (a := q0) lM1_1 hq2).trans nM1_1
  have lM2_2 : q1 ∈ mL M2 := by rw [eM2]; exact nw_L (S := uR M1 2 a (some q1)) (q := q2) (k := 4) (n := 0) (a := q1) lM1q
  have kM2_2 := (show mK M2 q1 = mK (uR M1 2 a (some q1)) q1 by rw [eM2]; exact nw_K (S := uR M1 2 a (some q1)) (q := q2) (k := 4) (n := 0) (a := q1) lM1q hq2).trans kM1q
  have nM2_2 := (show mN M2 q1 = mN (uR M1 2 a (some q1)) q1 by rw [eM2]; exact nw_N (S := uR M1 2 a (some q1)) (q := q2) (k := 4) (n := 0) (a := q1) lM1q hq2).trans nM1q
  have lM2q : q2 ∈ mL M2 := by rw [eM2]; exact nw_q (S := uR M1 2 a (some q1)) (q := q2) (k := 4) (n := 0)
  have kM2q : mK M2 q2 = 4 := by rw [eM2]; exact nw_Kq (S := uR M1 2 a (some q1)) (q := q2) (k := 4) (n := 0)
  refine lv_dup hx hb dX8_init_25 rfl ?_
  refine lv_iload_n hx hb dX8_init_26 rfl (lv_at hl 1 rfl) ?_
  refine lv_iconst (v := 4) hx hb dX8_init_27 (by decide) ?_
  refine lv_icmp_eq (tgt := 37) hx hb dX8_init_28 (by decide) (fun _ => ?_) (fun h9 => absurd (by decide) h9)
  refine lv_iload_n hx hb dX8_init_37 rfl (lv_at hl 1 rfl) ?_
  refine lv_goto (tgt := 43) hx hb dX8_init_38 (by decide) ?_
  refine pc_I (As := [.int 4]) (rest := [.ref q2, .ref a]) C (c_rini (S := M2) (N := 4) hG lM2q kM2q (by decide)) tm_33 tm_34 tm_2 tm_35 rfl hdX5_init.2 ⟨Nat.le_of_ble_eq_true rfl, Nat.le_of_ble_eq_true rfl⟩ hl.1 rfl (Nat.le_of_ble_eq_true rfl) dX8_init_43 ⟨Nat.le_of_ble_eq_true rfl, Nat.le_of_ble_eq_true rfl⟩ hP hD hS (fun S1 H locs hQ hP hD hS => ?_)
  have hxr := RI_ex hQ
  have oa := hxr a lM2_0
  refine pf_8_0 (v := some q2) C hnm hP hD hS oa.1 (oa.2.1.trans kM2_0) tm_58 dX8_init_46 (fun H locs hP hD hS => ?_)
  exact ct_vret C hS hP hD (⟨rfl, _, rfl, q0, q1, q2, M0, M1, M2, S1, hq0, hq1, hq2, eM0, eM1, eM2, hQ, rfl⟩) (Nat.le_of_ble_eq_true rfl) (Nat.le_of_ble_eq_true rfl) dX8_init_49
set_option maxRecDepth 100000 in
theorem c_new16 {l : Launch} {s0 : State} {D : va_G} {cA : Nat → ClassId} (hG : cx_G l s0 D cA) {S : Mem} {a : Nat}  (h1 : a ∈ mL S) (h2 : mK S a = 7)  : PC l s0 D cA yX8_init cX8_init 2 none rmX8_init [.ref a, .int 16] S (none) (fun S1 => ∃ q0 q1 q2 M0 M1 M2 M3, q0 ∉ mL S ∧ q1 ∉ mL (uR M0 1 a (some q0)) ∧ q2 ∉ mL (uR M1 2 a (some q1)) ∧ M0 = nw S q0 15 8 ∧ M1 = nw (uR M0 1 a (some q0)) q1 16 2 ∧ M2 = nw (uR M1 2 a (some q1)) q2 4 0 ∧ RI M2 M3 q2 16 ∧ S1 = uR M3 0 a (some q2)) := by
  refine Ct.of (cA := cA) hG (by decide +kernel) (Nat.le_of_ble_eq_true rfl) ?_
  intro p e s m below meth c A C hnm hP hD hS ls hl
  have hx := cx_x C
  have hb := cx_b C
  have hl : lv_has ls 2 [(0, .ref a), (1, .int 16)] := hl
  refine lv_aload_n hx hb dX8_init_0 rfl (lv_at hl 0 rfl) ?_
  refine ct_obj C hl.1 tm_24 (Nat.le_of_ble_eq_true rfl) (Nat.le_of_ble_eq_true rfl) dX8_init_1 ?_
  refine lv_aload_n hx hb dX8_init_4 rfl (lv_at hl 0 rfl) ?_
  refine lv_bipush (v := 8) hx hb dX8_init_5 (by decide) ?_
  refine nwa_C (N := 8) C hP hD hS tm_27 (by decide) (by decide +kernel) (by decide) (Nat.le_of_ble_eq_true rfl) (Nat.le_of_ble_eq_true rfl) dX8_init_7 (fun q0 H hq0 hP hD hS => ?_)
  obtain ⟨M0, eM0⟩ : ∃ M9, M9 = nw S q0 15 8 := ⟨_, rfl⟩
  rw [← eM0] at hP hD
  have lM0_0 : a ∈ mL M0 := by rw [eM0]; exact nw_L (S := S) (q := q0) (k := 15) (n := 8) (a := a) h1
  have kM0_0 := (show mK M0 a = mK S a by rw [eM0]; exact nw_K (S := S) (q := q0) (k := 15) (n := 8) (a := a) h1 hq0).trans h2
  have lM0q : q0 ∈ mL M0 := by rw [eM0]; exact nw_q (S := S) (q := q0) (k := 15) (n := 8)
  have kM0q : mK M0 q0 = 15 := by rw [eM0]; exact nw_Kq (S := S) (q := q0) (k := 15) (n := 8)
  have nM0q : mN M0 q0 = 8 := by rw [eM0]; exact nw_Nq (S := S) (q := q0) (k := 15) (n := 8)
  refine pf_8_1 (v := some q0) C hnm hP hD hS lM0_0 kM0_0 tm_59 dX8_init_10 (fun H locs hP hD hS => ?_)
  refine lv_aload_n hx hb dX8_init_13 rfl (lv_at hl 0 rfl) ?_
  refine lv_iconst (v := 2) hx hb dX8_init_14 (by decide) ?_
  refine nwa_P (N := 2) C hP hD hS tm_29 (by decide) (by decide +kernel) (by decide) (Nat.le_of_ble_eq_true rfl) (Nat.le_of_ble_eq_true rfl) dX8_init_15 (fun q1 H hq1 hP hD hS => ?_)
  obtain ⟨M1, eM1⟩ : ∃ M9, M9 = nw (uR M0 1 a (some q0)) q1 16 2 := ⟨_, rfl⟩
  rw [← eM1] at hP hD
  have lM1_0 : a ∈ mL M1 := by rw [eM1]; exact nw_L (S := uR M0 1 a (some q0)) (q := q1) (k := 16) (n := 2) (a := a) lM0_0
  have kM1_0 := (show mK M1 a = mK (uR M0 1 a (some q0)) a by rw [eM1]; exact nw_K (S := uR M0 1 a (some q0)) (q := q1) (k := 16) (n := 2) (a := a) lM0_0 hq1).trans kM0_0
  have lM1_1 : q0 ∈ mL M1 := by rw [eM1]; exact nw_L (S := uR M0 1 a (some q0)) (q := q1) (k := 16) (n := 2) (a := q0) lM0q
  have kM1_1 := (show mK M1 q0 = mK (uR M0 1 a (some q0)) q0 by rw [eM1]; exact nw_K (S := uR M0 1 a (some q0)) (q := q1) (k := 16) (n := 2) (a := q0) lM0q hq1).trans kM0q
  have nM1_1 := (show mN M1 q0 = mN (uR M0 1 a (some q0)) q0 by rw [eM1]; exact nw_N (S := uR M0 1 a (some q0)) (q := q1) (k := 16) (n := 2) (a := q0) lM0q hq1).trans nM0q
  have lM1q : q1 ∈ mL M1 := by rw [eM1]; exact nw_q (S := uR M0 1 a (some q0)) (q := q1) (k := 16) (n := 2)
  have kM1q : mK M1 q1 = 16 := by rw [eM1]; exact nw_Kq (S := uR M0 1 a (some q0)) (q := q1) (k := 16) (n := 2)
  have nM1q : mN M1 q1 = 2 := by rw [eM1]; exact nw_Nq (S := uR M0 1 a (some q0)) (q := q1) (k := 16) (n := 2)
  refine pf_8_2 (v := some q1) C hnm hP hD hS lM1_0 kM1_0 tm_60 dX8_init_18 (fun H locs hP hD hS => ?_)
  refine lv_aload_n hx hb dX8_init_21 rfl (lv_at hl 0 rfl) ?_
  refine nwo_5 C hP hD hS tm_31 (Nat.le_of_ble_eq_true rfl) (Nat.le_of_ble_eq_true rfl) dX8_init_22 (fun q2 H hq2 hP hD hS => ?_)
  obtain ⟨M2, eM2⟩ : ∃ M9, M9 = nw (uR M1 2 a (some q1)) q2 4 0 := ⟨_, rfl⟩
  rw [← eM2] at hP hD
  have lM2_0 : a ∈ mL M2 := by rw [eM2]; exact nw_L (S := uR M1 2 a (some q1)) (q := q2) (k := 4) (n := 0) (a := a) lM1_0
  have kM2_0 := (show mK M2 a = mK (uR M1 2 a (some q1)) a by rw [eM2]; exact nw_K (S := uR M1 2 a (some q1)) (q := q2) (k := 4) (n := 0) (a := a) lM1_0 hq2).trans kM1_0
  have lM2_1 : q0 ∈ mL M2 := by rw [eM2]; exact nw_L (S := uR M1 2 a (some q1)) (q := q2) (k := 4) (n := 0) (a := q0) lM1_1
  have kM2_1 := (show mK M2 q0 = mK (uR M1 2 a (some q1)) q0 by rw [eM2]; exact nw_K (S := uR M1 2 a (some q1)) (q := q2) (k := 4) (n := 0) (a := q0) lM1_1 hq2).trans kM1_1
  have nM2_1 := (show mN M2 q0 = mN (uR M1 2 a (some q1)) q0 by rw [eM2]; exact nw_N (S := uR M1 2 a (some q1)) (q := q2) (k := 4) (n := 0) (a := q0) lM1_1 hq2).trans nM1_1
  have lM2_2 : q1 ∈ mL M2 := by rw [eM2]; exact nw_L (S := uR M1 2 a (some q1)) (q := q2) (k := 4) (n := 0) (a := q1) lM1q
  have kM2_2 := (show mK M2 q1 = mK (uR M1 2 a (some q1)) q1 by rw [eM2]; exact nw_K (S := uR M1 2 a (some q1)) (q := q2) (k := 4) (n := 0) (a := q1) lM1q hq2).trans kM1q
  have nM2_2 := (show mN M2 q1 = mN (uR M1 2 a (some q1)) q1 by rw [eM2]; exact nw_N (S := uR M1 2 a (some q1)) (q := q2) (k := 4) (n := 0) (a := q1) lM1q hq2).trans nM1q
  have lM2q : q2 ∈ mL M2 := by rw [eM2]; exact nw_q (S := uR M1 2 a (some q1)) (q := q2) (k := 4) (n := 0)
  have kM2q : mK M2 q2 = 4 := by rw [eM2]; exact nw_Kq (S := uR M1 2 a (some q1)) (q := q2) (k := 4) (n := 0)
  refine lv_dup hx hb dX8_init_25 rfl ?_
  refine lv_iload_n hx hb dX8_init_26 rfl (lv_at hl 1 rfl) ?_
  refine lv_iconst (v := 4) hx hb dX8_init_27 (by decide) ?_
  refine lv_icmp_eq (tgt := 37) hx hb dX8_init_28 (by decide) (fun h9 => absurd h9 (by decide)) (fun _ => ?_)
  refine lv_iload_n hx hb dX8_init_31 rfl (lv_at hl 1 rfl) ?_
  refine lv_bipush (v := 16) hx hb dX8_init_32 (by decide) ?_
  refine lv_icmp_ne (tgt := 41) hx hb dX8_init_34 (by decide) (fun h9 => absurd rfl h9) (fun _ => ?_)
  refine lv_iload_n hx hb dX8_init_37 rfl (lv_at hl 1 rfl) ?_
  refine lv_goto (tgt := 43) hx hb dX8_init_38 (by decide) ?_
  refine pc_I (As := [.int 16]) (rest := [.ref q2, .ref a]) C (c_rini (S := M2) (N := 16) hG lM2q kM2q (by decide)) tm_33 tm_34 tm_2 tm_35 rfl hdX5_init.2 ⟨Nat.le_of_ble_eq_true rfl, Nat.le_of_ble_eq_true rfl⟩ hl.1 rfl (Nat.le_of_ble_eq_true rfl) dX8_init_43 ⟨Nat.le_of_ble_eq_true rfl, Nat.le_of_ble_eq_true rfl⟩ hP hD hS (fun S1 H locs hQ hP hD hS => ?_)
  have hxr := RI_ex hQ
  have oa := hxr a lM2_0
  refine pf_8_0 (v := some q2) C hnm hP hD hS oa.1 (oa.2.1.trans kM2_0) tm_58 dX8_init_46 (fun H locs hP hD hS => ?_)
  exact ct_vret C hS hP hD (⟨rfl, _, rfl, q0, q1, q2, M0, M1, M2, S1, hq0, hq1, hq2, eM0, eM1, eM2, hQ, rfl⟩) (Nat.le_of_ble_eq_true rfl) (Nat.le_of_ble_eq_true rfl) dX8_init_49
set_option maxRecDepth 100000 in
theorem c_new8 {l : Launch} {s0 : State} {D : va_G} {cA : Nat → ClassId} (hG : cx_G l s0 D cA) {S : Mem} {a : Nat} (x : Int32)  (h1 : a ∈ mL S) (h2 : mK S a = 7) (n4 : ¬ x = 4) (n6 : ¬ x = 16) : PC l s0 D cA yX8_init cX8_init 2 none rmX8_init [.ref a, .int x] S (none) (fun S1 => ∃ q0 q1 q2 M0 M1 M2 M3, q0 ∉ mL S ∧ q1 ∉ mL (uR M0 1 a (some q0)) ∧ q2 ∉ mL (uR M1 2 a (some q1)) ∧ M0 = nw S q0 15 8 ∧ M1 = nw (uR M0 1 a (some q0)) q1 16 2 ∧ M2 = nw (uR M1 2 a (some q1)) q2 4 0 ∧ RI M2 M3 q2 8 ∧ S1 = uR M3 0 a (some q2)) := by
  refine Ct.of (cA := cA) hG (by decide +kernel) (Nat.le_of_ble_eq_true rfl) ?_
  intro p e s m below meth c A C hnm hP hD hS ls hl
  have hx := cx_x C
  have hb := cx_b C
  have hl : lv_has ls 2 [(0, .ref a), (1, .int x)] := hl
  refine lv_aload_n hx hb dX8_init_0 rfl (lv_at hl 0 rfl) ?_
  refine ct_obj C hl.1 tm_24 (Nat.le_of_ble_eq_true rfl) (Nat.le_of_ble_eq_true rfl) dX8_init_1 ?_
  refine lv_aload_n hx hb dX8_init_4 rfl (lv_at hl 0 rfl) ?_
  refine lv_bipush (v := 8) hx hb dX8_init_5 (by decide) ?_
  refine nwa_C (N := 8) C hP hD hS tm_27 (by decide) (by decide +kernel) (by decide) (Nat.le_of_ble_eq_true rfl) (Nat.le_of_ble_eq_true rfl) dX8_init_7 (fun q0 H hq0 hP hD hS => ?_)
  obtain ⟨M0, eM0⟩ : ∃ M9, M9 = nw S q0 15 8 := ⟨_, rfl⟩
  rw [← eM0] at hP hD
  have lM0_0 : a ∈ mL M0 := by rw [eM0]; exact nw_L (S := S) (q := q0) (k := 15) (n := 8) (a := a) h1
  have kM0_0 := (show mK M0 a = mK S a by rw [eM0]; exact nw_K (S := S) (q := q0) (k := 15) (n := 8) (a := a) h1 hq0).trans h2
  have lM0q : q0 ∈ mL M0 := by rw [eM0]; exact nw_q (S := S) (q := q0) (k := 15) (n := 8)
  have kM0q : mK M0 q0 = 15 := by rw [eM0]; exact nw_Kq (S := S) (q := q0) (k := 15) (n := 8)
  have nM0q : mN M0 q0 = 8 := by rw [eM0]; exact nw_Nq (S := S) (q := q0) (k := 15) (n := 8)
  refine pf_8_1 (v := some q0) C hnm hP hD hS lM0_0 kM0_0 tm_59 dX8_init_10 (fun H locs hP hD hS => ?_)
  refine lv_aload_n hx hb dX8_init_13 rfl (lv_at hl 0 rfl) ?_
  refine lv_iconst (v := 2) hx hb dX8_init_14 (by decide) ?_
  refine nwa_P (N := 2) C hP hD hS tm_29 (by decide) (by decide +kernel) (by decide) (Nat.le_of_ble_eq_true rfl) (Nat.le_of_ble_eq_true rfl) dX8_init_15 (fun q1 H hq1 hP hD hS => ?_)
  obtain ⟨M1, eM1⟩ : ∃ M9, M9 = nw (uR M0 1 a (some q0)) q1 16 2 := ⟨_, rfl⟩
  rw [← eM1] at hP hD
  have lM1_0 : a ∈ mL M1 := by rw [eM1]; exact nw_L (S := uR M0 1 a (some q0)) (q := q1) (k := 16) (n := 2) (a := a) lM0_0
  have kM1_0 := (show mK M1 a = mK (uR M0 1 a (some q0)) a by rw [eM1]; exact nw_K (S := uR M0 1 a (some q0)) (q := q1) (k := 16) (n := 2) (a := a) lM0_0 hq1).trans kM0_0
  have lM1_1 : q0 ∈ mL M1 := by rw [eM1]; exact nw_L (S := uR M0 1 a (some q0)) (q := q1) (k := 16) (n := 2) (a := q0) lM0q
  have kM1_1 := (show mK M1 q0 = mK (uR M0 1 a (some q0)) q0 by rw [eM1]; exact nw_K (S := uR M0 1 a (some q0)) (q := q1) (k := 16) (n := 2) (a := q0) lM0q hq1).trans kM0q
  have nM1_1 := (show mN M1 q0 = mN (uR M0 1 a (some q0)) q0 by rw [eM1]; exact nw_N (S := uR M0 1 a (some q0)) (q := q1) (k := 16) (n := 2) (a := q0) lM0q hq1).trans nM0q
  have lM1q : q1 ∈ mL M1 := by rw [eM1]; exact nw_q (S := uR M0 1 a (some q0)) (q := q1) (k := 16) (n := 2)
  have kM1q : mK M1 q1 = 16 := by rw [eM1]; exact nw_Kq (S := uR M0 1 a (some q0)) (q := q1) (k := 16) (n := 2)
  have nM1q : mN M1 q1 = 2 := by rw [eM1]; exact nw_Nq (S := uR M0 1 a (some q0)) (q := q1) (k := 16) (n := 2)
  refine pf_8_2 (v := some q1) C hnm hP hD hS lM1_0 kM1_0 tm_60 dX8_init_18 (fun H locs hP hD hS => ?_)
  refine lv_aload_n hx hb dX8_init_21 rfl (lv_at hl 0 rfl) ?_
  refine nwo_5 C hP hD hS tm_31 (Nat.le_of_ble_eq_true rfl) (Nat.le_of_ble_eq_true rfl) dX8_init_22 (fun q2 H hq2 hP hD hS => ?_)
  obtain ⟨M2, eM2⟩ : ∃ M9, M9 = nw (uR M1 2 a (some q1)) q2 4 0 := ⟨_, rfl⟩
  rw [← eM2] at hP hD
  have lM2_0 : a ∈ mL M2 := by rw [eM2]; exact nw_L (S := uR M1 2 a (some q1)) (q := q2) (k := 4) (n := 0) (a := a) lM1_0
  have kM2_0 := (show mK M2 a = mK (uR M1 2 a (some q1)) a by rw [eM2]; exact nw_K (S := uR M1 2 a (some q1)) (q := q2) (k := 4) (n := 0) (a := a) lM1_0 hq2).trans kM1_0
  have lM2_1 : q0 ∈ mL M2 := by rw [eM2]; exact nw_L (S := uR M1 2 a (some q1)) (q := q2) (k := 4) (n := 0) (a := q0) lM1_1
  have kM2_1 := (show mK M2 q0 = mK (uR M1 2 a (some q1)) q0 by rw [eM2]; exact nw_K (S := uR M1 2 a (some q1)) (q := q2) (k := 4) (n := 0) (a := q0) lM1_1 hq2).trans kM1_1
  have nM2_1 := (show mN M2 q0 = mN (uR M1 2 a (some q1)) q0 by rw [eM2]; exact nw_N (S := uR M1 2 a (some q1)) (q := q2) (k := 4) (n := 0) (a := q0) lM1_1 hq2).trans nM1_1
  have lM2_2 : q1 ∈ mL M2 := by rw [eM2]; exact nw_L (S := uR M1 2 a (some q1)) (q := q2) (k := 4) (n := 0) (a := q1) lM1q
  have kM2_2 := (show mK M2 q1 = mK (uR M1 2 a (some q1)) q1 by rw [eM2]; exact nw_K (S := uR M1 2 a (some q1)) (q := q2) (k := 4) (n := 0) (a := q1) lM1q hq2).trans kM1q
  have nM2_2 := (show mN M2 q1 = mN (uR M1 2 a (some q1)) q1 by rw [eM2]; exact nw_N (S := uR M1 2 a (some q1)) (q := q2) (k := 4) (n := 0) (a := q1) lM1q hq2).trans nM1q
  have lM2q : q2 ∈ mL M2 := by rw [eM2]; exact nw_q (S := uR M1 2 a (some q1)) (q := q2) (k := 4) (n := 0)
  have kM2q : mK M2 q2 = 4 := by rw [eM2]; exact nw_Kq (S := uR M1 2 a (some q1)) (q := q2) (k := 4) (n := 0)
  refine lv_dup hx hb dX8_init_25 rfl ?_
  refine lv_iload_n hx hb dX8_init_26 rfl (lv_at hl 1 rfl) ?_
  refine lv_iconst (v := 4) hx hb dX8_init_27 (by decide) ?_
  refine lv_icmp_eq (tgt := 37) hx hb dX8_init_28 (by decide) (fun h9 => absurd h9 (n4)) (fun _ => ?_)
  refine lv_iload_n hx hb dX8_init_31 rfl (lv_at hl 1 rfl) ?_
  refine lv_bipush (v := 16) hx hb dX8_init_32 (by decide) ?_
  refine lv_icmp_ne (tgt := 41) hx hb dX8_init_34 (by decide) (fun _ => ?_) (fun h9 => absurd h9 (n6))
  refine lv_bipush (v := 8) hx hb dX8_init_41 (by decide) ?_
  refine pc_I (As := [.int 8]) (rest := [.ref q2, .ref a]) C (c_rini (S := M2) (N := 8) hG lM2q kM2q (by decide)) tm_33 tm_34 tm_2 tm_35 rfl hdX5_init.2 ⟨Nat.le_of_ble_eq_true rfl, Nat.le_of_ble_eq_true rfl⟩ hl.1 rfl (Nat.le_of_ble_eq_true rfl) dX8_init_43 ⟨Nat.le_of_ble_eq_true rfl, Nat.le_of_ble_eq_true rfl⟩ hP hD hS (fun S1 H locs hQ hP hD hS => ?_)
  have hxr := RI_ex hQ
  have oa := hxr a lM2_0
  refine pf_8_0 (v := some q2) C hnm hP hD hS oa.1 (oa.2.1.trans kM2_0) tm_58 dX8_init_46 (fun H locs hP hD hS => ?_)
  exact ct_vret C hS hP hD (⟨rfl, _, rfl, q0, q1, q2, M0, M1, M2, S1, hq0, hq1, hq2, eM0, eM1, eM2, hQ, rfl⟩) (Nat.le_of_ble_eq_true rfl) (Nat.le_of_ble_eq_true rfl) dX8_init_49
abbrev rmX8_newHandler : Room := { frames := 3, cells := 2, slots := 404, locals := 60 }
