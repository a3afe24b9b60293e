/-! ===== the class: constructors ===== -/
theorem nw_L {S : Mem} {q k n a : Nat} (h : a ∈ mL S) : a ∈ mL (nw S q k n) := List.mem_append_left _ h
theorem nw_q {S : Mem} {q k n : Nat} : q ∈ mL (nw S q k n) := List.mem_append_right _ (List.mem_singleton.mpr rfl)
theorem nw_ne {S : Mem} {q a : Nat} (h : a ∈ mL S) (hq : q ∉ mL S) : a ≠ q := fun e => hq (e ▸ h)
theorem nw_K {S : Mem} {q k n a : Nat} (h : a ∈ mL S) (hq : q ∉ mL S) : mK (nw S q k n) a = mK S a := va_up_ne _ _ (nw_ne h hq)
theorem nw_N {S : Mem} {q k n a : Nat} (h : a ∈ mL S) (hq : q ∉ mL S) : mN (nw S q k n) a = mN S a := va_up_ne _ _ (nw_ne h hq)
theorem nw_Kq {S : Mem} {q k n : Nat} : mK (nw S q k n) q = k := va_up_self _ _ _
theorem nw_Nq {S : Mem} {q k n : Nat} : mN (nw S q k n) q = n := va_up_self _ _ _
/-- T is S with more objects, but for the objects of X -/
def ex (X : Nat → Prop) (S T : Mem) : Prop := ∀ b, b ∈ mL S → b ∈ mL T ∧ mK T b = mK S b ∧ mN T b = mN S b ∧ (¬ X b → (∀ k, mI T k b = mI S k b) ∧ (∀ k, mJ T k b = mJ S k b) ∧ (∀ k, mR T k b = mR S k b) ∧ (∀ k, mF T k b = mF S k b) ∧ (∀ k, mE T k b = mE S k b) ∧ maI T b = maI S b ∧ maJ T b = maJ S b ∧ maR T b = maR S b)
theorem ex_rf {X : Nat → Prop} {S : Mem} : ex X S S := fun _ h => ⟨h, rfl, rfl, fun _ => ⟨fun _ => rfl, fun _ => rfl, fun _ => rfl, fun _ => rfl, fun _ => rfl, rfl, rfl, rfl⟩⟩
theorem ex_tr {X : Nat → Prop} {S T U : Mem} (h1 : ex X S T) (h2 : ex X T U) : ex X S U := fun b hb => by
  obtain ⟨a1, a2, a3, a4⟩ := h1 b hb
  obtain ⟨b1, b2, b3, b4⟩ := h2 b a1
  refine ⟨b1, b2.trans a2, b3.trans a3, fun hx => ?_⟩
  obtain ⟨c1, c2, c3, c4, c5, c6, c7, c8⟩ := a4 hx
  obtain ⟨d1, d2, d3, d4, d5, d6, d7, d8⟩ := b4 hx
  exact ⟨fun k => (d1 k).trans (c1 k), fun k => (d2 k).trans (c2 k), fun k => (d3 k).trans (c3 k), fun k => (d4 k).trans (c4 k), fun k => (d5 k).trans (c5 k), d6.trans c6, d7.trans c7, d8.trans c8⟩
theorem ex_nw {X : Nat → Prop} {S : Mem} {q k n : Nat} (hq : q ∉ mL S) : ex X S (nw S q k n) := fun b hb => by
  have hn := nw_ne hb hq
  refine ⟨nw_L hb, nw_K hb hq, nw_N hb hq, fun _ => ⟨fun _ => if_neg hn, fun _ => if_neg hn, fun _ => if_neg hn, fun _ => if_neg hn, fun _ => if_neg hn, va_up_ne _ _ hn, va_up_ne _ _ hn, va_up_ne _ _ hn⟩⟩
/-- also objects that weren't there may change -/
theorem ex_mo {X Z : Nat → Prop} {S T : Mem} (h1 : ex X S T) (h : ∀ b, b ∈ mL S → X b → Z b) : ex Z S T := fun b hb => by
  obtain ⟨a1, a2, a3, a4⟩ := h1 b hb
  exact ⟨a1, a2, a3, fun hz => a4 (fun q => hz (h b hb q))⟩
theorem ex_ag {X : Nat → Prop} {S T : Mem} (h : ag X S T) : ex X S T := fun b hb => by
  refine ⟨by rw [h.1]; exact hb, by rw [h.2.1], by rw [h.2.2.1], fun hx => ?_⟩
  obtain ⟨a1, a2, a3, a4, a5, a6⟩ := h.2.2.2.2.2 b hx
  exact ⟨a1, a2, fun k => by rw [h.2.2.2.1], a3, a4, a5, a6, by rw [h.2.2.2.2.1]⟩
theorem ex_uR {X : Nat → Prop} {S : Mem} {k a : Nat} {v : Option Nat} (h : X a) : ex X S (uR S k a v) := fun b hb => ⟨hb, rfl, rfl, fun hx => ⟨fun _ => rfl, fun _ => rfl, fun _ => mR_a (fun e => hx (e ▸ h)), fun _ => rfl, fun _ => rfl, rfl, rfl, rfl⟩⟩
theorem ex_uaR {X : Nat → Prop} {S : Mem} {a j : Nat} {v : Option Nat} (h : X a) : ex X S (uaR S a j v) := fun b hb => ⟨hb, rfl, rfl, fun hx => ⟨fun _ => rfl, fun _ => rfl, fun _ => rfl, fun _ => rfl, fun _ => rfl, rfl, rfl, funext fun _ => maR_k (fun e => hx (e ▸ h))⟩⟩
abbrev rmX1_init : Room := { frames := 1, cells := 0, slots := 0, locals := 20 }
set_option maxRecDepth 100000 in
theorem c_hini {l : Launch} {s0 : State} {D : va_G} {cA : Nat → ClassId} (hG : cx_G l s0 D cA) {S : Mem} {a : Nat}  : PC l s0 D cA yX1_init cX1_init 1 none rmX1_init [.ref a] S (none) (fun S1 => S1 = S) := by
  refine Ct.of (cA := cA) hG (by decide +kernel) (Nat.le_of_ble_eq_true rfl) ?_
  intro p e s m below meth c A C hnm hP hD hS ls hl
  have hx := cx_x C
  have hb := cx_b C
  have hl : lv_has ls 1 [(0, .ref a)] := hl
  refine lv_aload_n hx hb dX1_init_0 rfl (lv_at hl 0 rfl) ?_
  refine ct_obj C hl.1 tm_199 (Nat.le_of_ble_eq_true rfl) (Nat.le_of_ble_eq_true rfl) dX1_init_1 ?_
  exact ct_vret C hS hP hD (⟨rfl, _, rfl, rfl⟩) (Nat.le_of_ble_eq_true rfl) (Nat.le_of_ble_eq_true rfl) dX1_init_4
abbrev rmX7_init : Room := { frames := 2, cells := 0, slots := 0, locals := 40 }
set_option maxRecDepth 100000 in
theorem c_ini7 {l : Launch} {s0 : State} {D : va_G} {cA : Nat → ClassId} (hG : cx_G l s0 D cA) {S : Mem} {a : Nat}  : PC l s0 D cA yX7_init cX7_init 1 none rmX7_init [.ref a] S (none) (fun S1 => S1 = S) := by
  refine Ct.of (cA := cA) hG (by decide +kernel) (Nat.le_of_ble_eq_true rfl) ?_
  intro p e s m below meth c A C hnm hP hD hS ls hl
  have hx := cx_x C
  have hb := cx_b C
  have hl : lv_has ls 1 [(0, .ref a)] := hl
  refine lv_aload_n hx hb dX7_init_0 rfl (lv_at hl 0 rfl) ?_
  refine pc_IN (As := []) (rest := []) C (c_hini (S := S) hG) tn_196 tm_197 tm_10 tm_198 rfl hdX1_init.2 ⟨Nat.le_of_ble_eq_true rfl, Nat.le_of_ble_eq_true rfl⟩ hl.1 rfl (Nat.le_of_ble_eq_true rfl) dX7_init_1 ⟨Nat.le_of_ble_eq_true rfl, Nat.le_of_ble_eq_true rfl⟩ hP hD hS (fun S1 H locs hQ hP hD hS => ?_)
  rw [hQ] at hP hD
  exact ct_vret C hS hP hD (⟨rfl, _, rfl, rfl⟩) (Nat.le_of_ble_eq_true rfl) (Nat.le_of_ble_eq_true rfl) dX7_init_4
abbrev rmX6_init : Room := { frames := 2, cells := 0, slots := 0, locals := 40 }
set_option maxRecDepth 100000 in
theorem c_ini6 {l : Launch} {s0 : State} {D : va_G} {cA : Nat → ClassId} (hG : cx_G l s0 D cA) {S : Mem} {a : Nat}  : PC l s0 D cA yX6_init cX6_init 1 none rmX6_init [.ref a] S (none) (fun S1 => S1 = S) := by
  refine Ct.of (cA := cA) hG (by decide +kernel) (Nat.le_of_ble_eq_true rfl) ?_
  intro p e s m below meth c A C hnm hP hD hS ls hl
  have hx := cx_x C
  have hb := cx_b C
  have hl : lv_has ls 1 [(0, .ref a)] := hl
  refine lv_aload_n hx hb dX6_init_0 rfl (lv_at hl 0 rfl) ?_
  refine pc_IN (As := []) (rest := []) C (c_hini (S := S) hG) tn_212 tm_197 tm_10 tm_198 rfl hdX1_init.2 ⟨Nat.le_of_ble_eq_true rfl, Nat.le_of_ble_eq_true rfl⟩ hl.1 rfl (Nat.le_of_ble_eq_true rfl) dX6_init_1 ⟨Nat.le_of_ble_eq_true rfl, Nat.le_of_ble_eq_true rfl⟩ hP hD hS (fun S1 H locs hQ hP hD hS => ?_)
  rw [hQ] at hP hD
  exact ct_vret C hS hP hD (⟨rfl, _, rfl, rfl⟩) (Nat.le_of_ble_eq_true rfl) (Nat.le_of_ble_eq_true rfl) dX6_init_4
abbrev rmX3_init : Room := { frames := 2, cells := 0, slots := 0, locals := 40 }
set_option maxRecDepth 100000 in
theorem c_ini3 {l : Launch} {s0 : State} {D : va_G} {cA : Nat → ClassId} (hG : cx_G l s0 D cA) {S : Mem} {a : Nat}  : PC l s0 D cA yX3_init cX3_init 1 none rmX3_init [.ref a] S (none) (fun S1 => S1 = S) := by
  refine Ct.of (cA := cA) hG (by decide +kernel) (Nat.le_of_ble_eq_true rfl) ?_
  intro p e s m below meth c A C hnm hP hD hS ls hl
  have hx := cx_x C
  have hb := cx_b C
  have hl : lv_has ls 1 [(0, .ref a)] := hl
  refine lv_aload_n hx hb dX3_init_0 rfl (lv_at hl 0 rfl) ?_
  refine pc_IN (As := []) (rest := []) C (c_hini (S := S) hG) tn_226 tm_197 tm_10 tm_198 rfl hdX1_init.2 ⟨Nat.le_of_ble_eq_true rfl, Nat.le_of_ble_eq_true rfl⟩ hl.1 rfl (Nat.le_of_ble_eq_true rfl) dX3_init_1 ⟨Nat.le_of_ble_eq_true rfl, Nat.le_of_ble_eq_true rfl⟩ hP hD hS (fun S1 H locs hQ hP hD hS => ?_)
  rw [hQ] at hP hD
  exact ct_vret C hS hP hD (⟨rfl, _, rfl, rfl⟩) (Nat.le_of_ble_eq_true rfl) (Nat.le_of_ble_eq_true rfl) dX3_init_4
abbrev rmX2_init : Room := { frames := 2, cells := 1, slots := 400, locals := 40 }
set_option maxRecDepth 100000 in
theorem c_ini2 {l : Launch} {s0 : State} {D : va_G} {cA : Nat → ClassId} (hG : cx_G l s0 D cA) {S : Mem} {a : Nat}  (h1 : a ∈ mL S) (h2 : mK S a = 1) : PC l s0 D cA yX2_init cX2_init 1 none rmX2_init [.ref a] S (none) (fun S1 => ∃ q, q ∉ mL S ∧ S1 = uR (nw S q 9 400) 0 a (some q)) := by
  refine Ct.of (cA := cA) hG (by decide +kernel) (Nat.le_of_ble_eq_true rfl) ?_
  intro p e s m below meth c A C hnm hP hD hS ls hl
  have hx := cx_x C
  have hb := cx_b C
  have hl : lv_has ls 1 [(0, .ref a)] := hl
  refine lv_aload_n hx hb dX2_init_0 rfl (lv_at hl 0 rfl) ?_
  refine pc_IN (As := []) (rest := []) C (c_hini (S := S) hG) tn_246 tm_197 tm_10 tm_198 rfl hdX1_init.2 ⟨Nat.le_of_ble_eq_true rfl, Nat.le_of_ble_eq_true rfl⟩ hl.1 rfl (Nat.le_of_ble_eq_true rfl) dX2_init_1 ⟨Nat.le_of_ble_eq_true rfl, Nat.le_of_ble_eq_true rfl⟩ hP hD hS (fun S1 H locs hQ hP hD hS => ?_)
  rw [hQ] at hP hD
  refine lv_aload_n hx hb dX2_init_4 rfl (lv_at hl 0 rfl) ?_
  refine lv_sipush (v := 400) hx hb dX2_init_5 (by decide) ?_
  refine nwa_B (N := 400) C hP hD hS (by decide) (by decide +kernel) (by decide) (Nat.le_of_ble_eq_true rfl) (Nat.le_of_ble_eq_true rfl) dX2_init_8 (fun q0 H hq0 hP hD hS => ?_)
  obtain ⟨M0, eM0⟩ : ∃ M9, M9 = nw S q0 9 400 := ⟨_, rfl⟩
  rw [← eM0] at hP hD
  have lM0_0 : a ∈ mL M0 := by rw [eM0]; exact nw_L (S := S) (q := q0) (k := 9) (n := 400) (a := a) h1
  have kM0_0 := (show mK M0 a = mK S a by rw [eM0]; exact nw_K (S := S) (q := q0) (k := 9) (n := 400) (a := a) h1 hq0).trans h2
  have lM0q : q0 ∈ mL M0 := by rw [eM0]; exact nw_q (S := S) (q := q0) (k := 9) (n := 400)
  have kM0q : mK M0 q0 = 9 := by rw [eM0]; exact nw_Kq (S := S) (q := q0) (k := 9) (n := 400)
  have nM0q : mN M0 q0 = 400 := by rw [eM0]; exact nw_Nq (S := S) (q := q0) (k := 9) (n := 400)
  refine pf_2_0 (v := some q0) C hnm hP hD hS lM0_0 kM0_0 tm_247 dX2_init_10 (fun H locs hP hD hS => ?_)
  exact ct_vret C hS hP hD (⟨rfl, _, rfl, q0, hq0, by rw [eM0]⟩) (Nat.le_of_ble_eq_true rfl) (Nat.le_of_ble_eq_true rfl) dX2_init_13
abbrev rmX4_init : Room := { frames := 1, cells := 1, slots := 8, locals := 20 }
set_option maxRecDepth 100000 in
theorem c_pini {l : Launch} {s0 : State} {D : va_G} {cA : Nat → ClassId} (hG : cx_G l s0 D cA) {S : Mem} {a : Nat} (on : Int32)  (h1 : a ∈ mL S) (h2 : mK S a = 3) : PC l s0 D cA yX4_init cX4_init 2 none rmX4_init [.ref a, .int on] S (none) (fun S1 => ∃ q, q ∉ mL S ∧ S1 = uI (uR (nw S q 15 8) 1 a (some q)) 0 a on) := by
  refine Ct.of (cA := cA) hG (by decide +kernel) (Nat.le_of_ble_eq_true rfl) ?_
  intro p e s m below meth c A C hnm hP hD hS ls hl
  have hx := cx_x C
  have hb := cx_b C
  have hl : lv_has ls 2 [(0, .ref a), (1, .int on)] := hl
  refine lv_aload_n hx hb dX4_init_0 rfl (lv_at hl 0 rfl) ?_
  refine ct_obj C hl.1 tm_266 (Nat.le_of_ble_eq_true rfl) (Nat.le_of_ble_eq_true rfl) dX4_init_1 ?_
  refine lv_aload_n hx hb dX4_init_4 rfl (lv_at hl 0 rfl) ?_
  refine lv_bipush (v := 8) hx hb dX4_init_5 (by decide) ?_
  refine nwa_C (N := 8) C hP hD hS tm_267 (by decide) (by decide +kernel) (by decide) (Nat.le_of_ble_eq_true rfl) (Nat.le_of_ble_eq_true rfl) dX4_init_7 (fun q0 H hq0 hP hD hS => ?_)
  obtain ⟨M0, eM0⟩ : ∃ M9, M9 = nw S q0 15 8 := ⟨_, rfl⟩
  rw [← eM0] at hP hD
  have lM0_0 : a ∈ mL M0 := by rw [eM0]; exact nw_L (S := S) (q := q0) (k := 15) (n := 8) (a := a) h1
  have kM0_0 := (show mK M0 a = mK S a by rw [eM0]; exact nw_K (S := S) (q := q0) (k := 15) (n := 8) (a := a) h1 hq0).trans h2
  have lM0q : q0 ∈ mL M0 := by rw [eM0]; exact nw_q (S := S) (q := q0) (k := 15) (n := 8)
  have kM0q : mK M0 q0 = 15 := by rw [eM0]; exact nw_Kq (S := S) (q := q0) (k := 15) (n := 8)
  have nM0q : mN M0 q0 = 8 := by rw [eM0]; exact nw_Nq (S := S) (q := q0) (k := 15) (n := 8)
  refine pf_4_1 (v := some q0) C hnm hP hD hS lM0_0 kM0_0 tm_270 dX4_init_10 (fun H locs hP hD hS => ?_)
  refine lv_aload_n hx hb dX4_init_13 rfl (lv_at hl 0 rfl) ?_
  refine lv_iload_n hx hb dX4_init_14 rfl (lv_at hl 1 rfl) ?_
  refine pf_4_0 (v := on) C hnm hP hD hS lM0_0 kM0_0 tm_268 dX4_init_15 (fun H locs hP hD hS => ?_)
  exact ct_vret C hS hP hD (⟨rfl, _, rfl, q0, hq0, by rw [eM0]⟩) (Nat.le_of_ble_eq_true rfl) (Nat.le_of_ble_eq_true rfl) dX4_init_18
abbrev rmX0_init : Room := { frames := 1, cells := 0, slots := 0, locals := 20 }
set_option maxRecDepth 100000 in
theorem c_cini_n {l : Launch} {s0 : State} {D : va_G} {cA : Nat → ClassId} (hG : cx_G l s0 D cA) {S : Mem} {a h b : Nat} (on po : Int32)  (h1 : a ∈ mL S) (h2 : mK S a = 0) : PC l s0 D cA yX0_init cX0_init 5 none rmX0_init [.ref a, .ref h, .int on, .int po, .null] S (none) (fun S1 => S1 = uR (uI (uI (uR (uJ (uJ (uJ S 4 a (-1)) 5 a (-1)) 10 a (-1)) 0 a (some h)) 1 a on) 3 a po) 2 a none) := by
  refine Ct.of (cA := cA) hG (by decide +kernel) (Nat.le_of_ble_eq_true rfl) ?_
  intro p e s m below meth c A C hnm hP hD hS ls hl
  have hx := cx_x C
  have hb := cx_b C
  have hl : lv_has ls 5 [(0, .ref a), (1, .ref h), (2, .int on), (3, .int po), (4, .null)] := hl
  refine lv_aload_n hx hb dX0_init_0 rfl (lv_at hl 0 rfl) ?_
  refine ct_obj C hl.1 tm_285 (Nat.le_of_ble_eq_true rfl) (Nat.le_of_ble_eq_true rfl) dX0_init_1 ?_
  refine lv_aload_n hx hb dX0_init_4 rfl (lv_at hl 0 rfl) ?_
  refine lv_ldc2 (v := (-1)) hx hb (cx_own C) (cx_t C _ tm_286) dX0_init_5 ?_
  refine pf_0_4 (v := (-1)) C hP hD hS h1 h2 tm_294 dX0_init_8 (fun H locs hP hD hS => ?_)
  refine lv_aload_n hx hb dX0_init_11 rfl (lv_at hl 0 rfl) ?_
  refine lv_ldc2 (v := (-1)) hx hb (cx_own C) (cx_t C _ tm_286) dX0_init_12 ?_
  refine pf_0_5 (v := (-1)) C hP hD hS h1 h2 tm_295 dX0_init_15 (fun H locs hP hD hS => ?_)
  refine lv_aload_n hx hb dX0_init_18 rfl (lv_at hl 0 rfl) ?_
  refine lv_ldc2 (v := (-1)) hx hb (cx_own C) (cx_t C _ tm_286) dX0_init_19 ?_
  refine pf_0_10 (v := (-1)) C hP hD hS h1 h2 tm_305 dX0_init_22 (fun H locs hP hD hS => ?_)
  refine lv_aload_n hx hb dX0_init_25 rfl (lv_at hl 0 rfl) ?_
  refine lv_aload_n hx hb dX0_init_26 rfl (lv_at hl 1 rfl) ?_
  refine pf_0_0 (v := some h) C hnm hP hD hS h1 h2 tm_287 dX0_init_27 (fun H locs hP hD hS => ?_)
  refine lv_aload_n hx hb dX0_init_30 rfl (lv_at hl 0 rfl) ?_
  refine lv_iload_n hx hb dX0_init_31 rfl (lv_at hl 2 rfl) ?_
  refine pf_0_1 (v := on) C hnm hP hD hS h1 h2 tm_289 dX0_init_32 (fun H locs hP hD hS => ?_)
  refine lv_aload_n hx hb dX0_init_35 rfl (lv_at hl 0 rfl) ?_
  refine lv_iload_n hx hb dX0_init_36 rfl (lv_at hl 3 rfl) ?_
  refine pf_0_3 (v := po) C hnm hP hD hS h1 h2 tm_293 dX0_init_37 (fun H locs hP hD hS => ?_)
  refine lv_aload_n hx hb dX0_init_40 rfl (lv_at hl 0 rfl) ?_
  refine lv_aloadN hx hb dX0_init_41 (lv_at hl 4 rfl) ?_
  refine pf_0_2 (v := none) C hnm hP hD hS h1 h2 tm_291 dX0_init_43 (fun H locs hP hD hS => ?_)
  exact ct_vret C hS hP hD (⟨rfl, _, rfl, rfl⟩) (Nat.le_of_ble_eq_true rfl) (Nat.le_of_ble_eq_true rfl) dX0_init_46
set_option maxRecDepth 100000 in
theorem c_cini_s {l : Launch} {s0 : State} {D : va_G} {cA : Nat → ClassId} (hG : cx_G l s0 D cA) {S : Mem} {a h b : Nat} (on po : Int32)  (h1 : a ∈ mL S) (h2 : mK S a = 0) : PC l s0 D cA yX0_init cX0_init 5 none rmX0_init [.ref a, .ref h, .int on, .int po, .ref b] S (none) (fun S1 => S1 = uR (uI (uI (uR (uJ (uJ (uJ S 4 a (-1)) 5 a (-1)) 10 a (-1)) 0 a (some h)) 1 a on) 3 a po) 2 a (some b)) := by
  refine Ct.of (cA := cA) hG (by decide +kernel) (Nat.le_of_ble_eq_true rfl) ?_
  intro p e s m below meth c A C hnm hP hD hS ls hl
  have hx := cx_x C
  have hb := cx_b C
  have hl : lv_has ls 5 [(0, .ref a), (1, .ref h), (2, .int on), (3, .int po), (4, .ref b)] := hl
  refine lv_aload_n hx hb dX0_init_0 rfl (lv_at hl 0 rfl) ?_
  refine ct_obj C hl.1 tm_285 (Nat.le_of_ble_eq_true rfl) (Nat.le_of_ble_eq_true rfl) dX0_init_1 ?_
  refine lv_aload_n hx hb dX0_init_4 rfl (lv_at hl 0 rfl) ?_
  refine lv_ldc2 (v := (-1)) hx hb (cx_own C) (cx_t C _ tm_286) dX0_init_5 ?_
  refine pf_0_4 (v := (-1)) C hP hD hS h1 h2 tm_294 dX0_init_8 (fun H locs hP hD hS => ?_)
  refine lv_aload_n hx hb dX0_init_11 rfl (lv_at hl 0 rfl) ?_
  refine lv_ldc2 (v := (-1)) hx hb (cx_own C) (cx_t C _ tm_286) dX0_init_12 ?_
  refine pf_0_5 (v := (-1)) C hP hD hS h1 h2 tm_295 dX0_init_15 (fun H locs hP hD hS => ?_)
  refine lv_aload_n hx hb dX0_init_18 rfl (lv_at hl 0 rfl) ?_
  refine lv_ldc2 (v := (-1)) hx hb (cx_own C) (cx_t C _ tm_286) dX0_init_19 ?_
  refine pf_0_10 (v := (-1)) C hP hD hS h1 h2 tm_305 dX0_init_22 (fun H locs hP hD hS => ?_)
  refine lv_aload_n hx hb dX0_init_25 rfl (lv_at hl 0 rfl) ?_
  refine lv_aload_n hx hb dX0_init_26 rfl (lv_at hl 1 rfl) ?_
  refine pf_0_0 (v := some h) C hnm hP hD hS h1 h2 tm_287 dX0_init_27 (fun H locs hP hD hS => ?_)
  refine lv_aload_n hx hb dX0_init_30 rfl (lv_at hl 0 rfl) ?_
  refine lv_iload_n hx hb dX0_init_31 rfl (lv_at hl 2 rfl) ?_
  refine pf_0_1 (v := on) C hnm hP hD hS h1 h2 tm_289 dX0_init_32 (fun H locs hP hD hS => ?_)
  refine lv_aload_n hx hb dX0_init_35 rfl (lv_at hl 0 rfl) ?_
  refine lv_iload_n hx hb dX0_init_36 rfl (lv_at hl 3 rfl) ?_
  refine pf_0_3 (v := po) C hnm hP hD hS h1 h2 tm_293 dX0_init_37 (fun H locs hP hD hS => ?_)
  refine lv_aload_n hx hb dX0_init_40 rfl (lv_at hl 0 rfl) ?_
  refine lv_aload hx hb dX0_init_41 (lv_at hl 4 rfl) ?_
  refine pf_0_2 (v := some b) C hnm hP hD hS h1 h2 tm_291 dX0_init_43 (fun H locs hP hD hS => ?_)
  exact ct_vret C hS hP hD (⟨rfl, _, rfl, rfl⟩) (Nat.le_of_ble_eq_true rfl) (Nat.le_of_ble_eq_true rfl) dX0_init_46
