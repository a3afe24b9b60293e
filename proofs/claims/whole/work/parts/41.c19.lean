/-! ===== the class: joining ===== -/
abbrev rmX4_add : Room := { frames := 0, cells := 0, slots := 0, locals := 0 }
set_option maxRecDepth 100000 in
theorem c_padd {l : Launch} {s0 : State} {D : va_G} {cA : Nat → ClassId} (hG : cx_G l s0 D cA) {S : Mem} {pt pw sz a : Nat}  (h1 : pt ∈ mL S) (h2 : mK S pt = 3) (h3 : mR S 1 pt = some pw) (h4 : pw ∈ mL S ∧ mK S pw = 15 ∧ mN S pw = 8) (h5 : mI S 2 pt = nI sz) (h8 : sz < 8) (h6 : a ∈ mL S) (h7 : mK S a = 0) : PC l s0 D cA yX4_add cX4_add 2 none rmX4_add [.ref pt, .ref a] S (none) (fun S1 => S1 = uI (uaR S pw sz (some a)) 2 pt (nI (sz + 1))) := by
  refine Ct.of (cA := cA) hG (by decide +kernel) (Nat.le_of_ble_eq_true rfl) ?_
  intro p e s m below meth c A C hnm hP hD hS ls hl
  have hx := cx_x C
  have hb := cx_b C
  have hl : lv_has ls 2 [(0, .ref pt), (1, .ref a)] := hl
  refine lv_aload_n hx hb dX4_add_0 rfl (lv_at hl 0 rfl) ?_
  refine gv_4_2 (v := nI sz) C hP h1 h2 (h5) tm_271 dX4_add_1 ?_
  refine lv_aload_n hx hb dX4_add_4 rfl (lv_at hl 0 rfl) ?_
  refine gf_4_1s (b := pw) C hP h1 h2 (h3) tm_270 dX4_add_5 ?_
  refine anv_C (N := 8) C hP h4.1 h4.2.1 (h4.2.2) dX4_add_8 ?_
  refine lv_icmp_ge (tgt := 32) hx hb dX4_add_9 (by decide) (fun h9 => absurd h9 (nI_ge h8 (by decide))) (fun _ => ?_)
  refine lv_aload_n hx hb dX4_add_12 rfl (lv_at hl 0 rfl) ?_
  refine gf_4_1s (b := pw) C hP h1 h2 (h3) tm_270 dX4_add_13 ?_
  refine lv_aload_n hx hb dX4_add_16 rfl (lv_at hl 0 rfl) ?_
  refine gv_4_2 (v := nI sz) C hP h1 h2 (h5) tm_271 dX4_add_17 ?_
  refine lv_aload_n hx hb dX4_add_20 rfl (lv_at hl 1 rfl) ?_
  refine as_C (j := sz) C hP hD hS h4.1 h4.2.1 h6 h7 (ixN h4.2.2 (ix_nI h8 (by decide))) dX4_add_21 (fun H locs hP hD hS => ?_)
  refine lv_aload_n hx hb dX4_add_22 rfl (lv_at hl 0 rfl) ?_
  refine lv_dup hx hb dX4_add_23 rfl ?_
  refine gv_4_2 (v := nI sz) C hP h1 h2 (h5) tm_271 dX4_add_24 ?_
  refine lv_iconst (v := 1) hx hb dX4_add_27 (by decide) ?_
  refine lv_iadd hx hb dX4_add_28 ?_
  refine pf_4_2 (v := (nI sz) + 1) C hP hD hS h1 h2 tm_271 dX4_add_29 (fun H locs hP hD hS => ?_)
  exact ct_vret C hS hP hD (⟨rfl, _, rfl, by rw [nI_1]⟩) (Nat.le_of_ble_eq_true rfl) (Nat.le_of_ble_eq_true rfl) dX4_add_32
abbrev rmX8_mayJoin : Room := { frames := 1, cells := 0, slots := 0, locals := 22 }
set_option maxRecDepth 100000 in
theorem c_mj_x {l : Launch} {s0 : State} {D : va_G} {cA : Nat → ClassId} (hG : cx_G l s0 D cA) {S : Mem} {x r ca pa n : Nat} {A1 : Nat → Nat} (q on po : Int32)  (h : plA S x r ca pa n A1) (hq : ¬ ((0 : Int32) ≤ q ∧ q ≤ 1)) : PC l s0 D cA yX8_mayJoin cX8_mayJoin 4 (some .boolean) rmX8_mayJoin [.ref x, .int q, .int on, .int po] S (some (.int 0)) (fun S1 => S1 = S) := by
  refine Ct.of (cA := cA) hG (by decide +kernel) (Nat.le_of_ble_eq_true rfl) ?_
  intro p e s m below meth c A C hnm hP hD hS ls hl
  have hx := cx_x C
  have hb := cx_b C
  have hl : lv_has ls 4 [(0, .ref x), (1, .int q), (2, .int on), (3, .int po)] := hl
  refine lv_iload_n hx hb dX8_mayJoin_0 rfl (lv_at hl 1 rfl) ?_
  refine lv_iconst (v := 0) hx hb dX8_mayJoin_1 (by decide) ?_
  refine lv_iconst (v := 1) hx hb dX8_mayJoin_2 (by decide) ?_
  refine ct_S0 (As := [.int q, .int 0, .int 1]) (rest := []) (r := some (.int 0)) C (w8_0 hG _ _ _ (hq)) tm_93 tm_94 tm_1 tm_95 hdX8_isWithin.2 ⟨Nat.le_of_ble_eq_true rfl, Nat.le_of_ble_eq_true rfl⟩ hl.1 rfl (Nat.le_of_ble_eq_true rfl) dX8_mayJoin_3 ⟨Nat.le_of_ble_eq_true rfl, Nat.le_of_ble_eq_true rfl⟩ hP hD hS (fun H locs hP hD hS => ?_)
  refine lv_if_eq (tgt := 14) hx hb dX8_mayJoin_6 (by decide) (fun _ => ?_) (fun h9 => absurd (by decide) h9)
  refine lv_iconst (v := 0) hx hb dX8_mayJoin_14 (by decide) ?_
  exact ct_zret C (by first | rfl | decide) hS hP hD (⟨rfl, _, rfl, rfl⟩) (Nat.le_of_ble_eq_true rfl) (Nat.le_of_ble_eq_true rfl) dX8_mayJoin_15
set_option maxRecDepth 100000 in
theorem c_mj_p {l : Launch} {s0 : State} {D : va_G} {cA : Nat → ClassId} (hG : cx_G l s0 D cA) {S : Mem} {x r ca pa n : Nat} {A1 : Nat → Nat} {t : Nat} (on po : Int32)  (h : plA S x r ca pa n A1) (ht : t < 2) (hp : po = 2) : PC l s0 D cA yX8_mayJoin cX8_mayJoin 4 (some .boolean) rmX8_mayJoin [.ref x, .int (nI t), .int on, .int po] S (some (.int 0)) (fun S1 => S1 = S) := by
  refine Ct.of (cA := cA) hG (by decide +kernel) (Nat.le_of_ble_eq_true rfl) ?_
  intro p e s m below meth c A C hnm hP hD hS ls hl
  have hx := cx_x C
  have hb := cx_b C
  have hl : lv_has ls 4 [(0, .ref x), (1, .int (nI t)), (2, .int on), (3, .int po)] := hl
  refine lv_iload_n hx hb dX8_mayJoin_0 rfl (lv_at hl 1 rfl) ?_
  refine lv_iconst (v := 0) hx hb dX8_mayJoin_1 (by decide) ?_
  refine lv_iconst (v := 1) hx hb dX8_mayJoin_2 (by decide) ?_
  refine ct_S0 (As := [.int (nI t), .int 0, .int 1]) (rest := []) (r := some (.int 1)) C (w8_1 hG _ _ _ (⟨nI_pos' (by omega), by rw [show (1 : Int32) = nI 1 by decide]; exact nI_le (by omega) (by decide)⟩)) tm_93 tm_94 tm_1 tm_95 hdX8_isWithin.2 ⟨Nat.le_of_ble_eq_true rfl, Nat.le_of_ble_eq_true rfl⟩ hl.1 rfl (Nat.le_of_ble_eq_true rfl) dX8_mayJoin_3 ⟨Nat.le_of_ble_eq_true rfl, Nat.le_of_ble_eq_true rfl⟩ hP hD hS (fun H locs hP hD hS => ?_)
  refine lv_if_eq (tgt := 14) hx hb dX8_mayJoin_6 (by decide) (fun h9 => absurd h9 (by decide)) (fun _ => ?_)
  refine lv_iload_n hx hb dX8_mayJoin_9 rfl (lv_at hl 3 rfl) ?_
  refine lv_iconst (v := 2) hx hb dX8_mayJoin_10 (by decide) ?_
  refine lv_icmp_ne (tgt := 16) hx hb dX8_mayJoin_11 (by decide) (fun h9 => absurd (hp) h9) (fun _ => ?_)
  refine lv_iconst (v := 0) hx hb dX8_mayJoin_14 (by decide) ?_
  exact ct_zret C (by first | rfl | decide) hS hP hD (⟨rfl, _, rfl, rfl⟩) (Nat.le_of_ble_eq_true rfl) (Nat.le_of_ble_eq_true rfl) dX8_mayJoin_15
set_option maxRecDepth 100000 in
theorem c_mj_n {l : Launch} {s0 : State} {D : va_G} {cA : Nat → ClassId} (hG : cx_G l s0 D cA) {S : Mem} {x r ca pa n : Nat} {A1 : Nat → Nat} {t : Nat} (on po : Int32)  (h : plA S x r ca pa n A1) (ht : t < 2) (hp : ¬ po = 2) (hn : maR S pa t = none) : PC l s0 D cA yX8_mayJoin cX8_mayJoin 4 (some .boolean) rmX8_mayJoin [.ref x, .int (nI t), .int on, .int po] S (some (.int 1)) (fun S1 => S1 = S) := by
  refine Ct.of (cA := cA) hG (by decide +kernel) (Nat.le_of_ble_eq_true rfl) ?_
  intro p e s m below meth c A C hnm hP hD hS ls hl
  have hx := cx_x C
  have hb := cx_b C
  have hl : lv_has ls 4 [(0, .ref x), (1, .int (nI t)), (2, .int on), (3, .int po)] := hl
  refine lv_iload_n hx hb dX8_mayJoin_0 rfl (lv_at hl 1 rfl) ?_
  refine lv_iconst (v := 0) hx hb dX8_mayJoin_1 (by decide) ?_
  refine lv_iconst (v := 1) hx hb dX8_mayJoin_2 (by decide) ?_
  refine ct_S0 (As := [.int (nI t), .int 0, .int 1]) (rest := []) (r := some (.int 1)) C (w8_1 hG _ _ _ (⟨nI_pos' (by omega), by rw [show (1 : Int32) = nI 1 by decide]; exact nI_le (by omega) (by decide)⟩)) tm_93 tm_94 tm_1 tm_95 hdX8_isWithin.2 ⟨Nat.le_of_ble_eq_true rfl, Nat.le_of_ble_eq_true rfl⟩ hl.1 rfl (Nat.le_of_ble_eq_true rfl) dX8_mayJoin_3 ⟨Nat.le_of_ble_eq_true rfl, Nat.le_of_ble_eq_true rfl⟩ hP hD hS (fun H locs hP hD hS => ?_)
  refine lv_if_eq (tgt := 14) hx hb dX8_mayJoin_6 (by decide) (fun h9 => absurd h9 (by decide)) (fun _ => ?_)
  refine lv_iload_n hx hb dX8_mayJoin_9 rfl (lv_at hl 3 rfl) ?_
  refine lv_iconst (v := 2) hx hb dX8_mayJoin_10 (by decide) ?_
  refine lv_icmp_ne (tgt := 16) hx hb dX8_mayJoin_11 (by decide) (fun _ => ?_) (fun h9 => absurd h9 (hp))
  refine lv_aload_n hx hb dX8_mayJoin_16 rfl (lv_at hl 0 rfl) ?_
  refine gf_8_2s (b := pa) C hP h.1.1 h.1.2 (h.2.1.2.2) tm_60 dX8_mayJoin_17 ?_
  refine lv_iload_n hx hb dX8_mayJoin_20 rfl (lv_at hl 1 rfl) ?_
  refine av_Pn (j := t) C hP h.2.2.2.1.1 h.2.2.2.1.2.1 (ixN h.2.2.2.1.2.2 (ix_nI ht (by decide))) (hn) dX8_mayJoin_21 ?_
  refine lv_ifnullN (tgt := 38) hx hb dX8_mayJoin_22 (by decide) ?_
  refine lv_iconst (v := 1) hx hb dX8_mayJoin_38 (by decide) ?_
  refine lv_goto (tgt := 43) hx hb dX8_mayJoin_39 (by decide) ?_
  exact ct_zret C (by first | rfl | decide) hS hP hD (⟨rfl, _, rfl, rfl⟩) (Nat.le_of_ble_eq_true rfl) (Nat.le_of_ble_eq_true rfl) dX8_mayJoin_43
set_option maxRecDepth 100000 in
theorem c_mj_0 {l : Launch} {s0 : State} {D : va_G} {cA : Nat → ClassId} (hG : cx_G l s0 D cA) {S : Mem} {x r ca pa n : Nat} {A1 : Nat → Nat} {t pt : Nat} {w : Int32} (on po : Int32)  (h : plA S x r ca pa n A1) (ht : t < 2) (hp : ¬ po = 2) (hn : maR S pa t = some pt) (h1 : pt ∈ mL S) (h2 : mK S pt = 3) (h3 : mI S 0 pt = w) (hw : ¬ w = on) : PC l s0 D cA yX8_mayJoin cX8_mayJoin 4 (some .boolean) rmX8_mayJoin [.ref x, .int (nI t), .int on, .int po] S (some (.int 0)) (fun S1 => S1 = S) := by
  refine Ct.of (cA := cA) hG (by decide +kernel) (Nat.le_of_ble_eq_true rfl) ?_
  intro p e s m below meth c A C hnm hP hD hS ls hl
  have hx := cx_x C
  have hb := cx_b C
  have hl : lv_has ls 4 [(0, .ref x), (1, .int (nI t)), (2, .int on), (3, .int po)] := hl
  refine lv_iload_n hx hb dX8_mayJoin_0 rfl (lv_at hl 1 rfl) ?_
  refine lv_iconst (v := 0) hx hb dX8_mayJoin_1 (by decide) ?_
  refine lv_iconst (v := 1) hx hb dX8_mayJoin_2 (by decide) ?_
  refine ct_S0 (As := [.int (nI t), .int 0, .int 1]) (rest := []) (r := some (.int 1)) C (w8_1 hG _ _ _ (⟨nI_pos' (by omega), by rw [show (1 : Int32) = nI 1 by decide]; exact nI_le (by omega) (by decide)⟩)) tm_93 tm_94 tm_1 tm_95 hdX8_isWithin.2 ⟨Nat.le_of_ble_eq_true rfl, Nat.le_of_ble_eq_true rfl⟩ hl.1 rfl (Nat.le_of_ble_eq_true rfl) dX8_mayJoin_3 ⟨Nat.le_of_ble_eq_true rfl, Nat.le_of_ble_eq_true rfl⟩ hP hD hS (fun H locs hP hD hS => ?_)
  refine lv_if_eq (tgt := 14) hx hb dX8_mayJoin_6 (by decide) (fun h9 => absurd h9 (by decide)) (fun _ => ?_)
  refine lv_iload_n hx hb dX8_mayJoin_9 rfl (lv_at hl 3 rfl) ?_
  refine lv_iconst (v := 2) hx hb dX8_mayJoin_10 (by decide) ?_
  refine lv_icmp_ne (tgt := 16) hx hb dX8_mayJoin_11 (by decide) (fun _ => ?_) (fun h9 => absurd h9 (hp))
  refine lv_aload_n hx hb dX8_mayJoin_16 rfl (lv_at hl 0 rfl) ?_
  refine gf_8_2s (b := pa) C hP h.1.1 h.1.2 (h.2.1.2.2) tm_60 dX8_mayJoin_17 ?_
  refine lv_iload_n hx hb dX8_mayJoin_20 rfl (lv_at hl 1 rfl) ?_
  refine av_Ps (j := t) (b := pt) C hP h.2.2.2.1.1 h.2.2.2.1.2.1 (ixN h.2.2.2.1.2.2 (ix_nI ht (by decide))) (hn) dX8_mayJoin_21 ?_
  refine lv_ifnull hx hb dX8_mayJoin_22 ?_
  refine lv_aload_n hx hb dX8_mayJoin_25 rfl (lv_at hl 0 rfl) ?_
  refine gf_8_2s (b := pa) C hP h.1.1 h.1.2 (h.2.1.2.2) tm_60 dX8_mayJoin_26 ?_
  refine lv_iload_n hx hb dX8_mayJoin_29 rfl (lv_at hl 1 rfl) ?_
  refine av_Ps (j := t) (b := pt) C hP h.2.2.2.1.1 h.2.2.2.1.2.1 (ixN h.2.2.2.1.2.2 (ix_nI ht (by decide))) (hn) dX8_mayJoin_30 ?_
  refine gv_4_0 (v := w) C hP h1 h2 (h3) tm_269 dX8_mayJoin_31 ?_
  refine lv_iload_n hx hb dX8_mayJoin_34 rfl (lv_at hl 2 rfl) ?_
  refine lv_icmp_ne (tgt := 42) hx hb dX8_mayJoin_35 (by decide) (fun _ => ?_) (fun h9 => absurd h9 (hw))
  refine lv_iconst (v := 0) hx hb dX8_mayJoin_42 (by decide) ?_
  exact ct_zret C (by first | rfl | decide) hS hP hD (⟨rfl, _, rfl, rfl⟩) (Nat.le_of_ble_eq_true rfl) (Nat.le_of_ble_eq_true rfl) dX8_mayJoin_43
set_option maxRecDepth 100000 in
theorem c_mj_1 {l : Launch} {s0 : State} {D : va_G} {cA : Nat → ClassId} (hG : cx_G l s0 D cA) {S : Mem} {x r ca pa n : Nat} {A1 : Nat → Nat} {t pt : Nat} {w : Int32} (on po : Int32)  (h : plA S x r ca pa n A1) (ht : t < 2) (hp : ¬ po = 2) (hn : maR S pa t = some pt) (h1 : pt ∈ mL S) (h2 : mK S pt = 3) (h3 : mI S 0 pt = w) (hw : w = on) : PC l s0 D cA yX8_mayJoin cX8_mayJoin 4 (some .boolean) rmX8_mayJoin [.ref x, .int (nI t), .int on, .int po] S (some (.int 1)) (fun S1 => S1 = S) := by
  refine Ct.of (cA := cA) hG (by decide +kernel) (Nat.le_of_ble_eq_true rfl) ?_
  intro p e s m below meth c A C hnm hP hD hS ls hl
  have hx := cx_x C
  have hb := cx_b C
  have hl : lv_has ls 4 [(0, .ref x), (1, .int (nI t)), (2, .int on), (3, .int po)] := hl
  refine lv_iload_n hx hb dX8_mayJoin_0 rfl (lv_at hl 1 rfl) ?_
  refine lv_iconst (v := 0) hx hb dX8_mayJoin_1 (by decide) ?_
  refine lv_iconst (v := 1) hx hb dX8_mayJoin_2 (by decide) ?_
  refine ct_S0 (As := [.int (nI t), .int 0, .int 1]) (rest := []) (r := some (.int 1)) C (w8_1 hG _ _ _ (⟨nI_pos' (by omega), by rw [show (1 : Int32) = nI 1 by decide]; exact nI_le (by omega) (by decide)⟩)) tm_93 tm_94 tm_1 tm_95 hdX8_isWithin.2 ⟨Nat.le_of_ble_eq_true rfl, Nat.le_of_ble_eq_true rfl⟩ hl.1 rfl (Nat.le_of_ble_eq_true rfl) dX8_mayJoin_3 ⟨Nat.le_of_ble_eq_true rfl, Nat.le_of_ble_eq_true rfl⟩ hP hD hS (fun H locs hP hD hS => ?_)
  refine lv_if_eq (tgt := 14) hx hb dX8_mayJoin_6 (by decide) (fun h9 => absurd h9 (by decide)) (fun _ => ?_)
  refine lv_iload_n hx hb dX8_mayJoin_9 rfl (lv_at hl 3 rfl) ?_
  refine lv_iconst (v := 2) hx hb dX8_mayJoin_10 (by decide) ?_
  refine lv_icmp_ne (tgt := 16) hx hb dX8_mayJoin_11 (by decide) (fun _ => ?_) (fun h9 => absurd h9 (hp))
  refine lv_aload_n hx hb dX8_mayJoin_16 rfl (lv_at hl 0 rfl) ?_
  refine gf_8_2s (b := pa) C hP h.1.1 h.1.2 (h.2.1.2.2) tm_60 dX8_mayJoin_17 ?_
  refine lv_iload_n hx hb dX8_mayJoin_20 rfl (lv_at hl 1 rfl) ?_
  refine av_Ps (j := t) (b := pt) C hP h.2.2.2.1.1 h.2.2.2.1.2.1 (ixN h.2.2.2.1.2.2 (ix_nI ht (by decide))) (hn) dX8_mayJoin_21 ?_
  refine lv_ifnull hx hb dX8_mayJoin_22 ?_
  refine lv_aload_n hx hb dX8_mayJoin_25 rfl (lv_at hl 0 rfl) ?_
  refine gf_8_2s (b := pa) C hP h.1.1 h.1.2 (h.2.1.2.2) tm_60 dX8_mayJoin_26 ?_
  refine lv_iload_n hx hb dX8_mayJoin_29 rfl (lv_at hl 1 rfl) ?_
  refine av_Ps (j := t) (b := pt) C hP h.2.2.2.1.1 h.2.2.2.1.2.1 (ixN h.2.2.2.1.2.2 (ix_nI ht (by decide))) (hn) dX8_mayJoin_30 ?_
  refine gv_4_0 (v := w) C hP h1 h2 (h3) tm_269 dX8_mayJoin_31 ?_
  refine lv_iload_n hx hb dX8_mayJoin_34 rfl (lv_at hl 2 rfl) ?_
  refine lv_icmp_ne (tgt := 42) hx hb dX8_mayJoin_35 (by decide) (fun h9 => absurd (hw) h9) (fun _ => ?_)
  refine lv_iconst (v := 1) hx hb dX8_mayJoin_38 (by decide) ?_
  refine lv_goto (tgt := 43) hx hb dX8_mayJoin_39 (by decide) ?_
  exact ct_zret C (by first | rfl | decide) hS hP hD (⟨rfl, _, rfl, rfl⟩) (Nat.le_of_ble_eq_true rfl) (Nat.le_of_ble_eq_true rfl) dX8_mayJoin_43
abbrev rmX8_add : Room := { frames := 1, cells := 0, slots := 0, locals := 21 }
set_option maxRecDepth 100000 in
theorem c_add_n {l : Launch} {s0 : State} {D : va_G} {cA : Nat → ClassId} (hG : cx_G l s0 D cA) {S : Mem} {x r ca pa n : Nat} {A1 : Nat → Nat} {a : Nat} {hu on : Int32}  (h : plA S x r ca pa n A1) (hn8 : n < 8) (h1 : a ∈ mL S) (h2 : mK S a = 0) (hhu : mI S 4 x = hu) (hon : mI S 1 a = on) (hxa : x ≠ a) (hpo : mR S 2 a = none) : PC l s0 D cA yX8_add cX8_add 2 (some .int) rmX8_add [.ref x, .ref a] S (some (.int (nI n))) (fun S1 => S1 = uI (uI (uaR S ca n (some a)) 4 x (hu ||| on)) 3 x (nI (n + 1))) := by
  refine Ct.of (cA := cA) hG (by decide +kernel) (Nat.le_of_ble_eq_true rfl) ?_
  intro p e s m below meth c A C hnm hP hD hS ls hl
  have hx := cx_x C
  have hb := cx_b C
  have hl : lv_has ls 2 [(0, .ref x), (1, .ref a)] := hl
  refine lv_aload_n hx hb dX8_add_0 rfl (lv_at hl 1 rfl) ?_
  refine gv_0_2n C hP h1 h2 (hpo) tm_292 dX8_add_1 ?_
  refine lv_ifnullN (tgt := 15) hx hb dX8_add_4 (by decide) ?_
  refine lv_aload_n hx hb dX8_add_15 rfl (lv_at hl 0 rfl) ?_
  refine gf_8_1s (b := ca) C hP h.1.1 h.1.2 (h.2.1.2.1) tm_59 dX8_add_16 ?_
  refine lv_aload_n hx hb dX8_add_19 rfl (lv_at hl 0 rfl) ?_
  refine gv_8_3 (v := nI n) C hP h.1.1 h.1.2 (h.2.2.2.2.1) tm_61 dX8_add_20 ?_
  refine lv_aload_n hx hb dX8_add_23 rfl (lv_at hl 1 rfl) ?_
  refine as_C (j := n) C hP hD hS h.2.2.1.1 h.2.2.1.2.1 h1 h2 (ixN h.2.2.1.2.2 (ix_nI hn8 (by decide))) dX8_add_24 (fun H locs hP hD hS => ?_)
  refine lv_aload_n hx hb dX8_add_25 rfl (lv_at hl 0 rfl) ?_
  refine lv_dup hx hb dX8_add_26 rfl ?_
  refine gv_8_4 (v := hu) C hP h.1.1 h.1.2 (hhu) tm_62 dX8_add_27 ?_
  refine lv_aload_n hx hb dX8_add_30 rfl (lv_at hl 1 rfl) ?_
  refine gv_0_1 (v := on) C hP h1 h2 (hon) tm_290 dX8_add_31 ?_
  refine lv_ior hx hb dX8_add_34 ?_
  refine pf_8_4 (v := hu ||| on) C hP hD hS h.1.1 h.1.2 tm_62 dX8_add_35 (fun H locs hP hD hS => ?_)
  refine lv_aload_n hx hb dX8_add_38 rfl (lv_at hl 0 rfl) ?_
  refine lv_dup hx hb dX8_add_39 rfl ?_
  refine gv_8_3 (v := nI n) C hP h.1.1 h.1.2 ((mI_k (S := uaR S ca n (some a)) (k := 4) (a := x) (v := hu ||| on) (i := 3) (b := x) (by decide)).trans (h.2.2.2.2.1)) tm_61 dX8_add_40 ?_
  refine lv_iconst (v := 1) hx hb dX8_add_43 (by decide) ?_
  refine lv_iadd hx hb dX8_add_44 ?_
  refine pf_8_3 (v := (nI n) + 1) C hP hD hS h.1.1 h.1.2 tm_61 dX8_add_45 (fun H locs hP hD hS => ?_)
  refine lv_aload_n hx hb dX8_add_48 rfl (lv_at hl 0 rfl) ?_
  refine gv_8_3 (v := (nI n) + 1) C hP h.1.1 h.1.2 (mI_s (S := uI (uaR S ca n (some a)) 4 x (hu ||| on)) (k := 3) (a := x) (v := (nI n) + 1)) tm_61 dX8_add_49 ?_
  refine lv_iconst (v := 1) hx hb dX8_add_52 (by decide) ?_
  refine lv_isub hx hb dX8_add_53 ?_
  exact ct_iret C hS hP hD (⟨by rw [nI_1, nI_pred], _, rfl, by rw [nI_1]⟩) (Nat.le_of_ble_eq_true rfl) (Nat.le_of_ble_eq_true rfl) dX8_add_54
set_option maxRecDepth 100000 in
theorem c_add_p {l : Launch} {s0 : State} {D : va_G} {cA : Nat → ClassId} (hG : cx_G l s0 D cA) {S : Mem} {x r ca pa n : Nat} {A1 : Nat → Nat} {a pt pw sz : Nat} {hu on : Int32}  (h : plA S x r ca pa n A1) (hn8 : n < 8) (h1 : a ∈ mL S) (h2 : mK S a = 0) (hhu : mI S 4 x = hu) (hon : mI S 1 a = on) (hxa : x ≠ a) (hpo : mR S 2 a = some pt) (p1 : pt ∈ mL S) (p2 : mK S pt = 3) (p3 : mR S 1 pt = some pw) (p4 : pw ∈ mL S ∧ mK S pw = 15 ∧ mN S pw = 8) (p5 : mI S 2 pt = nI sz) (p8 : sz < 8) (npx : x ≠ pt) (npa : a ≠ pt) : PC l s0 D cA yX8_add cX8_add 2 (some .int) rmX8_add [.ref x, .ref a] S (some (.int (nI n))) (fun S1 => S1 = uI (uI (uaR (uI (uaR S pw sz (some a)) 2 pt (nI (sz + 1))) ca n (some a)) 4 x (hu ||| on)) 3 x (nI (n + 1))) := by
  refine Ct.of (cA := cA) hG (by decide +kernel) (Nat.le_of_ble_eq_true rfl) ?_
  intro p e s m below meth c A C hnm hP hD hS ls hl
  have hx := cx_x C
  have hb := cx_b C
  have hl : lv_has ls 2 [(0, .ref x), (1, .ref a)] := hl
  refine lv_aload_n hx hb dX8_add_0 rfl (lv_at hl 1 rfl) ?_
  refine gf_0_2s (b := pt) C hP h1 h2 (hpo) tm_292 dX8_add_1 ?_
  refine lv_ifnull hx hb dX8_add_4 ?_
  refine lv_aload_n hx hb dX8_add_7 rfl (lv_at hl 1 rfl) ?_
  refine gf_0_2s (b := pt) C hP h1 h2 (hpo) tm_292 dX8_add_8 ?_
  refine lv_aload_n hx hb dX8_add_11 rfl (lv_at hl 1 rfl) ?_
  refine pc_V (As := [.ref a]) (rest := []) (r := none) C (c_padd (S := S) hG p1 p2 p3 p4 p5 p8 h1 h2) tm_345 tm_346 tm_347 tm_15 tm_348 hdX4_add ⟨Nat.le_of_ble_eq_true rfl, Nat.le_of_ble_eq_true rfl⟩ (rcv_4 C hP p1 p2) hl.1 rfl (Nat.le_of_ble_eq_true rfl) dX8_add_12 ⟨Nat.le_of_ble_eq_true rfl, Nat.le_of_ble_eq_true rfl⟩ hP hD hS (fun S1 H locs hQ hP hD hS => ?_)
  rw [hQ] at hP hD
  refine lv_aload_n hx hb dX8_add_15 rfl (lv_at hl 0 rfl) ?_
  refine gf_8_1s (b := ca) C hP h.1.1 h.1.2 (h.2.1.2.1) tm_59 dX8_add_16 ?_
  refine lv_aload_n hx hb dX8_add_19 rfl (lv_at hl 0 rfl) ?_
  refine gv_8_3 (v := nI n) C hP h.1.1 h.1.2 ((mI_k (S := uaR S pw sz (some a)) (k := 2) (a := pt) (v := nI (sz + 1)) (i := 3) (b := x) (by decide)).trans (h.2.2.2.2.1)) tm_61 dX8_add_20 ?_
  refine lv_aload_n hx hb dX8_add_23 rfl (lv_at hl 1 rfl) ?_
  refine as_C (j := n) C hP hD hS h.2.2.1.1 h.2.2.1.2.1 h1 h2 (ixN h.2.2.1.2.2 (ix_nI hn8 (by decide))) dX8_add_24 (fun H locs hP hD hS => ?_)
  refine lv_aload_n hx hb dX8_add_25 rfl (lv_at hl 0 rfl) ?_
  refine lv_dup hx hb dX8_add_26 rfl ?_
  refine gv_8_4 (v := hu) C hP h.1.1 h.1.2 ((mI_k (S := uaR S pw sz (some a)) (k := 2) (a := pt) (v := nI (sz + 1)) (i := 4) (b := x) (by decide)).trans (hhu)) tm_62 dX8_add_27 ?_
  refine lv_aload_n hx hb dX8_add_30 rfl (lv_at hl 1 rfl) ?_
  refine gv_0_1 (v := on) C hP h1 h2 ((mI_k (S := uaR S pw sz (some a)) (k := 2) (a := pt) (v := nI (sz + 1)) (i := 1) (b := a) (by decide)).trans (hon)) tm_290 dX8_add_31 ?_
  refine lv_ior hx hb dX8_add_34 ?_
  refine pf_8_4 (v := hu ||| on) C hP hD hS h.1.1 h.1.2 tm_62 dX8_add_35 (fun H locs hP hD hS => ?_)
  refine lv_aload_n hx hb dX8_add_38 rfl (lv_at hl 0 rfl) ?_
  refine lv_dup hx hb dX8_add_39 rfl ?_
  refine gv_8_3 (v := nI n) C hP h.1.1 h.1.2 ((mI_k (S := uaR (uI (uaR S pw sz (some a)) 2 pt (nI (sz + 1))) ca n (some a)) (k := 4) (a := x) (v := hu ||| on) (i := 3) (b := x) (by decide)).trans ((mI_k (S := uaR S pw sz (some a)) (k := 2) (a := pt) (v := nI (sz + 1)) (i := 3) (b := x) (by decide)).trans (h.2.2.2.2.1))) tm_61 dX8_add_40 ?_
  refine lv_iconst (v := 1) hx hb dX8_add_43 (by decide) ?_
  refine lv_iadd hx hb dX8_add_44 ?_
  refine pf_8_3 (v := (nI n) + 1) C hP hD hS h.1.1 h.1.2 tm_61 dX8_add_45 (fun H locs hP hD hS => ?_)
  refine lv_aload_n hx hb dX8_add_48 rfl (lv_at hl 0 rfl) ?_
  refine gv_8_3 (v := (nI n) + 1) C hP h.1.1 h.1.2 (mI_s (S := uI (uaR (uI (uaR S pw sz (some a)) 2 pt (nI (sz + 1))) ca n (some a)) 4 x (hu ||| on)) (k := 3) (a := x) (v := (nI n) + 1)) tm_61 dX8_add_49 ?_
  refine lv_iconst (v := 1) hx hb dX8_add_52 (by decide) ?_
  refine lv_isub hx hb dX8_add_53 ?_
  exact ct_iret C hS hP hD (⟨by rw [nI_1, nI_pred], _, rfl, by rw [nI_1]⟩) (Nat.le_of_ble_eq_true rfl) (Nat.le_of_ble_eq_true rfl) dX8_add_54
