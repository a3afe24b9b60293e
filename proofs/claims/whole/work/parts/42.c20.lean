/-! ===== the class: the pool to join ===== -/
abbrev rmX8_poolToJoin : Room := { frames := 2, cells := 2, slots := 12, locals := 41 }
set_option maxRecDepth 100000 in
theorem c_pj_n {l : Launch} {s0 : State} {D : va_G} {cA : Nat → ClassId} (hG : cx_G l s0 D cA) {S : Mem} {x r ca pa n : Nat} {A1 : Nat → Nat} (q on : Int32)  (h : plA S x r ca pa n A1) (hq : ¬ ((0 : Int32) ≤ q ∧ q ≤ 1)) : PC l s0 D cA yX8_poolToJoin cX8_poolToJoin 3 (some (.object "RingPipeline$Pool")) rmX8_poolToJoin [.ref x, .int q, .int on] S (some .null) (fun S1 => S1 = S) := by
  refine Ct.of (cA := cA) hG (by decide +kernel) (Nat.le_of_ble_eq_true rfl) ?_
  intro p e s m below meth c A C hnm hP hD hS ls hl
  have hx := cx_x C
  have hb := cx_b C
  have hl : lv_has ls 3 [(0, .ref x), (1, .int q), (2, .int on)] := hl
  refine lv_iload_n hx hb dX8_poolToJoin_0 rfl (lv_at hl 1 rfl) ?_
  refine lv_iconst (v := 0) hx hb dX8_poolToJoin_1 (by decide) ?_
  refine lv_iconst (v := 1) hx hb dX8_poolToJoin_2 (by decide) ?_
  refine ct_S0 (As := [.int q, .int 0, .int 1]) (rest := []) (r := some (.int 0)) C (w8_0 hG _ _ _ (hq)) tm_93 tm_94 tm_1 tm_95 hdX8_isWithin.2 ⟨Nat.le_of_ble_eq_true rfl, Nat.le_of_ble_eq_true rfl⟩ hl.1 rfl (Nat.le_of_ble_eq_true rfl) dX8_poolToJoin_3 ⟨Nat.le_of_ble_eq_true rfl, Nat.le_of_ble_eq_true rfl⟩ hP hD hS (fun H locs hP hD hS => ?_)
  refine lv_if_ne (tgt := 11) hx hb dX8_poolToJoin_6 (by decide) (fun h9 => absurd rfl h9) (fun _ => ?_)
  refine lv_null hx hb dX8_poolToJoin_9 ?_
  exact ct_aret (r := none) C hS hP hD (⟨rfl, _, rfl, rfl⟩) (Nat.le_of_ble_eq_true rfl) (Nat.le_of_ble_eq_true rfl) dX8_poolToJoin_10
set_option maxRecDepth 100000 in
theorem c_pj_o {l : Launch} {s0 : State} {D : va_G} {cA : Nat → ClassId} (hG : cx_G l s0 D cA) {S : Mem} {x r ca pa n : Nat} {A1 : Nat → Nat} {t pt : Nat} (on : Int32)  (h : plA S x r ca pa n A1) (ht : t < 2) (hn : maR S pa t = some pt) : PC l s0 D cA yX8_poolToJoin cX8_poolToJoin 3 (some (.object "RingPipeline$Pool")) rmX8_poolToJoin [.ref x, .int (nI t), .int on] S (some (.ref pt)) (fun S1 => S1 = S) := by
  refine Ct.of (cA := cA) hG (by decide +kernel) (Nat.le_of_ble_eq_true rfl) ?_
  intro p e s m below meth c A C hnm hP hD hS ls hl
  have hx := cx_x C
  have hb := cx_b C
  have hl : lv_has ls 3 [(0, .ref x), (1, .int (nI t)), (2, .int on)] := hl
  refine lv_iload_n hx hb dX8_poolToJoin_0 rfl (lv_at hl 1 rfl) ?_
  refine lv_iconst (v := 0) hx hb dX8_poolToJoin_1 (by decide) ?_
  refine lv_iconst (v := 1) hx hb dX8_poolToJoin_2 (by decide) ?_
  refine ct_S0 (As := [.int (nI t), .int 0, .int 1]) (rest := []) (r := some (.int 1)) C (w8_1 hG _ _ _ (⟨nI_pos' (by omega), by rw [show (1 : Int32) = nI 1 by decide]; exact nI_le (by omega) (by decide)⟩)) tm_93 tm_94 tm_1 tm_95 hdX8_isWithin.2 ⟨Nat.le_of_ble_eq_true rfl, Nat.le_of_ble_eq_true rfl⟩ hl.1 rfl (Nat.le_of_ble_eq_true rfl) dX8_poolToJoin_3 ⟨Nat.le_of_ble_eq_true rfl, Nat.le_of_ble_eq_true rfl⟩ hP hD hS (fun H locs hP hD hS => ?_)
  refine lv_if_ne (tgt := 11) hx hb dX8_poolToJoin_6 (by decide) (fun _ => ?_) (fun h9 => absurd h9 (by decide))
  refine lv_aload_n hx hb dX8_poolToJoin_11 rfl (lv_at hl 0 rfl) ?_
  refine gf_8_2s (b := pa) C hP h.1.1 h.1.2 (h.2.1.2.2) tm_60 dX8_poolToJoin_12 ?_
  refine lv_iload_n hx hb dX8_poolToJoin_15 rfl (lv_at hl 1 rfl) ?_
  refine av_Ps (j := t) (b := pt) C hP h.2.2.2.1.1 h.2.2.2.1.2.1 (ixN h.2.2.2.1.2.2 (ix_nI ht (by decide))) (hn) dX8_poolToJoin_16 ?_
  refine lv_ifnonnull (tgt := 34) hx hb dX8_poolToJoin_17 (by decide) ?_
  refine lv_aload_n hx hb dX8_poolToJoin_34 rfl (lv_at hl 0 rfl) ?_
  refine gf_8_2s (b := pa) C hP h.1.1 h.1.2 (h.2.1.2.2) tm_60 dX8_poolToJoin_35 ?_
  refine lv_iload_n hx hb dX8_poolToJoin_38 rfl (lv_at hl 1 rfl) ?_
  refine av_Ps (j := t) (b := pt) C hP h.2.2.2.1.1 h.2.2.2.1.2.1 (ixN h.2.2.2.1.2.2 (ix_nI ht (by decide))) (hn) dX8_poolToJoin_39 ?_
  exact ct_aret (r := some pt) C hS hP hD (⟨rfl, _, rfl, rfl⟩) (Nat.le_of_ble_eq_true rfl) (Nat.le_of_ble_eq_true rfl) dX8_poolToJoin_40
set_option maxRecDepth 100000 in
theorem c_pj_w {l : Launch} {s0 : State} {D : va_G} {cA : Nat → ClassId} (hG : cx_G l s0 D cA) {S : Mem} {x r ca pa n : Nat} {A1 : Nat → Nat} {t : Nat} (on : Int32)  (h : plA S x r ca pa n A1) (ht : t < 2) (hn : maR S pa t = none) : PE l s0 D cA yX8_poolToJoin cX8_poolToJoin 3 (some (.object "RingPipeline$Pool")) rmX8_poolToJoin [.ref x, .int (nI t), .int on] S (fun q9 S1 => q9 ∉ mL S ∧ ∃ qw, qw ∉ mL (nw S q9 3 0) ∧ S1 = uaR (uI (uR (nw (nw S q9 3 0) qw 15 8) 1 q9 (some qw)) 0 q9 on) pa t (some q9)) := by
  refine Ct.of (cA := cA) hG (by decide +kernel) (Nat.le_of_ble_eq_true rfl) ?_
  intro p e s m below meth c A C hnm hP hD hS ls hl
  have hx := cx_x C
  have hb := cx_b C
  have hl : lv_has ls 3 [(0, .ref x), (1, .int (nI t)), (2, .int on)] := hl
  refine lv_iload_n hx hb dX8_poolToJoin_0 rfl (lv_at hl 1 rfl) ?_
  refine lv_iconst (v := 0) hx hb dX8_poolToJoin_1 (by decide) ?_
  refine lv_iconst (v := 1) hx hb dX8_poolToJoin_2 (by decide) ?_
  refine ct_S0 (As := [.int (nI t), .int 0, .int 1]) (rest := []) (r := some (.int 1)) C (w8_1 hG _ _ _ (⟨nI_pos' (by omega), by rw [show (1 : Int32) = nI 1 by decide]; exact nI_le (by omega) (by decide)⟩)) tm_93 tm_94 tm_1 tm_95 hdX8_isWithin.2 ⟨Nat.le_of_ble_eq_true rfl, Nat.le_of_ble_eq_true rfl⟩ hl.1 rfl (Nat.le_of_ble_eq_true rfl) dX8_poolToJoin_3 ⟨Nat.le_of_ble_eq_true rfl, Nat.le_of_ble_eq_true rfl⟩ hP hD hS (fun H locs hP hD hS => ?_)
  refine lv_if_ne (tgt := 11) hx hb dX8_poolToJoin_6 (by decide) (fun _ => ?_) (fun h9 => absurd h9 (by decide))
  refine lv_aload_n hx hb dX8_poolToJoin_11 rfl (lv_at hl 0 rfl) ?_
  refine gf_8_2s (b := pa) C hP h.1.1 h.1.2 (h.2.1.2.2) tm_60 dX8_poolToJoin_12 ?_
  refine lv_iload_n hx hb dX8_poolToJoin_15 rfl (lv_at hl 1 rfl) ?_
  refine av_Pn (j := t) C hP h.2.2.2.1.1 h.2.2.2.1.2.1 (ixN h.2.2.2.1.2.2 (ix_nI ht (by decide))) (hn) dX8_poolToJoin_16 ?_
  refine lv_ifnonnullN hx hb dX8_poolToJoin_17 ?_
  refine lv_aload_n hx hb dX8_poolToJoin_20 rfl (lv_at hl 0 rfl) ?_
  refine gf_8_2s (b := pa) C hP h.1.1 h.1.2 (h.2.1.2.2) tm_60 dX8_poolToJoin_21 ?_
  refine lv_iload_n hx hb dX8_poolToJoin_24 rfl (lv_at hl 1 rfl) ?_
  refine nwo_4 C hP hD hS tm_29 (Nat.le_of_ble_eq_true rfl) (Nat.le_of_ble_eq_true rfl) dX8_poolToJoin_25 (fun q0 H hq0 hP hD hS => ?_)
  obtain ⟨M0, eM0⟩ : ∃ M9, M9 = nw S q0 3 0 := ⟨_, rfl⟩
  rw [← eM0] at hP hD
  have lM0_0 : x ∈ mL M0 := by rw [eM0]; exact nw_L (S := S) (q := q0) (k := 3) (n := 0) (a := x) h.1.1
  have kM0_0 := (show mK M0 x = mK S x by rw [eM0]; exact nw_K (S := S) (q := q0) (k := 3) (n := 0) (a := x) h.1.1 hq0).trans h.1.2
  have lM0_1 : ca ∈ mL M0 := by rw [eM0]; exact nw_L (S := S) (q := q0) (k := 3) (n := 0) (a := ca) h.2.2.1.1
  have kM0_1 := (show mK M0 ca = mK S ca by rw [eM0]; exact nw_K (S := S) (q := q0) (k := 3) (n := 0) (a := ca) h.2.2.1.1 hq0).trans h.2.2.1.2.1
  have nM0_1 := (show mN M0 ca = mN S ca by rw [eM0]; exact nw_N (S := S) (q := q0) (k := 3) (n := 0) (a := ca) h.2.2.1.1 hq0).trans h.2.2.1.2.2
  have lM0_2 : pa ∈ mL M0 := by rw [eM0]; exact nw_L (S := S) (q := q0) (k := 3) (n := 0) (a := pa) h.2.2.2.1.1
  have kM0_2 := (show mK M0 pa = mK S pa by rw [eM0]; exact nw_K (S := S) (q := q0) (k := 3) (n := 0) (a := pa) h.2.2.2.1.1 hq0).trans h.2.2.2.1.2.1
  have nM0_2 := (show mN M0 pa = mN S pa by rw [eM0]; exact nw_N (S := S) (q := q0) (k := 3) (n := 0) (a := pa) h.2.2.2.1.1 hq0).trans h.2.2.2.1.2.2
  have lM0q : q0 ∈ mL M0 := by rw [eM0]; exact nw_q (S := S) (q := q0) (k := 3) (n := 0)
  have kM0q : mK M0 q0 = 3 := by rw [eM0]; exact nw_Kq (S := S) (q := q0) (k := 3) (n := 0)
  refine lv_dup hx hb dX8_poolToJoin_28 rfl ?_
  refine lv_iload_n hx hb dX8_poolToJoin_29 rfl (lv_at hl 2 rfl) ?_
  refine pc_I (As := [.int on]) (rest := [.ref q0, .int (nI t), .ref pa]) C (c_pini (S := M0) hG on lM0q kM0q) tm_263 tm_264 tm_15 tm_265 rfl hdX4_init.2 ⟨Nat.le_of_ble_eq_true rfl, Nat.le_of_ble_eq_true rfl⟩ hl.1 rfl (Nat.le_of_ble_eq_true rfl) dX8_poolToJoin_30 ⟨Nat.le_of_ble_eq_true rfl, Nat.le_of_ble_eq_true rfl⟩ hP hD hS (fun S1 H locs hQ hP hD hS => ?_)
  obtain ⟨qw, hqw, eS1⟩ := hQ
  have hxe : ex (fun z => z = q0) M0 S1 := by rw [eS1]; exact ex_tr (ex_nw hqw) (ex_tr (ex_uR rfl) (ex_ag (ag_uI rfl)))
  have hx0 : ex (fun _ => False) S M0 := by rw [eM0]; exact ex_nw hq0
  have bx := hx0 x h.1.1
  have cx := hxe x bx.1
  have nx : x ≠ q0 := nw_ne h.1.1 hq0
  have fR2 : mR S1 2 x = some pa := ((cx.2.2.2 nx).2.2.1 2).trans (((bx.2.2.2 id).2.2.1 2).trans h.2.1.2.2)
  have bp := hx0 pa h.2.2.2.1.1
  have cp := hxe pa bp.1
  have oq := hxe q0 lM0q
  refine as_P (j := t) C hP hD hS cp.1 (cp.2.1.trans (bp.2.1.trans h.2.2.2.1.2.1)) oq.1 (oq.2.1.trans kM0q) (ixN (cp.2.2.1.trans (bp.2.2.1.trans h.2.2.2.1.2.2)) (ix_nI ht (by decide))) dX8_poolToJoin_33 (fun H locs hP hD hS => ?_)
  refine lv_aload_n hx hb dX8_poolToJoin_34 rfl (lv_at hl 0 rfl) ?_
  refine gf_8_2s (b := pa) C hP cx.1 (cx.2.1.trans (bx.2.1.trans h.1.2)) (fR2) tm_60 dX8_poolToJoin_35 ?_
  refine lv_iload_n hx hb dX8_poolToJoin_38 rfl (lv_at hl 1 rfl) ?_
  refine av_Ps (j := t) (b := q0) C hP cp.1 (cp.2.1.trans (bp.2.1.trans h.2.2.2.1.2.1)) (ixN (cp.2.2.1.trans (bp.2.2.1.trans h.2.2.2.1.2.2)) (ix_nI ht (by decide))) (maR_s (S := S1) (k := pa) (a := t) (v := some q0)) dX8_poolToJoin_39 ?_
  exact ct_aret (r := some q0) C hS hP hD (⟨q0, _, rfl, rfl, hq0, qw, by rw [← eM0]; exact hqw, by rw [eS1, eM0]⟩) (Nat.le_of_ble_eq_true rfl) (Nat.le_of_ble_eq_true rfl) dX8_poolToJoin_40
