/-! ===== the class: run and total ===== -/
abbrev rmX8_run : Room := { frames := 6, cells := 0, slots := 0, locals := 144 }
set_option maxRecDepth 100000 in
theorem c_run_n {l : Launch} {s0 : State} {D : va_G} {cA : Nat → ClassId} (hG : cx_G l s0 D cA) {S : Mem} {x r ca pa n v g u N : Nat} {A1 : Nat → Nat} {j hd b pq hq M fr bb av : Nat} {pl : Nat → Nat} {P : MS}  (h : plA S x r ca pa n A1) (hg : rgA S r v g u N) (hj : j < n) (hc : RC S (A1 j) hd none P j pq hq pq) (hh : RH S hd b P j) (hav : mJ S 4 r = eL av) (hav9 : av ≤ 8208) (hr : ∀ i, i < n → RE l s0 D cA S (A1 i) (pl i) ∧ pl i ≤ 9000) (hfe : lpN av pl (qI P 10 j) n = fr) (hV : RV S v g N P pq fr) (hI : bInv P j N bb) (hbb : bb < 2 ^ 29) (h14 : qI P 14 j = 0) (hM : M ≤ 20) (hw : (1 : Int32) ≤ nI M ∧ nI M ≤ 20) (hpl : qI P 13 j = nI pq - 1) (hp8 : pq ≤ 8208) : PC l s0 D cA yX8_run cX8_run 4 (some .int) rmX8_run [.ref x, .int (nI j), .int (nI M)] S (some (.int (bt (nI fr - 1) j N P M 0 P).2)) (fun S1 => ag (Xc (A1 j) hd b P j) S S1 ∧ ∃ pq, RQ S1 (A1 j) hd b none (bt (nI fr - 1) j N P M 0 P).1 j pq hq pq ∧ qI (bt (nI fr - 1) j N P M 0 P).1 13 j = nI pq - 1 ∧ pq ≤ 8208) := by
  have hfr : fr ≤ 8208 := by rw [← hfe]; exact Nat.le_trans (lpN_le n) hav9
  have hav9 : av ≤ 9000 := by omega
  refine Ct.of (cA := cA) hG (by decide +kernel) (Nat.le_of_ble_eq_true rfl) ?_
  intro p e s m below meth c A C hnm hP hD hS ls hl
  have hx := cx_x C
  have hb := cx_b C
  have hl : lv_has ls 4 [(0, .ref x), (1, .int (nI j)), (2, .int (nI M))] := hl
  refine lv_aload_n hx hb dX8_run_0 rfl (lv_at hl 0 rfl) ?_
  refine lv_iload_n hx hb dX8_run_1 rfl (lv_at hl 1 rfl) ?_
  refine pc_V (As := [.int (nI j)]) (rest := []) (r := some (.ref (A1 j))) C (c_exist (S := S) hG h hj) tm_430 tm_432 tm_882 tm_1 tm_433 hdX8_existing ⟨Nat.le_of_ble_eq_true rfl, Nat.le_of_ble_eq_true rfl⟩ (rcv_8 C hP h.1.1 h.1.2) hl.1 rfl (Nat.le_of_ble_eq_true rfl) dX8_run_2 ⟨Nat.le_of_ble_eq_true rfl, Nat.le_of_ble_eq_true rfl⟩ hP hD hS (fun S1 H locs hQ hP hD hS => ?_)
  rw [hQ] at hP hD
  refine lv_astore_n (lv' := [(3, .ref (A1 j)), (0, .ref x), (1, .int (nI j)), (2, .int (nI M))]) hx hb dX8_run_5 rfl hl (by decide) rfl (fun ls hl => ?_)
  refine lv_iload_n hx hb dX8_run_6 rfl (lv_at hl 3 rfl) ?_
  refine lv_iconst (v := 1) hx hb dX8_run_7 (by decide) ?_
  refine lv_bipush (v := 20) hx hb dX8_run_8 (by decide) ?_
  refine ct_S0 (As := [.int (nI M), .int 1, .int 20]) (rest := []) (r := some (.int 1)) C (w8_1 hG _ _ _ (hw)) tm_93 tm_94 tm_1 tm_95 hdX8_isWithin.2 ⟨Nat.le_of_ble_eq_true rfl, Nat.le_of_ble_eq_true rfl⟩ hl.1 rfl (Nat.le_of_ble_eq_true rfl) dX8_run_10 ⟨Nat.le_of_ble_eq_true rfl, Nat.le_of_ble_eq_true rfl⟩ hP hD hS (fun H locs hP hD hS => ?_)
  refine lv_if_ne (tgt := 26) hx hb dX8_run_13 (by decide) (fun _ => ?_) (fun h9 => absurd h9 (by decide))
  refine lv_aload_n hx hb dX8_run_26 rfl (lv_at hl 0 rfl) ?_
  refine gv_0_9 (v := qI P 14 j) C hP (h.2.2.2.2.2.2 j (hj)).2.1 (h.2.2.2.2.2.2 j (hj)).2.2 (hc.2.2.2.2.2.2.2.2.2.2.1) tm_304 dX8_run_27 ?_
  refine lv_if_eq (tgt := 43) hx hb dX8_run_30 (by decide) (fun _ => ?_) (fun h9 => absurd (h14) h9)
  refine lv_aload_n hx hb dX8_run_43 rfl (lv_at hl 0 rfl) ?_
  refine lv_aload_n hx hb dX8_run_44 rfl (lv_at hl 1 rfl) ?_
  refine gf_8_0s (b := r) C hP h.1.1 h.1.2 (h.2.1.1) tm_58 dX8_run_45 ?_
  refine lv_aload_n hx hb dX8_run_48 rfl (lv_at hl 1 rfl) ?_
  refine lv_aload_n hx hb dX8_run_49 rfl (lv_at hl 0 rfl) ?_
  refine gv_0_1 (v := qI P 10 j) C hP (h.2.2.2.2.2.2 j (hj)).2.1 (h.2.2.2.2.2.2 j (hj)).2.2 (hc.2.2.1) tm_290 dX8_run_50 ?_
  refine pc_V (As := [.int (qI P 10 j)]) (rest := [.ref r, .ref (A1 j)]) (r := some (.long (eL fr))) C ((hfe ▸ c_least (S := S) (pl := pl) hG (qI P 10 j) h hg hav hav9 hr)) tm_365 tm_367 tm_881 tm_1 tm_368 hdX8_leastPlace ⟨Nat.le_of_ble_eq_true rfl, Nat.le_of_ble_eq_true rfl⟩ (rcv_8 C hP h.1.1 h.1.2) hl.1 rfl (Nat.le_of_ble_eq_true rfl) dX8_run_53 ⟨Nat.le_of_ble_eq_true rfl, Nat.le_of_ble_eq_true rfl⟩ hP hD hS (fun S2 H locs hQ hP hD hS => ?_)
  rw [hQ] at hP hD
  refine lv_iload_n hx hb dX8_run_56 rfl (lv_at hl 3 rfl) ?_
  refine pc_V (As := [.ref r, .long (eL fr), .int (nI M)]) (rest := []) (r := some (.int ((bt (nI fr - 1) j N P M 0 P).2))) C (c_adv_n (S := S) (bb := bb) (fr := fr) (far := nI fr - 1) hG hc hh hg hV hI hbb h14 hpl hp8 hM rfl hfr) tm_437 tm_438 tm_439 tm_9 tm_440 hdX0_advance ⟨Nat.le_of_ble_eq_true rfl, Nat.le_of_ble_eq_true rfl⟩ (rcv_0 C hP (h.2.2.2.2.2.2 j (hj)).2.1 (h.2.2.2.2.2.2 j (hj)).2.2) hl.1 rfl (Nat.le_of_ble_eq_true rfl) dX8_run_57 ⟨Nat.le_of_ble_eq_true rfl, Nat.le_of_ble_eq_true rfl⟩ hP hD hS (fun S3 H locs hQ hP hD hS => ?_)
  exact ct_iret C hS hP hD (⟨rfl, _, rfl, hQ⟩) (Nat.le_of_ble_eq_true rfl) (Nat.le_of_ble_eq_true rfl) dX8_run_60
set_option maxRecDepth 100000 in
theorem c_run_p {l : Launch} {s0 : State} {D : va_G} {cA : Nat → ClassId} (hG : cx_G l s0 D cA) {S : Mem} {x r ca pa n v g u N : Nat} {A1 : Nat → Nat} {j hd b pq hq M fr bb av p0 pt pw t tk : Nat} {fI : Nat → Int32} {pl : Nat → Nat} {P : MS}  (h : plA S x r ca pa n A1) (hg : rgA S r v g u N) (hj : j < n) (hc : RC S (A1 j) hd (some pt) P j pq hq pq) (hh : RH S hd b P j) (hp : RP S pt pw fI t P tk) (hav : mJ S 4 r = eL av) (hav9 : av ≤ 8208) (hr : ∀ i, i < n → RE l s0 D cA S (A1 i) (pl i) ∧ pl i ≤ 9000) (hfe : lpN av pl (qI P 10 j) n = fr) (hV : RV S v g N P p0 fr) (hI : bInv P j N bb) (hbb : bb < 2 ^ 29) (h14 : qI P 14 j = 0) (hM : M ≤ 20) (hw : (1 : Int32) ≤ nI M ∧ nI M ≤ 20) (hpo2 : ¬ qI P 11 j = 2) (hpt : p0 ≤ tk) (htk : tk + M ≤ 9000) (hhas : qI P 20 j = nI hq - 1) (hq9 : hq ≤ 9000) (hqp : hq = 0 ∨ p0 < hq) : PC l s0 D cA yX8_run cX8_run 4 (some .int) rmX8_run [.ref x, .int (nI j), .int (nI M)] S (some (.int (wk (nI fr - 1) j t N M 0 P).2)) (fun S1 => ag (Xs (A1 j) hd b P j pt) S S1 ∧ ∃ hq tk, RQ S1 (A1 j) hd b (some pt) (wk (nI fr - 1) j t N M 0 P).1 j pq hq pq ∧ RP S1 pt pw fI t (wk (nI fr - 1) j t N M 0 P).1 tk ∧ qI (wk (nI fr - 1) j t N M 0 P).1 20 j = nI hq - 1 ∧ hq ≤ 9000 ∧ tk ≤ 9000) := by
  have hfr : fr ≤ 8208 := by rw [← hfe]; exact Nat.le_trans (lpN_le n) hav9
  have hav9 : av ≤ 9000 := by omega
  refine Ct.of (cA := cA) hG (by decide +kernel) (Nat.le_of_ble_eq_true rfl) ?_
  intro p e s m below meth c A C hnm hP hD hS ls hl
  have hx := cx_x C
  have hb := cx_b C
  have hl : lv_has ls 4 [(0, .ref x), (1, .int (nI j)), (2, .int (nI M))] := hl
  refine lv_aload_n hx hb dX8_run_0 rfl (lv_at hl 0 rfl) ?_
  refine lv_iload_n hx hb dX8_run_1 rfl (lv_at hl 1 rfl) ?_
  refine pc_V (As := [.int (nI j)]) (rest := []) (r := some (.ref (A1 j))) C (c_exist (S := S) hG h hj) tm_430 tm_432 tm_882 tm_1 tm_433 hdX8_existing ⟨Nat.le_of_ble_eq_true rfl, Nat.le_of_ble_eq_true rfl⟩ (rcv_8 C hP h.1.1 h.1.2) hl.1 rfl (Nat.le_of_ble_eq_true rfl) dX8_run_2 ⟨Nat.le_of_ble_eq_true rfl, Nat.le_of_ble_eq_true rfl⟩ hP hD hS (fun S1 H locs hQ hP hD hS => ?_)
  rw [hQ] at hP hD
  refine lv_astore_n (lv' := [(3, .ref (A1 j)), (0, .ref x), (1, .int (nI j)), (2, .int (nI M))]) hx hb dX8_run_5 rfl hl (by decide) rfl (fun ls hl => ?_)
  refine lv_iload_n hx hb dX8_run_6 rfl (lv_at hl 3 rfl) ?_
  refine lv_iconst (v := 1) hx hb dX8_run_7 (by decide) ?_
  refine lv_bipush (v := 20) hx hb dX8_run_8 (by decide) ?_
  refine ct_S0 (As := [.int (nI M), .int 1, .int 20]) (rest := []) (r := some (.int 1)) C (w8_1 hG _ _ _ (hw)) tm_93 tm_94 tm_1 tm_95 hdX8_isWithin.2 ⟨Nat.le_of_ble_eq_true rfl, Nat.le_of_ble_eq_true rfl⟩ hl.1 rfl (Nat.le_of_ble_eq_true rfl) dX8_run_10 ⟨Nat.le_of_ble_eq_true rfl, Nat.le_of_ble_eq_true rfl⟩ hP hD hS (fun H locs hP hD hS => ?_)
  refine lv_if_ne (tgt := 26) hx hb dX8_run_13 (by decide) (fun _ => ?_) (fun h9 => absurd h9 (by decide))
  refine lv_aload_n hx hb dX8_run_26 rfl (lv_at hl 0 rfl) ?_
  refine gv_0_9 (v := qI P 14 j) C hP (h.2.2.2.2.2.2 j (hj)).2.1 (h.2.2.2.2.2.2 j (hj)).2.2 (hc.2.2.2.2.2.2.2.2.2.2.1) tm_304 dX8_run_27 ?_
  refine lv_if_eq (tgt := 43) hx hb dX8_run_30 (by decide) (fun _ => ?_) (fun h9 => absurd (h14) h9)
  refine lv_aload_n hx hb dX8_run_43 rfl (lv_at hl 0 rfl) ?_
  refine lv_aload_n hx hb dX8_run_44 rfl (lv_at hl 1 rfl) ?_
  refine gf_8_0s (b := r) C hP h.1.1 h.1.2 (h.2.1.1) tm_58 dX8_run_45 ?_
  refine lv_aload_n hx hb dX8_run_48 rfl (lv_at hl 1 rfl) ?_
  refine lv_aload_n hx hb dX8_run_49 rfl (lv_at hl 0 rfl) ?_
  refine gv_0_1 (v := qI P 10 j) C hP (h.2.2.2.2.2.2 j (hj)).2.1 (h.2.2.2.2.2.2 j (hj)).2.2 (hc.2.2.1) tm_290 dX8_run_50 ?_
  refine pc_V (As := [.int (qI P 10 j)]) (rest := [.ref r, .ref (A1 j)]) (r := some (.long (eL fr))) C ((hfe ▸ c_least (S := S) (pl := pl) hG (qI P 10 j) h hg hav hav9 hr)) tm_365 tm_367 tm_881 tm_1 tm_368 hdX8_leastPlace ⟨Nat.le_of_ble_eq_true rfl, Nat.le_of_ble_eq_true rfl⟩ (rcv_8 C hP h.1.1 h.1.2) hl.1 rfl (Nat.le_of_ble_eq_true rfl) dX8_run_53 ⟨Nat.le_of_ble_eq_true rfl, Nat.le_of_ble_eq_true rfl⟩ hP hD hS (fun S2 H locs hQ hP hD hS => ?_)
  rw [hQ] at hP hD
  refine lv_iload_n hx hb dX8_run_56 rfl (lv_at hl 3 rfl) ?_
  refine pc_V (As := [.ref r, .long (eL fr), .int (nI M)]) (rest := []) (r := some (.int ((wk (nI fr - 1) j t N M 0 P).2))) C (c_adv_p (S := S) (bb := bb) (p0 := p0) (fr := fr) (far := nI fr - 1) hG hc hh hp hg hV hI hbb h14 hpo2 hpt htk hhas hq9 hqp hM rfl hfr) tm_437 tm_438 tm_439 tm_9 tm_440 hdX0_advance ⟨Nat.le_of_ble_eq_true rfl, Nat.le_of_ble_eq_true rfl⟩ (rcv_0 C hP (h.2.2.2.2.2.2 j (hj)).2.1 (h.2.2.2.2.2.2 j (hj)).2.2) hl.1 rfl (Nat.le_of_ble_eq_true rfl) dX8_run_57 ⟨Nat.le_of_ble_eq_true rfl, Nat.le_of_ble_eq_true rfl⟩ hP hD hS (fun S3 H locs hQ hP hD hS => ?_)
  exact ct_iret C hS hP hD (⟨rfl, _, rfl, hQ⟩) (Nat.le_of_ble_eq_true rfl) (Nat.le_of_ble_eq_true rfl) dX8_run_60
set_option maxRecDepth 100000 in
theorem c_amount0 {l : Launch} {s0 : State} {D : va_G} {cA : Nat → ClassId} (hG : cx_G l s0 D cA) (S : Mem) (a : Nat) : PC l s0 D cA yX1_amount cX1_amount 1 (some .long) rmX1_amount [.ref a] S (some (.long 0)) (fun S1 => S1 = S) := by
  refine Ct.of (cA := cA) hG (by decide +kernel) (Nat.le_of_ble_eq_true rfl) ?_
  intro p e s m below meth c A C hnm hP hD hS ls hl
  have hx := cx_x C
  have hb := cx_b C
  refine lv_lconst (v := 0) hx hb dX1_amount_0 (by decide) ?_
  exact ct_lret C hS hP hD ⟨rfl, _, rfl, rfl⟩ (Nat.le_of_ble_eq_true rfl) (Nat.le_of_ble_eq_true rfl) dX1_amount_1
abbrev rmX8_total : Room := { frames := 2, cells := 0, slots := 0, locals := 44 }
set_option maxRecDepth 100000 in
theorem c_total_sum {l : Launch} {s0 : State} {D : va_G} {cA : Nat → ClassId} (hG : cx_G l s0 D cA) {S : Mem} {x r ca pa n : Nat} {A1 : Nat → Nat} {j hd : Nat}  (h : plA S x r ca pa n A1) (hj : j < n) (hd0 : mR S 0 (A1 j) = some hd) (h1 : hd ∈ mL S) (h2 : mK S hd = 6) : PC l s0 D cA yX8_total cX8_total 2 (some .long) rmX8_total [.ref x, .int (nI j)] S (some (.long (mJ S 0 hd))) (fun S1 => S1 = S) := by
  refine Ct.of (cA := cA) hG (by decide +kernel) (Nat.le_of_ble_eq_true rfl) ?_
  intro p e s m below meth c A C hnm hP hD hS ls hl
  have hx := cx_x C
  have hb := cx_b C
  have hl : lv_has ls 2 [(0, .ref x), (1, .int (nI j))] := hl
  refine lv_aload_n hx hb dX8_total_0 rfl (lv_at hl 0 rfl) ?_
  refine lv_iload_n hx hb dX8_total_1 rfl (lv_at hl 1 rfl) ?_
  refine pc_V (As := [.int (nI j)]) (rest := []) (r := some (.ref (A1 j))) C (c_exist (S := S) hG h hj) tm_430 tm_432 tm_882 tm_1 tm_433 hdX8_existing ⟨Nat.le_of_ble_eq_true rfl, Nat.le_of_ble_eq_true rfl⟩ (rcv_8 C hP h.1.1 h.1.2) hl.1 rfl (Nat.le_of_ble_eq_true rfl) dX8_total_2 ⟨Nat.le_of_ble_eq_true rfl, Nat.le_of_ble_eq_true rfl⟩ hP hD hS (fun S1 H locs hQ hP hD hS => ?_)
  rw [hQ] at hP hD
  refine gf_0_0s (b := hd) C hP (h.2.2.2.2.2.2 j (hj)).2.1 (h.2.2.2.2.2.2 j (hj)).2.2 (hd0) tm_288 dX8_total_5 ?_
  refine pc_O (X := "RingPipeline$Sum") (owner := "RingPipeline$Handler") (z := ⟨"RingPipeline$Handler", "amount", "()J"⟩) (y := yX7_amount) (As := []) (rest := []) (r := some (.long (mJ S 0 hd))) C (c_sum_a (S := S) hG h1 h2) tm_551 tm_553 tm_552 tm_559 tm_560 tm_11 tm_561 tm_562 ⟨by decide, by decide, by decide +kernel⟩ ⟨Nat.le_of_ble_eq_true rfl, Nat.le_of_ble_eq_true rfl⟩ (rcv_7 C hP h1 h2) hl.1 rfl (Nat.le_of_ble_eq_true rfl) dX8_total_8 ⟨Nat.le_of_ble_eq_true rfl, Nat.le_of_ble_eq_true rfl⟩ hP hD hS (fun S2 H locs hQ hP hD hS => ?_)
  rw [hQ] at hP hD
  exact ct_lret C hS hP hD (⟨rfl, _, rfl, rfl⟩) (Nat.le_of_ble_eq_true rfl) (Nat.le_of_ble_eq_true rfl) dX8_total_11
set_option maxRecDepth 100000 in
theorem c_total_smo {l : Launch} {s0 : State} {D : va_G} {cA : Nat → ClassId} (hG : cx_G l s0 D cA) {S : Mem} {x r ca pa n : Nat} {A1 : Nat → Nat} {j hd : Nat}  (h : plA S x r ca pa n A1) (hj : j < n) (hd0 : mR S 0 (A1 j) = some hd) (h1 : hd ∈ mL S) (h2 : mK S hd = 5) : PC l s0 D cA yX8_total cX8_total 2 (some .long) rmX8_total [.ref x, .int (nI j)] S (some (.long 0)) (fun S1 => S1 = S) := by
  refine Ct.of (cA := cA) hG (by decide +kernel) (Nat.le_of_ble_eq_true rfl) ?_
  intro p e s m below meth c A C hnm hP hD hS ls hl
  have hx := cx_x C
  have hb := cx_b C
  have hl : lv_has ls 2 [(0, .ref x), (1, .int (nI j))] := hl
  refine lv_aload_n hx hb dX8_total_0 rfl (lv_at hl 0 rfl) ?_
  refine lv_iload_n hx hb dX8_total_1 rfl (lv_at hl 1 rfl) ?_
  refine pc_V (As := [.int (nI j)]) (rest := []) (r := some (.ref (A1 j))) C (c_exist (S := S) hG h hj) tm_430 tm_432 tm_882 tm_1 tm_433 hdX8_existing ⟨Nat.le_of_ble_eq_true rfl, Nat.le_of_ble_eq_true rfl⟩ (rcv_8 C hP h.1.1 h.1.2) hl.1 rfl (Nat.le_of_ble_eq_true rfl) dX8_total_2 ⟨Nat.le_of_ble_eq_true rfl, Nat.le_of_ble_eq_true rfl⟩ hP hD hS (fun S1 H locs hQ hP hD hS => ?_)
  rw [hQ] at hP hD
  refine gf_0_0s (b := hd) C hP (h.2.2.2.2.2.2 j (hj)).2.1 (h.2.2.2.2.2.2 j (hj)).2.2 (hd0) tm_288 dX8_total_5 ?_
  refine pc_O (X := "RingPipeline$Smooth") (owner := "RingPipeline$Handler") (z := ⟨"RingPipeline$Handler", "amount", "()J"⟩) (y := yX1_amount) (As := []) (rest := []) (r := some (.long 0)) C (c_amount0 hG S hd) tm_551 tm_553 tm_552 tm_558 tm_552 tm_10 tm_562 tm_562 ⟨by decide, by decide, by decide +kernel⟩ ⟨Nat.le_of_ble_eq_true rfl, Nat.le_of_ble_eq_true rfl⟩ (rcv_6 C hP h1 h2) hl.1 rfl (Nat.le_of_ble_eq_true rfl) dX8_total_8 ⟨Nat.le_of_ble_eq_true rfl, Nat.le_of_ble_eq_true rfl⟩ hP hD hS (fun S2 H locs hQ hP hD hS => ?_)
  rw [hQ] at hP hD
  exact ct_lret C hS hP hD (⟨rfl, _, rfl, rfl⟩) (Nat.le_of_ble_eq_true rfl) (Nat.le_of_ble_eq_true rfl) dX8_total_11
set_option maxRecDepth 100000 in
theorem c_total_mea {l : Launch} {s0 : State} {D : va_G} {cA : Nat → ClassId} (hG : cx_G l s0 D cA) {S : Mem} {x r ca pa n : Nat} {A1 : Nat → Nat} {j hd : Nat}  (h : plA S x r ca pa n A1) (hj : j < n) (hd0 : mR S 0 (A1 j) = some hd) (h1 : hd ∈ mL S) (h2 : mK S hd = 2) : PC l s0 D cA yX8_total cX8_total 2 (some .long) rmX8_total [.ref x, .int (nI j)] S (some (.long 0)) (fun S1 => S1 = S) := by
  refine Ct.of (cA := cA) hG (by decide +kernel) (Nat.le_of_ble_eq_true rfl) ?_
  intro p e s m below meth c A C hnm hP hD hS ls hl
  have hx := cx_x C
  have hb := cx_b C
  have hl : lv_has ls 2 [(0, .ref x), (1, .int (nI j))] := hl
  refine lv_aload_n hx hb dX8_total_0 rfl (lv_at hl 0 rfl) ?_
  refine lv_iload_n hx hb dX8_total_1 rfl (lv_at hl 1 rfl) ?_
  refine pc_V (As := [.int (nI j)]) (rest := []) (r := some (.ref (A1 j))) C (c_exist (S := S) hG h hj) tm_430 tm_432 tm_882 tm_1 tm_433 hdX8_existing ⟨Nat.le_of_ble_eq_true rfl, Nat.le_of_ble_eq_true rfl⟩ (rcv_8 C hP h.1.1 h.1.2) hl.1 rfl (Nat.le_of_ble_eq_true rfl) dX8_total_2 ⟨Nat.le_of_ble_eq_true rfl, Nat.le_of_ble_eq_true rfl⟩ hP hD hS (fun S1 H locs hQ hP hD hS => ?_)
  rw [hQ] at hP hD
  refine gf_0_0s (b := hd) C hP (h.2.2.2.2.2.2 j (hj)).2.1 (h.2.2.2.2.2.2 j (hj)).2.2 (hd0) tm_288 dX8_total_5 ?_
  refine pc_O (X := "RingPipeline$Mean") (owner := "RingPipeline$Handler") (z := ⟨"RingPipeline$Handler", "amount", "()J"⟩) (y := yX1_amount) (As := []) (rest := []) (r := some (.long 0)) C (c_amount0 hG S hd) tm_551 tm_553 tm_552 tm_557 tm_552 tm_10 tm_562 tm_562 ⟨by decide, by decide, by decide +kernel⟩ ⟨Nat.le_of_ble_eq_true rfl, Nat.le_of_ble_eq_true rfl⟩ (rcv_3 C hP h1 h2) hl.1 rfl (Nat.le_of_ble_eq_true rfl) dX8_total_8 ⟨Nat.le_of_ble_eq_true rfl, Nat.le_of_ble_eq_true rfl⟩ hP hD hS (fun S2 H locs hQ hP hD hS => ?_)
  rw [hQ] at hP hD
  exact ct_lret C hS hP hD (⟨rfl, _, rfl, rfl⟩) (Nat.le_of_ble_eq_true rfl) (Nat.le_of_ble_eq_true rfl) dX8_total_11
set_option maxRecDepth 100000 in
theorem c_total_jou {l : Launch} {s0 : State} {D : va_G} {cA : Nat → ClassId} (hG : cx_G l s0 D cA) {S : Mem} {x r ca pa n : Nat} {A1 : Nat → Nat} {j hd b z : Nat}  (h : plA S x r ca pa n A1) (hj : j < n) (hd0 : mR S 0 (A1 j) = some hd) (hJ : jrA S hd b z) : PC l s0 D cA yX8_total cX8_total 2 (some .long) rmX8_total [.ref x, .int (nI j)] S (some (.long ((nI z).toInt64))) (fun S1 => S1 = S) := by
  refine Ct.of (cA := cA) hG (by decide +kernel) (Nat.le_of_ble_eq_true rfl) ?_
  intro p e s m below meth c A C hnm hP hD hS ls hl
  have hx := cx_x C
  have hb := cx_b C
  have hl : lv_has ls 2 [(0, .ref x), (1, .int (nI j))] := hl
  refine lv_aload_n hx hb dX8_total_0 rfl (lv_at hl 0 rfl) ?_
  refine lv_iload_n hx hb dX8_total_1 rfl (lv_at hl 1 rfl) ?_
  refine pc_V (As := [.int (nI j)]) (rest := []) (r := some (.ref (A1 j))) C (c_exist (S := S) hG h hj) tm_430 tm_432 tm_882 tm_1 tm_433 hdX8_existing ⟨Nat.le_of_ble_eq_true rfl, Nat.le_of_ble_eq_true rfl⟩ (rcv_8 C hP h.1.1 h.1.2) hl.1 rfl (Nat.le_of_ble_eq_true rfl) dX8_total_2 ⟨Nat.le_of_ble_eq_true rfl, Nat.le_of_ble_eq_true rfl⟩ hP hD hS (fun S1 H locs hQ hP hD hS => ?_)
  rw [hQ] at hP hD
  refine gf_0_0s (b := hd) C hP (h.2.2.2.2.2.2 j (hj)).2.1 (h.2.2.2.2.2.2 j (hj)).2.2 (hd0) tm_288 dX8_total_5 ?_
  refine pc_O (X := "RingPipeline$Journal") (owner := "RingPipeline$Handler") (z := ⟨"RingPipeline$Handler", "amount", "()J"⟩) (y := yX2_amount) (As := []) (rest := []) (r := some (.long ((nI z).toInt64))) C (c_jamount (S := S) hG hJ) tm_551 tm_553 tm_552 tm_554 tm_555 tm_14 tm_556 tm_562 ⟨by decide, by decide, by decide +kernel⟩ ⟨Nat.le_of_ble_eq_true rfl, Nat.le_of_ble_eq_true rfl⟩ (rcv_2 C hP hJ.1.1 hJ.1.2) hl.1 rfl (Nat.le_of_ble_eq_true rfl) dX8_total_8 ⟨Nat.le_of_ble_eq_true rfl, Nat.le_of_ble_eq_true rfl⟩ hP hD hS (fun S2 H locs hQ hP hD hS => ?_)
  rw [hQ] at hP hD
  exact ct_lret C hS hP hD (⟨rfl, _, rfl, rfl⟩) (Nat.le_of_ble_eq_true rfl) (Nat.le_of_ble_eq_true rfl) dX8_total_11
