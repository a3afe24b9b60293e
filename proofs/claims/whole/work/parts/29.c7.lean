/-! ===== the class and the reference: one event ===== -/
theorem c_valueE {l : Launch} {s0 : State} {D : va_G} {cA : Nat → ClassId} (hG : cx_G l s0 D cA) {S : Mem} {r v g u N : Nat} {x : Int64} (k : Nat) (h : rgA S r v g u N) (hk : k < 2 ^ 63) (hv : maJ S v (k % N) = x) : PC l s0 D cA yX5_valueOf cX5_valueOf 3 (some .long) rmX5_valueOf [.ref r, .long (lN k)] S (some (.long x)) (fun S1 => S1 = S) := by
  subst hv
  exact c_valueOf hG k h hk
theorem c_prodE {l : Launch} {s0 : State} {D : va_G} {cA : Nat → ClassId} (hG : cx_G l s0 D cA) {S : Mem} {r v g u N : Nat} {x : Int32} (k : Nat) (h : rgA S r v g u N) (hk : k < 2 ^ 63) (hv : maI S g (k % N) = x) : PC l s0 D cA yX5_producerOf cX5_producerOf 3 (some .int) rmX5_producerOf [.ref r, .long (lN k)] S (some (.int x)) (fun S1 => S1 = S) := by
  subst hv
  exact c_producerOf hG k h hk
theorem c_tagE {l : Launch} {s0 : State} {D : va_G} {cA : Nat → ClassId} (hG : cx_G l s0 D cA) {S : Mem} {a : Nat} {x : Int32} (q : Int64) (h1 : a ∈ mL S) (h2 : mK S a = 0) (hx : twS S a q = x) : PC l s0 D cA yX0_throwsAgain cX0_throwsAgain 3 (some .int) rmX0_throwsAgain [.ref a, .long q] S (some (.int x)) (fun S1 => S1 = uJ (uI S 11 a x) 10 a q) := by
  subst hx
  exact c_tag hG q h1 h2
theorem st2_k {P : MS} {j k : Nat} {b a : Int32} (h4 : k ≠ 14) (h6 : k ≠ 16) : qI (st2 P j b a) k = qI P k := by rw [st2, sI_k h6, sI_k h4]
theorem st2_16 {P : MS} {j : Nat} {b a : Int32} : qI (st2 P j b a) 16 j = qI P 16 j + a := by rw [st2, qI_s]
theorem st2_14 {P : MS} {j : Nat} {b a : Int32} : qI (st2 P j b a) 14 j = vp_nar .boolean b := by rw [st2, sI_k (by decide), qI_s]
theorem tw_tm {S : Mem} {a j w ev : Nat} {P : MS} (r : RT S a P j w) (hw : w ≤ ev) (he : ev ≤ 9999) : twS S a (lN ev) = tmS P j (nI ev) ∧ ∃ t, 1 ≤ t ∧ t ≤ 3 ∧ tmS P j (nI ev) = nI t := by
  obtain ⟨ta, t, h1, h2, h3, h4, h5, h6⟩ := r
  unfold twS tmS
  rw [h5, h3, ← eL_S]
  by_cases e : ta = ev + 1
  · subst e
    rw [if_pos rfl, if_pos (nI_pred ev), h4]
    rcases h6 with h6 | ⟨_, _, h6⟩
    · rw [h6]
      exact ⟨rfl, t + 1, by omega, by omega, nI_1 t⟩
    · omega
  · rw [if_neg (fun q => e ((eL_eq (by omega) (by omega)).mp q).symm), if_neg (fun q => e ?_)]
    · exact ⟨rfl, 1, by omega, by omega, by decide⟩
    · have q2 : eL ta = eL (ev + 1) := by rw [← eL_of (show ta < 2 ^ 30 by omega), q, eL_S]; exact nI_l (by omega)
      exact (eL_eq (by omega) (by omega)).mp q2
/-- what is left of an event: the consumer's objects alone have changed, and what it keeps is kept -/
def PQ (S S1 : Mem) (a h b : Nat) (po : Option Nat) (P T : MS) (j pq hq w : Nat) : Prop := ag (Xc a h b P j) S S1 ∧ RQ S1 a h b po T j pq hq w ∧ ∀ B pB, RB S a h B P j pB → RB S1 a h B T j pB
abbrev rmX0_passes : Room := { frames := 3, cells := 0, slots := 0, locals := 71 }
set_option maxRecDepth 100000 in
theorem p_y {l : Launch} {s0 : State} {D : va_G} {cA : Nat → ClassId} (hG : cx_G l s0 D cA) {S : Mem} {a h b j pq hq w : Nat} {po : Option Nat} {P : MS} {r v g u N ev bb : Nat}  (hc : RC S a h po P j pq hq w) (hh : RH S h b P j) (hg : rgA S r v g u N) (hval : maJ S v (ev % N) = qJ P 5 (ev % N)) (hpro : maI S g (ev % N) = qI P 6 (ev % N)) (hI : bInv P j N bb) (hbb : bb < 2 ^ 30) (hev : ev ≤ 9999) (hho : hB P j ev N = true) (h14 : qI P 14 j = 0) : PC l s0 D cA yX0_passes cX0_passes 4 (some .boolean) rmX0_passes [.ref a, .ref r, .long (lN ev)] S (some (.int 1)) (fun S1 => PQ S S1 a h b po P (st2 (hSf P j ev N) j 0 0) j pq hq w) := by
  refine Ct.of (cA := cA) hG (by decide +kernel) (Nat.le_of_ble_eq_true rfl) ?_
  intro p e s m below meth c A C hnm hP hD hS ls hl
  have hx := cx_x C
  have hb := cx_b C
  have hl : lv_has ls 4 [(0, .ref a), (1, .ref r), (2, .long (lN ev))] := hl
  refine lv_aload_n hx hb dX0_passes_0 rfl (lv_at hl 0 rfl) ?_
  refine gf_0_0s (b := h) C hP hc.1.1 hc.1.2 (hc.2.1) tm_287 dX0_passes_1 ?_
  refine lv_lload_n hx hb dX0_passes_4 rfl (lv_at hl 2 rfl) ?_
  refine lv_aload_n hx hb dX0_passes_5 rfl (lv_at hl 1 rfl) ?_
  refine lv_lload_n hx hb dX0_passes_6 rfl (lv_at hl 2 rfl) ?_
  refine pc_V (As := [.long (lN ev)]) (rest := [.long (lN ev), .ref h]) (r := some (.long (qJ P 5 (ev % N)))) C (c_valueE (S := S) hG ev hg (by omega) hval) tm_468 tm_469 tm_470 tm_2 tm_471 hdX5_valueOf ⟨Nat.le_of_ble_eq_true rfl, Nat.le_of_ble_eq_true rfl⟩ (rcv_5 C hP hg.1.1 hg.1.2) hl.1 rfl (Nat.le_of_ble_eq_true rfl) dX0_passes_7 ⟨Nat.le_of_ble_eq_true rfl, Nat.le_of_ble_eq_true rfl⟩ hP hD hS (fun S1 H locs hQ hP hD hS => ?_)
  rw [hQ] at hP hD
  refine lv_aload_n hx hb dX0_passes_10 rfl (lv_at hl 1 rfl) ?_
  refine lv_lload_n hx hb dX0_passes_11 rfl (lv_at hl 2 rfl) ?_
  refine pc_V (As := [.long (lN ev)]) (rest := [.long (qJ P 5 (ev % N)), .long (lN ev), .ref h]) (r := some (.int (qI P 6 (ev % N)))) C (c_prodE (S := S) hG ev hg (by omega) hpro) tm_472 tm_473 tm_474 tm_2 tm_475 hdX5_producerOf ⟨Nat.le_of_ble_eq_true rfl, Nat.le_of_ble_eq_true rfl⟩ (rcv_5 C hP hg.1.1 hg.1.2) hl.1 rfl (Nat.le_of_ble_eq_true rfl) dX0_passes_12 ⟨Nat.le_of_ble_eq_true rfl, Nat.le_of_ble_eq_true rfl⟩ hP hD hS (fun S2 H locs hQ hP hD hS => ?_)
  rw [hQ] at hP hD
  refine w_handles (rest := []) (ev := ev) (sl := N) (bb := bb) C hG hh hI hbb (by omega) hl.1 (Nat.le_of_ble_eq_true rfl) dX0_passes_15 ⟨Nat.le_of_ble_eq_true rfl, Nat.le_of_ble_eq_true rfl⟩ ⟨Nat.le_of_ble_eq_true rfl, Nat.le_of_ble_eq_true rfl⟩ hP hD hS (fun _ S1 H locs hxa hh1 hk1 hP hD hS => ?_) (fun t => absurd (hho.symm.trans t) (by decide))
  have na : ¬ Xh h b P j a := Xh_a hc.1.2 hh
  obtain ⟨a1, a2, a3, a4, a5, a6⟩ := hxa.2.2.2.2.2 a na
  have f6 : mI S1 6 a = qI P 15 j := (a1 6).trans hc.2.2.2.2.2.2.2.1
  have o1 : a ∈ mL S1 ∧ mK S1 a = 0 := by rw [hxa.1, hxa.2.1]; exact hc.1
  refine lv_if_eq (tgt := 33) hx hb dX0_passes_18 (by decide) (fun h9 => absurd h9 (by decide)) (fun _ => ?_)
  refine lv_aload_n hx hb dX0_passes_21 rfl (lv_at hl 0 rfl) ?_
  refine lv_dup hx hb dX0_passes_22 rfl ?_
  refine gv_0_6 (v := qI P 15 j) C hP o1.1 o1.2 (f6) tm_297 dX0_passes_23 ?_
  refine lv_iconst (v := 1) hx hb dX0_passes_26 (by decide) ?_
  refine lv_iadd hx hb dX0_passes_27 ?_
  refine pf_0_6 (v := (qI P 15 j) + 1) C hP hD hS o1.1 o1.2 tm_297 dX0_passes_28 (fun H locs hP hD hS => ?_)
  refine lv_iconst (v := 1) hx hb dX0_passes_31 (by decide) ?_
  exact ct_zret C (by first | rfl | decide) hS hP hD (⟨rfl, _, rfl, ag_tr (ag_mo hxa (fun q e => Or.inr e)) (ag_uI (Or.inl rfl)), ⟨RC_of hc hxa.1 hxa.2.1 hxa.2.2.2.1 (congrFun (hS_k (P := P) (j := j) (ev := ev) (sl := N) (k := 10) (by decide) (by decide) (by decide)) j) (congrFun (hS_k (P := P) (j := j) (ev := ev) (sl := N) (k := 11) (by decide) (by decide) (by decide)) j) ((mI_k (S := S1) (by decide)).trans (a1 1)) ((mI_k (S := S1) (by decide)).trans (a1 3)) ((a2 4).trans hc.2.2.2.2.2.1) ((a2 5).trans hc.2.2.2.2.2.2.1) ((mI_s (S := S1)).trans ((congrFun hS_15 j).trans qI_s).symm) ((mI_k (S := S1) (by decide)).trans ((a1 7).trans (hc.2.2.2.2.2.2.2.2.1.trans (st2_16.trans (by rw [(congrFun (hS_k (P := P) (j := j) (ev := ev) (sl := N) (k := 16) (by decide) (by decide) (by decide)) j)]; exact Int32.add_zero _)).symm))) ((mI_k (S := S1) (by decide)).trans ((a1 8).trans (hc.2.2.2.2.2.2.2.2.2.1.trans (congrFun (hS_k (P := P) (j := j) (ev := ev) (sl := N) (k := 17) (by decide) (by decide) (by decide)) j).symm))) ((mI_k (S := S1) (by decide)).trans ((a1 9).trans (hc.2.2.2.2.2.2.2.2.2.2.1.trans (h14.trans (st2_14 (b := 0)).symm)))) (RT_of hc.2.2.2.2.2.2.2.2.2.2.2 (congrFun (hS_k (P := P) (j := j) (ev := ev) (sl := N) (k := 18) (by decide) (by decide) (by decide)) j) (congrFun (hS_k (P := P) (j := j) (ev := ev) (sl := N) (k := 19) (by decide) (by decide) (by decide)) j) (a2 10) ((mI_k (S := S1) (by decide)).trans (a1 11)) (Nat.le_refl _)), RH_P rfl rfl rfl rfl rfl rfl rfl (RH_u o1.2 (ag_uI rfl) hh1)⟩, fun B pB q => ⟨⟨(a2 12).trans q.1.1, (mI_k (S := S1) (by decide)).trans ((a1 13).trans q.1.2.1), (mI_k (S := S1) (by decide)).trans ((a1 14).trans q.1.2.2)⟩, RK_P rfl rfl (RK_ag (S := S1) (X := fun q => q = a) (ag_uI rfl) (fun e => (RH_ne hc.1.2 hh).1 e.symm) (hk1 B q.2))⟩⟩) (Nat.le_of_ble_eq_true rfl) (Nat.le_of_ble_eq_true rfl) dX0_passes_32
set_option maxRecDepth 100000 in
theorem p_h {l : Launch} {s0 : State} {D : va_G} {cA : Nat → ClassId} (hG : cx_G l s0 D cA) {S : Mem} {a h b j pq hq w : Nat} {po : Option Nat} {P : MS} {r v g u N ev bb : Nat}  (hc : RC S a h po P j pq hq w) (hh : RH S h b P j) (hg : rgA S r v g u N) (hval : maJ S v (ev % N) = qJ P 5 (ev % N)) (hpro : maI S g (ev % N) = qI P 6 (ev % N)) (hI : bInv P j N bb) (hbb : bb < 2 ^ 30) (hev : ev ≤ 9999) (hho : hB P j ev N = false) (hp : qI P 11 j = 1) : PC l s0 D cA yX0_passes cX0_passes 4 (some .boolean) rmX0_passes [.ref a, .ref r, .long (lN ev)] S (some (.int 0)) (fun S1 => PQ S S1 a h b po P (st2 P j 1 0) j pq hq w) := by
  refine Ct.of (cA := cA) hG (by decide +kernel) (Nat.le_of_ble_eq_true rfl) ?_
  intro p e s m below meth c A C hnm hP hD hS ls hl
  have hx := cx_x C
  have hb := cx_b C
  have hl : lv_has ls 4 [(0, .ref a), (1, .ref r), (2, .long (lN ev))] := hl
  refine lv_aload_n hx hb dX0_passes_0 rfl (lv_at hl 0 rfl) ?_
  refine gf_0_0s (b := h) C hP hc.1.1 hc.1.2 (hc.2.1) tm_287 dX0_passes_1 ?_
  refine lv_lload_n hx hb dX0_passes_4 rfl (lv_at hl 2 rfl) ?_
  refine lv_aload_n hx hb dX0_passes_5 rfl (lv_at hl 1 rfl) ?_
  refine lv_lload_n hx hb dX0_passes_6 rfl (lv_at hl 2 rfl) ?_
  refine pc_V (As := [.long (lN ev)]) (rest := [.long (lN ev), .ref h]) (r := some (.long (qJ P 5 (ev % N)))) C (c_valueE (S := S) hG ev hg (by omega) hval) tm_468 tm_469 tm_470 tm_2 tm_471 hdX5_valueOf ⟨Nat.le_of_ble_eq_true rfl, Nat.le_of_ble_eq_true rfl⟩ (rcv_5 C hP hg.1.1 hg.1.2) hl.1 rfl (Nat.le_of_ble_eq_true rfl) dX0_passes_7 ⟨Nat.le_of_ble_eq_true rfl, Nat.le_of_ble_eq_true rfl⟩ hP hD hS (fun S1 H locs hQ hP hD hS => ?_)
  rw [hQ] at hP hD
  refine lv_aload_n hx hb dX0_passes_10 rfl (lv_at hl 1 rfl) ?_
  refine lv_lload_n hx hb dX0_passes_11 rfl (lv_at hl 2 rfl) ?_
  refine pc_V (As := [.long (lN ev)]) (rest := [.long (qJ P 5 (ev % N)), .long (lN ev), .ref h]) (r := some (.int (qI P 6 (ev % N)))) C (c_prodE (S := S) hG ev hg (by omega) hpro) tm_472 tm_473 tm_474 tm_2 tm_475 hdX5_producerOf ⟨Nat.le_of_ble_eq_true rfl, Nat.le_of_ble_eq_true rfl⟩ (rcv_5 C hP hg.1.1 hg.1.2) hl.1 rfl (Nat.le_of_ble_eq_true rfl) dX0_passes_12 ⟨Nat.le_of_ble_eq_true rfl, Nat.le_of_ble_eq_true rfl⟩ hP hD hS (fun S2 H locs hQ hP hD hS => ?_)
  rw [hQ] at hP hD
  refine w_handles (rest := []) (ev := ev) (sl := N) (bb := bb) C hG hh hI hbb (by omega) hl.1 (Nat.le_of_ble_eq_true rfl) dX0_passes_15 ⟨Nat.le_of_ble_eq_true rfl, Nat.le_of_ble_eq_true rfl⟩ ⟨Nat.le_of_ble_eq_true rfl, Nat.le_of_ble_eq_true rfl⟩ hP hD hS (fun t => absurd (hho.symm.trans t) (by decide)) (fun _ H locs hP hD hS => ?_)
  refine lv_if_eq (tgt := 33) hx hb dX0_passes_18 (by decide) (fun _ => ?_) (fun h9 => absurd (by decide) h9)
  refine lv_aload_n hx hb dX0_passes_33 rfl (lv_at hl 0 rfl) ?_
  refine gv_0_3 (v := qI P 11 j) C hP hc.1.1 hc.1.2 (hc.2.2.2.2.1) tm_293 dX0_passes_34 ?_
  refine lv_iconst (v := 1) hx hb dX0_passes_37 (by decide) ?_
  refine lv_icmp_ne (tgt := 48) hx hb dX0_passes_38 (by decide) (fun h9 => absurd (hp) h9) (fun _ => ?_)
  refine lv_aload_n hx hb dX0_passes_41 rfl (lv_at hl 0 rfl) ?_
  refine lv_iconst (v := 1) hx hb dX0_passes_42 (by decide) ?_
  refine pf_0_9 (v := 1) C (by first | rfl | decide) (by first | rfl | decide) hP hD hS hc.1.1 hc.1.2 tm_303 dX0_passes_43 (fun H locs hP hD hS => ?_)
  refine lv_iconst (v := 0) hx hb dX0_passes_46 (by decide) ?_
  exact ct_zret C (by first | rfl | decide) hS hP hD (⟨rfl, _, rfl, ag_uI (Or.inl rfl), ⟨RC_of hc rfl rfl rfl rfl rfl (mI_k (S := S) (by decide)) (mI_k (S := S) (by decide)) hc.2.2.2.2.2.1 hc.2.2.2.2.2.2.1 ((mI_k (S := S) (by decide)).trans hc.2.2.2.2.2.2.2.1) ((mI_k (S := S) (by decide)).trans (hc.2.2.2.2.2.2.2.2.1.trans (st2_16.trans (Int32.add_zero _)).symm)) ((mI_k (S := S) (by decide)).trans hc.2.2.2.2.2.2.2.2.2.1) ((mI_s (S := S)).trans (st2_14 (b := 1)).symm) (RT_of hc.2.2.2.2.2.2.2.2.2.2.2 rfl rfl rfl (mI_k (S := S) (by decide)) (Nat.le_refl _)), RH_P rfl rfl rfl rfl rfl rfl rfl (RH_u hc.1.2 (ag_uI rfl) hh)⟩, fun B pB q => ⟨⟨q.1.1, (mI_k (S := S) (by decide)).trans q.1.2.1, (mI_k (S := S) (by decide)).trans q.1.2.2⟩, RK_P rfl rfl (RK_ag (S := S) (X := fun q => q = a) (ag_uI rfl) (fun e => (RH_ne hc.1.2 hh).1 e.symm) q.2)⟩⟩) (Nat.le_of_ble_eq_true rfl) (Nat.le_of_ble_eq_true rfl) dX0_passes_47
set_option maxRecDepth 100000 in
theorem p_g {l : Launch} {s0 : State} {D : va_G} {cA : Nat → ClassId} (hG : cx_G l s0 D cA) {S : Mem} {a h b j pq hq w : Nat} {po : Option Nat} {P : MS} {r v g u N ev bb : Nat}  (hc : RC S a h po P j pq hq w) (hh : RH S h b P j) (hg : rgA S r v g u N) (hval : maJ S v (ev % N) = qJ P 5 (ev % N)) (hpro : maI S g (ev % N) = qI P 6 (ev % N)) (hI : bInv P j N bb) (hbb : bb < 2 ^ 30) (hev : ev ≤ 9999) (hho : hB P j ev N = false) (hp : qI P 11 j = 0) (h14 : qI P 14 j = 0) : PC l s0 D cA yX0_passes cX0_passes 4 (some .boolean) rmX0_passes [.ref a, .ref r, .long (lN ev)] S (some (.int 1)) (fun S1 => PQ S S1 a h b po P (st2 P j 0 1) j pq hq w) := by
  refine Ct.of (cA := cA) hG (by decide +kernel) (Nat.le_of_ble_eq_true rfl) ?_
  intro p e s m below meth c A C hnm hP hD hS ls hl
  have hx := cx_x C
  have hb := cx_b C
  have hl : lv_has ls 4 [(0, .ref a), (1, .ref r), (2, .long (lN ev))] := hl
  refine lv_aload_n hx hb dX0_passes_0 rfl (lv_at hl 0 rfl) ?_
  refine gf_0_0s (b := h) C hP hc.1.1 hc.1.2 (hc.2.1) tm_287 dX0_passes_1 ?_
  refine lv_lload_n hx hb dX0_passes_4 rfl (lv_at hl 2 rfl) ?_
  refine lv_aload_n hx hb dX0_passes_5 rfl (lv_at hl 1 rfl) ?_
  refine lv_lload_n hx hb dX0_passes_6 rfl (lv_at hl 2 rfl) ?_
  refine pc_V (As := [.long (lN ev)]) (rest := [.long (lN ev), .ref h]) (r := some (.long (qJ P 5 (ev % N)))) C (c_valueE (S := S) hG ev hg (by omega) hval) tm_468 tm_469 tm_470 tm_2 tm_471 hdX5_valueOf ⟨Nat.le_of_ble_eq_true rfl, Nat.le_of_ble_eq_true rfl⟩ (rcv_5 C hP hg.1.1 hg.1.2) hl.1 rfl (Nat.le_of_ble_eq_true rfl) dX0_passes_7 ⟨Nat.le_of_ble_eq_true rfl, Nat.le_of_ble_eq_true rfl⟩ hP hD hS (fun S1 H locs hQ hP hD hS => ?_)
  rw [hQ] at hP hD
  refine lv_aload_n hx hb dX0_passes_10 rfl (lv_at hl 1 rfl) ?_
  refine lv_lload_n hx hb dX0_passes_11 rfl (lv_at hl 2 rfl) ?_
  refine pc_V (As := [.long (lN ev)]) (rest := [.long (qJ P 5 (ev % N)), .long (lN ev), .ref h]) (r := some (.int (qI P 6 (ev % N)))) C (c_prodE (S := S) hG ev hg (by omega) hpro) tm_472 tm_473 tm_474 tm_2 tm_475 hdX5_producerOf ⟨Nat.le_of_ble_eq_true rfl, Nat.le_of_ble_eq_true rfl⟩ (rcv_5 C hP hg.1.1 hg.1.2) hl.1 rfl (Nat.le_of_ble_eq_true rfl) dX0_passes_12 ⟨Nat.le_of_ble_eq_true rfl, Nat.le_of_ble_eq_true rfl⟩ hP hD hS (fun S2 H locs hQ hP hD hS => ?_)
  rw [hQ] at hP hD
  refine w_handles (rest := []) (ev := ev) (sl := N) (bb := bb) C hG hh hI hbb (by omega) hl.1 (Nat.le_of_ble_eq_true rfl) dX0_passes_15 ⟨Nat.le_of_ble_eq_true rfl, Nat.le_of_ble_eq_true rfl⟩ ⟨Nat.le_of_ble_eq_true rfl, Nat.le_of_ble_eq_true rfl⟩ hP hD hS (fun t => absurd (hho.symm.trans t) (by decide)) (fun _ H locs hP hD hS => ?_)
  refine lv_if_eq (tgt := 33) hx hb dX0_passes_18 (by decide) (fun _ => ?_) (fun h9 => absurd (by decide) h9)
  refine lv_aload_n hx hb dX0_passes_33 rfl (lv_at hl 0 rfl) ?_
  refine gv_0_3 (v := qI P 11 j) C hP hc.1.1 hc.1.2 (hc.2.2.2.2.1) tm_293 dX0_passes_34 ?_
  refine lv_iconst (v := 1) hx hb dX0_passes_37 (by decide) ?_
  refine lv_icmp_ne (tgt := 48) hx hb dX0_passes_38 (by decide) (fun _ => ?_) (fun h9 => absurd h9 (by rw [hp]; decide))
  refine lv_aload_n hx hb dX0_passes_48 rfl (lv_at hl 0 rfl) ?_
  refine gv_0_3 (v := qI P 11 j) C hP hc.1.1 hc.1.2 (hc.2.2.2.2.1) tm_293 dX0_passes_49 ?_
  refine lv_iconst (v := 2) hx hb dX0_passes_52 (by decide) ?_
  refine lv_icmp_ne (tgt := 71) hx hb dX0_passes_53 (by decide) (fun _ => ?_) (fun h9 => absurd h9 (by rw [hp]; decide))
  refine lv_aload_n hx hb dX0_passes_71 rfl (lv_at hl 0 rfl) ?_
  refine lv_dup hx hb dX0_passes_72 rfl ?_
  refine gv_0_7 (v := qI P 16 j) C hP hc.1.1 hc.1.2 (hc.2.2.2.2.2.2.2.2.1) tm_299 dX0_passes_73 ?_
  refine lv_iconst (v := 1) hx hb dX0_passes_76 (by decide) ?_
  refine lv_iadd hx hb dX0_passes_77 ?_
  refine pf_0_7 (v := (qI P 16 j) + 1) C hP hD hS hc.1.1 hc.1.2 tm_299 dX0_passes_78 (fun H locs hP hD hS => ?_)
  refine lv_iconst (v := 1) hx hb dX0_passes_81 (by decide) ?_
  exact ct_zret C (by first | rfl | decide) hS hP hD (⟨rfl, _, rfl, ag_uI (Or.inl rfl), ⟨RC_of hc rfl rfl rfl rfl rfl (mI_k (S := S) (by decide)) (mI_k (S := S) (by decide)) hc.2.2.2.2.2.1 hc.2.2.2.2.2.2.1 ((mI_k (S := S) (by decide)).trans hc.2.2.2.2.2.2.2.1) ((mI_s (S := S)).trans st2_16.symm) ((mI_k (S := S) (by decide)).trans hc.2.2.2.2.2.2.2.2.2.1) ((mI_k (S := S) (by decide)).trans (hc.2.2.2.2.2.2.2.2.2.2.1.trans (h14.trans (st2_14 (b := 0)).symm))) (RT_of hc.2.2.2.2.2.2.2.2.2.2.2 rfl rfl rfl (mI_k (S := S) (by decide)) (Nat.le_refl _)), RH_P rfl rfl rfl rfl rfl rfl rfl (RH_u hc.1.2 (ag_uI rfl) hh)⟩, fun B pB q => ⟨⟨q.1.1, (mI_k (S := S) (by decide)).trans q.1.2.1, (mI_k (S := S) (by decide)).trans q.1.2.2⟩, RK_P rfl rfl (RK_ag (S := S) (X := fun q => q = a) (ag_uI rfl) (fun e => (RH_ne hc.1.2 hh).1 e.symm) q.2)⟩⟩) (Nat.le_of_ble_eq_true rfl) (Nat.le_of_ble_eq_true rfl) dX0_passes_82
set_option maxRecDepth 100000 in
theorem p_r {l : Launch} {s0 : State} {D : va_G} {cA : Nat → ClassId} (hG : cx_G l s0 D cA) {S : Mem} {a h b j pq hq w : Nat} {po : Option Nat} {P : MS} {r v g u N ev bb : Nat} {B : MS} {pB w9 : Nat}  (hc : RC S a h po P j pq hq w) (hh : RH S h b P j) (hg : rgA S r v g u N) (hval : maJ S v (ev % N) = qJ P 5 (ev % N)) (hpro : maI S g (ev % N) = qI P 6 (ev % N)) (hI : bInv P j N bb) (hbb : bb < 2 ^ 30) (hev : ev ≤ 9999) (hho : hB P j ev N = false) (hp : qI P 11 j = 2) (hw : w ≤ ev) (ht3 : tmS P j (nI ev) < 3) (hBB : RB S a h B P j pB) : PC l s0 D cA yX0_passes cX0_passes 4 (some .boolean) rmX0_passes [.ref a, .ref r, .long (lN ev)] S (some (.int 0)) (fun S1 => ag (Xc a h b P j) S S1 ∧ RQ S1 a h b po (rwS B (anS P j (nI ev)) j) j pB hq w9) := by
  obtain ⟨htw, t, ht1, ht2, ht⟩ := tw_tm hc.2.2.2.2.2.2.2.2.2.2.2 hw hev
  have ht0 : t ≤ 2 := by
    rw [ht] at ht3
    have := (nI_ltI (b := 3) (by omega) (by decide)).mp ht3
    omega
  refine Ct.of (cA := cA) hG (by decide +kernel) (Nat.le_of_ble_eq_true rfl) ?_
  intro p e s m below meth c A C hnm hP hD hS ls hl
  have hx := cx_x C
  have hb := cx_b C
  have hl : lv_has ls 4 [(0, .ref a), (1, .ref r), (2, .long (lN ev))] := hl
  refine lv_aload_n hx hb dX0_passes_0 rfl (lv_at hl 0 rfl) ?_
  refine gf_0_0s (b := h) C hP hc.1.1 hc.1.2 (hc.2.1) tm_287 dX0_passes_1 ?_
  refine lv_lload_n hx hb dX0_passes_4 rfl (lv_at hl 2 rfl) ?_
  refine lv_aload_n hx hb dX0_passes_5 rfl (lv_at hl 1 rfl) ?_
  refine lv_lload_n hx hb dX0_passes_6 rfl (lv_at hl 2 rfl) ?_
  refine pc_V (As := [.long (lN ev)]) (rest := [.long (lN ev), .ref h]) (r := some (.long (qJ P 5 (ev % N)))) C (c_valueE (S := S) hG ev hg (by omega) hval) tm_468 tm_469 tm_470 tm_2 tm_471 hdX5_valueOf ⟨Nat.le_of_ble_eq_true rfl, Nat.le_of_ble_eq_true rfl⟩ (rcv_5 C hP hg.1.1 hg.1.2) hl.1 rfl (Nat.le_of_ble_eq_true rfl) dX0_passes_7 ⟨Nat.le_of_ble_eq_true rfl, Nat.le_of_ble_eq_true rfl⟩ hP hD hS (fun S1 H locs hQ hP hD hS => ?_)
  rw [hQ] at hP hD
  refine lv_aload_n hx hb dX0_passes_10 rfl (lv_at hl 1 rfl) ?_
  refine lv_lload_n hx hb dX0_passes_11 rfl (lv_at hl 2 rfl) ?_
  refine pc_V (As := [.long (lN ev)]) (rest := [.long (qJ P 5 (ev % N)), .long (lN ev), .ref h]) (r := some (.int (qI P 6 (ev % N)))) C (c_prodE (S := S) hG ev hg (by omega) hpro) tm_472 tm_473 tm_474 tm_2 tm_475 hdX5_producerOf ⟨Nat.le_of_ble_eq_true rfl, Nat.le_of_ble_eq_true rfl⟩ (rcv_5 C hP hg.1.1 hg.1.2) hl.1 rfl (Nat.le_of_ble_eq_true rfl) dX0_passes_12 ⟨Nat.le_of_ble_eq_true rfl, Nat.le_of_ble_eq_true rfl⟩ hP hD hS (fun S2 H locs hQ hP hD hS => ?_)
  rw [hQ] at hP hD
  refine w_handles (rest := []) (ev := ev) (sl := N) (bb := bb) C hG hh hI hbb (by omega) hl.1 (Nat.le_of_ble_eq_true rfl) dX0_passes_15 ⟨Nat.le_of_ble_eq_true rfl, Nat.le_of_ble_eq_true rfl⟩ ⟨Nat.le_of_ble_eq_true rfl, Nat.le_of_ble_eq_true rfl⟩ hP hD hS (fun t => absurd (hho.symm.trans t) (by decide)) (fun _ H locs hP hD hS => ?_)
  refine lv_if_eq (tgt := 33) hx hb dX0_passes_18 (by decide) (fun _ => ?_) (fun h9 => absurd (by decide) h9)
  refine lv_aload_n hx hb dX0_passes_33 rfl (lv_at hl 0 rfl) ?_
  refine gv_0_3 (v := qI P 11 j) C hP hc.1.1 hc.1.2 (hc.2.2.2.2.1) tm_293 dX0_passes_34 ?_
  refine lv_iconst (v := 1) hx hb dX0_passes_37 (by decide) ?_
  refine lv_icmp_ne (tgt := 48) hx hb dX0_passes_38 (by decide) (fun _ => ?_) (fun h9 => absurd h9 (by rw [hp]; decide))
  refine lv_aload_n hx hb dX0_passes_48 rfl (lv_at hl 0 rfl) ?_
  refine gv_0_3 (v := qI P 11 j) C hP hc.1.1 hc.1.2 (hc.2.2.2.2.1) tm_293 dX0_passes_49 ?_
  refine lv_iconst (v := 2) hx hb dX0_passes_52 (by decide) ?_
  refine lv_icmp_ne (tgt := 71) hx hb dX0_passes_53 (by decide) (fun h9 => absurd (hp) h9) (fun _ => ?_)
  refine lv_aload_n hx hb dX0_passes_56 rfl (lv_at hl 0 rfl) ?_
  refine lv_lload_n hx hb dX0_passes_57 rfl (lv_at hl 2 rfl) ?_
  refine pc_V (As := [.long (lN ev)]) (rest := []) (r := some (.int (tmS P j (nI ev)))) C (c_tagE (S := S) hG (lN ev) hc.1.1 hc.1.2 htw) tm_506 tm_508 tm_888 tm_9 tm_509 hdX0_throwsAgain ⟨Nat.le_of_ble_eq_true rfl, Nat.le_of_ble_eq_true rfl⟩ (rcv_0 C hP hc.1.1 hc.1.2) hl.1 rfl (Nat.le_of_ble_eq_true rfl) dX0_passes_58 ⟨Nat.le_of_ble_eq_true rfl, Nat.le_of_ble_eq_true rfl⟩ hP hD hS (fun S3 H locs hQ hP hD hS => ?_)
  rw [hQ] at hP hD
  refine lv_iconst (v := 3) hx hb dX0_passes_61 (by decide) ?_
  refine lv_icmp_ge (tgt := 71) hx hb dX0_passes_62 (by decide) (fun h9 => absurd h9 (Int32.not_le.mpr ht3)) (fun _ => ?_)
  refine lv_aload_n hx hb dX0_passes_65 rfl (lv_at hl 0 rfl) ?_
  have hx2 : ag (fun q => q = a) S (uJ (uI S 11 a (tmS P j (nI ev))) 10 a (lN ev)) := ag_tr (ag_uI rfl) (ag_uJ rfl)
  have e18 : qI (anS P j (nI ev)) 18 j = nI (ev + 1) - 1 := by rw [anS, qI_s, nI_pred]
  have e19 : qI (anS P j (nI ev)) 19 j = nI t := by rw [anS, sI_k (by decide), qI_s, ht]
  have hc2 : RC (uJ (uI S 11 a (tmS P j (nI ev))) 10 a (lN ev)) a h po (anS P j (nI ev)) j pq hq w9 := RC_of hc rfl rfl rfl rfl rfl (mI_k (S := S) (k := 11) (a := a) (v := tmS P j (nI ev)) (i := 1) (b := a) (by decide)) (mI_k (S := S) (k := 11) (a := a) (v := tmS P j (nI ev)) (i := 3) (b := a) (by decide)) ((mJ_k (S := uI S 11 a (tmS P j (nI ev))) (k := 10) (a := a) (v := lN ev) (i := 4) (b := a) (by decide)).trans hc.2.2.2.2.2.1) ((mJ_k (S := uI S 11 a (tmS P j (nI ev))) (k := 10) (a := a) (v := lN ev) (i := 5) (b := a) (by decide)).trans hc.2.2.2.2.2.2.1) ((mI_k (S := S) (k := 11) (a := a) (v := tmS P j (nI ev)) (i := 6) (b := a) (by decide)).trans hc.2.2.2.2.2.2.2.1) ((mI_k (S := S) (k := 11) (a := a) (v := tmS P j (nI ev)) (i := 7) (b := a) (by decide)).trans hc.2.2.2.2.2.2.2.2.1) ((mI_k (S := S) (k := 11) (a := a) (v := tmS P j (nI ev)) (i := 8) (b := a) (by decide)).trans hc.2.2.2.2.2.2.2.2.2.1) ((mI_k (S := S) (k := 11) (a := a) (v := tmS P j (nI ev)) (i := 9) (b := a) (by decide)).trans hc.2.2.2.2.2.2.2.2.2.2.1) ⟨ev + 1, t, by omega, by omega, e18, e19, (mJ_s (S := uI S 11 a (tmS P j (nI ev)))).trans eL_S.symm, Or.inl ((mI_s (S := S) (k := 11) (a := a) (v := tmS P j (nI ev))).trans ht)⟩
  have hh2 : RH (uJ (uI S 11 a (tmS P j (nI ev))) 10 a (lN ev)) h b (anS P j (nI ev)) j := RH_P rfl rfl rfl rfl rfl rfl rfl (RH_u hc.1.2 hx2 hh)
  have hB2 : RB (uJ (uI S 11 a (tmS P j (nI ev))) 10 a (lN ev)) a h B (anS P j (nI ev)) j pB := ⟨⟨(mJ_k (S := uI S 11 a (tmS P j (nI ev))) (k := 10) (a := a) (v := lN ev) (i := 12) (b := a) (by decide)).trans hBB.1.1, (mI_k (S := S) (k := 11) (a := a) (v := tmS P j (nI ev)) (i := 13) (b := a) (by decide)).trans hBB.1.2.1, (mI_k (S := S) (k := 11) (a := a) (v := tmS P j (nI ev)) (i := 14) (b := a) (by decide)).trans hBB.1.2.2⟩, RK_P rfl rfl (RK_ag hx2 (fun e => (RH_ne hc.1.2 hh).1 e.symm) hBB.2)⟩
  refine pc_V (As := []) (rest := []) (r := none) C (c_rts (S := uJ (uI S 11 a (tmS P j (nI ev))) 10 a (lN ev)) (P := anS P j (nI ev)) (B := B) (pB := pB) hG hc2 hh2 hB2) tm_510 tm_512 tm_889 tm_9 tm_513 hdX0_returnToStart ⟨Nat.le_of_ble_eq_true rfl, Nat.le_of_ble_eq_true rfl⟩ (rcv_0 C hP hc.1.1 hc.1.2) hl.1 rfl (Nat.le_of_ble_eq_true rfl) dX0_passes_66 ⟨Nat.le_of_ble_eq_true rfl, Nat.le_of_ble_eq_true rfl⟩ hP hD hS (fun S4 H locs hQ hP hD hS => ?_)
  refine lv_iconst (v := 0) hx hb dX0_passes_69 (by decide) ?_
  exact ct_zret C (by first | rfl | decide) hS hP hD (⟨rfl, _, rfl, ag_tr (ag_mo hx2 (fun q e => Or.inl e)) (ag_mo hQ.1 (fun q e => e)), hQ.2⟩) (Nat.le_of_ble_eq_true rfl) (Nat.le_of_ble_eq_true rfl) dX0_passes_70
set_option maxRecDepth 100000 in
theorem p_i {l : Launch} {s0 : State} {D : va_G} {cA : Nat → ClassId} (hG : cx_G l s0 D cA) {S : Mem} {a h b j pq hq w : Nat} {po : Option Nat} {P : MS} {r v g u N ev bb : Nat}  (hc : RC S a h po P j pq hq w) (hh : RH S h b P j) (hg : rgA S r v g u N) (hval : maJ S v (ev % N) = qJ P 5 (ev % N)) (hpro : maI S g (ev % N) = qI P 6 (ev % N)) (hI : bInv P j N bb) (hbb : bb < 2 ^ 30) (hev : ev ≤ 9999) (hho : hB P j ev N = false) (hp : qI P 11 j = 2) (hw : w ≤ ev) (ht3 : ¬ tmS P j (nI ev) < 3) (h14 : qI P 14 j = 0) : PC l s0 D cA yX0_passes cX0_passes 4 (some .boolean) rmX0_passes [.ref a, .ref r, .long (lN ev)] S (some (.int 1)) (fun S1 => PQ S S1 a h b po P (st2 (sI (anS P j (nI ev)) 19 j 0) j 0 1) j pq hq (ev + 1)) := by
  obtain ⟨htw, t, ht1, ht2, ht⟩ := tw_tm hc.2.2.2.2.2.2.2.2.2.2.2 hw hev
  have ht0 : t = 3 := by
    rw [ht] at ht3
    have h9 : ¬ t < 3 := fun q => ht3 ((nI_ltI (b := 3) (by omega) (by decide)).mpr q)
    omega
  subst ht0
  refine Ct.of (cA := cA) hG (by decide +kernel) (Nat.le_of_ble_eq_true rfl) ?_
  intro p e s m below meth c A C hnm hP hD hS ls hl
  have hx := cx_x C
  have hb := cx_b C
  have hl : lv_has ls 4 [(0, .ref a), (1, .ref r), (2, .long (lN ev))] := hl
  refine lv_aload_n hx hb dX0_passes_0 rfl (lv_at hl 0 rfl) ?_
  refine gf_0_0s (b := h) C hP hc.1.1 hc.1.2 (hc.2.1) tm_287 dX0_passes_1 ?_
  refine lv_lload_n hx hb dX0_passes_4 rfl (lv_at hl 2 rfl) ?_
  refine lv_aload_n hx hb dX0_passes_5 rfl (lv_at hl 1 rfl) ?_
  refine lv_lload_n hx hb dX0_passes_6 rfl (lv_at hl 2 rfl) ?_
  refine pc_V (As := [.long (lN ev)]) (rest := [.long (lN ev), .ref h]) (r := some (.long (qJ P 5 (ev % N)))) C (c_valueE (S := S) hG ev hg (by omega) hval) tm_468 tm_469 tm_470 tm_2 tm_471 hdX5_valueOf ⟨Nat.le_of_ble_eq_true rfl, Nat.le_of_ble_eq_true rfl⟩ (rcv_5 C hP hg.1.1 hg.1.2) hl.1 rfl (Nat.le_of_ble_eq_true rfl) dX0_passes_7 ⟨Nat.le_of_ble_eq_true rfl, Nat.le_of_ble_eq_true rfl⟩ hP hD hS (fun S1 H locs hQ hP hD hS => ?_)
  rw [hQ] at hP hD
  refine lv_aload_n hx hb dX0_passes_10 rfl (lv_at hl 1 rfl) ?_
  refine lv_lload_n hx hb dX0_passes_11 rfl (lv_at hl 2 rfl) ?_
  refine pc_V (As := [.long (lN ev)]) (rest := [.long (qJ P 5 (ev % N)), .long (lN ev), .ref h]) (r := some (.int (qI P 6 (ev % N)))) C (c_prodE (S := S) hG ev hg (by omega) hpro) tm_472 tm_473 tm_474 tm_2 tm_475 hdX5_producerOf ⟨Nat.le_of_ble_eq_true rfl, Nat.le_of_ble_eq_true rfl⟩ (rcv_5 C hP hg.1.1 hg.1.2) hl.1 rfl (Nat.le_of_ble_eq_true rfl) dX0_passes_12 ⟨Nat.le_of_ble_eq_true rfl, Nat.le_of_ble_eq_true rfl⟩ hP hD hS (fun S2 H locs hQ hP hD hS => ?_)
  rw [hQ] at hP hD
  refine w_handles (rest := []) (ev := ev) (sl := N) (bb := bb) C hG hh hI hbb (by omega) hl.1 (Nat.le_of_ble_eq_true rfl) dX0_passes_15 ⟨Nat.le_of_ble_eq_true rfl, Nat.le_of_ble_eq_true rfl⟩ ⟨Nat.le_of_ble_eq_true rfl, Nat.le_of_ble_eq_true rfl⟩ hP hD hS (fun t => absurd (hho.symm.trans t) (by decide)) (fun _ H locs hP hD hS => ?_)
  refine lv_if_eq (tgt := 33) hx hb dX0_passes_18 (by decide) (fun _ => ?_) (fun h9 => absurd (by decide) h9)
  refine lv_aload_n hx hb dX0_passes_33 rfl (lv_at hl 0 rfl) ?_
  refine gv_0_3 (v := qI P 11 j) C hP hc.1.1 hc.1.2 (hc.2.2.2.2.1) tm_293 dX0_passes_34 ?_
  refine lv_iconst (v := 1) hx hb dX0_passes_37 (by decide) ?_
  refine lv_icmp_ne (tgt := 48) hx hb dX0_passes_38 (by decide) (fun _ => ?_) (fun h9 => absurd h9 (by rw [hp]; decide))
  refine lv_aload_n hx hb dX0_passes_48 rfl (lv_at hl 0 rfl) ?_
  refine gv_0_3 (v := qI P 11 j) C hP hc.1.1 hc.1.2 (hc.2.2.2.2.1) tm_293 dX0_passes_49 ?_
  refine lv_iconst (v := 2) hx hb dX0_passes_52 (by decide) ?_
  refine lv_icmp_ne (tgt := 71) hx hb dX0_passes_53 (by decide) (fun h9 => absurd (hp) h9) (fun _ => ?_)
  refine lv_aload_n hx hb dX0_passes_56 rfl (lv_at hl 0 rfl) ?_
  refine lv_lload_n hx hb dX0_passes_57 rfl (lv_at hl 2 rfl) ?_
  refine pc_V (As := [.long (lN ev)]) (rest := []) (r := some (.int (tmS P j (nI ev)))) C (c_tagE (S := S) hG (lN ev) hc.1.1 hc.1.2 htw) tm_506 tm_508 tm_888 tm_9 tm_509 hdX0_throwsAgain ⟨Nat.le_of_ble_eq_true rfl, Nat.le_of_ble_eq_true rfl⟩ (rcv_0 C hP hc.1.1 hc.1.2) hl.1 rfl (Nat.le_of_ble_eq_true rfl) dX0_passes_58 ⟨Nat.le_of_ble_eq_true rfl, Nat.le_of_ble_eq_true rfl⟩ hP hD hS (fun S3 H locs hQ hP hD hS => ?_)
  rw [hQ] at hP hD
  refine lv_iconst (v := 3) hx hb dX0_passes_61 (by decide) ?_
  refine lv_icmp_ge (tgt := 71) hx hb dX0_passes_62 (by decide) (fun _ => ?_) (fun h9 => absurd (Int32.not_lt.mp ht3) h9)
  refine lv_aload_n hx hb dX0_passes_71 rfl (lv_at hl 0 rfl) ?_
  refine lv_dup hx hb dX0_passes_72 rfl ?_
  refine gv_0_7 (v := qI P 16 j) C hP hc.1.1 hc.1.2 ((mI_k (S := S) (k := 11) (a := a) (v := tmS P j (nI ev)) (i := 7) (b := a) (by decide)).trans (hc.2.2.2.2.2.2.2.2.1)) tm_299 dX0_passes_73 ?_
  refine lv_iconst (v := 1) hx hb dX0_passes_76 (by decide) ?_
  refine lv_iadd hx hb dX0_passes_77 ?_
  refine pf_0_7 (v := (qI P 16 j) + 1) C hP hD hS hc.1.1 hc.1.2 tm_299 dX0_passes_78 (fun H locs hP hD hS => ?_)
  refine lv_iconst (v := 1) hx hb dX0_passes_81 (by decide) ?_
  exact ct_zret C (by first | rfl | decide) hS hP hD (⟨rfl, _, rfl, ag_tr (ag_tr (ag_uI (Or.inl rfl)) (ag_uJ (Or.inl rfl))) (ag_uI (Or.inl rfl)), ⟨RC_of hc rfl rfl rfl rfl rfl ((mI_k (S := uJ (uI S 11 a (tmS P j (nI ev))) 10 a (lN ev)) (k := 7) (a := a) (v := qI P 16 j + 1) (i := 1) (b := a) (by decide)).trans (mI_k (S := S) (k := 11) (a := a) (v := tmS P j (nI ev)) (i := 1) (b := a) (by decide))) ((mI_k (S := uJ (uI S 11 a (tmS P j (nI ev))) 10 a (lN ev)) (k := 7) (a := a) (v := qI P 16 j + 1) (i := 3) (b := a) (by decide)).trans (mI_k (S := S) (k := 11) (a := a) (v := tmS P j (nI ev)) (i := 3) (b := a) (by decide))) ((mJ_k (S := uI S 11 a (tmS P j (nI ev))) (k := 10) (a := a) (v := lN ev) (i := 4) (b := a) (by decide)).trans hc.2.2.2.2.2.1) ((mJ_k (S := uI S 11 a (tmS P j (nI ev))) (k := 10) (a := a) (v := lN ev) (i := 5) (b := a) (by decide)).trans hc.2.2.2.2.2.2.1) (((mI_k (S := uJ (uI S 11 a (tmS P j (nI ev))) 10 a (lN ev)) (k := 7) (a := a) (v := qI P 16 j + 1) (i := 6) (b := a) (by decide)).trans (mI_k (S := S) (k := 11) (a := a) (v := tmS P j (nI ev)) (i := 6) (b := a) (by decide))).trans hc.2.2.2.2.2.2.2.1) ((mI_s (S := uJ (uI S 11 a (tmS P j (nI ev))) 10 a (lN ev))).trans st2_16.symm) (((mI_k (S := uJ (uI S 11 a (tmS P j (nI ev))) 10 a (lN ev)) (k := 7) (a := a) (v := qI P 16 j + 1) (i := 8) (b := a) (by decide)).trans (mI_k (S := S) (k := 11) (a := a) (v := tmS P j (nI ev)) (i := 8) (b := a) (by decide))).trans hc.2.2.2.2.2.2.2.2.2.1) (((mI_k (S := uJ (uI S 11 a (tmS P j (nI ev))) 10 a (lN ev)) (k := 7) (a := a) (v := qI P 16 j + 1) (i := 9) (b := a) (by decide)).trans (mI_k (S := S) (k := 11) (a := a) (v := tmS P j (nI ev)) (i := 9) (b := a) (by decide))).trans (hc.2.2.2.2.2.2.2.2.2.2.1.trans (h14.trans (st2_14 (b := 0)).symm))) ⟨ev + 1, 0, by omega, by omega, (show qI (st2 (sI (anS P j (nI ev)) 19 j 0) j 0 1) 18 j = _ by rw [st2_k (by decide) (by decide), sI_k (by decide), anS, qI_s, nI_pred]), (show qI (st2 (sI (anS P j (nI ev)) 19 j 0) j 0 1) 19 j = _ by rw [st2_k (by decide) (by decide), qI_s]; decide), (mJ_s (S := uI S 11 a (tmS P j (nI ev)))).trans eL_S.symm, Or.inr ⟨rfl, ((mI_k (S := uJ (uI S 11 a (tmS P j (nI ev))) 10 a (lN ev)) (k := 7) (a := a) (v := qI P 16 j + 1) (i := 11) (b := a) (by decide)).trans (mI_s (S := S) (k := 11) (a := a) (v := tmS P j (nI ev)))).trans (ht.trans (by decide)), Nat.le_refl _⟩⟩, RH_P rfl rfl rfl rfl rfl rfl rfl (RH_u hc.1.2 (ag_tr (ag_tr (ag_uI rfl) (ag_uJ rfl)) (ag_uI rfl)) hh)⟩, fun B pB q => ⟨⟨(mJ_k (S := uI S 11 a (tmS P j (nI ev))) (k := 10) (a := a) (v := lN ev) (i := 12) (b := a) (by decide)).trans q.1.1, ((mI_k (S := uJ (uI S 11 a (tmS P j (nI ev))) 10 a (lN ev)) (k := 7) (a := a) (v := qI P 16 j + 1) (i := 13) (b := a) (by decide)).trans (mI_k (S := S) (k := 11) (a := a) (v := tmS P j (nI ev)) (i := 13) (b := a) (by decide))).trans q.1.2.1, ((mI_k (S := uJ (uI S 11 a (tmS P j (nI ev))) 10 a (lN ev)) (k := 7) (a := a) (v := qI P 16 j + 1) (i := 14) (b := a) (by decide)).trans (mI_k (S := S) (k := 11) (a := a) (v := tmS P j (nI ev)) (i := 14) (b := a) (by decide))).trans q.1.2.2⟩, RK_P rfl rfl (RK_ag (S := S) (X := fun q => q = a) (ag_tr (ag_tr (ag_uI rfl) (ag_uJ rfl)) (ag_uI rfl)) (fun e => (RH_ne hc.1.2 hh).1 e.symm) q.2)⟩⟩) (Nat.le_of_ble_eq_true rfl) (Nat.le_of_ble_eq_true rfl) dX0_passes_82
