/-! ===== the class and the reference: a consumer ===== -/
/-- how often it has thrown at one event: the reference forgets it at the third, the class when it throws at another -/
def RT (S : Mem) (a : Nat) (P : MS) (j w : Nat) : Prop := ∃ ta t, t ≤ 2 ∧ ta ≤ 10000 ∧ qI P 18 j = nI ta - 1 ∧ qI P 19 j = nI t ∧ mJ S 10 a = eL ta ∧ (mI S 11 a = nI t ∨ (t = 0 ∧ mI S 11 a = 3 ∧ ta ≤ w))
/-- the consumer a, whose handler is h, whose pool is po, is the reference's consumer j; its place is pq, what it has taken hq -/
def RC (S : Mem) (a h : Nat) (po : Option Nat) (P : MS) (j pq hq w : Nat) : Prop :=
  (a ∈ mL S ∧ mK S a = 0) ∧ mR S 0 a = some h ∧ mI S 1 a = qI P 10 j ∧ mR S 2 a = po ∧ mI S 3 a = qI P 11 j ∧ mJ S 4 a = eL pq ∧ mJ S 5 a = eL hq ∧ mI S 6 a = qI P 15 j ∧ mI S 7 a = qI P 16 j ∧ mI S 8 a = qI P 17 j ∧ mI S 9 a = qI P 14 j ∧ RT S a P j w
theorem RT_of {S T : Mem} {a j w w' : Nat} {P P' : MS} (r : RT S a P j w) (e18 : qI P' 18 j = qI P 18 j) (e19 : qI P' 19 j = qI P 19 j) (j10 : mJ T 10 a = mJ S 10 a) (i11 : mI T 11 a = mI S 11 a) (hw : w ≤ w') : RT T a P' j w' := by
  obtain ⟨ta, t, h1, h2, h3, h4, h5, h6⟩ := r
  refine ⟨ta, t, h1, h2, e18.trans h3, e19.trans h4, j10.trans h5, ?_⟩
  rw [i11]
  exact h6.imp id (fun q => ⟨q.1, q.2.1, Nat.le_trans q.2.2 hw⟩)
theorem RC_of {S T : Mem} {a h j pq hq w pq' hq' w' : Nat} {po : Option Nat} {P P' : MS} (c : RC S a h po P j pq hq w) (hL : mL T = mL S) (hK : mK T = mK S) (hR : mR T = mR S) (e10 : qI P' 10 j = qI P 10 j) (e11 : qI P' 11 j = qI P 11 j) (i1 : mI T 1 a = mI S 1 a) (i3 : mI T 3 a = mI S 3 a) (j4 : mJ T 4 a = eL pq') (j5 : mJ T 5 a = eL hq') (i6 : mI T 6 a = qI P' 15 j) (i7 : mI T 7 a = qI P' 16 j) (i8 : mI T 8 a = qI P' 17 j) (i9 : mI T 9 a = qI P' 14 j) (rt : RT T a P' j w') : RC T a h po P' j pq' hq' w' := by
  obtain ⟨c0, c1, c2, c3, c4, -⟩ := c
  exact ⟨by rw [hL, hK]; exact c0, by rw [hR]; exact c1, by rw [i1, e10]; exact c2, by rw [hR]; exact c3, by rw [i3, e11]; exact c4, j4, j5, i6, i7, i8, i9, rt⟩
theorem RC_ag {X : Nat → Prop} {S T : Mem} {a h j pq hq w : Nat} {po : Option Nat} {P : MS} (hx : ag X S T) (hn : ¬ X a) (c : RC S a h po P j pq hq w) : RC T a h po P j pq hq w := by
  obtain ⟨a1, a2, a3, a4, a5, a6⟩ := hx.2.2.2.2.2 a hn
  have ⟨_, _, _, _, _, j4, j5, i6, i7, i8, i9, rt⟩ := c
  exact RC_of c hx.1 hx.2.1 hx.2.2.2.1 rfl rfl (a1 1) (a1 3) ((a2 4).trans j4) ((a2 5).trans j5) ((a1 6).trans i6) ((a1 7).trans i7) ((a1 8).trans i8) ((a1 9).trans i9) (RT_of rt rfl rfl (a2 10) (a1 11) (Nat.le_refl _))
theorem RH_ag {X : Nat → Prop} {S T : Mem} {h b j : Nat} {P : MS} (hx : ag X S T) (hn : ¬ X h) (hb : qI P 9 j = 3 → ¬ X b) (r : RH S h b P j) : RH T h b P j := by
  obtain ⟨a1, a2, a3, a4, a5, a6⟩ := hx.2.2.2.2.2 h hn
  rcases r with ⟨hk, h1, e0⟩ | ⟨hk, h1, e0⟩ | ⟨hk, h1, e0, e1⟩ | ⟨hk, z, hz, hJ, e25, hR⟩
  · exact Or.inl ⟨hk, by rw [hx.1, hx.2.1]; exact h1, (a2 0).trans e0⟩
  · exact Or.inr (Or.inl ⟨hk, by rw [hx.1, hx.2.1]; exact h1, (a3 0).trans e0⟩)
  · exact Or.inr (Or.inr (Or.inl ⟨hk, by rw [hx.1, hx.2.1]; exact h1, (a4 0).trans e0, (a1 1).trans e1⟩))
  · obtain ⟨_, _, _, _, b5, _⟩ := hx.2.2.2.2.2 b (hb hk)
    refine Or.inr (Or.inr (Or.inr ⟨hk, z, hz, ⟨by rw [hx.1, hx.2.1]; exact hJ.1, by rw [hx.2.2.2.1]; exact hJ.2.1, by rw [hx.1, hx.2.1, hx.2.2.1]; exact hJ.2.2.1, (a1 1).trans hJ.2.2.2⟩, e25, fun i hi => ?_⟩))
    rw [byf, b5]
    exact hR i hi
theorem RH_P {S : Mem} {h b j : Nat} {P T : MS} (h9 : qI T 9 j = qI P 9 j) (h22 : qJ T 22 j = qJ P 22 j) (hF : qF T j = qF P j) (hD : qD T j = qD P j) (h15 : qI T 15 j = qI P 15 j) (h25 : qI T 25 j = qI P 25 j) (h26 : qI T 26 = qI P 26) (r : RH S h b P j) : RH S h b T j := by
  unfold RH JR
  rw [h9, h22, hF, hD, h15, h25, h26]
  exact r
theorem RK_P {S : Mem} {h j : Nat} {B P T : MS} (h9 : qI T 9 j = qI P 9 j) (h25 : qI T 25 j = qI P 25 j) (r : RK S h B P j) : RK S h B T j := by
  unfold RK
  rw [h9, h25]
  exact r
theorem RK_ag {X : Nat → Prop} {S T : Mem} {h j : Nat} {B P : MS} (hx : ag X S T) (hn : ¬ X h) (r : RK S h B P j) : RK T h B P j := by
  obtain ⟨a1, a2, a3, a4, a5, a6⟩ := hx.2.2.2.2.2 h hn
  exact ⟨fun k => (a2 1).trans (r.1 k), fun k => (a3 1).trans (r.2.1 k), fun k => ⟨(a4 2).trans (r.2.2.1 k).1, (a1 3).trans (r.2.2.1 k).2⟩, fun k => ⟨(a1 2).trans (r.2.2.2 k).1, (r.2.2.2 k).2⟩⟩
theorem RH_ne {S : Mem} {a h b j : Nat} {P : MS} (hk : mK S a = 0) (r : RH S h b P j) : a ≠ h ∧ (qI P 9 j = 3 → a ≠ b) := by
  rcases r with ⟨h9, h1, _⟩ | ⟨h9, h1, _⟩ | ⟨h9, h1, _⟩ | ⟨h9, z, _, hJ, _⟩
  · exact ⟨fun e => by rw [e, h1.2] at hk; omega, fun n => absurd (n.symm.trans h9) (by decide)⟩
  · exact ⟨fun e => by rw [e, h1.2] at hk; omega, fun n => absurd (n.symm.trans h9) (by decide)⟩
  · exact ⟨fun e => by rw [e, h1.2] at hk; omega, fun n => absurd (n.symm.trans h9) (by decide)⟩
  · exact ⟨fun e => by rw [e, hJ.1.2] at hk; omega, fun _ e => by rw [e, hJ.2.2.1.2.1] at hk; omega⟩
/-- the consumer's own objects -/
def Xc (a h b : Nat) (P : MS) (j : Nat) : Nat → Prop := fun q => q = a ∨ Xh h b P j q
/-- the whole of it: consumer and handler -/
def RQ (S : Mem) (a h b : Nat) (po : Option Nat) (P : MS) (j pq hq w : Nat) : Prop := RC S a h po P j pq hq w ∧ RH S h b P j
/-- what it keeps from the batch's beginning -/
def RB (S : Mem) (a h : Nat) (B P : MS) (j pB : Nat) : Prop := (mJ S 12 a = eL pB ∧ mI S 13 a = qI B 15 j ∧ mI S 14 a = qI B 16 j) ∧ RK S h B P j
theorem Xh_a {S : Mem} {a h b j : Nat} {P : MS} (hk : mK S a = 0) (r : RH S h b P j) : ¬ Xh h b P j a := fun q => q.elim (RH_ne hk r).1 (fun q => (RH_ne hk r).2 q.1 q.2)
/-- only the consumer's own fields change -/
theorem RH_u {S T : Mem} {a h b j : Nat} {P : MS} (hk : mK S a = 0) (hx : ag (fun q => q = a) S T) (r : RH S h b P j) : RH T h b P j := RH_ag hx (fun e => (RH_ne hk r).1 e.symm) (fun n e => (RH_ne hk r).2 n e.symm) r
def st2 (P : MS) (j : Nat) (b a : Int32) : MS := sI (sI P 14 j (vp_nar .boolean b)) 16 j (qI P 16 j + a)
abbrev rmX0_throwsAgain : Room := { frames := 0, cells := 0, slots := 0, locals := 0 }
def twS (S : Mem) (a : Nat) (q : Int64) : Int32 := if q = mJ S 10 a then mI S 11 a + 1 else 1
set_option maxRecDepth 100000 in
theorem c_tag {l : Launch} {s0 : State} {D : va_G} {cA : Nat → ClassId} (hG : cx_G l s0 D cA) {S : Mem} {a : Nat} (q : Int64)  (h1 : a ∈ mL S) (h2 : mK S a = 0) : PC l s0 D cA yX0_throwsAgain cX0_throwsAgain 3 (some .int) rmX0_throwsAgain [.ref a, .long q] S (some (.int (twS S a q))) (fun S1 => S1 = uJ (uI S 11 a (twS S a q)) 10 a q) := by
  refine Ct.of (cA := cA) hG (by decide +kernel) (Nat.le_of_ble_eq_true rfl) ?_
  intro p e s m below meth c A C hnm hP hD hS ls hl
  have hx := cx_x C
  have hb := cx_b C
  have hl : lv_has ls 3 [(0, .ref a), (1, .long q)] := hl
  refine lv_aload_n hx hb dX0_throwsAgain_0 rfl (lv_at hl 0 rfl) ?_
  refine lv_lload_n hx hb dX0_throwsAgain_1 rfl (lv_at hl 1 rfl) ?_
  refine lv_aload_n hx hb dX0_throwsAgain_2 rfl (lv_at hl 0 rfl) ?_
  refine gv_0_10 (v := mJ S 10 a) C hP h1 h2 (rfl) tm_305 dX0_throwsAgain_3 ?_
  refine W.lcmp hx hb dX0_throwsAgain_6 ?_
  refine lv_if_ne (tgt := 19) hx hb dX0_throwsAgain_7 (by decide) (fun c7 => ?_) (fun c7 => ?_)
  · rw [lg_cmp_eq] at c7
    have tw : twS S a q = 1 := if_neg c7
    refine lv_iconst (v := 1) hx hb dX0_throwsAgain_19 (by decide) ?_
    refine pf_0_11 (v := 1) C hP hD hS h1 h2 tm_306 dX0_throwsAgain_20 (fun H locs hP hD hS => ?_)
    refine lv_aload_n hx hb dX0_throwsAgain_23 rfl (lv_at hl 0 rfl) ?_
    refine lv_lload_n hx hb dX0_throwsAgain_24 rfl (lv_at hl 1 rfl) ?_
    refine pf_0_10 (v := q) C hP hD hS h1 h2 tm_305 dX0_throwsAgain_25 (fun H locs hP hD hS => ?_)
    refine lv_aload_n hx hb dX0_throwsAgain_28 rfl (lv_at hl 0 rfl) ?_
    refine gv_0_11 (v := 1) C hP h1 h2 (mI_s (S := S) (k := 11) (a := a) (v := 1)) tm_306 dX0_throwsAgain_29 ?_
    exact ct_iret C hS hP hD (⟨by rw [tw], _, rfl, by rw [tw]⟩) (Nat.le_of_ble_eq_true rfl) (Nat.le_of_ble_eq_true rfl) dX0_throwsAgain_32
  rw [lg_cmp_eq] at c7
  have tw : twS S a q = mI S 11 a + 1 := if_pos c7
  refine lv_aload_n hx hb dX0_throwsAgain_10 rfl (lv_at hl 0 rfl) ?_
  refine gv_0_11 (v := mI S 11 a) C hP h1 h2 (rfl) tm_306 dX0_throwsAgain_11 ?_
  refine lv_iconst (v := 1) hx hb dX0_throwsAgain_14 (by decide) ?_
  refine lv_iadd hx hb dX0_throwsAgain_15 ?_
  refine lv_goto (tgt := 20) hx hb dX0_throwsAgain_16 (by decide) ?_
  refine pf_0_11 (v := (mI S 11 a) + 1) C hP hD hS h1 h2 tm_306 dX0_throwsAgain_20 (fun H locs hP hD hS => ?_)
  refine lv_aload_n hx hb dX0_throwsAgain_23 rfl (lv_at hl 0 rfl) ?_
  refine lv_lload_n hx hb dX0_throwsAgain_24 rfl (lv_at hl 1 rfl) ?_
  refine pf_0_10 (v := q) C hP hD hS h1 h2 tm_305 dX0_throwsAgain_25 (fun H locs hP hD hS => ?_)
  refine lv_aload_n hx hb dX0_throwsAgain_28 rfl (lv_at hl 0 rfl) ?_
  refine gv_0_11 (v := (mI S 11 a) + 1) C hP h1 h2 (mI_s (S := S) (k := 11) (a := a) (v := (mI S 11 a) + 1)) tm_306 dX0_throwsAgain_29 ?_
  exact ct_iret C hS hP hD (⟨by rw [tw], _, rfl, by rw [tw]⟩) (Nat.le_of_ble_eq_true rfl) (Nat.le_of_ble_eq_true rfl) dX0_throwsAgain_32
abbrev rmX0_startBatch : Room := { frames := 1, cells := 0, slots := 0, locals := 20 }
abbrev rmX0_returnToStart : Room := { frames := 1, cells := 0, slots := 0, locals := 20 }
set_option maxRecDepth 100000 in
theorem c_start {l : Launch} {s0 : State} {D : va_G} {cA : Nat → ClassId} (hG : cx_G l s0 D cA) {S : Mem} {a h b j pq hq w : Nat} {po : Option Nat} {P : MS}  (hc : RC S a h po P j pq hq w) (hh : RH S h b P j) : PC l s0 D cA yX0_startBatch cX0_startBatch 1 none rmX0_startBatch [.ref a] S (none) (fun S1 => ag (Xc a h b P j) S S1 ∧ RQ S1 a h b po P j pq hq w ∧ RB S1 a h P P j pq) := by
  refine Ct.of (cA := cA) hG (by decide +kernel) (Nat.le_of_ble_eq_true rfl) ?_
  intro p e s m below meth c A C hnm hP hD hS ls hl
  have hx := cx_x C
  have hb := cx_b C
  have hl : lv_has ls 1 [(0, .ref a)] := hl
  refine lv_aload_n hx hb dX0_startBatch_0 rfl (lv_at hl 0 rfl) ?_
  refine lv_aload_n hx hb dX0_startBatch_1 rfl (lv_at hl 0 rfl) ?_
  refine gv_0_4 (v := eL pq) C hP hc.1.1 hc.1.2 (hc.2.2.2.2.2.1) tm_294 dX0_startBatch_2 ?_
  refine pf_0_12 (v := eL pq) C hP hD hS hc.1.1 hc.1.2 tm_307 dX0_startBatch_5 (fun H locs hP hD hS => ?_)
  refine lv_aload_n hx hb dX0_startBatch_8 rfl (lv_at hl 0 rfl) ?_
  refine lv_aload_n hx hb dX0_startBatch_9 rfl (lv_at hl 0 rfl) ?_
  refine gv_0_6 (v := qI P 15 j) C hP hc.1.1 hc.1.2 (hc.2.2.2.2.2.2.2.1) tm_297 dX0_startBatch_10 ?_
  refine pf_0_13 (v := qI P 15 j) C hP hD hS hc.1.1 hc.1.2 tm_308 dX0_startBatch_13 (fun H locs hP hD hS => ?_)
  refine lv_aload_n hx hb dX0_startBatch_16 rfl (lv_at hl 0 rfl) ?_
  refine lv_aload_n hx hb dX0_startBatch_17 rfl (lv_at hl 0 rfl) ?_
  refine gv_0_7 (v := qI P 16 j) C hP hc.1.1 hc.1.2 ((mI_k (S := uJ S 12 a (eL pq)) (k := 13) (a := a) (v := qI P 15 j) (i := 7) (b := a) (by decide)).trans (hc.2.2.2.2.2.2.2.2.1)) tm_299 dX0_startBatch_18 ?_
  refine pf_0_14 (v := qI P 16 j) C hP hD hS hc.1.1 hc.1.2 tm_309 dX0_startBatch_21 (fun H locs hP hD hS => ?_)
  refine lv_aload_n hx hb dX0_startBatch_24 rfl (lv_at hl 0 rfl) ?_
  refine gf_0_0s (b := h) C hP hc.1.1 hc.1.2 (hc.2.1) tm_287 dX0_startBatch_25 ?_
  have u12 : mJ (uI (uI (uJ S 12 a (eL pq)) 13 a (qI P 15 j)) 14 a (qI P 16 j)) 12 a = eL pq := mJ_s (S := S) (k := 12) (a := a) (v := eL pq)
  have u13 : mI (uI (uI (uJ S 12 a (eL pq)) 13 a (qI P 15 j)) 14 a (qI P 16 j)) 13 a = qI P 15 j := (mI_k (S := uI (uJ S 12 a (eL pq)) 13 a (qI P 15 j)) (k := 14) (a := a) (v := qI P 16 j) (i := 13) (b := a) (by decide)).trans (mI_s (S := uJ S 12 a (eL pq)) (k := 13) (a := a) (v := qI P 15 j))
  have u14 : mI (uI (uI (uJ S 12 a (eL pq)) 13 a (qI P 15 j)) 14 a (qI P 16 j)) 14 a = qI P 16 j := mI_s (S := uI (uJ S 12 a (eL pq)) 13 a (qI P 15 j)) (k := 14) (a := a) (v := qI P 16 j)
  have hx1 : ag (fun q => q = a) S (uI (uI (uJ S 12 a (eL pq)) 13 a (qI P 15 j)) 14 a (qI P 16 j)) := ag_tr (ag_tr (ag_uJ rfl) (ag_uI rfl)) (ag_uI rfl)
  have hh1 := RH_u hc.1.2 hx1 hh
  refine w_keep (rest := []) C hG hh1 hl.1 (Nat.le_of_ble_eq_true rfl) dX0_startBatch_28 ⟨Nat.le_of_ble_eq_true rfl, Nat.le_of_ble_eq_true rfl⟩ ⟨Nat.le_of_ble_eq_true rfl, Nat.le_of_ble_eq_true rfl⟩ hP hD hS (fun S1 H locs hx2 hh2 hk2 hP hD hS => ?_)
  have na : ¬ Xh h b P j a := Xh_a hc.1.2 hh
  obtain ⟨a1, a2, a3, a4, a5, a6⟩ := hx2.2.2.2.2.2 a na
  have hc1 : RC (uI (uI (uJ S 12 a (eL pq)) 13 a (qI P 15 j)) 14 a (qI P 16 j)) a h po P j pq hq w := RC_of hc rfl rfl rfl rfl rfl rfl rfl hc.2.2.2.2.2.1 hc.2.2.2.2.2.2.1 hc.2.2.2.2.2.2.2.1 hc.2.2.2.2.2.2.2.2.1 hc.2.2.2.2.2.2.2.2.2.1 hc.2.2.2.2.2.2.2.2.2.2.1 (RT_of hc.2.2.2.2.2.2.2.2.2.2.2 rfl rfl rfl rfl (Nat.le_refl _))
  exact ct_vret C hS hP hD (⟨rfl, _, rfl, ag_tr (ag_mo hx1 (fun q e => Or.inl e)) (ag_mo hx2 (fun q e => Or.inr e)), ⟨RC_ag hx2 na hc1, hh2⟩, ⟨(a2 12).trans u12, (a1 13).trans u13, (a1 14).trans u14⟩, hk2⟩) (Nat.le_of_ble_eq_true rfl) (Nat.le_of_ble_eq_true rfl) dX0_startBatch_31
theorem rw_15 (B P : MS) (j : Nat) : qI (rwS B P j) 15 j = qI B 15 j := by
  unfold rwS
  rw [sI_k (by decide), sI_k (by decide), qI_s]
theorem rw_25 (B P : MS) (j : Nat) : qI (rwS B P j) 25 j = qI B 25 j := by
  unfold rwS
  rw [sI_k (by decide), sI_k (by decide), sI_k (by decide), qI_s]
theorem rw_16 (B P : MS) (j : Nat) : qI (rwS B P j) 16 j = qI B 16 j := by
  unfold rwS
  rw [sI_k (by decide), qI_s]
theorem rw_17 (B P : MS) (j : Nat) : qI (rwS B P j) 17 j = qI P 17 j + 1 := by
  unfold rwS
  rw [qI_s]
theorem qJ_rw {B P : MS} {j : Nat} : qJ (rwS B P j) 22 j = qJ B 22 j := by
  show qJ (sJ _ 22 j (qJ B 22 j)) 22 j = _
  rw [qJ_s]
theorem qF_rw {B P : MS} {j : Nat} : qF (rwS B P j) j = qF B j := by
  show qF (sF _ j (qF B j)) j = _
  rw [qF_s]
theorem qD_rw {B P : MS} {j : Nat} : qD (rwS B P j) j = qD B j := by
  show qD (sD _ j (qD B j)) j = _
  rw [qD_s]
set_option maxRecDepth 100000 in
theorem c_rts {l : Launch} {s0 : State} {D : va_G} {cA : Nat → ClassId} (hG : cx_G l s0 D cA) {S : Mem} {a h b j pq hq w : Nat} {po : Option Nat} {P : MS} {B : MS} {pB : Nat}  (hc : RC S a h po P j pq hq w) (hh : RH S h b P j) (hB : RB S a h B P j pB) : PC l s0 D cA yX0_returnToStart cX0_returnToStart 1 none rmX0_returnToStart [.ref a] S (none) (fun S1 => ag (Xc a h b P j) S S1 ∧ RQ S1 a h b po (rwS B P j) j pB hq w) := by
  refine Ct.of (cA := cA) hG (by decide +kernel) (Nat.le_of_ble_eq_true rfl) ?_
  intro p e s m below meth c A C hnm hP hD hS ls hl
  have hx := cx_x C
  have hb := cx_b C
  have hl : lv_has ls 1 [(0, .ref a)] := hl
  refine lv_aload_n hx hb dX0_returnToStart_0 rfl (lv_at hl 0 rfl) ?_
  refine lv_aload_n hx hb dX0_returnToStart_1 rfl (lv_at hl 0 rfl) ?_
  refine gv_0_12 (v := eL pB) C hP hc.1.1 hc.1.2 (hB.1.1) tm_307 dX0_returnToStart_2 ?_
  refine pf_0_4 (v := eL pB) C hP hD hS hc.1.1 hc.1.2 tm_294 dX0_returnToStart_5 (fun H locs hP hD hS => ?_)
  refine lv_aload_n hx hb dX0_returnToStart_8 rfl (lv_at hl 0 rfl) ?_
  refine lv_aload_n hx hb dX0_returnToStart_9 rfl (lv_at hl 0 rfl) ?_
  refine gv_0_13 (v := qI B 15 j) C hP hc.1.1 hc.1.2 (hB.1.2.1) tm_308 dX0_returnToStart_10 ?_
  refine pf_0_6 (v := qI B 15 j) C hP hD hS hc.1.1 hc.1.2 tm_297 dX0_returnToStart_13 (fun H locs hP hD hS => ?_)
  refine lv_aload_n hx hb dX0_returnToStart_16 rfl (lv_at hl 0 rfl) ?_
  refine lv_aload_n hx hb dX0_returnToStart_17 rfl (lv_at hl 0 rfl) ?_
  refine gv_0_14 (v := qI B 16 j) C hP hc.1.1 hc.1.2 ((mI_k (S := uJ S 4 a (eL pB)) (k := 6) (a := a) (v := qI B 15 j) (i := 14) (b := a) (by decide)).trans (hB.1.2.2)) tm_309 dX0_returnToStart_18 ?_
  refine pf_0_7 (v := qI B 16 j) C hP hD hS hc.1.1 hc.1.2 tm_299 dX0_returnToStart_21 (fun H locs hP hD hS => ?_)
  refine lv_aload_n hx hb dX0_returnToStart_24 rfl (lv_at hl 0 rfl) ?_
  refine gf_0_0s (b := h) C hP hc.1.1 hc.1.2 (hc.2.1) tm_287 dX0_returnToStart_25 ?_
  have u4 : mJ (uI (uI (uJ S 4 a (eL pB)) 6 a (qI B 15 j)) 7 a (qI B 16 j)) 4 a = eL pB := mJ_s (S := S) (k := 4) (a := a) (v := eL pB)
  have u6 : mI (uI (uI (uJ S 4 a (eL pB)) 6 a (qI B 15 j)) 7 a (qI B 16 j)) 6 a = qI B 15 j := (mI_k (S := uI (uJ S 4 a (eL pB)) 6 a (qI B 15 j)) (k := 7) (a := a) (v := qI B 16 j) (i := 6) (b := a) (by decide)).trans (mI_s (S := uJ S 4 a (eL pB)) (k := 6) (a := a) (v := qI B 15 j))
  have u7 : mI (uI (uI (uJ S 4 a (eL pB)) 6 a (qI B 15 j)) 7 a (qI B 16 j)) 7 a = qI B 16 j := mI_s (S := uI (uJ S 4 a (eL pB)) 6 a (qI B 15 j)) (k := 7) (a := a) (v := qI B 16 j)
  have u8 : mI (uI (uI (uJ S 4 a (eL pB)) 6 a (qI B 15 j)) 7 a (qI B 16 j)) 8 a = qI P 17 j := (mI_k (S := uI (uJ S 4 a (eL pB)) 6 a (qI B 15 j)) (k := 7) (a := a) (v := qI B 16 j) (i := 8) (b := a) (by decide)).trans ((mI_k (S := uJ S 4 a (eL pB)) (k := 6) (a := a) (v := qI B 15 j) (i := 8) (b := a) (by decide)).trans (hc.2.2.2.2.2.2.2.2.2.1))
  have hx1 : ag (fun q => q = a) S (uI (uI (uJ S 4 a (eL pB)) 6 a (qI B 15 j)) 7 a (qI B 16 j)) := ag_tr (ag_tr (ag_uJ rfl) (ag_uI rfl)) (ag_uI rfl)
  have hh1 := RH_u hc.1.2 hx1 hh
  have hk1 : RK (uI (uI (uJ S 4 a (eL pB)) 6 a (qI B 15 j)) 7 a (qI B 16 j)) h B P j := RK_ag hx1 (fun e => (RH_ne hc.1.2 hh).1 e.symm) hB.2
  refine w_restore (B := B) (T := rwS B P j) (rest := []) C hG hh1 hk1 rfl qJ_rw qF_rw qD_rw (rw_15 ..) (rw_25 ..) rfl hl.1 (Nat.le_of_ble_eq_true rfl) dX0_returnToStart_28 ⟨Nat.le_of_ble_eq_true rfl, Nat.le_of_ble_eq_true rfl⟩ ⟨Nat.le_of_ble_eq_true rfl, Nat.le_of_ble_eq_true rfl⟩ hP hD hS (fun S1 H locs hx2 hh2 hP hD hS => ?_)
  have na : ¬ Xh h b P j a := Xh_a hc.1.2 hh
  have hxa := hx2.2.2.2.2.2 a na
  obtain ⟨a1, a2, a3, a4, a5, a6⟩ := hxa
  have f8 : mI S1 8 a = qI P 17 j := (a1 8).trans hc.2.2.2.2.2.2.2.2.2.1
  have o1 : a ∈ mL S1 ∧ mK S1 a = 0 := by rw [hx2.1, hx2.2.1]; exact hc.1
  refine lv_aload_n hx hb dX0_returnToStart_31 rfl (lv_at hl 0 rfl) ?_
  refine lv_dup hx hb dX0_returnToStart_32 rfl ?_
  refine gv_0_8 (v := qI P 17 j) C hP o1.1 o1.2 (f8) tm_301 dX0_returnToStart_33 ?_
  refine lv_iconst (v := 1) hx hb dX0_returnToStart_36 (by decide) ?_
  refine lv_iadd hx hb dX0_returnToStart_37 ?_
  refine pf_0_8 (v := (qI P 17 j) + 1) C hP hD hS o1.1 o1.2 tm_301 dX0_returnToStart_38 (fun H locs hP hD hS => ?_)
  exact ct_vret C hS hP hD (⟨rfl, _, rfl, ag_tr (ag_tr (ag_mo hx1 (fun q e => Or.inl e)) (ag_mo hx2 (fun q e => Or.inr e))) (ag_uI (Or.inl rfl)), RC_of hc hx2.1 hx2.2.1 hx2.2.2.2.1 rfl rfl ((mI_k (S := S1) (by decide)).trans (a1 1)) ((mI_k (S := S1) (by decide)).trans (a1 3)) ((a2 4).trans u4) ((a2 5).trans hc.2.2.2.2.2.2.1) ((mI_k (S := S1) (by decide)).trans ((a1 6).trans (u6.trans (rw_15 B P j).symm))) ((mI_k (S := S1) (by decide)).trans ((a1 7).trans (u7.trans (rw_16 B P j).symm))) ((mI_s (S := S1)).trans (rw_17 B P j).symm) ((mI_k (S := S1) (by decide)).trans ((a1 9).trans hc.2.2.2.2.2.2.2.2.2.2.1)) (RT_of hc.2.2.2.2.2.2.2.2.2.2.2 rfl rfl (a2 10) ((mI_k (S := S1) (by decide)).trans (a1 11)) (Nat.le_refl _)), RH_u (S := S1) (by rw [hx2.2.1]; exact hc.1.2) (ag_uI rfl) hh2⟩) (Nat.le_of_ble_eq_true rfl) (Nat.le_of_ble_eq_true rfl) dX0_returnToStart_41
