/-! ===== the class and the reference: a worker ===== -/
/-- the pool pt is the reference's pool t: tk events were taken -/
def RP (S : Mem) (pt pw : Nat) (fI : Nat → Int32) (t : Nat) (P : MS) (tk : Nat) : Prop := (pt ∈ mL S ∧ mK S pt = 3) ∧ mR S 1 pt = some pw ∧ (pw ∈ mL S ∧ mK S pw = 15 ∧ mN S pw = 8) ∧ mJ S 3 pt = lN tk ∧ qI P 21 t = nI tk ∧ ∀ k, mI S k pt = fI k
theorem RP_ag {X : Nat → Prop} {S T : Mem} {pt pw t tk : Nat} {fI : Nat → Int32} {P P' : MS} (hx : ag X S T) (hn : ¬ X pt) (e : qI P' 21 t = qI P 21 t) (h : RP S pt pw fI t P tk) : RP T pt pw fI t P' tk := by
  obtain ⟨a1, a2, _⟩ := hx.2.2.2.2.2 pt hn
  obtain ⟨b1, b2, b3, b4, b5, b6⟩ := h
  refine ⟨?_, ?_, ?_, ?_, ?_, fun k => (a1 k).trans (b6 k)⟩
  · rw [hx.1, hx.2.1]; exact b1
  · rw [hx.2.2.2.1]; exact b2
  · rw [hx.1, hx.2.1, hx.2.2.1]; exact b3
  · rw [a2 3]; exact b4
  · rw [e]; exact b5
theorem wst_2 {P : MS} {j k : Nat} {b a c : Int32} (h3 : k ≠ 20) : qI (wst P j b a c) k = qI (st2 P j b a) k := by rw [wst, sI_k h3, st2]
theorem wst_k {P : MS} {j k : Nat} {b a c : Int32} (h3 : k ≠ 20) (h4 : k ≠ 14) (h6 : k ≠ 16) : qI (wst P j b a c) k = qI P k := by rw [wst, sI_k h3, sI_k h6, sI_k h4]
theorem wst_J {P : MS} {j : Nat} {b a c : Int32} : qJ (wst P j b a c) = qJ P := rfl
theorem wst_14 {P : MS} {j : Nat} {a c : Int32} : qI (wst P j 0 a c) 14 j = 0 := by
  unfold wst
  rw [sI_k (by decide), sI_k (by decide), qI_s]
  rfl
theorem sh_back {S1 : Mem} {a h b j pq hq w : Nat} {po : Option Nat} {X : MS} {x y c : Int32} (q : RQ S1 a h b po (st2 X j x y) j pq hq w) : RQ (uJ S1 5 a (-1)) a h b po (wst X j x y c) j pq 0 w := by
  have e := fun k h => congrFun (wst_2 (P := X) (j := j) (k := k) (b := x) (a := y) (c := c) h) j
  refine ⟨RC_of q.1 rfl rfl rfl (e 10 (by decide)) (e 11 (by decide)) rfl rfl ((mJ_k (S := S1) (by decide)).trans q.1.2.2.2.2.2.1) ((mJ_s (S := S1)).trans eL_0.symm) (q.1.2.2.2.2.2.2.2.1.trans (e 15 (by decide)).symm) (q.1.2.2.2.2.2.2.2.2.1.trans (e 16 (by decide)).symm) (q.1.2.2.2.2.2.2.2.2.2.1.trans (e 17 (by decide)).symm) (q.1.2.2.2.2.2.2.2.2.2.2.1.trans (e 14 (by decide)).symm) (RT_of q.1.2.2.2.2.2.2.2.2.2.2.2 (e 18 (by decide)) (e 19 (by decide)) (mJ_k (S := S1) (by decide)) rfl (Nat.le_refl _)), ?_⟩
  exact RH_P (e 9 (by decide)) rfl rfl rfl (e 15 (by decide)) (e 25 (by decide)) (wst_2 (by decide)) (RH_u q.1.1.2 (ag_uJ rfl) q.2)
theorem sh_halt {S1 : Mem} {a h b j pq hq w : Nat} {po : Option Nat} {X : MS} {x y c : Int32} (q : RQ S1 a h b po (st2 X j x y) j pq hq w) : RQ S1 a h b po (wst X j x y c) j pq hq w := by
  have e := fun k h => congrFun (wst_2 (P := X) (j := j) (k := k) (b := x) (a := y) (c := c) h) j
  refine ⟨RC_of q.1 rfl rfl rfl (e 10 (by decide)) (e 11 (by decide)) rfl rfl q.1.2.2.2.2.2.1 q.1.2.2.2.2.2.2.1 (q.1.2.2.2.2.2.2.2.1.trans (e 15 (by decide)).symm) (q.1.2.2.2.2.2.2.2.2.1.trans (e 16 (by decide)).symm) (q.1.2.2.2.2.2.2.2.2.2.1.trans (e 17 (by decide)).symm) (q.1.2.2.2.2.2.2.2.2.2.2.1.trans (e 14 (by decide)).symm) (RT_of q.1.2.2.2.2.2.2.2.2.2.2.2 (e 18 (by decide)) (e 19 (by decide)) rfl rfl (Nat.le_refl _)), ?_⟩
  exact RH_P (e 9 (by decide)) rfl rfl rfl (e 15 (by decide)) (e 25 (by decide)) (wst_2 (by decide)) q.2
theorem tkS_k {P : MS} {j t k : Nat} (h : k ≠ 20) (h1 : k ≠ 21) : qI (tkS P j t) k = qI P k := by rw [tkS, sI_k h1, sI_k h]
/-- the worker takes the pool's next event -/
theorem sh_take {S : Mem} {a h b j pq w pt t tk : Nat} {hq : Nat} {po : Option Nat} {P : MS} (q : RQ S a h b po P j pq hq w) (hn : pt ≠ a) (hh : ¬ pt = h) (hb : qI P 9 j = 3 → ¬ pt = b) : RQ (uJ (uJ S 3 pt (lN (tk + 1))) 5 a (lN tk)) a h b po (tkS P j t) j pq (tk + 1) w := by
  have e := fun k h h1 => congrFun (tkS_k (P := P) (j := j) (t := t) (k := k) h h1) j
  have m := fun k => mJ_a (S := S) (k := 3) (a := pt) (v := lN (tk + 1)) (i := k) (b := a) hn.symm
  refine ⟨RC_of q.1 rfl rfl rfl (e 10 (by decide) (by decide)) (e 11 (by decide) (by decide)) rfl rfl ((mJ_k (S := uJ S 3 pt (lN (tk + 1))) (by decide)).trans ((m 4).trans q.1.2.2.2.2.2.1)) ((mJ_s (S := uJ S 3 pt (lN (tk + 1)))).trans eL_S.symm) (q.1.2.2.2.2.2.2.2.1.trans (e 15 (by decide) (by decide)).symm) (q.1.2.2.2.2.2.2.2.2.1.trans (e 16 (by decide) (by decide)).symm) (q.1.2.2.2.2.2.2.2.2.2.1.trans (e 17 (by decide) (by decide)).symm) (q.1.2.2.2.2.2.2.2.2.2.2.1.trans (e 14 (by decide) (by decide)).symm) (RT_of q.1.2.2.2.2.2.2.2.2.2.2.2 (e 18 (by decide) (by decide)) (e 19 (by decide) (by decide)) ((mJ_k (S := uJ S 3 pt (lN (tk + 1))) (by decide)).trans (m 10)) rfl (Nat.le_refl _)), ?_⟩
  have hx : ag (fun q => q = pt ∨ q = a) S (uJ (uJ S 3 pt (lN (tk + 1))) 5 a (lN tk)) := ag_tr (ag_uJ (Or.inl rfl)) (ag_uJ (Or.inr rfl))
  refine RH_P (e 9 (by decide) (by decide)) rfl rfl rfl (e 15 (by decide) (by decide)) (e 25 (by decide) (by decide)) (tkS_k (by decide) (by decide)) (RH_ag hx ?_ ?_ q.2)
  · rintro (r | r)
    · exact hh r.symm
    · exact (RH_ne q.1.1.2 q.2).1 r.symm
  · rintro n (r | r)
    · exact hb n r.symm
    · exact (RH_ne q.1.1.2 q.2).2 n r.symm
/-- the worker's objects and its pool -/
def Xs (a h b : Nat) (P : MS) (j pt : Nat) : Nat → Prop := fun q => q = pt ∨ Xc a h b P j q
theorem Xs_P {a h b j pt : Nat} {P P' : MS} (e9 : qI P' 9 j = qI P 9 j) : Xs a h b P' j pt = Xs a h b P j pt := by unfold Xs; rw [Xc_P e9]
abbrev rmX4_takeNext : Room := { frames := 0, cells := 0, slots := 0, locals := 0 }
set_option maxRecDepth 100000 in
theorem c_take {l : Launch} {s0 : State} {D : va_G} {cA : Nat → ClassId} (hG : cx_G l s0 D cA) {S : Mem} {pt tk : Nat}  (h1 : pt ∈ mL S) (h2 : mK S pt = 3) (h3 : mJ S 3 pt = lN tk) : PC l s0 D cA yX4_takeNext cX4_takeNext 1 (some .long) rmX4_takeNext [.ref pt] S (some (.long (lN tk))) (fun S1 => S1 = uJ S 3 pt (lN (tk + 1))) := by
  refine Ct.of (cA := cA) hG (by decide +kernel) (Nat.le_of_ble_eq_true rfl) ?_
  intro p e s m below meth c A C hnm hP hD hS ls hl
  have hx := cx_x C
  have hb := cx_b C
  have hl : lv_has ls 1 [(0, .ref pt)] := hl
  refine lv_aload_n hx hb dX4_takeNext_0 rfl (lv_at hl 0 rfl) ?_
  refine lv_dup hx hb dX4_takeNext_1 rfl ?_
  refine gv_4_3 (v := lN tk) C hP h1 h2 (h3) tm_272 dX4_takeNext_2 ?_
  refine lv_lconst (v := 1) hx hb dX4_takeNext_5 (by decide) ?_
  refine lv_ladd hx hb dX4_takeNext_6 ?_
  refine pf_4_3 (v := (lN tk) + 1) C hP hD hS h1 h2 tm_272 dX4_takeNext_7 (fun H locs hP hD hS => ?_)
  refine lv_aload_n hx hb dX4_takeNext_10 rfl (lv_at hl 0 rfl) ?_
  refine gv_4_3 (v := (lN tk) + 1) C hP h1 h2 (mJ_s (S := S) (k := 3) (a := pt) (v := (lN tk) + 1)) tm_272 dX4_takeNext_11 ?_
  refine lv_lconst (v := 1) hx hb dX4_takeNext_14 (by decide) ?_
  refine lv_lsub hx hb dX4_takeNext_15 ?_
  exact ct_lret C hS hP hD (⟨by rw [show lN tk + 1 - 1 = lN tk from Int64.add_sub_cancel ..], _, rfl, by rw [lN_1]⟩) (Nat.le_of_ble_eq_true rfl) (Nat.le_of_ble_eq_true rfl) dX4_takeNext_16
section Sh1
variable {p : Program} {l : Launch} {e : Env} {R : Room} {s : State} {m : MethodId} {args : Array Value} {below : List Frame} {meth : Method} {c : Code} {H : Heap} {locs : List Loc} {cells slots : Nat} {Q : State → Prop}
variable {s0 : State} {D : va_G} {cA : Nat → ClassId} {A : Nat → Prop} {ad : Nat → Nat}
set_option maxRecDepth 100000 in
theorem lp_sh {R0 : MS × Int32} (C : cx_C p l s m args meth c s0 D cA cX0_share 7 (some .int) RX0 A) (hG : cx_G l s0 D cA) {S0 : Mem} {P0 : MS} {a h b j pq w r v g u N M fr p0 pt pw t : Nat} {fI : Nat → Int32} {po : Option Nat} {far : Int32} (hM : M ≤ 20) (hfar : far = nI fr - 1) (hfr : fr ≤ 8208) (hR0 : rmX0_passes.frames + 1 ≤ R.frames ∧ 8 + (4 + 11) + rmX0_passes.locals ≤ R.locals) (hC0 : cells + rmX0_passes.cells ≤ R.cells ∧ slots + rmX0_passes.slots ≤ R.slots) (hR1 : rmX4_takeNext.frames + 1 ≤ R.frames ∧ 8 + (1 + 11) + rmX4_takeNext.locals ≤ R.locals) (hC1 : cells + rmX4_takeNext.cells ≤ R.cells ∧ slots + rmX4_takeNext.slots ≤ R.slots) 
    (kk2 : ∀ (T : MS) (S1 : Mem) (x : Int32) (H : Heap) (locs : List Loc) (ls : Array Slot), (T, x) = R0 → ag (Xs a h b P0 j pt) S0 S1 → (∃ hq tk, RQ S1 a h b po T j pq hq w ∧ RP S1 pt pw fI t T tk ∧ qI T 20 j = nI hq - 1 ∧ hq ≤ 9000 ∧ tk ≤ 9000) → va_P D vwCl (pW cA S1) H → va_D A (pW cA S1) → va_S A s.heap H locs → W p l e R s m args below meth c H locs cells slots Q (F0 m 52 ls [.int x]))
    (kk : ∀ (T : MS) (S1 : Mem) (x : Int32) (H : Heap) (locs : List Loc) (ls : Array Slot), (T, x) = R0 → ag (Xs a h b P0 j pt) S0 S1 → (∃ hq tk, RQ S1 a h b po T j pq hq w ∧ RP S1 pt pw fI t T tk ∧ qI T 20 j = nI hq - 1 ∧ hq ≤ 9000 ∧ tk ≤ 9000) → va_P D vwCl (pW cA S1) H → va_D A (pW cA S1) → va_S A s.heap H locs → lv_has ls 7 [(6, .int x)] → W p l e R s m args below meth c H locs cells slots Q (F0 m 66 ls [])) :
    ∀ (d i : Nat) (P : MS) (S : Mem) (hq tk bb : Nat), i + d = M → bb + d < 2 ^ 30 → RQ S a h b po P j pq hq w → RP S pt pw fI t P tk → bInv P j N bb → qI P 14 j = 0 → ¬ qI P 11 j = 2 → rgA S r v g u N → RV S v g N P p0 fr → p0 ≤ tk → tk + d ≤ 9000 → qI P 9 j = qI P0 9 j → ag (Xs a h b P0 j pt) S0 S → qI P 20 j = nI hq - 1 → hq ≤ 9000 → (hq = 0 ∨ p0 < hq) → wk far j t N d i P = R0 → ∀ (H : Heap) (locs : List Loc) (ls : Array Slot), va_P D vwCl (pW cA S) H → va_D A (pW cA S) → va_S A s.heap H locs → lv_has ls 7 [(6, .int (nI i)), (0, .ref a), (1, .ref pt), (2, .ref r), (3, .long (eL fr)), (5, .int (nI M))] → W p l e R s m args below meth c H locs cells slots Q (F0 m 3 ls []) := by
  have hx := cx_x C
  have hb := cx_b C
  intro d
  induction d with
  | zero =>
    intro i P S hq tk bb hi hbb hQ0 hp hI h14 hpo2 hg hV hpt htd h9 hX hhas hq9 hqp hR H locs ls hP hD hS hl
    have hi : i = M := hi
    have hR : (P, nI i) = R0 := hR
    refine lv_iload hx hb dX0_share_3 (lv_at hl 0 rfl) ?_
    refine lv_iload hx hb dX0_share_5 (lv_at hl 5 rfl) ?_
    refine lv_icmp_ge (tgt := 66) hx hb dX0_share_7 (by decide) (fun _ => ?_) (fun h9 => absurd (by rw [hi]; exact Int32.le_refl _) h9)
    exact kk _ _ _ H locs ls hR hX ⟨hq, tk, hQ0, hp, hhas, hq9, by omega⟩ hP hD hS (lv_sub hl [0] rfl)
  | succ d ih =>
    intro i P S hq tk bb hi hbb hQ0 hp hI h14 hpo2 hg hV hpt htd h9 hX hhas hq9 hqp hR H locs ls hP hD hS hl
    rw [wk] at hR
    have s29 : ∀ (P9 : MS) (S9 : Mem) (ew tk9 : Nat), P9 = wP P j t → RQ S9 a h b po P9 j pq (ew + 1) w → RP S9 pt pw fI t P9 tk9 → bInv P9 j N bb → qI P9 14 j = 0 → ¬ qI P9 11 j = 2 → rgA S9 r v g u N → RV S9 v g N P9 p0 fr → p0 ≤ tk9 → tk9 + d ≤ 9000 → qI P9 9 j = qI P0 9 j → ag (Xs a h b P0 j pt) S0 S9 → qI P9 20 j = nI ew → ew < 9000 → p0 ≤ ew → ∀ (H : Heap) (locs : List Loc) (ls : Array Slot), va_P D vwCl (pW cA S9) H → va_D A (pW cA S9) → va_S A s.heap H locs → lv_has ls 7 [(6, .int (nI i)), (0, .ref a), (1, .ref pt), (2, .ref r), (3, .long (eL fr)), (5, .int (nI M))] → W p l e R s m args below meth c H locs cells slots Q (F0 m 29 ls []) := by
      intro P9 S9 ew tk9 hP9 hQ9 hp9 hI9 h149 hpo9 hg9 hV9 hpt9 htd9 h99 hX9 hh9 he9 hpe H locs ls hP hD hS hl
      rw [← hP9] at hR
      have hEW : evW P9 j = ew := by rw [evW, hh9]; exact nI_clamp (by omega)
      have e11 : qI P9 11 j = qI P 11 j := by rw [hP9, wP_k (by decide) (by decide)]
      rw [hEW, ← e11] at hR
      by_cases hgt : fr ≤ ew
      · rw [if_pos (by rw [hh9, hfar]; exact (nIm_lt (by omega) (by omega)).mpr hgt)] at hR
        refine lv_aload_n hx hb dX0_share_29 rfl (lv_at hl 1 rfl) ?_
        refine gv_0_5 (v := eL (ew + 1)) C hP hQ9.1.1.1 hQ9.1.1.2 (hQ9.1.2.2.2.2.2.2.1) tm_295 dX0_share_30 ?_
        refine lv_lload_n hx hb dX0_share_33 rfl (lv_at hl 4 rfl) ?_
        refine W.lcmp hx hb dX0_share_34 ?_
        refine lv_if_gt (tgt := 50) hx hb dX0_share_35 (by decide) (fun _ => ?_) (fun h9 => absurd ((lg_cmp_gt ..).mpr ((eL_lt (by omega) (by omega)).mpr (by omega))) h9)
        refine lv_iload hx hb dX0_share_50 (lv_at hl 0 rfl) ?_
        exact kk2 _ _ _ H locs ls hR hX9 ⟨ew + 1, tk9, hQ9, hp9, by rw [hh9, nI_pred], by omega, by omega⟩ hP hD hS
      rw [if_neg (fun q => hgt (by rw [hh9, hfar] at q; exact (nIm_lt (by omega) (by omega)).mp q))] at hR
      have hk9 : mK S9 a = 0 := hQ9.1.1.2
      have nv : ¬ Xs a h b P0 j pt v := by
        rw [← Xs_P h99]
        rintro (q | q)
        · have h1 := hp9.1.2; have h2 := hg9.2.2.1.2.1; rw [q] at h2; omega
        · exact Xc_k hk9 hQ9.2 (Or.inl hg9.2.2.1.2.1) q
      have ng : ¬ Xs a h b P0 j pt g := by
        rw [← Xs_P h99]
        rintro (q | q)
        · have h1 := hp9.1.2; have h2 := hg9.2.2.2.1.2.1; rw [q] at h2; omega
        · exact Xc_k hk9 hQ9.2 (Or.inr (Or.inl hg9.2.2.2.1.2.1)) q
      have np : ¬ Xc a h b P9 j pt := Xc_k hk9 hQ9.2 (Or.inr (Or.inr (Or.inr (Or.inl hp9.1.2))))
      by_cases hho : hB P9 j ew N = true
      · rw [if_pos hho] at hR
        refine lv_aload_n hx hb dX0_share_29 rfl (lv_at hl 1 rfl) ?_
        refine gv_0_5 (v := eL (ew + 1)) C hP hQ9.1.1.1 hQ9.1.1.2 (hQ9.1.2.2.2.2.2.2.1) tm_295 dX0_share_30 ?_
        refine lv_lload_n hx hb dX0_share_33 rfl (lv_at hl 4 rfl) ?_
        refine W.lcmp hx hb dX0_share_34 ?_
        refine lv_if_gt (tgt := 50) hx hb dX0_share_35 (by decide) (fun h9 => absurd h9 (fun q => absurd ((lg_cmp_gt ..).mp q) (Int64.not_lt.mpr ((eL_le (by omega) (by omega)).mpr (by omega))))) (fun _ => ?_)
        refine lv_aload_n hx hb dX0_share_38 rfl (lv_at hl 1 rfl) ?_
        refine lv_aload_n hx hb dX0_share_39 rfl (lv_at hl 3 rfl) ?_
        refine lv_aload_n hx hb dX0_share_40 rfl (lv_at hl 1 rfl) ?_
        refine gv_0_5 (v := eL (ew + 1)) C hP hQ9.1.1.1 hQ9.1.1.2 (hQ9.1.2.2.2.2.2.2.1) tm_295 dX0_share_41 ?_
        rw [eL_S]
        refine pc_V (As := [.ref r, .long (lN ew)]) (rest := []) (r := some (.int 1)) C (p_y (S := S9) (P := P9) (ev := ew) (bb := bb) (w := w) hG hQ9.1 hQ9.2 hg9 (hV9.1 ew) (hV9.2 ew hpe (by omega)) hI9 (by omega) (by omega) hho h149) tm_464 tm_466 tm_885 tm_9 tm_467 hdX0_passes hR0 (rcv_0 C hP hQ9.1.1.1 hQ9.1.1.2) hl.1 rfl (Nat.le_of_ble_eq_true rfl) dX0_share_44 hC0 hP hD hS (fun S1 H locs hQ hP hD hS => ?_)
        have hX1 : ag (Xs a h b P0 j pt) S9 S1 := by rw [← Xs_P h99]; exact ag_mo hQ.1 (fun q e => Or.inr e)
        have hQo : a ∈ mL S1 ∧ mK S1 a = 0 := hQ.2.1.1.1
        refine lv_if_ne (tgt := 53) hx hb dX0_share_47 (by decide) (fun _ => ?_) (fun h9 => absurd h9 (by decide))
        refine lv_aload_n hx hb dX0_share_53 rfl (lv_at hl 1 rfl) ?_
        refine lv_ldc2 (v := (-1)) hx hb (cx_own C) (cx_t C _ tm_286) dX0_share_54 ?_
        refine pf_0_5 (v := (-1)) C hP hD hS hQo.1 hQo.2 tm_295 dX0_share_57 (fun H locs hP hD hS => ?_)
        refine lv_iinc (v := nI i + 1) (lv' := [(6, .int (nI i + 1)), (0, .ref a), (1, .ref pt), (2, .ref r), (3, .long (eL fr)), (5, .int (nI M))]) hx hb dX0_share_60 hl (k := 0) rfl (by first | rfl | decide) (by decide) rfl (fun ls hl => ?_)
        refine lv_goto (tgt := 3) hx hb dX0_share_63 (by decide) ?_
        rw [nI_1] at hl
        have hX2 : ag (fun q => q = a) S1 (uJ S1 5 a (-1)) := ag_uJ rfl
        have hX3 : ag (Xs a h b P0 j pt) S9 (uJ S1 5 a (-1)) := ag_tr hX1 (ag_mo hX2 (fun q e => Or.inr (Or.inl e)))
        have hp1 : RP (uJ S1 5 a (-1)) pt pw fI t (wst (hSf P9 j ew N) j 0 0 (-1)) tk9 := RP_ag hX2 (fun e => by have h1 := hp9.1.2; rw [e] at h1; omega) ((congrFun (wst_k (k := 21) (by decide) (by decide) (by decide)) t).trans (congrFun (hS_k (P := P9) (j := j) (ev := ew) (sl := N) (k := 21) (by decide) (by decide) (by decide)) t)) (RP_ag (P := P9) (P' := P9) hQ.1 np rfl hp9)
        exact ih (i + 1) (wst (hSf P9 j ew N) j 0 0 (-1)) _ 0 tk9 (bb + 1) (by omega) (by omega) (sh_back hQ.2.1) hp1 (bInv_wst (bInv_h hI9 (by omega) hho)) wst_14 (by rw [show qI (wst (hSf P9 j ew N) j 0 0 (-1)) 11 j = qI P9 11 j from ((congrFun (wst_k (k := 11) (by decide) (by decide) (by decide)) j).trans (congrFun (hS_k (P := P9) (j := j) (ev := ew) (sl := N) (k := 11) (by decide) (by decide) (by decide)) j))]; exact hpo9) (rgA_ag hX3 hg9) (RV_ag hX3 nv ng ((congrFun wst_J 5).trans (hS_J)) ((wst_k (by decide) (by decide) (by decide)).trans ((hS_k (P := P9) (j := j) (ev := ew) (sl := N) (k := 6) (by decide) (by decide) (by decide)))) hV9) hpt9 (by omega) (((congrFun (wst_k (k := 9) (by decide) (by decide) (by decide)) j).trans (congrFun (hS_k (P := P9) (j := j) (ev := ew) (sl := N) (k := 9) (by decide) (by decide) (by decide)) j)).trans h99) (ag_tr hX9 hX3) (qI_s.trans (by decide)) (by omega) (Or.inl rfl) hR H locs ls hP hD hS (lv_sub hl [0, 1, 2, 3, 4, 5] rfl)
      have hho : hB P9 j ew N = false := by cases q : hB P9 j ew N with
        | true => exact absurd q hho
        | false => rfl
      rw [if_neg (by rw [hho]; decide)] at hR
      by_cases hp1 : qI P9 11 j = 1
      · rw [if_pos hp1] at hR
        refine lv_aload_n hx hb dX0_share_29 rfl (lv_at hl 1 rfl) ?_
        refine gv_0_5 (v := eL (ew + 1)) C hP hQ9.1.1.1 hQ9.1.1.2 (hQ9.1.2.2.2.2.2.2.1) tm_295 dX0_share_30 ?_
        refine lv_lload_n hx hb dX0_share_33 rfl (lv_at hl 4 rfl) ?_
        refine W.lcmp hx hb dX0_share_34 ?_
        refine lv_if_gt (tgt := 50) hx hb dX0_share_35 (by decide) (fun h9 => absurd h9 (fun q => absurd ((lg_cmp_gt ..).mp q) (Int64.not_lt.mpr ((eL_le (by omega) (by omega)).mpr (by omega))))) (fun _ => ?_)
        refine lv_aload_n hx hb dX0_share_38 rfl (lv_at hl 1 rfl) ?_
        refine lv_aload_n hx hb dX0_share_39 rfl (lv_at hl 3 rfl) ?_
        refine lv_aload_n hx hb dX0_share_40 rfl (lv_at hl 1 rfl) ?_
        refine gv_0_5 (v := eL (ew + 1)) C hP hQ9.1.1.1 hQ9.1.1.2 (hQ9.1.2.2.2.2.2.2.1) tm_295 dX0_share_41 ?_
        rw [eL_S]
        refine pc_V (As := [.ref r, .long (lN ew)]) (rest := []) (r := some (.int 0)) C (p_h (S := S9) (P := P9) (ev := ew) (bb := bb) (w := w) hG hQ9.1 hQ9.2 hg9 (hV9.1 ew) (hV9.2 ew hpe (by omega)) hI9 (by omega) (by omega) hho hp1) tm_464 tm_466 tm_885 tm_9 tm_467 hdX0_passes hR0 (rcv_0 C hP hQ9.1.1.1 hQ9.1.1.2) hl.1 rfl (Nat.le_of_ble_eq_true rfl) dX0_share_44 hC0 hP hD hS (fun S1 H locs hQ hP hD hS => ?_)
        have hX1 : ag (Xs a h b P0 j pt) S9 S1 := by rw [← Xs_P h99]; exact ag_mo hQ.1 (fun q e => Or.inr e)
        have hQo : a ∈ mL S1 ∧ mK S1 a = 0 := hQ.2.1.1.1
        refine lv_if_ne (tgt := 53) hx hb dX0_share_47 (by decide) (fun h9 => absurd rfl h9) (fun _ => ?_)
        refine lv_iload hx hb dX0_share_50 (lv_at hl 0 rfl) ?_
        exact kk2 _ _ _ H locs ls hR (ag_tr hX9 hX1) ⟨ew + 1, tk9, sh_halt hQ.2.1, RP_ag hQ.1 np (congrFun (wst_k (k := 21) (by decide) (by decide) (by decide)) t) hp9, qI_s.trans (by rw [hh9, nI_pred]), by omega, by omega⟩ hP hD hS
      rw [if_neg hp1] at hR
      have hpg : qI P9 11 j = 0 := hI9.2.2.1.resolve_right (fun q => q.elim hp1 hpo9)
      refine lv_aload_n hx hb dX0_share_29 rfl (lv_at hl 1 rfl) ?_
      refine gv_0_5 (v := eL (ew + 1)) C hP hQ9.1.1.1 hQ9.1.1.2 (hQ9.1.2.2.2.2.2.2.1) tm_295 dX0_share_30 ?_
      refine lv_lload_n hx hb dX0_share_33 rfl (lv_at hl 4 rfl) ?_
      refine W.lcmp hx hb dX0_share_34 ?_
      refine lv_if_gt (tgt := 50) hx hb dX0_share_35 (by decide) (fun h9 => absurd h9 (fun q => absurd ((lg_cmp_gt ..).mp q) (Int64.not_lt.mpr ((eL_le (by omega) (by omega)).mpr (by omega))))) (fun _ => ?_)
      refine lv_aload_n hx hb dX0_share_38 rfl (lv_at hl 1 rfl) ?_
      refine lv_aload_n hx hb dX0_share_39 rfl (lv_at hl 3 rfl) ?_
      refine lv_aload_n hx hb dX0_share_40 rfl (lv_at hl 1 rfl) ?_
      refine gv_0_5 (v := eL (ew + 1)) C hP hQ9.1.1.1 hQ9.1.1.2 (hQ9.1.2.2.2.2.2.2.1) tm_295 dX0_share_41 ?_
      rw [eL_S]
      refine pc_V (As := [.ref r, .long (lN ew)]) (rest := []) (r := some (.int 1)) C (p_g (S := S9) (P := P9) (ev := ew) (bb := bb) (w := w) hG hQ9.1 hQ9.2 hg9 (hV9.1 ew) (hV9.2 ew hpe (by omega)) hI9 (by omega) (by omega) hho hpg h149) tm_464 tm_466 tm_885 tm_9 tm_467 hdX0_passes hR0 (rcv_0 C hP hQ9.1.1.1 hQ9.1.1.2) hl.1 rfl (Nat.le_of_ble_eq_true rfl) dX0_share_44 hC0 hP hD hS (fun S1 H locs hQ hP hD hS => ?_)
      have hX1 : ag (Xs a h b P0 j pt) S9 S1 := by rw [← Xs_P h99]; exact ag_mo hQ.1 (fun q e => Or.inr e)
      have hQo : a ∈ mL S1 ∧ mK S1 a = 0 := hQ.2.1.1.1
      refine lv_if_ne (tgt := 53) hx hb dX0_share_47 (by decide) (fun _ => ?_) (fun h9 => absurd h9 (by decide))
      refine lv_aload_n hx hb dX0_share_53 rfl (lv_at hl 1 rfl) ?_
      refine lv_ldc2 (v := (-1)) hx hb (cx_own C) (cx_t C _ tm_286) dX0_share_54 ?_
      refine pf_0_5 (v := (-1)) C hP hD hS hQo.1 hQo.2 tm_295 dX0_share_57 (fun H locs hP hD hS => ?_)
      refine lv_iinc (v := nI i + 1) (lv' := [(6, .int (nI i + 1)), (0, .ref a), (1, .ref pt), (2, .ref r), (3, .long (eL fr)), (5, .int (nI M))]) hx hb dX0_share_60 hl (k := 0) rfl (by first | rfl | decide) (by decide) rfl (fun ls hl => ?_)
      refine lv_goto (tgt := 3) hx hb dX0_share_63 (by decide) ?_
      rw [nI_1] at hl
      have hX2 : ag (fun q => q = a) S1 (uJ S1 5 a (-1)) := ag_uJ rfl
      have hX3 : ag (Xs a h b P0 j pt) S9 (uJ S1 5 a (-1)) := ag_tr hX1 (ag_mo hX2 (fun q e => Or.inr (Or.inl e)))
      have hp1 : RP (uJ S1 5 a (-1)) pt pw fI t (wst P9 j 0 1 (-1)) tk9 := RP_ag hX2 (fun e => by have h1 := hp9.1.2; rw [e] at h1; omega) ((congrFun (wst_k (k := 21) (by decide) (by decide) (by decide)) t).trans rfl) (RP_ag (P := P9) (P' := P9) hQ.1 np rfl hp9)
      exact ih (i + 1) (wst P9 j 0 1 (-1)) _ 0 tk9 (bb) (by omega) (by omega) (sh_back hQ.2.1) hp1 (bInv_wst (hI9)) wst_14 (by rw [show qI (wst P9 j 0 1 (-1)) 11 j = qI P9 11 j from ((congrFun (wst_k (k := 11) (by decide) (by decide) (by decide)) j).trans rfl)]; exact hpo9) (rgA_ag hX3 hg9) (RV_ag hX3 nv ng ((congrFun wst_J 5).trans (rfl)) ((wst_k (by decide) (by decide) (by decide)).trans (rfl)) hV9) hpt9 (by omega) (((congrFun (wst_k (k := 9) (by decide) (by decide) (by decide)) j).trans rfl).trans h99) (ag_tr hX9 hX3) (qI_s.trans (by decide)) (by omega) (Or.inl rfl) hR H locs ls hP hD hS (lv_sub hl [0, 1, 2, 3, 4, 5] rfl)
    by_cases hz0 : hq = 0
    · subst hz0
      have hneg : qI P 20 j < 0 := by rw [hhas]; decide +kernel
      refine lv_iload hx hb dX0_share_3 (lv_at hl 0 rfl) ?_
      refine lv_iload hx hb dX0_share_5 (lv_at hl 5 rfl) ?_
      refine lv_icmp_ge (tgt := 66) hx hb dX0_share_7 (by decide) (fun h9 => absurd h9 (nI_ge (by omega) (by omega))) (fun _ => ?_)
      refine lv_aload_n hx hb dX0_share_10 rfl (lv_at hl 1 rfl) ?_
      refine gv_0_5 (v := eL 0) C hP hQ0.1.1.1 hQ0.1.1.2 (hQ0.1.2.2.2.2.2.2.1) tm_295 dX0_share_11 ?_
      refine lv_ldc2 (v := (-1)) hx hb (cx_own C) (cx_t C _ tm_286) dX0_share_14 ?_
      refine W.lcmp hx hb dX0_share_17 ?_
      refine lv_if_ne (tgt := 29) hx hb dX0_share_18 (by decide) (fun h9 => absurd ((lg_cmp_eq ..).mpr eL_0) h9) (fun _ => ?_)
      refine lv_aload_n hx hb dX0_share_21 rfl (lv_at hl 1 rfl) ?_
      refine lv_aload_n hx hb dX0_share_22 rfl (lv_at hl 2 rfl) ?_
      refine pc_V (As := []) (rest := [.ref a]) (r := some (.long (lN tk))) C (c_take (S := S) (tk := tk) hG hp.1.1 hp.1.2 hp.2.2.2.1) tm_533 tm_534 tm_535 tm_15 tm_536 hdX4_takeNext hR1 (rcv_4 C hP hp.1.1 hp.1.2) hl.1 rfl (Nat.le_of_ble_eq_true rfl) dX0_share_23 hC1 hP hD hS (fun S1 H locs hQ hP hD hS => ?_)
      rw [hQ] at hP hD
      refine pf_0_5 (v := lN tk) C hP hD hS hQ0.1.1.1 hQ0.1.1.2 tm_295 dX0_share_26 (fun H locs hP hD hS => ?_)
      have hna : pt ≠ a := fun e => by have h1 := hp.1.2; have h2 := hQ0.1.1.2; rw [e] at h1; omega
      have npt : ¬ Xc a h b P j pt := Xc_k hQ0.1.1.2 hQ0.2 (Or.inr (Or.inr (Or.inr (Or.inl hp.1.2))))
      have hx9 : ag (Xs a h b P0 j pt) S (uJ (uJ S 3 pt (lN (tk + 1))) 5 a (lN tk)) := ag_tr (ag_uJ (Or.inl rfl)) (ag_uJ (Or.inr (Or.inl rfl)))
      have ex : wP P j t = tkS P j t := if_pos hneg
      have nv : ¬ Xs a h b P0 j pt v := by
        rw [← Xs_P h9]
        rintro (q | q)
        · have h1 := hp.1.2; have h2 := hg.2.2.1.2.1; rw [q] at h2; omega
        · exact Xc_k hQ0.1.1.2 hQ0.2 (Or.inl hg.2.2.1.2.1) q
      have ng : ¬ Xs a h b P0 j pt g := by
        rw [← Xs_P h9]
        rintro (q | q)
        · have h1 := hp.1.2; have h2 := hg.2.2.2.1.2.1; rw [q] at h2; omega
        · exact Xc_k hQ0.1.1.2 hQ0.2 (Or.inr (Or.inl hg.2.2.2.1.2.1)) q
      have e20 : qI (tkS P j t) 20 j = nI tk := by rw [tkS, sI_k (by decide), qI_s]; exact hp.2.2.2.2.1
      have hp9 : RP (uJ (uJ S 3 pt (lN (tk + 1))) 5 a (lN tk)) pt pw fI t (tkS P j t) (tk + 1) := ⟨hp.1, hp.2.1, hp.2.2.1, (mJ_k (S := uJ S 3 pt (lN (tk + 1))) (by decide)).trans (mJ_s (S := S)), by rw [tkS, qI_s, hp.2.2.2.2.1, nI_1], hp.2.2.2.2.2⟩
      exact s29 (tkS P j t) _ tk (tk + 1) ex.symm (sh_take hQ0 hna (fun e => npt (Or.inr (Or.inl e))) (fun n e => npt (Or.inr (Or.inr ⟨n, e⟩)))) hp9 (by rw [← ex]; exact bInv_wP hI) ((congrFun (tkS_k (by decide) (by decide)) j).trans h14) (by rw [tkS_k (by decide) (by decide)]; exact hpo2) (rgA_ag hx9 hg) (RV_ag hx9 nv ng rfl (tkS_k (by decide) (by decide)) hV) (by omega) (by omega) ((congrFun (tkS_k (by decide) (by decide)) j).trans h9) (ag_tr hX hx9) e20 (by omega) hpt H locs ls hP hD hS (lv_sub hl [0, 1, 2, 3, 4, 5] rfl)
    obtain ⟨ew, rfl⟩ : ∃ ew, hq = ew + 1 := ⟨hq - 1, by omega⟩
    have hnn : ¬ qI P 20 j < 0 := by rw [hhas, nI_pred]; exact nI_pos (by omega)
    refine lv_iload hx hb dX0_share_3 (lv_at hl 0 rfl) ?_
    refine lv_iload hx hb dX0_share_5 (lv_at hl 5 rfl) ?_
    refine lv_icmp_ge (tgt := 66) hx hb dX0_share_7 (by decide) (fun h9 => absurd h9 (nI_ge (by omega) (by omega))) (fun _ => ?_)
    refine lv_aload_n hx hb dX0_share_10 rfl (lv_at hl 1 rfl) ?_
    refine gv_0_5 (v := eL (ew + 1)) C hP hQ0.1.1.1 hQ0.1.1.2 (hQ0.1.2.2.2.2.2.2.1) tm_295 dX0_share_11 ?_
    refine lv_ldc2 (v := (-1)) hx hb (cx_own C) (cx_t C _ tm_286) dX0_share_14 ?_
    refine W.lcmp hx hb dX0_share_17 ?_
    refine lv_if_ne (tgt := 29) hx hb dX0_share_18 (by decide) (fun _ => ?_) (fun h9 => absurd h9 (fun q => absurd ((lg_cmp_eq ..).mp q) (by rw [← eL_0]; exact fun z => absurd ((eL_eq (by omega) (by omega)).mp z) (by omega))))
    exact s29 P S ew tk (if_neg hnn).symm hQ0 hp hI h14 hpo2 hg hV hpt (by omega) h9 hX (by rw [hhas, nI_pred]) (by omega) (by omega) H locs ls hP hD hS (lv_sub hl [0, 1, 2, 3, 4, 5] rfl)
end Sh1
abbrev rmX0_share : Room := { frames := 4, cells := 0, slots := 0, locals := 94 }
set_option maxRecDepth 100000 in
theorem c_share {l : Launch} {s0 : State} {D : va_G} {cA : Nat → ClassId} (hG : cx_G l s0 D cA) {S : Mem} {a h b j pq hq r v g u N M fr bb p0 pt pw t tk : Nat} {fI : Nat → Int32} {po : Option Nat} {P : MS} {far : Int32}  (hc : RC S a h po P j pq hq pq) (hh : RH S h b P j) (hp : RP S pt pw fI t P tk) (hg : rgA S r v g u N) (hV : RV S v g N P p0 fr) (hI : bInv P j N bb) (hbb : bb < 2 ^ 29) (h14 : qI P 14 j = 0) (hpo2 : ¬ qI P 11 j = 2) (hpt : p0 ≤ tk) (htk : tk + M ≤ 9000) (hhas : qI P 20 j = nI hq - 1) (hq9 : hq ≤ 9000) (hqp : hq = 0 ∨ p0 < hq) (hM : M ≤ 20) (hfar : far = nI fr - 1) (hfr : fr ≤ 8208) : PC l s0 D cA yX0_share cX0_share 7 (some .int) rmX0_share [.ref a, .ref pt, .ref r, .long (eL fr), .int (nI M)] S (some (.int (wk far j t N M 0 P).2)) (fun S1 => ag (Xs a h b P j pt) S S1 ∧ ∃ hq tk, RQ S1 a h b po (wk far j t N M 0 P).1 j pq hq pq ∧ RP S1 pt pw fI t (wk far j t N M 0 P).1 tk ∧ qI (wk far j t N M 0 P).1 20 j = nI hq - 1 ∧ hq ≤ 9000 ∧ tk ≤ 9000) := by
  refine Ct.of (cA := cA) hG (by decide +kernel) (Nat.le_of_ble_eq_true rfl) ?_
  intro p e s m below meth c A C hnm hP hD hS ls hl
  have hx := cx_x C
  have hb := cx_b C
  have hl : lv_has ls 7 [(0, .ref a), (1, .ref pt), (2, .ref r), (3, .long (eL fr)), (5, .int (nI M))] := hl
  refine lv_iconst (v := 0) hx hb dX0_share_0 (by decide) ?_
  refine lv_istore (lv' := [(6, .int 0), (0, .ref a), (1, .ref pt), (2, .ref r), (3, .long (eL fr)), (5, .int (nI M))]) hx hb dX0_share_1 hl (by decide) rfl (fun ls hl => ?_)
  refine lp_sh (R := rmX0_share) (S0 := S) (P0 := P) (w := pq) (M := M) (fr := fr) (p0 := p0) (pt := pt) (pw := pw) (fI := fI) (t := t) (R0 := wk far j t N M 0 P) C hG hM hfar hfr ⟨Nat.le_of_ble_eq_true rfl, Nat.le_of_ble_eq_true rfl⟩ ⟨Nat.le_of_ble_eq_true rfl, Nat.le_of_ble_eq_true rfl⟩ ⟨Nat.le_of_ble_eq_true rfl, Nat.le_of_ble_eq_true rfl⟩ ⟨Nat.le_of_ble_eq_true rfl, Nat.le_of_ble_eq_true rfl⟩ (fun T S2 x H locs ls hR hX hF hP hD hS => ?_) (fun T S2 x H locs ls hR hX hF hP hD hS hl => ?_) M 0 P S hq tk bb (by omega) (by omega) ⟨hc, hh⟩ hp hI h14 hpo2 hg hV hpt (by omega) rfl ag_rf hhas hq9 hqp rfl _ _ ls hP hD hS (lv_sub hl [0, 1, 2, 3, 4, 5] rfl)
  · exact ct_iret C hS hP hD (⟨by rw [← hR], _, rfl, hX, by rw [← hR]; exact hF⟩) (Nat.le_of_ble_eq_true rfl) (Nat.le_of_ble_eq_true rfl) dX0_share_52
  refine lv_iload hx hb dX0_share_66 (lv_at hl 0 rfl) ?_
  exact ct_iret C hS hP hD (⟨by rw [← hR], _, rfl, hX, by rw [← hR]; exact hF⟩) (Nat.le_of_ble_eq_true rfl) (Nat.le_of_ble_eq_true rfl) dX0_share_68
