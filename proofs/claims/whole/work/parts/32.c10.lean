/-! ===== the class: places ===== -/
/-- the least of what is next and what the workers have -/
def rcN (tk : Nat) (q : Nat → Nat) : Nat → Nat
  | 0 => tk
  | i + 1 => if q i = 0 then rcN tk q i else if q i - 1 < rcN tk q i then q i - 1 else rcN tk q i
theorem rcN_le {tk : Nat} {q : Nat → Nat} : ∀ i, rcN tk q i ≤ tk
  | 0 => Nat.le_refl _
  | i + 1 => by
    have := rcN_le (tk := tk) (q := q) i
    rw [rcN]
    split
    · exact this
    split
    · omega
    · exact this
theorem mnL_N {x z : Nat} (hx : x < 2 ^ 31) (hz : z < 2 ^ 31) : mnL (lN x) (lN z) = lN (if z < x then z else x) := by
  unfold mnL
  by_cases h : z < x
  · rw [if_pos h, if_pos ((lN_lt hz hx).mpr h)]
  · rw [if_neg h, if_neg (fun q => h ((lN_lt hz hx).mp q))]
/-- the pool's workers: sz of them, ca i the i-th, which has q i -/
def RW (S : Mem) (pt pw sz : Nat) (ca q : Nat → Nat) : Prop := mI S 2 pt = nI sz ∧ sz ≤ 8 ∧ ∀ i, i < sz → maR S pw i = some (ca i) ∧ (ca i ∈ mL S ∧ mK S (ca i) = 0) ∧ mJ S 5 (ca i) = eL (q i) ∧ q i ≤ 9000
section Rc1
variable {p : Program} {l : Launch} {e : Env} {R : Room} {s : State} {m : MethodId} {args : Array Value} {below : List Frame} {meth : Method} {c : Code} {H : Heap} {locs : List Loc} {cells slots : Nat} {Q : State → Prop}
variable {s0 : State} {D : va_G} {cA : Nat → ClassId} {A : Nat → Prop} {ad : Nat → Nat}
set_option maxRecDepth 100000 in
theorem lp_rc (C : cx_C p l s m args meth c s0 D cA cX4_reached 4 (some .long) RX4 A) {S : Mem} {P : MS} {pt pw t tk sz : Nat} {fI : Nat → Int32} {ca q : Nat → Nat} (hp : RP S pt pw fI t P tk) (hw : RW S pt pw sz ca q) (htk : tk ≤ 9000) (hf1 : 1 ≤ R.frames) (hf2 : 15 ≤ R.locals) (hf3 : cells ≤ R.cells) (hf4 : slots ≤ R.slots) (hP : va_P D vwCl (pW cA S) H) 
    (kk : ∀ ls : Array Slot, lv_has ls 4 [(1, .long (lN (rcN tk q sz)))] → W p l e R s m args below meth c H locs cells slots Q (F0 m 60 ls [])) :
    ∀ d i : Nat, i + d = sz → ∀ ls : Array Slot, lv_has ls 4 [(3, .int (nI i)), (1, .long (lN (rcN tk q i))), (0, .ref pt)] → W p l e R s m args below meth c H locs cells slots Q (F0 m 7 ls []) := by
  have hx := cx_x C
  have hb := cx_b C
  have hs8 := hw.2.1
  intro d
  induction d with
  | zero =>
    intro i hi ls hl
    have hi : i = sz := hi
    subst hi
    refine lv_iload_n hx hb dX4_reached_7 rfl (lv_at hl 0 rfl) ?_
    refine lv_aload_n hx hb dX4_reached_8 rfl (lv_at hl 2 rfl) ?_
    refine gv_4_2 (v := nI i) C hP hp.1.1 hp.1.2 (hw.1) tm_271 dX4_reached_9 ?_
    refine lv_icmp_ge (tgt := 60) hx hb dX4_reached_12 (by decide) (fun _ => ?_) (fun h9 => absurd (Int32.le_refl _) h9)
    exact kk ls (lv_sub hl [1] rfl)
  | succ d ih =>
    intro i hi ls hl
    have hq9 := (hw.2.2 i (by omega)).2.2.2
    have hr9 := rcN_le (tk := tk) (q := q) i
    by_cases h0 : q i = 0
    · refine lv_iload_n hx hb dX4_reached_7 rfl (lv_at hl 0 rfl) ?_
      refine lv_aload_n hx hb dX4_reached_8 rfl (lv_at hl 2 rfl) ?_
      refine gv_4_2 (v := nI sz) C hP hp.1.1 hp.1.2 (hw.1) tm_271 dX4_reached_9 ?_
      refine lv_icmp_ge (tgt := 60) hx hb dX4_reached_12 (by decide) (fun h9 => absurd h9 (nI_ge (by omega) (by omega))) (fun _ => ?_)
      refine lv_aload_n hx hb dX4_reached_15 rfl (lv_at hl 2 rfl) ?_
      refine gf_4_1s (b := pw) C hP hp.1.1 hp.1.2 (hp.2.1) tm_270 dX4_reached_16 ?_
      refine lv_iload_n hx hb dX4_reached_19 rfl (lv_at hl 0 rfl) ?_
      refine av_Cs (j := i) (b := (ca i)) C hP hp.2.2.1.1 hp.2.2.1.2.1 (ixN hp.2.2.1.2.2 (ix_nI (by have := hw.2.1; omega) (by decide))) ((hw.2.2 i (by omega)).1) dX4_reached_20 ?_
      refine lv_ifnull hx hb dX4_reached_21 ?_
      refine lv_aload_n hx hb dX4_reached_24 rfl (lv_at hl 2 rfl) ?_
      refine gf_4_1s (b := pw) C hP hp.1.1 hp.1.2 (hp.2.1) tm_270 dX4_reached_25 ?_
      refine lv_iload_n hx hb dX4_reached_28 rfl (lv_at hl 0 rfl) ?_
      refine av_Cs (j := i) (b := (ca i)) C hP hp.2.2.1.1 hp.2.2.1.2.1 (ixN hp.2.2.1.2.2 (ix_nI (by have := hw.2.1; omega) (by decide))) ((hw.2.2 i (by omega)).1) dX4_reached_29 ?_
      refine gv_0_5 (v := eL 0) C hP (hw.2.2 i (by omega)).2.1.1 (hw.2.2 i (by omega)).2.1.2 (((hw.2.2 i (by omega)).2.2.1).trans (by rw [h0])) tm_296 dX4_reached_30 ?_
      refine lv_ldc2 (v := (-1)) hx hb (cx_own C) (cx_t C _ tm_377) dX4_reached_33 ?_
      refine W.lcmp hx hb dX4_reached_36 ?_
      refine lv_if_eq (tgt := 54) hx hb dX4_reached_37 (by decide) (fun _ => ?_) (fun h9 => absurd ((lg_cmp_eq ..).mpr eL_0) h9)
      refine lv_iinc (v := nI i + 1) (lv' := [(3, .int (nI i + 1)), (1, .long (lN (rcN tk q i))), (0, .ref pt)]) hx hb dX4_reached_54 hl (k := 0) rfl (by first | rfl | decide) (by decide) rfl (fun ls hl => ?_)
      refine lv_goto (tgt := 7) hx hb dX4_reached_57 (by decide) ?_
      rw [nI_1] at hl
      exact ih (i + 1) (by omega) ls (by rw [rcN, if_pos h0]; exact (lv_sub hl [0, 1, 2] rfl))
    refine lv_iload_n hx hb dX4_reached_7 rfl (lv_at hl 0 rfl) ?_
    refine lv_aload_n hx hb dX4_reached_8 rfl (lv_at hl 2 rfl) ?_
    refine gv_4_2 (v := nI sz) C hP hp.1.1 hp.1.2 (hw.1) tm_271 dX4_reached_9 ?_
    refine lv_icmp_ge (tgt := 60) hx hb dX4_reached_12 (by decide) (fun h9 => absurd h9 (nI_ge (by omega) (by omega))) (fun _ => ?_)
    refine lv_aload_n hx hb dX4_reached_15 rfl (lv_at hl 2 rfl) ?_
    refine gf_4_1s (b := pw) C hP hp.1.1 hp.1.2 (hp.2.1) tm_270 dX4_reached_16 ?_
    refine lv_iload_n hx hb dX4_reached_19 rfl (lv_at hl 0 rfl) ?_
    refine av_Cs (j := i) (b := (ca i)) C hP hp.2.2.1.1 hp.2.2.1.2.1 (ixN hp.2.2.1.2.2 (ix_nI (by have := hw.2.1; omega) (by decide))) ((hw.2.2 i (by omega)).1) dX4_reached_20 ?_
    refine lv_ifnull hx hb dX4_reached_21 ?_
    refine lv_aload_n hx hb dX4_reached_24 rfl (lv_at hl 2 rfl) ?_
    refine gf_4_1s (b := pw) C hP hp.1.1 hp.1.2 (hp.2.1) tm_270 dX4_reached_25 ?_
    refine lv_iload_n hx hb dX4_reached_28 rfl (lv_at hl 0 rfl) ?_
    refine av_Cs (j := i) (b := (ca i)) C hP hp.2.2.1.1 hp.2.2.1.2.1 (ixN hp.2.2.1.2.2 (ix_nI (by have := hw.2.1; omega) (by decide))) ((hw.2.2 i (by omega)).1) dX4_reached_29 ?_
    refine gv_0_5 (v := eL (q i)) C hP (hw.2.2 i (by omega)).2.1.1 (hw.2.2 i (by omega)).2.1.2 ((hw.2.2 i (by omega)).2.2.1) tm_296 dX4_reached_30 ?_
    refine lv_ldc2 (v := (-1)) hx hb (cx_own C) (cx_t C _ tm_377) dX4_reached_33 ?_
    refine W.lcmp hx hb dX4_reached_36 ?_
    refine lv_if_eq (tgt := 54) hx hb dX4_reached_37 (by decide) (fun h9 => absurd h9 (fun z => absurd ((lg_cmp_eq ..).mp z) (by rw [← eL_0]; exact fun y => h0 ((eL_eq (by omega) (by omega)).mp y)))) (fun _ => ?_)
    refine lv_lload_n hx hb dX4_reached_40 rfl (lv_at hl 1 rfl) ?_
    refine lv_aload_n hx hb dX4_reached_41 rfl (lv_at hl 2 rfl) ?_
    refine gf_4_1s (b := pw) C hP hp.1.1 hp.1.2 (hp.2.1) tm_270 dX4_reached_42 ?_
    refine lv_iload_n hx hb dX4_reached_45 rfl (lv_at hl 0 rfl) ?_
    refine av_Cs (j := i) (b := (ca i)) C hP hp.2.2.1.1 hp.2.2.1.2.1 (ixN hp.2.2.1.2.2 (ix_nI (by have := hw.2.1; omega) (by decide))) ((hw.2.2 i (by omega)).1) dX4_reached_46 ?_
    refine gv_0_5 (v := eL (q i)) C hP (hw.2.2 i (by omega)).2.1.1 (hw.2.2 i (by omega)).2.1.2 ((hw.2.2 i (by omega)).2.2.1) tm_296 dX4_reached_47 ?_
    rw [show eL (q i) = lN (q i - 1) by rw [← eL_S, Nat.sub_add_cancel (by omega)]]
    refine ct_min C hl.1 tm_378 (hf1) (hf2) (hf3) (hf4) dX4_reached_50 ?_
    refine lv_lstore_n (lv' := [(1, .long (mnL (lN (rcN tk q i)) (lN (q i - 1)))), (3, .int (nI i)), (0, .ref pt)]) hx hb dX4_reached_53 rfl hl (by decide) rfl (fun ls hl => ?_)
    refine lv_iinc (v := nI i + 1) (lv' := [(3, .int (nI i + 1)), (1, .long (mnL (lN (rcN tk q i)) (lN (q i - 1)))), (0, .ref pt)]) hx hb dX4_reached_54 hl (k := 1) rfl (by first | rfl | decide) (by decide) rfl (fun ls hl => ?_)
    refine lv_goto (tgt := 7) hx hb dX4_reached_57 (by decide) ?_
    rw [nI_1] at hl
    rw [mnL_N (by omega) (by omega)] at hl
    exact ih (i + 1) (by omega) ls (by rw [rcN, if_neg h0]; exact (lv_sub hl [0, 1, 2] rfl))
end Rc1
abbrev rmX4_reached : Room := { frames := 1, cells := 0, slots := 0, locals := 15 }
set_option maxRecDepth 100000 in
theorem c_preach {l : Launch} {s0 : State} {D : va_G} {cA : Nat → ClassId} (hG : cx_G l s0 D cA) {S : Mem} {P : MS} {pt pw t tk sz : Nat} {fI : Nat → Int32} {ca q : Nat → Nat}  (hp : RP S pt pw fI t P tk) (hw : RW S pt pw sz ca q) (htk : tk ≤ 9000) : PC l s0 D cA yX4_reached cX4_reached 4 (some .long) rmX4_reached [.ref pt] S (some (.long (eL (rcN tk q sz)))) (fun S1 => S1 = S) := by
  refine Ct.of (cA := cA) hG (by decide +kernel) (Nat.le_of_ble_eq_true rfl) ?_
  intro p e s m below meth c A C hnm hP hD hS ls hl
  have hx := cx_x C
  have hb := cx_b C
  have hl : lv_has ls 4 [(0, .ref pt)] := hl
  refine lv_aload_n hx hb dX4_reached_0 rfl (lv_at hl 0 rfl) ?_
  refine gv_4_3 (v := lN tk) C hP hp.1.1 hp.1.2 (hp.2.2.2.1) tm_272 dX4_reached_1 ?_
  refine lv_lstore_n (lv' := [(1, .long (lN tk)), (0, .ref pt)]) hx hb dX4_reached_4 rfl hl (by decide) rfl (fun ls hl => ?_)
  refine lv_iconst (v := 0) hx hb dX4_reached_5 (by decide) ?_
  refine lv_istore_n (lv' := [(3, .int 0), (1, .long (lN tk)), (0, .ref pt)]) hx hb dX4_reached_6 rfl hl (by decide) rfl (fun ls hl => ?_)
  refine lp_rc (R := rmX4_reached) (ca := ca) (q := q) C hp hw htk (Nat.le_of_ble_eq_true rfl) (Nat.le_of_ble_eq_true rfl) (Nat.le_of_ble_eq_true rfl) (Nat.le_of_ble_eq_true rfl) hP (fun ls hl => ?_) sz 0 (by omega) ls (lv_sub hl [0, 1, 2] rfl)
  refine lv_lload_n hx hb dX4_reached_60 rfl (lv_at hl 0 rfl) ?_
  refine lv_lconst (v := 1) hx hb dX4_reached_61 (by decide) ?_
  refine lv_lsub hx hb dX4_reached_62 ?_
  exact ct_lret C hS hP hD (⟨rfl, _, rfl, rfl⟩) (Nat.le_of_ble_eq_true rfl) (Nat.le_of_ble_eq_true rfl) dX4_reached_63
abbrev rmX0_reached : Room := { frames := 2, cells := 0, slots := 0, locals := 38 }
set_option maxRecDepth 100000 in
theorem c_reach_n {l : Launch} {s0 : State} {D : va_G} {cA : Nat → ClassId} (hG : cx_G l s0 D cA) {S : Mem} {a h j pq hq w : Nat} {P : MS}  (hc : RC S a h none P j pq hq w) : PC l s0 D cA yX0_reached cX0_reached 1 (some .long) rmX0_reached [.ref a] S (some (.long (eL pq))) (fun S1 => S1 = S) := by
  refine Ct.of (cA := cA) hG (by decide +kernel) (Nat.le_of_ble_eq_true rfl) ?_
  intro p e s m below meth c A C hnm hP hD hS ls hl
  have hx := cx_x C
  have hb := cx_b C
  have hl : lv_has ls 1 [(0, .ref a)] := hl
  refine lv_aload_n hx hb dX0_reached_0 rfl (lv_at hl 0 rfl) ?_
  refine gv_0_2n C hP hc.1.1 hc.1.2 (hc.2.2.2.1) tm_291 dX0_reached_1 ?_
  refine lv_ifnonnullN hx hb dX0_reached_4 ?_
  refine lv_aload_n hx hb dX0_reached_7 rfl (lv_at hl 0 rfl) ?_
  refine gv_0_4 (v := eL pq) C hP hc.1.1 hc.1.2 (hc.2.2.2.2.2.1) tm_294 dX0_reached_8 ?_
  refine lv_goto (tgt := 21) hx hb dX0_reached_11 (by decide) ?_
  exact ct_lret C hS hP hD (⟨rfl, _, rfl, rfl⟩) (Nat.le_of_ble_eq_true rfl) (Nat.le_of_ble_eq_true rfl) dX0_reached_21
set_option maxRecDepth 100000 in
theorem c_reach_p {l : Launch} {s0 : State} {D : va_G} {cA : Nat → ClassId} (hG : cx_G l s0 D cA) {S : Mem} {a h j pq hq w : Nat} {P : MS} {pt pw t tk sz : Nat} {fI : Nat → Int32} {ca q : Nat → Nat}  (hc : RC S a h (some pt) P j pq hq w) (hp : RP S pt pw fI t P tk) (hw : RW S pt pw sz ca q) (htk : tk ≤ 9000) : PC l s0 D cA yX0_reached cX0_reached 1 (some .long) rmX0_reached [.ref a] S (some (.long (eL (rcN tk q sz)))) (fun S1 => S1 = S) := by
  refine Ct.of (cA := cA) hG (by decide +kernel) (Nat.le_of_ble_eq_true rfl) ?_
  intro p e s m below meth c A C hnm hP hD hS ls hl
  have hx := cx_x C
  have hb := cx_b C
  have hl : lv_has ls 1 [(0, .ref a)] := hl
  refine lv_aload_n hx hb dX0_reached_0 rfl (lv_at hl 0 rfl) ?_
  refine gf_0_2s (b := pt) C hP hc.1.1 hc.1.2 (hc.2.2.2.1) tm_291 dX0_reached_1 ?_
  refine lv_ifnonnull (tgt := 14) hx hb dX0_reached_4 (by decide) ?_
  refine lv_aload_n hx hb dX0_reached_14 rfl (lv_at hl 0 rfl) ?_
  refine gf_0_2s (b := pt) C hP hc.1.1 hc.1.2 (hc.2.2.2.1) tm_291 dX0_reached_15 ?_
  refine pc_V (As := []) (rest := []) (r := some (.long (eL (rcN tk q sz)))) C (c_preach (S := S) (sz := sz) (ca := ca) (q := q) hG hp hw htk) tm_373 tm_374 tm_375 tm_15 tm_376 hdX4_reached ⟨Nat.le_of_ble_eq_true rfl, Nat.le_of_ble_eq_true rfl⟩ (rcv_4 C hP hp.1.1 hp.1.2) hl.1 rfl (Nat.le_of_ble_eq_true rfl) dX0_reached_18 ⟨Nat.le_of_ble_eq_true rfl, Nat.le_of_ble_eq_true rfl⟩ hP hD hS (fun S1 H locs hQ hP hD hS => ?_)
  rw [hQ] at hP hD
  exact ct_lret C hS hP hD (⟨rfl, _, rfl, rfl⟩) (Nat.le_of_ble_eq_true rfl) (Nat.le_of_ble_eq_true rfl) dX0_reached_21
abbrev rmX0_advance : Room := { frames := 5, cells := 0, slots := 0, locals := 120 }
set_option maxRecDepth 100000 in
theorem c_adv_n {l : Launch} {s0 : State} {D : va_G} {cA : Nat → ClassId} (hG : cx_G l s0 D cA) {S : Mem} {a h b j pq hq r v g u N M fr bb : Nat} {P : MS} {far : Int32}  (hc : RC S a h none P j pq hq pq) (hh : RH S h b P j) (hg : rgA S r v g u N) (hV : RV S v g N P pq fr) (hI : bInv P j N bb) (hbb : bb < 2 ^ 29) (h14 : qI P 14 j = 0) (hpl : qI P 13 j = nI pq - 1) (hp8 : pq ≤ 8208) (hM : M ≤ 20) (hfar : far = nI fr - 1) (hfr : fr ≤ 8208) : PC l s0 D cA yX0_advance cX0_advance 5 (some .int) rmX0_advance [.ref a, .ref r, .long (eL fr), .int (nI M)] S (some (.int (bt far j N P M 0 P).2)) (fun S1 => ag (Xc a h b P j) S S1 ∧ ∃ pq, RQ S1 a h b none (bt far j N P M 0 P).1 j pq hq pq ∧ qI (bt far j N P M 0 P).1 13 j = nI pq - 1 ∧ pq ≤ 8208) := by
  refine Ct.of (cA := cA) hG (by decide +kernel) (Nat.le_of_ble_eq_true rfl) ?_
  intro p e s m below meth c A C hnm hP hD hS ls hl
  have hx := cx_x C
  have hb := cx_b C
  have hl : lv_has ls 5 [(0, .ref a), (1, .ref r), (2, .long (eL fr)), (4, .int (nI M))] := hl
  refine lv_aload_n hx hb dX0_advance_0 rfl (lv_at hl 0 rfl) ?_
  refine gv_0_2n C hP hc.1.1 hc.1.2 (hc.2.2.2.1) tm_291 dX0_advance_1 ?_
  refine lv_ifnonnullN hx hb dX0_advance_4 ?_
  refine lv_aload_n hx hb dX0_advance_7 rfl (lv_at hl 0 rfl) ?_
  refine lv_aload_n hx hb dX0_advance_8 rfl (lv_at hl 1 rfl) ?_
  refine lv_lload_n hx hb dX0_advance_9 rfl (lv_at hl 2 rfl) ?_
  refine lv_iload hx hb dX0_advance_10 (lv_at hl 3 rfl) ?_
  refine pc_V (As := [.ref r, .long (eL fr), .int (nI M)]) (rest := []) (r := some (.int ((bt far j N P M 0 P).2))) C (c_go (S := S) (bb := bb) hG hc hh hg hV hI hbb h14 hpl hp8 hM hfar hfr) tm_441 tm_443 tm_883 tm_9 tm_444 hdX0_goThrough ⟨Nat.le_of_ble_eq_true rfl, Nat.le_of_ble_eq_true rfl⟩ (rcv_0 C hP hc.1.1 hc.1.2) hl.1 rfl (Nat.le_of_ble_eq_true rfl) dX0_advance_12 ⟨Nat.le_of_ble_eq_true rfl, Nat.le_of_ble_eq_true rfl⟩ hP hD hS (fun S1 H locs hQ hP hD hS => ?_)
  refine lv_goto (tgt := 30) hx hb dX0_advance_15 (by decide) ?_
  exact ct_iret C hS hP hD (⟨rfl, _, rfl, hQ⟩) (Nat.le_of_ble_eq_true rfl) (Nat.le_of_ble_eq_true rfl) dX0_advance_30
set_option maxRecDepth 100000 in
theorem c_adv_p {l : Launch} {s0 : State} {D : va_G} {cA : Nat → ClassId} (hG : cx_G l s0 D cA) {S : Mem} {a h b j pq hq r v g u N M fr bb p0 pt pw t tk : Nat} {fI : Nat → Int32} {P : MS} {far : Int32}  (hc : RC S a h (some pt) P j pq hq pq) (hh : RH S h b P j) (hp : RP S pt pw fI t P tk) (hg : rgA S r v g u N) (hV : RV S v g N P p0 fr) (hI : bInv P j N bb) (hbb : bb < 2 ^ 29) (h14 : qI P 14 j = 0) (hpo2 : ¬ qI P 11 j = 2) (hpt : p0 ≤ tk) (htk : tk + M ≤ 9000) (hhas : qI P 20 j = nI hq - 1) (hq9 : hq ≤ 9000) (hqp : hq = 0 ∨ p0 < hq) (hM : M ≤ 20) (hfar : far = nI fr - 1) (hfr : fr ≤ 8208) : PC l s0 D cA yX0_advance cX0_advance 5 (some .int) rmX0_advance [.ref a, .ref r, .long (eL fr), .int (nI M)] S (some (.int (wk far j t N M 0 P).2)) (fun S1 => ag (Xs a h b P j pt) S S1 ∧ ∃ hq tk, RQ S1 a h b (some pt) (wk far j t N M 0 P).1 j pq hq pq ∧ RP S1 pt pw fI t (wk far j t N M 0 P).1 tk ∧ qI (wk far j t N M 0 P).1 20 j = nI hq - 1 ∧ hq ≤ 9000 ∧ tk ≤ 9000) := by
  refine Ct.of (cA := cA) hG (by decide +kernel) (Nat.le_of_ble_eq_true rfl) ?_
  intro p e s m below meth c A C hnm hP hD hS ls hl
  have hx := cx_x C
  have hb := cx_b C
  have hl : lv_has ls 5 [(0, .ref a), (1, .ref r), (2, .long (eL fr)), (4, .int (nI M))] := hl
  refine lv_aload_n hx hb dX0_advance_0 rfl (lv_at hl 0 rfl) ?_
  refine gf_0_2s (b := pt) C hP hc.1.1 hc.1.2 (hc.2.2.2.1) tm_291 dX0_advance_1 ?_
  refine lv_ifnonnull (tgt := 18) hx hb dX0_advance_4 (by decide) ?_
  refine lv_aload_n hx hb dX0_advance_18 rfl (lv_at hl 0 rfl) ?_
  refine lv_aload_n hx hb dX0_advance_19 rfl (lv_at hl 0 rfl) ?_
  refine gf_0_2s (b := pt) C hP hc.1.1 hc.1.2 (hc.2.2.2.1) tm_291 dX0_advance_20 ?_
  refine lv_aload_n hx hb dX0_advance_23 rfl (lv_at hl 1 rfl) ?_
  refine lv_lload_n hx hb dX0_advance_24 rfl (lv_at hl 2 rfl) ?_
  refine lv_iload hx hb dX0_advance_25 (lv_at hl 3 rfl) ?_
  refine pc_V (As := [.ref pt, .ref r, .long (eL fr), .int (nI M)]) (rest := []) (r := some (.int ((wk far j t N M 0 P).2))) C (c_share (S := S) (bb := bb) (p0 := p0) hG hc hh hp hg hV hI hbb h14 hpo2 hpt htk hhas hq9 hqp hM hfar hfr) tm_529 tm_531 tm_890 tm_9 tm_532 hdX0_share ⟨Nat.le_of_ble_eq_true rfl, Nat.le_of_ble_eq_true rfl⟩ (rcv_0 C hP hc.1.1 hc.1.2) hl.1 rfl (Nat.le_of_ble_eq_true rfl) dX0_advance_27 ⟨Nat.le_of_ble_eq_true rfl, Nat.le_of_ble_eq_true rfl⟩ hP hD hS (fun S1 H locs hQ hP hD hS => ?_)
  exact ct_iret C hS hP hD (⟨rfl, _, rfl, hQ⟩) (Nat.le_of_ble_eq_true rfl) (Nat.le_of_ble_eq_true rfl) dX0_advance_30
