/-! ===== the class: the whole object, where it does not throw ===== -/
/-- the object x: its ring r, its arrays ca and pa, its n consumers at A1 -/
def plA (S : Mem) (x r ca pa n : Nat) (A1 : Nat → Nat) : Prop := (x ∈ mL S ∧ mK S x = 7) ∧ (mR S 0 x = some r ∧ mR S 1 x = some ca ∧ mR S 2 x = some pa) ∧ (ca ∈ mL S ∧ mK S ca = 15 ∧ mN S ca = 8) ∧ (pa ∈ mL S ∧ mK S pa = 16 ∧ mN S pa = 2) ∧ mI S 3 x = nI n ∧ n ≤ 8 ∧ ∀ j, j < n → maR S ca j = some (A1 j) ∧ A1 j ∈ mL S ∧ mK S (A1 j) = 0
def bC (bits : Int32) (i : Nat) : Int32 := (bits.toUInt32 >>> ((nI i).toUInt32 &&& Int32.toUInt32 31)).toInt32 &&& 1
/-- the least place of those whose bits are set -/
def lpN (av : Nat) (pl : Nat → Nat) (bits : Int32) : Nat → Nat
  | 0 => av
  | i + 1 => if bC bits i = 0 then lpN av pl bits i else if pl i < lpN av pl bits i then pl i else lpN av pl bits i
theorem lpN_le {av : Nat} {pl : Nat → Nat} {bits : Int32} : ∀ i, lpN av pl bits i ≤ av
  | 0 => Nat.le_refl _
  | i + 1 => by
    have := lpN_le (av := av) (pl := pl) (bits := bits) i
    rw [lpN]
    split
    · exact this
    split
    · omega
    · exact this
theorem mnL_E {x z : Nat} (hx : x < 2 ^ 31) (hz : z < 2 ^ 31) : mnL (eL x) (eL z) = eL (if z < x then z else x) := by
  unfold mnL
  by_cases h : z < x
  · rw [if_pos h, if_pos ((eL_lt (by omega) (by omega)).mpr h)]
  · rw [if_neg h, if_neg (fun q => h ((eL_lt (by omega) (by omega)).mp q))]
theorem w8_1 {l : Launch} {s0 : State} {D : va_G} {cA : Nat → ClassId} (hG : cx_G l s0 D cA) (v lo hi : Int32) (h : lo ≤ v ∧ v ≤ hi) : Ct l s0 D yX8_isWithin (.code yX8_isWithin cX8_isWithin 3 (some .boolean) :: TB) rmX8_isWithin [.int v, .int lo, .int hi] [] (fun rv rw => rv = some (.int 1) ∧ rw = []) := by
  have := k_isWithin (ad := fun x => x) hG v lo hi
  rw [bw_y h] at this
  exact this
theorem w8_0 {l : Launch} {s0 : State} {D : va_G} {cA : Nat → ClassId} (hG : cx_G l s0 D cA) (v lo hi : Int32) (h : ¬ (lo ≤ v ∧ v ≤ hi)) : Ct l s0 D yX8_isWithin (.code yX8_isWithin cX8_isWithin 3 (some .boolean) :: TB) rmX8_isWithin [.int v, .int lo, .int hi] [] (fun rv rw => rv = some (.int 0) ∧ rw = []) := by
  have := k_isWithin (ad := fun x => x) hG v lo hi
  rw [bw_n h] at this
  exact this
/-- consumer j answers that it has reached y -/
def RE (l : Launch) (s0 : State) (D : va_G) (cA : Nat → ClassId) (S : Mem) (a y : Nat) : Prop := PC l s0 D cA yX0_reached cX0_reached 1 (some .long) rmX0_reached [.ref a] S (some (.long (eL y))) (fun S1 => S1 = S)
section Pl1
variable {p : Program} {l : Launch} {e : Env} {R : Room} {s : State} {m : MethodId} {args : Array Value} {below : List Frame} {meth : Method} {c : Code} {H : Heap} {locs : List Loc} {cells slots : Nat} {Q : State → Prop}
variable {s0 : State} {D : va_G} {cA : Nat → ClassId} {A : Nat → Prop} {ad : Nat → Nat}
set_option maxRecDepth 100000 in
theorem lp_least (C : cx_C p l s m args meth c s0 D cA cX8_leastPlace 6 (some .long) RX8 A) (hG : cx_G l s0 D cA) {S : Mem} {x r ca pa n v g u N : Nat} {A1 : Nat → Nat} {av : Nat} {pl : Nat → Nat} {bits : Int32} (h : plA S x r ca pa n A1) (hg : rgA S r v g u N) (hav : av ≤ 9000) (hr : ∀ j, j < n → RE l s0 D cA S (A1 j) (pl j) ∧ pl j ≤ 9000) (hR0 : rmX0_reached.frames + 1 ≤ R.frames ∧ 8 + (1 + 11) + rmX0_reached.locals ≤ R.locals) (hC0 : cells + rmX0_reached.cells ≤ R.cells ∧ slots + rmX0_reached.slots ≤ R.slots) (hf1 : 1 ≤ R.frames) (hf2 : 15 ≤ R.locals) (hf3 : cells ≤ R.cells) (hf4 : slots ≤ R.slots) 
    (kk : ∀ (H : Heap) (locs : List Loc) (ls : Array Slot), va_P D vwCl (pW cA S) H → va_D A (pW cA S) → va_S A s.heap H locs → lv_has ls 6 [(2, .long (eL (lpN av pl bits n)))] → W p l e R s m args below meth c H locs cells slots Q (F0 m 59 ls [])) :
    ∀ d i : Nat, i + d = n → ∀ (H : Heap) (locs : List Loc) (ls : Array Slot), va_P D vwCl (pW cA S) H → va_D A (pW cA S) → va_S A s.heap H locs → lv_has ls 6 [(4, .int (nI i)), (2, .long (eL (lpN av pl bits i))), (0, .ref x), (1, .int bits)] → W p l e R s m args below meth c H locs cells slots Q (F0 m 11 ls []) := by
  have hx := cx_x C
  have hb := cx_b C
  have hn8 := h.2.2.2.2.2.1
  intro d
  induction d with
  | zero =>
    intro i hi H locs ls hP hD hS hl
    have hi : i = n := hi
    subst hi
    refine lv_iload hx hb dX8_leastPlace_11 (lv_at hl 0 rfl) ?_
    refine lv_aload_n hx hb dX8_leastPlace_13 rfl (lv_at hl 2 rfl) ?_
    refine gv_8_3 (v := nI i) C hP h.1.1 h.1.2 (h.2.2.2.2.1) tm_61 dX8_leastPlace_14 ?_
    refine lv_icmp_ge (tgt := 59) hx hb dX8_leastPlace_17 (by decide) (fun _ => ?_) (fun h9 => absurd (Int32.le_refl _) h9)
    exact kk H locs ls hP hD hS (lv_sub hl [1] rfl)
  | succ d ih =>
    intro i hi H locs ls hP hD hS hl
    have hl9 := lpN_le (av := av) (pl := pl) (bits := bits) i
    refine lv_iload hx hb dX8_leastPlace_11 (lv_at hl 0 rfl) ?_
    refine lv_aload_n hx hb dX8_leastPlace_13 rfl (lv_at hl 2 rfl) ?_
    refine gv_8_3 (v := nI n) C hP h.1.1 h.1.2 (h.2.2.2.2.1) tm_61 dX8_leastPlace_14 ?_
    refine lv_icmp_ge (tgt := 59) hx hb dX8_leastPlace_17 (by decide) (fun h9 => absurd h9 (nI_ge (by omega) (by omega))) (fun _ => ?_)
    refine lv_aload_n hx hb dX8_leastPlace_20 rfl (lv_at hl 2 rfl) ?_
    refine gf_8_1s (b := ca) C hP h.1.1 h.1.2 (h.2.1.2.1) tm_59 dX8_leastPlace_21 ?_
    refine lv_iload hx hb dX8_leastPlace_24 (lv_at hl 0 rfl) ?_
    refine av_Cs (j := i) (b := (A1 i)) C hP h.2.2.1.1 h.2.2.1.2.1 (ixN h.2.2.1.2.2 (ix_nI (by omega) (by decide))) ((h.2.2.2.2.2.2 i (by omega)).1) dX8_leastPlace_26 ?_
    refine lv_astore (lv' := [(5, .ref (A1 i)), (4, .int (nI i)), (2, .long (eL (lpN av pl bits i))), (0, .ref x), (1, .int bits)]) hx hb dX8_leastPlace_27 hl (by decide) rfl (fun ls hl => ?_)
    refine lv_aload hx hb dX8_leastPlace_29 (lv_at hl 0 rfl) ?_
    refine lv_ifnull hx hb dX8_leastPlace_31 ?_
    refine lv_iload_n hx hb dX8_leastPlace_34 rfl (lv_at hl 4 rfl) ?_
    refine lv_iload hx hb dX8_leastPlace_35 (lv_at hl 1 rfl) ?_
    refine lv_iushr (v := (bits.toUInt32 >>> ((nI i).toUInt32 &&& Int32.toUInt32 31)).toInt32) hx hb dX8_leastPlace_37 rfl ?_
    refine lv_iconst (v := 1) hx hb dX8_leastPlace_38 (by decide) ?_
    refine lv_iand hx hb dX8_leastPlace_39 ?_
    refine lv_if_eq (tgt := 53) hx hb dX8_leastPlace_40 (by decide) (fun cb => ?_) (fun cb => ?_)
    · have cb : bC bits i = 0 := cb
      refine lv_iinc (v := nI i + 1) (lv' := [(4, .int (nI i + 1)), (5, .ref (A1 i)), (2, .long (eL (lpN av pl bits i))), (0, .ref x), (1, .int bits)]) hx hb dX8_leastPlace_53 hl (k := 1) rfl (by first | rfl | decide) (by decide) rfl (fun ls hl => ?_)
      refine lv_goto (tgt := 11) hx hb dX8_leastPlace_56 (by decide) ?_
      rw [nI_1] at hl
      exact ih (i + 1) (by omega) H locs ls hP hD hS (by rw [lpN, if_pos cb]; exact (lv_sub hl [0, 2, 3, 4] rfl))
    have cb : ¬ bC bits i = 0 := cb
    refine lv_lload_n hx hb dX8_leastPlace_43 rfl (lv_at hl 2 rfl) ?_
    refine lv_aload hx hb dX8_leastPlace_44 (lv_at hl 0 rfl) ?_
    refine pc_V (As := []) (rest := [.long (eL (lpN av pl bits i))]) (r := some (.long (eL (pl i)))) C ((hr i (by omega)).1) tm_369 tm_370 tm_371 tm_9 tm_372 hdX0_reached hR0 (rcv_0 C hP (h.2.2.2.2.2.2 i (by omega)).2.1 (h.2.2.2.2.2.2 i (by omega)).2.2) hl.1 rfl (Nat.le_of_ble_eq_true rfl) dX8_leastPlace_46 hC0 hP hD hS (fun S1 H locs hQ hP hD hS => ?_)
    rw [hQ] at hP hD
    refine ct_min C hl.1 tm_381 (hf1) (hf2) (hf3) (hf4) dX8_leastPlace_49 ?_
    refine lv_lstore_n (lv' := [(2, .long (mnL (eL (lpN av pl bits i)) (eL (pl i)))), (5, .ref (A1 i)), (4, .int (nI i)), (0, .ref x), (1, .int bits)]) hx hb dX8_leastPlace_52 rfl hl (by decide) rfl (fun ls hl => ?_)
    refine lv_iinc (v := nI i + 1) (lv' := [(4, .int (nI i + 1)), (2, .long (mnL (eL (lpN av pl bits i)) (eL (pl i)))), (5, .ref (A1 i)), (0, .ref x), (1, .int bits)]) hx hb dX8_leastPlace_53 hl (k := 2) rfl (by first | rfl | decide) (by decide) rfl (fun ls hl => ?_)
    refine lv_goto (tgt := 11) hx hb dX8_leastPlace_56 (by decide) ?_
    rw [nI_1] at hl
    have hp9 := (hr i (by omega)).2
    rw [mnL_E (by omega) (by omega)] at hl
    exact ih (i + 1) (by omega) H locs ls hP hD hS (by rw [lpN, if_neg cb]; exact (lv_sub hl [0, 1, 3, 4] rfl))
end Pl1
abbrev rmX8_leastPlace : Room := { frames := 3, cells := 0, slots := 0, locals := 58 }
set_option maxRecDepth 100000 in
theorem c_least {l : Launch} {s0 : State} {D : va_G} {cA : Nat → ClassId} (hG : cx_G l s0 D cA) {S : Mem} {x r ca pa n v g u N : Nat} {A1 : Nat → Nat} {av : Nat} {pl : Nat → Nat} (bits : Int32)  (h : plA S x r ca pa n A1) (hg : rgA S r v g u N) (hav : mJ S 4 r = eL av) (hav9 : av ≤ 9000) (hr : ∀ j, j < n → RE l s0 D cA S (A1 j) (pl j) ∧ pl j ≤ 9000) : PC l s0 D cA yX8_leastPlace cX8_leastPlace 6 (some .long) rmX8_leastPlace [.ref x, .int bits] S (some (.long (eL (lpN av pl bits n)))) (fun S1 => S1 = S) := by
  refine Ct.of (cA := cA) hG (by decide +kernel) (Nat.le_of_ble_eq_true rfl) ?_
  intro p e s m below meth c A C hnm hP hD hS ls hl
  have hx := cx_x C
  have hb := cx_b C
  have hl : lv_has ls 6 [(0, .ref x), (1, .int bits)] := hl
  refine lv_aload_n hx hb dX8_leastPlace_0 rfl (lv_at hl 0 rfl) ?_
  refine gf_8_0s (b := r) C hP h.1.1 h.1.2 (h.2.1.1) tm_58 dX8_leastPlace_1 ?_
  refine gv_5_4 (v := eL av) C hP hg.1.1 hg.1.2 (hav) tm_44 dX8_leastPlace_4 ?_
  refine lv_lstore_n (lv' := [(2, .long (eL av)), (0, .ref x), (1, .int bits)]) hx hb dX8_leastPlace_7 rfl hl (by decide) rfl (fun ls hl => ?_)
  refine lv_iconst (v := 0) hx hb dX8_leastPlace_8 (by decide) ?_
  refine lv_istore (lv' := [(4, .int 0), (2, .long (eL av)), (0, .ref x), (1, .int bits)]) hx hb dX8_leastPlace_9 hl (by decide) rfl (fun ls hl => ?_)
  refine lp_least (R := rmX8_leastPlace) (pl := pl) C hG h hg hav9 hr ⟨Nat.le_of_ble_eq_true rfl, Nat.le_of_ble_eq_true rfl⟩ ⟨Nat.le_of_ble_eq_true rfl, Nat.le_of_ble_eq_true rfl⟩ (Nat.le_of_ble_eq_true rfl) (Nat.le_of_ble_eq_true rfl) (Nat.le_of_ble_eq_true rfl) (Nat.le_of_ble_eq_true rfl) (fun H locs ls hP hD hS hl => ?_) n 0 (by omega) _ _ ls hP hD hS (lv_sub hl [0, 1, 2, 3] rfl)
  refine lv_lload_n hx hb dX8_leastPlace_59 rfl (lv_at hl 0 rfl) ?_
  exact ct_lret C hS hP hD (⟨rfl, _, rfl, rfl⟩) (Nat.le_of_ble_eq_true rfl) (Nat.le_of_ble_eq_true rfl) dX8_leastPlace_60
abbrev rmX8_lastInLine : Room := { frames := 0, cells := 0, slots := 0, locals := 0 }
set_option maxRecDepth 100000 in
theorem c_last {l : Launch} {s0 : State} {D : va_G} {cA : Nat → ClassId} (hG : cx_G l s0 D cA) {S : Mem} {x r ca pa n : Nat} {A1 : Nat → Nat} {hu : Int32}  (h : plA S x r ca pa n A1) (hhu : mI S 4 x = hu) : PC l s0 D cA yX8_lastInLine cX8_lastInLine 1 (some .int) rmX8_lastInLine [.ref x] S (some (.int ((1 <<< (nI n &&& 31) - 1) &&& (hu ^^^ (-1))))) (fun S1 => S1 = S) := by
  refine Ct.of (cA := cA) hG (by decide +kernel) (Nat.le_of_ble_eq_true rfl) ?_
  intro p e s m below meth c A C hnm hP hD hS ls hl
  have hx := cx_x C
  have hb := cx_b C
  have hl : lv_has ls 1 [(0, .ref x)] := hl
  refine lv_iconst (v := 1) hx hb dX8_lastInLine_0 (by decide) ?_
  refine lv_aload_n hx hb dX8_lastInLine_1 rfl (lv_at hl 0 rfl) ?_
  refine gv_8_3 (v := nI n) C hP h.1.1 h.1.2 (h.2.2.2.2.1) tm_61 dX8_lastInLine_2 ?_
  refine lv_ishl hx hb dX8_lastInLine_5 ?_
  refine lv_iconst (v := 1) hx hb dX8_lastInLine_6 (by decide) ?_
  refine lv_isub hx hb dX8_lastInLine_7 ?_
  refine lv_aload_n hx hb dX8_lastInLine_8 rfl (lv_at hl 0 rfl) ?_
  refine gv_8_4 (v := hu) C hP h.1.1 h.1.2 (hhu) tm_62 dX8_lastInLine_9 ?_
  refine lv_iconst (v := (-1)) hx hb dX8_lastInLine_12 (by decide) ?_
  refine lv_ixor hx hb dX8_lastInLine_13 ?_
  refine lv_iand hx hb dX8_lastInLine_14 ?_
  exact ct_iret C hS hP hD (⟨rfl, _, rfl, rfl⟩) (Nat.le_of_ble_eq_true rfl) (Nat.le_of_ble_eq_true rfl) dX8_lastInLine_15
abbrev rmX8_existing : Room := { frames := 1, cells := 0, slots := 0, locals := 22 }
set_option maxRecDepth 100000 in
theorem c_exist {l : Launch} {s0 : State} {D : va_G} {cA : Nat → ClassId} (hG : cx_G l s0 D cA) {S : Mem} {x r ca pa n : Nat} {A1 : Nat → Nat} {j : Nat}  (h : plA S x r ca pa n A1) (hj : j < n) : PC l s0 D cA yX8_existing cX8_existing 3 (some (.object "RingPipeline$Consumer")) rmX8_existing [.ref x, .int (nI j)] S (some (.ref (A1 j))) (fun S1 => S1 = S) := by
  refine Ct.of (cA := cA) hG (by decide +kernel) (Nat.le_of_ble_eq_true rfl) ?_
  intro p e s m below meth c A C hnm hP hD hS ls hl
  have hx := cx_x C
  have hb := cx_b C
  have hl : lv_has ls 3 [(0, .ref x), (1, .int (nI j))] := hl
  refine lv_iload_n hx hb dX8_existing_0 rfl (lv_at hl 1 rfl) ?_
  refine lv_iconst (v := 0) hx hb dX8_existing_1 (by decide) ?_
  refine lv_aload_n hx hb dX8_existing_2 rfl (lv_at hl 0 rfl) ?_
  refine gv_8_3 (v := nI n) C hP h.1.1 h.1.2 (h.2.2.2.2.1) tm_61 dX8_existing_3 ?_
  refine lv_iconst (v := 1) hx hb dX8_existing_6 (by decide) ?_
  refine lv_isub hx hb dX8_existing_7 ?_
  refine ct_S0 (As := [.int (nI j), .int 0, .int ((nI n) - 1)]) (rest := []) (r := some (.int 1)) C (w8_1 hG _ _ _ (wi_ok hj h.2.2.2.2.2.1)) tm_93 tm_94 tm_1 tm_95 hdX8_isWithin.2 ⟨Nat.le_of_ble_eq_true rfl, Nat.le_of_ble_eq_true rfl⟩ hl.1 rfl (Nat.le_of_ble_eq_true rfl) dX8_existing_8 ⟨Nat.le_of_ble_eq_true rfl, Nat.le_of_ble_eq_true rfl⟩ hP hD hS (fun H locs hP hD hS => ?_)
  refine lv_if_eq (tgt := 23) hx hb dX8_existing_11 (by decide) (fun h9 => absurd h9 (by decide)) (fun _ => ?_)
  refine lv_aload_n hx hb dX8_existing_14 rfl (lv_at hl 0 rfl) ?_
  refine gf_8_1s (b := ca) C hP h.1.1 h.1.2 (h.2.1.2.1) tm_59 dX8_existing_15 ?_
  refine lv_iload_n hx hb dX8_existing_18 rfl (lv_at hl 1 rfl) ?_
  refine av_Cs (j := j) (b := (A1 j)) C hP h.2.2.1.1 h.2.2.1.2.1 (ixN h.2.2.1.2.2 (ix_nI (Nat.lt_of_lt_of_le hj h.2.2.2.2.2.1) (by decide))) ((h.2.2.2.2.2.2 j (hj)).1) dX8_existing_19 ?_
  refine lv_goto (tgt := 24) hx hb dX8_existing_20 (by decide) ?_
  refine lv_astore_n (lv' := [(2, .ref (A1 j)), (0, .ref x), (1, .int (nI j))]) hx hb dX8_existing_24 rfl hl (by decide) rfl (fun ls hl => ?_)
  refine lv_aload_n hx hb dX8_existing_25 rfl (lv_at hl 0 rfl) ?_
  refine lv_ifnonnull (tgt := 39) hx hb dX8_existing_26 (by decide) ?_
  refine lv_aload_n hx hb dX8_existing_39 rfl (lv_at hl 0 rfl) ?_
  exact ct_aret (r := some (A1 j)) C hS hP hD (⟨rfl, _, rfl, rfl⟩) (Nat.le_of_ble_eq_true rfl) (Nat.le_of_ble_eq_true rfl) dX8_existing_40
abbrev rmX8_place : Room := { frames := 3, cells := 0, slots := 0, locals := 58 }
set_option maxRecDepth 100000 in
theorem c_Place {l : Launch} {s0 : State} {D : va_G} {cA : Nat → ClassId} (hG : cx_G l s0 D cA) {S : Mem} {x r ca pa n : Nat} {A1 : Nat → Nat} {j y : Nat}  (h : plA S x r ca pa n A1) (hj : j < n) (hr : RE l s0 D cA S (A1 j) y) : PC l s0 D cA yX8_place cX8_place 2 (some .long) rmX8_place [.ref x, .int (nI j)] S (some (.long (eL y))) (fun S1 => S1 = S) := by
  refine Ct.of (cA := cA) hG (by decide +kernel) (Nat.le_of_ble_eq_true rfl) ?_
  intro p e s m below meth c A C hnm hP hD hS ls hl
  have hx := cx_x C
  have hb := cx_b C
  have hl : lv_has ls 2 [(0, .ref x), (1, .int (nI j))] := hl
  refine lv_aload_n hx hb dX8_place_0 rfl (lv_at hl 0 rfl) ?_
  refine lv_iload_n hx hb dX8_place_1 rfl (lv_at hl 1 rfl) ?_
  refine pc_V (As := [.int (nI j)]) (rest := []) (r := some (.ref (A1 j))) C (c_exist (S := S) hG h hj) tm_430 tm_432 tm_882 tm_1 tm_433 hdX8_existing ⟨Nat.le_of_ble_eq_true rfl, Nat.le_of_ble_eq_true rfl⟩ (rcv_8 C hP h.1.1 h.1.2) hl.1 rfl (Nat.le_of_ble_eq_true rfl) dX8_place_2 ⟨Nat.le_of_ble_eq_true rfl, Nat.le_of_ble_eq_true rfl⟩ hP hD hS (fun S1 H locs hQ hP hD hS => ?_)
  rw [hQ] at hP hD
  refine pc_V (As := []) (rest := []) (r := some (.long (eL y))) C (hr) tm_369 tm_370 tm_371 tm_9 tm_372 hdX0_reached ⟨Nat.le_of_ble_eq_true rfl, Nat.le_of_ble_eq_true rfl⟩ (rcv_0 C hP (h.2.2.2.2.2.2 j (hj)).2.1 (h.2.2.2.2.2.2 j (hj)).2.2) hl.1 rfl (Nat.le_of_ble_eq_true rfl) dX8_place_5 ⟨Nat.le_of_ble_eq_true rfl, Nat.le_of_ble_eq_true rfl⟩ hP hD hS (fun S2 H locs hQ hP hD hS => ?_)
  rw [hQ] at hP hD
  exact ct_lret C hS hP hD (⟨rfl, _, rfl, rfl⟩) (Nat.le_of_ble_eq_true rfl) (Nat.le_of_ble_eq_true rfl) dX8_place_8
abbrev rmX8_replayed : Room := { frames := 0, cells := 0, slots := 0, locals := 0 }
set_option maxRecDepth 100000 in
theorem c_replayed {l : Launch} {s0 : State} {D : va_G} {cA : Nat → ClassId} (hG : cx_G l s0 D cA) {S : Mem} {x r ca pa n : Nat} {A1 : Nat → Nat} {q : Int64}  (h : plA S x r ca pa n A1) (hq : mJ S 5 x = q) : PC l s0 D cA yX8_replayed cX8_replayed 1 (some .long) rmX8_replayed [.ref x] S (some (.long q)) (fun S1 => S1 = S) := by
  refine Ct.of (cA := cA) hG (by decide +kernel) (Nat.le_of_ble_eq_true rfl) ?_
  intro p e s m below meth c A C hnm hP hD hS ls hl
  have hx := cx_x C
  have hb := cx_b C
  have hl : lv_has ls 1 [(0, .ref x)] := hl
  refine lv_aload_n hx hb dX8_replayed_0 rfl (lv_at hl 0 rfl) ?_
  refine gv_8_5 (v := q) C hP h.1.1 h.1.2 (hq) tm_63 dX8_replayed_1 ?_
  exact ct_lret C hS hP hD (⟨rfl, _, rfl, rfl⟩) (Nat.le_of_ble_eq_true rfl) (Nat.le_of_ble_eq_true rfl) dX8_replayed_4
abbrev rmX8_claim : Room := { frames := 4, cells := 0, slots := 0, locals := 83 }
set_option maxRecDepth 100000 in
theorem c_claim {l : Launch} {s0 : State} {D : va_G} {cA : Nat → ClassId} (hG : cx_G l s0 D cA) {S : Mem} {x r ca pa n v g u N : Nat} {A1 : Nat → Nat} {hu k : Int32} {cu M av : Nat} {pl : Nat → Nat}  (h : plA S x r ca pa n A1) (hg : rgA S r v g u N) (hhu : mI S 4 x = hu) (hav : mJ S 4 r = eL av) (hav9 : av ≤ 9000) (hr : ∀ j, j < n → RE l s0 D cA S (A1 j) (pl j) ∧ pl j ≤ 9000) (hcu : mJ S 3 r = eL cu) (hc9 : cu ≤ 10000) (hM : M ≤ 16) (h1 : (0 : Int32) ≤ k ∧ k ≤ 3) (h2 : (1 : Int32) ≤ nI M ∧ nI M ≤ nI N) (hroom : eL cu + (nI M).toInt64 - (nI N).toInt64 ≤ eL (lpN av pl ((1 <<< (nI n &&& 31) - 1) &&& (hu ^^^ (-1))) n)) : PC l s0 D cA yX8_claim cX8_claim 3 (some .long) rmX8_claim [.ref x, .int k, .int (nI M)] S (some (.long (lN cu))) (fun S1 => S1 = uJ (gsL S g N cu k M) 3 r (eL cu + lN M)) := by
  refine Ct.of (cA := cA) hG (by decide +kernel) (Nat.le_of_ble_eq_true rfl) ?_
  intro p e s m below meth c A C hnm hP hD hS ls hl
  have hx := cx_x C
  have hb := cx_b C
  have hl : lv_has ls 3 [(0, .ref x), (1, .int k), (2, .int (nI M))] := hl
  refine lv_iload_n hx hb dX8_claim_0 rfl (lv_at hl 1 rfl) ?_
  refine lv_iconst (v := 0) hx hb dX8_claim_1 (by decide) ?_
  refine lv_iconst (v := 3) hx hb dX8_claim_2 (by decide) ?_
  refine ct_S0 (As := [.int k, .int 0, .int 3]) (rest := []) (r := some (.int 1)) C (w8_1 hG _ _ _ (h1)) tm_93 tm_94 tm_1 tm_95 hdX8_isWithin.2 ⟨Nat.le_of_ble_eq_true rfl, Nat.le_of_ble_eq_true rfl⟩ hl.1 rfl (Nat.le_of_ble_eq_true rfl) dX8_claim_3 ⟨Nat.le_of_ble_eq_true rfl, Nat.le_of_ble_eq_true rfl⟩ hP hD hS (fun H locs hP hD hS => ?_)
  refine lv_if_eq (tgt := 24) hx hb dX8_claim_6 (by decide) (fun h9 => absurd h9 (by decide)) (fun _ => ?_)
  refine lv_iload_n hx hb dX8_claim_9 rfl (lv_at hl 2 rfl) ?_
  refine lv_iconst (v := 1) hx hb dX8_claim_10 (by decide) ?_
  refine lv_aload_n hx hb dX8_claim_11 rfl (lv_at hl 0 rfl) ?_
  refine gf_8_0s (b := r) C hP h.1.1 h.1.2 (h.2.1.1) tm_58 dX8_claim_12 ?_
  refine pc_V (As := []) (rest := [.int 1, .int (nI M)]) (r := some (.int (nI N))) C (c_slots (S := S) (N := N) hG hg) tm_356 tm_357 tm_358 tm_2 tm_359 hdX5_slots ⟨Nat.le_of_ble_eq_true rfl, Nat.le_of_ble_eq_true rfl⟩ (rcv_5 C hP hg.1.1 hg.1.2) hl.1 rfl (Nat.le_of_ble_eq_true rfl) dX8_claim_15 ⟨Nat.le_of_ble_eq_true rfl, Nat.le_of_ble_eq_true rfl⟩ hP hD hS (fun S1 H locs hQ hP hD hS => ?_)
  rw [hQ] at hP hD
  refine ct_S0 (As := [.int (nI M), .int 1, .int (nI N)]) (rest := []) (r := some (.int 1)) C (w8_1 hG _ _ _ (h2)) tm_93 tm_94 tm_1 tm_95 hdX8_isWithin.2 ⟨Nat.le_of_ble_eq_true rfl, Nat.le_of_ble_eq_true rfl⟩ hl.1 rfl (Nat.le_of_ble_eq_true rfl) dX8_claim_18 ⟨Nat.le_of_ble_eq_true rfl, Nat.le_of_ble_eq_true rfl⟩ hP hD hS (fun H locs hP hD hS => ?_)
  refine lv_if_ne (tgt := 34) hx hb dX8_claim_21 (by decide) (fun _ => ?_) (fun h9 => absurd h9 (by decide))
  refine lv_aload_n hx hb dX8_claim_34 rfl (lv_at hl 0 rfl) ?_
  refine gf_8_0s (b := r) C hP h.1.1 h.1.2 (h.2.1.1) tm_58 dX8_claim_35 ?_
  refine gv_5_3 (v := eL cu) C hP hg.1.1 hg.1.2 (hcu) tm_42 dX8_claim_38 ?_
  refine lv_iload_n hx hb dX8_claim_41 rfl (lv_at hl 2 rfl) ?_
  refine lv_i2l (v := (nI M).toInt64) hx hb dX8_claim_42 rfl ?_
  refine lv_ladd hx hb dX8_claim_43 ?_
  refine lv_aload_n hx hb dX8_claim_44 rfl (lv_at hl 0 rfl) ?_
  refine gf_8_0s (b := r) C hP h.1.1 h.1.2 (h.2.1.1) tm_58 dX8_claim_45 ?_
  refine pc_V (As := []) (rest := [.long ((eL cu) + ((nI M).toInt64))]) (r := some (.int (nI N))) C (c_slots (S := S) (N := N) hG hg) tm_356 tm_357 tm_358 tm_2 tm_359 hdX5_slots ⟨Nat.le_of_ble_eq_true rfl, Nat.le_of_ble_eq_true rfl⟩ (rcv_5 C hP hg.1.1 hg.1.2) hl.1 rfl (Nat.le_of_ble_eq_true rfl) dX8_claim_48 ⟨Nat.le_of_ble_eq_true rfl, Nat.le_of_ble_eq_true rfl⟩ hP hD hS (fun S2 H locs hQ hP hD hS => ?_)
  rw [hQ] at hP hD
  refine lv_i2l (v := (nI N).toInt64) hx hb dX8_claim_51 rfl ?_
  refine lv_lsub hx hb dX8_claim_52 ?_
  refine lv_aload_n hx hb dX8_claim_53 rfl (lv_at hl 0 rfl) ?_
  refine lv_aload_n hx hb dX8_claim_54 rfl (lv_at hl 0 rfl) ?_
  refine pc_V (As := []) (rest := [.ref x, .long (((eL cu) + ((nI M).toInt64)) - ((nI N).toInt64))]) (r := some (.int ((1 <<< (nI n &&& 31) - 1) &&& (hu ^^^ (-1))))) C (c_last (S := S) hG h hhu) tm_361 tm_363 tm_880 tm_1 tm_364 hdX8_lastInLine ⟨Nat.le_of_ble_eq_true rfl, Nat.le_of_ble_eq_true rfl⟩ (rcv_8 C hP h.1.1 h.1.2) hl.1 rfl (Nat.le_of_ble_eq_true rfl) dX8_claim_55 ⟨Nat.le_of_ble_eq_true rfl, Nat.le_of_ble_eq_true rfl⟩ hP hD hS (fun S3 H locs hQ hP hD hS => ?_)
  rw [hQ] at hP hD
  refine pc_V (As := [.int ((1 <<< (nI n &&& 31) - 1) &&& (hu ^^^ (-1)))]) (rest := [.long (((eL cu) + ((nI M).toInt64)) - ((nI N).toInt64))]) (r := some (.long (eL (lpN av pl ((1 <<< (nI n &&& 31) - 1) &&& (hu ^^^ (-1))) n)))) C (c_least (S := S) (pl := pl) hG _ h hg hav hav9 hr) tm_365 tm_367 tm_881 tm_1 tm_368 hdX8_leastPlace ⟨Nat.le_of_ble_eq_true rfl, Nat.le_of_ble_eq_true rfl⟩ (rcv_8 C hP h.1.1 h.1.2) hl.1 rfl (Nat.le_of_ble_eq_true rfl) dX8_claim_58 ⟨Nat.le_of_ble_eq_true rfl, Nat.le_of_ble_eq_true rfl⟩ hP hD hS (fun S4 H locs hQ hP hD hS => ?_)
  rw [hQ] at hP hD
  refine W.lcmp hx hb dX8_claim_61 ?_
  refine lv_if_le (tgt := 75) hx hb dX8_claim_62 (by decide) (fun _ => ?_) (fun h9 => absurd ((lg_cmp_le ..).mpr hroom) h9)
  refine lv_aload_n hx hb dX8_claim_75 rfl (lv_at hl 0 rfl) ?_
  refine gf_8_0s (b := r) C hP h.1.1 h.1.2 (h.2.1.1) tm_58 dX8_claim_76 ?_
  refine lv_iload_n hx hb dX8_claim_79 rfl (lv_at hl 1 rfl) ?_
  refine lv_iload_n hx hb dX8_claim_80 rfl (lv_at hl 2 rfl) ?_
  refine pc_V (As := [.int k, .int (nI M)]) (rest := []) (r := some (.long (lN cu))) C (c_reserve (S := S) (cu := cu) (M := M) hG _ hg hcu hc9 hM) tm_383 tm_384 tm_385 tm_2 tm_386 hdX5_reserve ⟨Nat.le_of_ble_eq_true rfl, Nat.le_of_ble_eq_true rfl⟩ (rcv_5 C hP hg.1.1 hg.1.2) hl.1 rfl (Nat.le_of_ble_eq_true rfl) dX8_claim_81 ⟨Nat.le_of_ble_eq_true rfl, Nat.le_of_ble_eq_true rfl⟩ hP hD hS (fun S5 H locs hQ hP hD hS => ?_)
  rw [hQ] at hP hD
  exact ct_lret C hS hP hD (⟨rfl, _, rfl, rfl⟩) (Nat.le_of_ble_eq_true rfl) (Nat.le_of_ble_eq_true rfl) dX8_claim_84
