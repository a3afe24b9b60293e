/-! ===== the reference: its bytes, its handlers, its answers to a throw ===== -/
theorem nI_k {a b : Nat} {x : Int32} (h : x = nI b) : nI a + x = nI (a + b) := by rw [h, nI_add]
theorem ix_rem {s sl : Nat} {y : Int32} (hy : y = nI sl) (h0 : 0 < sl) (h1 : sl ≤ 16) (hs : s < 2 ^ 31) : ix (nI s - nI s / y * y) 16 (s % sl) := by
  subst hy
  rw [pk_rem hs h0 (by omega)]
  exact ix_nI (by have := Nat.mod_lt s h0; omega) (by decide)
theorem nI_le13 {z : Nat} (h : z ≤ 400) (h7 : nI z + 13 ≤ 400) : z + 13 ≤ 400 := by
  rw [show (13 : Int32) = nI 13 by decide, nI_add, show (400 : Int32) = nI 400 by decide] at h7
  exact (nI_leI (by omega) (by omega)).mp h7
theorem ne_sl {sl : Nat} {y : Int32} (hy : y = nI sl) (h0 : 0 < sl) (h1 : sl ≤ 16) : ¬ y = 0 := by rw [hy]; exact nI_ne0 h0 (by omega)
/-- a byte more -/
def ptS (P : MS) (j z : Nat) (v : Int32) : MS := sI (sI P 26 (400 * j + z) (v &&& 255)) 25 j (nI (z + 1))
/-- the eight bytes of v, from the top -/
def pbL (j : Nat) (v : Int64) : Nat → Nat → MS → MS
  | 0, _, P => P
  | k + 1, z, P => pbL j v k (z + 1) (ptS P j z (v >>> ((8 * nI k).toInt64 &&& 63)).toInt32)
theorem pbL_25 {j : Nat} {v : Int64} : ∀ (k z : Nat) (P : MS), qI P 25 j = nI z → qI (pbL j v k z P) 25 j = nI (z + k)
  | 0, _, _, h => h
  | k + 1, z, P, _ => (pbL_25 k (z + 1) (ptS P j z (v >>> ((8 * nI k).toInt64 &&& 63)).toInt32) qI_s).trans (by rw [show z + 1 + k = z + (k + 1) by omega])
theorem pbL_S {j : Nat} {v : Int64} : ∀ (k z : Nat) (P : MS), qS (pbL j v k z P) = qS P
  | 0, _, _ => rfl
  | k + 1, z, P => pbL_S k (z + 1) _
theorem pbL_J {j : Nat} {v : Int64} : ∀ (k z : Nat) (P : MS), qJ (pbL j v k z P) = qJ P
  | 0, _, _ => rfl
  | k + 1, z, P => pbL_J k (z + 1) _
theorem pbL_6 {j : Nat} {v : Int64} : ∀ (k z : Nat) (P : MS), qI (pbL j v k z P) 6 = qI P 6
  | 0, _, _ => rfl
  | k + 1, z, P => pbL_6 k (z + 1) _
/-- the first twelve bytes of a record -/
def recA (P : MS) (j s z : Nat) (v : Int64) (g : Int32) : MS := ptS (pbL j v 8 (z + 3) (ptS (ptS (ptS P j z 13) j (z + 1) (nI s >>> ((8 : Int32) &&& 31))) j (z + 2) (nI s))) j (z + 11) g
def smF (f : Nat → Int32) (b : Nat) : Nat → Int32
  | 0 => 0
  | k + 1 => smF f b k + f (b + k)
def recS (P : MS) (j s z : Nat) (v : Int64) (g : Int32) : MS := ptS (recA P j s z v g) j (z + 12) (smF (qI (recA P j s z v g) 26) (400 * j + z) 12)
abbrev rmX9_put : Room := { frames := 0, cells := 0, slots := 0, locals := 0 }
set_option maxRecDepth 100000 in
theorem k_put {l : Launch} {s0 : State} {D : va_G} {cA : Nat → ClassId} {ad : Nat → Nat} (hG : cx_G l s0 D cA) {j z : Nat} (v : Int32) (P : MS) (hj : j < 8) (hz : qI P 25 j = nI z) (hz4 : z < 400) : MC l s0 D cA ad yX9_put cX9_put 3 none rmX9_put [.int (nI j), .int v] P (none) (ptS P j z v) := by
  refine Ct.of (cA := cA) hG (by decide +kernel) (Nat.le_of_ble_eq_true rfl) ?_
  intro p e s m below meth c A C hnm hP hD hS ls hl
  have hx := cx_x C
  have hb := cx_b C
  have hl : lv_has ls 3 [(0, .ref (ad 0)), (1, .int (nI j)), (2, .int v)] := hl
  refine lv_aload_n hx hb dX9_put_0 rfl (lv_at hl 0 rfl) ?_
  refine gm_26 C hP tm_692 dX9_put_1 ?_
  refine lv_sipush (v := 400) hx hb dX9_put_4 (by decide) ?_
  refine lv_iload_n hx hb dX9_put_7 rfl (lv_at hl 1 rfl) ?_
  refine lv_imul hx hb dX9_put_8 ?_
  refine lv_aload_n hx hb dX9_put_9 rfl (lv_at hl 0 rfl) ?_
  refine gm_25 C hP tm_691 dX9_put_10 ?_
  refine lv_iload_n hx hb dX9_put_13 rfl (lv_at hl 1 rfl) ?_
  refine xl_25 (v := qI P 25 j) (j := j) C hP (ix8 hj) (rfl) dX9_put_14 ?_
  refine lv_iadd hx hb dX9_put_15 ?_
  refine lv_iload_n hx hb dX9_put_16 rfl (lv_at hl 2 rfl) ?_
  refine lv_sipush (v := 255) hx hb dX9_put_17 (by decide) ?_
  refine lv_iand hx hb dX9_put_20 ?_
  refine xs_26 (x := v &&& 255) (j := 400 * j + z) C hP hD hS (ix_eq (by rw [hz]; exact nI_400) (by omega) (by decide)) dX9_put_21 (fun H locs hP hD hS => ?_)
  refine lv_aload_n hx hb dX9_put_22 rfl (lv_at hl 0 rfl) ?_
  refine gm_25 C hP tm_691 dX9_put_23 ?_
  refine lv_iload_n hx hb dX9_put_26 rfl (lv_at hl 1 rfl) ?_
  refine lv_dup2_11 hx hb dX9_put_27 rfl rfl ?_
  refine xl_25 (v := qI P 25 j) (j := j) C hP (ix8 hj) (rfl) dX9_put_28 ?_
  refine lv_iconst (v := 1) hx hb dX9_put_29 (by decide) ?_
  refine lv_iadd hx hb dX9_put_30 ?_
  refine xs_25 (x := (qI P 25 j) + 1) (j := j) C hP hD hS (ix8 hj) dX9_put_31 (fun H locs hP hD hS => ?_)
  exact ct_vret C hS hP hD (⟨rfl, by rw [hz, nI_1]; rfl⟩) (Nat.le_of_ble_eq_true rfl) (Nat.le_of_ble_eq_true rfl) dX9_put_32
section Loops4
variable {p : Program} {l : Launch} {e : Env} {R : Room} {s : State} {m : MethodId} {args : Array Value} {below : List Frame} {meth : Method} {c : Code} {H : Heap} {locs : List Loc} {cells slots : Nat} {Q : State → Prop}
variable {s0 : State} {D : va_G} {cA : Nat → ClassId} {A : Nat → Prop} {ad : Nat → Nat}
set_option maxRecDepth 100000 in
theorem lp_recB {T9 : MS} (C : cx_C p l s m args meth c s0 D cA cX9_record 8 none RX9 A) (hG : cx_G l s0 D cA) {j ev : Nat} {v : Int64} {b : Int32} (hj : j < 8) (hR0 : rmX9_put.frames + 1 ≤ R.frames ∧ 8 + (3 + 11) + rmX9_put.locals ≤ R.locals) (hC0 : cells + rmX9_put.cells ≤ R.cells ∧ slots + rmX9_put.slots ≤ R.slots) 
    (kk : ∀ (T : MS) (H : Heap) (locs : List Loc) (ls : Array Slot), T = T9 → va_P D vwCl (mW cA ad T) H → va_D A (mW cA ad T) → va_S A s.heap H locs → lv_has ls 8 [(0, .ref (ad 0)), (1, .int (nI j)), (2, .int (nI ev)), (3, .int b)] → W p l e R s m args below meth c H locs cells slots Q (F0 m 77 ls [])) :
    ∀ (k z : Nat) (P : MS), k ≤ 8 → z + k < 400 → qI P 25 j = nI z → pbL j v k z P = T9 → ∀ (H : Heap) (locs : List Loc) (ls : Array Slot), va_P D vwCl (mW cA ad P) H → va_D A (mW cA ad P) → va_S A s.heap H locs → lv_has ls 8 [(6, .int (nI k - 1)), (4, .long v), (0, .ref (ad 0)), (1, .int (nI j)), (2, .int (nI ev)), (3, .int b)] → W p l e R s m args below meth c H locs cells slots Q (F0 m 52 ls []) := by
  have hx := cx_x C
  have hb := cx_b C
  intro k
  induction k with
  | zero =>
    intro z P _ _ hz hT H locs ls hP hD hS hl
    refine lv_iload hx hb dX9_record_52 (lv_at hl 0 rfl) ?_
    refine lv_if_lt (tgt := 77) hx hb dX9_record_54 (by decide) (fun _ => ?_) (fun h9 => absurd (by decide +kernel) h9)
    exact kk P H locs ls hT hP hD hS (lv_sub hl [2, 3, 4, 5] rfl)
  | succ k ih =>
    intro z P hk hz4 hz hT H locs ls hP hD hS hl
    rw [nI_pred] at hl
    refine lv_iload hx hb dX9_record_52 (lv_at hl 0 rfl) ?_
    refine lv_if_lt (tgt := 77) hx hb dX9_record_54 (by decide) (fun h9 => absurd h9 (Int32.not_lt.mpr (nI_pos' (by omega)))) (fun _ => ?_)
    refine lv_aload_n hx hb dX9_record_57 rfl (lv_at hl 2 rfl) ?_
    refine lv_iload_n hx hb dX9_record_58 rfl (lv_at hl 3 rfl) ?_
    refine lv_lload hx hb dX9_record_59 (lv_at hl 1 rfl) ?_
    refine lv_bipush (v := 8) hx hb dX9_record_61 (by decide) ?_
    refine lv_iload hx hb dX9_record_63 (lv_at hl 0 rfl) ?_
    refine lv_imul hx hb dX9_record_65 ?_
    refine lv_lshr (v := v >>> ((8 * (nI k)).toInt64 &&& 63)) hx hb dX9_record_66 rfl ?_
    refine lv_l2i (v := (v >>> ((8 * (nI k)).toInt64 &&& 63)).toInt32) hx hb dX9_record_67 rfl ?_
    refine mc_V (As := [.int (nI j), .int ((v >>> ((8 * (nI k)).toInt64 &&& 63)).toInt32)]) (rest := []) (r := none) (T := ptS P j (z) ((v >>> ((8 * (nI k)).toInt64 &&& 63)).toInt32)) C (k_put (z := z) hG _ _ hj (hz) (by omega)) tm_811 tm_813 tm_902 tm_3 tm_814 rfl hdX9_put hR0 hl.1 rfl (Nat.le_of_ble_eq_true rfl) dX9_record_68 hC0 hP hD hS (fun H locs hP hD hS => ?_)
    refine lv_iinc (v := nI k + (-1)) (lv' := [(6, .int (nI k + (-1))), (4, .long v), (0, .ref (ad 0)), (1, .int (nI j)), (2, .int (nI ev)), (3, .int b)]) hx hb dX9_record_71 hl (k := 0) rfl (by first | rfl | decide) (by decide) rfl (fun ls hl => ?_)
    refine lv_goto (tgt := 52) hx hb dX9_record_74 (by decide) ?_
    rw [show nI k + (-1) = nI k - 1 from (Int32.sub_eq_add_neg ..).symm] at hl
    exact ih (z + 1) _ (by omega) (by omega) qI_s hT H locs ls hP hD hS (lv_sub hl [0, 1, 2, 3, 4, 5] rfl)
set_option maxRecDepth 100000 in
theorem lp_recS (C : cx_C p l s m args meth c s0 D cA cX9_record 8 none RX9 A) {j z : Nat} {b : Int32} {P : MS} (hj : j < 8) (hz4 : z + 13 ≤ 400) (hbz : b = nI (400 * j + z)) (hP : va_P D vwCl (mW cA ad P) H)
    (kk : ∀ ls : Array Slot, lv_has ls 8 [(6, .int (smF (qI P 26) (400 * j + z) 12)), (0, .ref (ad 0)), (1, .int (nI j))] → W p l e R s m args below meth c H locs cells slots Q (F0 m 126 ls [])) :
    ∀ d k : Nat, k + d = 12 → ∀ x : Int32, x = smF (qI P 26) (400 * j + z) k → ∀ ls : Array Slot, lv_has ls 8 [(7, .int (nI k)), (6, .int x), (0, .ref (ad 0)), (1, .int (nI j)), (3, .int b)] → W p l e R s m args below meth c H locs cells slots Q (F0 m 99 ls []) := by
  have hx := cx_x C
  have hb := cx_b C
  intro d
  induction d with
  | zero =>
    intro k hk x hx2 ls hl
    have hk : k = 12 := hk
    subst hk
    subst hx2
    refine lv_iload hx hb dX9_record_99 (lv_at hl 0 rfl) ?_
    refine lv_bipush (v := 12) hx hb dX9_record_101 (by decide) ?_
    refine lv_icmp_ge (tgt := 126) hx hb dX9_record_103 (by decide) (fun _ => ?_) (fun h9 => absurd (by decide +kernel) h9)
    exact kk ls (lv_sub hl [1, 2, 3] rfl)
  | succ d ih =>
    intro k hk x hx2 ls hl
    refine lv_iload hx hb dX9_record_99 (lv_at hl 0 rfl) ?_
    refine lv_bipush (v := 12) hx hb dX9_record_101 (by decide) ?_
    refine lv_icmp_ge (tgt := 126) hx hb dX9_record_103 (by decide) (fun h9 => absurd h9 (nI_ge (b := 12) (by omega) (by omega))) (fun _ => ?_)
    refine lv_iload hx hb dX9_record_106 (lv_at hl 1 rfl) ?_
    refine lv_aload_n hx hb dX9_record_108 rfl (lv_at hl 2 rfl) ?_
    refine gm_26 C hP tm_692 dX9_record_109 ?_
    refine lv_iload_n hx hb dX9_record_112 rfl (lv_at hl 4 rfl) ?_
    refine lv_iload hx hb dX9_record_113 (lv_at hl 0 rfl) ?_
    refine lv_iadd hx hb dX9_record_115 ?_
    refine xl_26 (v := qI P 26 (400 * j + z + k)) (j := 400 * j + z + k) C hP (ix_eq (by rw [hbz, nI_add]) (by omega) (by decide)) (rfl) dX9_record_116 ?_
    refine lv_iadd hx hb dX9_record_117 ?_
    refine lv_istore (lv' := [(6, .int (x + (qI P 26 (400 * j + z + k)))), (7, .int (nI k)), (0, .ref (ad 0)), (1, .int (nI j)), (3, .int b)]) hx hb dX9_record_118 hl (by decide) rfl (fun ls hl => ?_)
    refine lv_iinc (v := nI k + 1) (lv' := [(7, .int (nI k + 1)), (6, .int (x + (qI P 26 (400 * j + z + k)))), (0, .ref (ad 0)), (1, .int (nI j)), (3, .int b)]) hx hb dX9_record_120 hl (k := 1) rfl (by first | rfl | decide) (by decide) rfl (fun ls hl => ?_)
    refine lv_goto (tgt := 99) hx hb dX9_record_123 (by decide) ?_
    rw [nI_1] at hl
    exact ih (k + 1) (by omega) _ (by rw [smF, ← hx2]) ls (lv_sub hl [0, 1, 2, 3, 4] rfl)
end Loops4
abbrev rmX9_record : Room := { frames := 1, cells := 0, slots := 0, locals := 22 }
set_option maxRecDepth 100000 in
theorem k_record {l : Launch} {s0 : State} {D : va_G} {cA : Nat → ClassId} {ad : Nat → Nat} (hG : cx_G l s0 D cA) {j ev z sl : Nat} (P : MS) (hj : j < 8) (hz : qI P 25 j = nI z) (hz4 : z + 13 ≤ 400) (hsl : qS P 1 = nI sl) (h0 : 0 < sl) (h16 : sl ≤ 16) (hev : ev < 2 ^ 31) : MC l s0 D cA ad yX9_record cX9_record 8 none rmX9_record [.int (nI j), .int (nI ev)] P (none) (recS P j ev z (qJ P 5 (ev % sl)) (qI P 6 (ev % sl))) := by
  refine Ct.of (cA := cA) hG (by decide +kernel) (Nat.le_of_ble_eq_true rfl) ?_
  intro p e s m below meth c A C hnm hP hD hS ls hl
  have hx := cx_x C
  have hb := cx_b C
  have hl : lv_has ls 8 [(0, .ref (ad 0)), (1, .int (nI j)), (2, .int (nI ev))] := hl
  refine lv_sipush (v := 400) hx hb dX9_record_0 (by decide) ?_
  refine lv_iload_n hx hb dX9_record_3 rfl (lv_at hl 1 rfl) ?_
  refine lv_imul hx hb dX9_record_4 ?_
  refine lv_aload_n hx hb dX9_record_5 rfl (lv_at hl 0 rfl) ?_
  refine gm_25 C hP tm_691 dX9_record_6 ?_
  refine lv_iload_n hx hb dX9_record_9 rfl (lv_at hl 1 rfl) ?_
  refine xl_25 (v := qI P 25 j) (j := j) C hP (ix8 hj) (rfl) dX9_record_10 ?_
  refine lv_iadd hx hb dX9_record_11 ?_
  refine lv_istore_n (lv' := [(3, .int ((400 * (nI j)) + (qI P 25 j))), (0, .ref (ad 0)), (1, .int (nI j)), (2, .int (nI ev))]) hx hb dX9_record_12 rfl hl (by decide) rfl (fun ls hl => ?_)
  refine lv_aload_n hx hb dX9_record_13 rfl (lv_at hl 1 rfl) ?_
  refine gm_5 C hP tm_671 dX9_record_14 ?_
  refine lv_iload_n hx hb dX9_record_17 rfl (lv_at hl 3 rfl) ?_
  refine lv_aload_n hx hb dX9_record_18 rfl (lv_at hl 1 rfl) ?_
  refine gm_1 (v := qS P 1) C hP rfl tm_667 dX9_record_19 ?_
  refine lv_irem hx hb dX9_record_22 (ne_sl (by first | exact hsl | exact hslT) h0 h16) ?_
  refine xl_5 (v := qJ P 5 (ev % sl)) (j := ev % sl) C hP (ix_rem (by first | exact hsl | exact hslT) h0 h16 hev) (rfl) dX9_record_23 ?_
  refine lv_lstore (lv' := [(4, .long (qJ P 5 (ev % sl))), (3, .int ((400 * (nI j)) + (qI P 25 j))), (0, .ref (ad 0)), (1, .int (nI j)), (2, .int (nI ev))]) hx hb dX9_record_24 hl (by decide) rfl (fun ls hl => ?_)
  refine lv_aload_n hx hb dX9_record_26 rfl (lv_at hl 2 rfl) ?_
  refine lv_iload_n hx hb dX9_record_27 rfl (lv_at hl 3 rfl) ?_
  refine lv_bipush (v := 13) hx hb dX9_record_28 (by decide) ?_
  refine mc_V (As := [.int (nI j), .int 13]) (rest := []) (r := none) (T := ptS P j (z) 13) C (k_put (z := z) hG _ _ hj (hz) (by omega)) tm_811 tm_813 tm_902 tm_3 tm_814 rfl hdX9_put ⟨Nat.le_of_ble_eq_true rfl, Nat.le_of_ble_eq_true rfl⟩ hl.1 rfl (Nat.le_of_ble_eq_true rfl) dX9_record_30 ⟨Nat.le_of_ble_eq_true rfl, Nat.le_of_ble_eq_true rfl⟩ hP hD hS (fun H locs hP hD hS => ?_)
  refine lv_aload_n hx hb dX9_record_33 rfl (lv_at hl 2 rfl) ?_
  refine lv_iload_n hx hb dX9_record_34 rfl (lv_at hl 3 rfl) ?_
  refine lv_iload_n hx hb dX9_record_35 rfl (lv_at hl 4 rfl) ?_
  refine lv_bipush (v := 8) hx hb dX9_record_36 (by decide) ?_
  refine lv_ishr hx hb dX9_record_38 ?_
  refine mc_V (As := [.int (nI j), .int ((nI ev) >>> (8 &&& 31))]) (rest := []) (r := none) (T := ptS (ptS P j (z) 13) j (z + 1) ((nI ev) >>> (8 &&& 31))) C (k_put (z := z + 1) hG _ _ hj (qI_s) (by omega)) tm_811 tm_813 tm_902 tm_3 tm_814 rfl hdX9_put ⟨Nat.le_of_ble_eq_true rfl, Nat.le_of_ble_eq_true rfl⟩ hl.1 rfl (Nat.le_of_ble_eq_true rfl) dX9_record_39 ⟨Nat.le_of_ble_eq_true rfl, Nat.le_of_ble_eq_true rfl⟩ hP hD hS (fun H locs hP hD hS => ?_)
  refine lv_aload_n hx hb dX9_record_42 rfl (lv_at hl 2 rfl) ?_
  refine lv_iload_n hx hb dX9_record_43 rfl (lv_at hl 3 rfl) ?_
  refine lv_iload_n hx hb dX9_record_44 rfl (lv_at hl 4 rfl) ?_
  refine mc_V (As := [.int (nI j), .int (nI ev)]) (rest := []) (r := none) (T := ptS (ptS (ptS P j (z) 13) j (z + 1) ((nI ev) >>> (8 &&& 31))) j (z + 2) (nI ev)) C (k_put (z := z + 2) hG _ _ hj (qI_s) (by omega)) tm_811 tm_813 tm_902 tm_3 tm_814 rfl hdX9_put ⟨Nat.le_of_ble_eq_true rfl, Nat.le_of_ble_eq_true rfl⟩ hl.1 rfl (Nat.le_of_ble_eq_true rfl) dX9_record_45 ⟨Nat.le_of_ble_eq_true rfl, Nat.le_of_ble_eq_true rfl⟩ hP hD hS (fun H locs hP hD hS => ?_)
  refine lv_bipush (v := 7) hx hb dX9_record_48 (by decide) ?_
  refine lv_istore (lv' := [(6, .int 7), (4, .long (qJ P 5 (ev % sl))), (3, .int ((400 * (nI j)) + (qI P 25 j))), (0, .ref (ad 0)), (1, .int (nI j)), (2, .int (nI ev))]) hx hb dX9_record_50 hl (by decide) rfl (fun ls hl => ?_)
  refine lp_recB (R := rmX9_record) (T9 := pbL j (qJ P 5 (ev % sl)) 8 (z + 3) (ptS (ptS (ptS P j z 13) j (z + 1) (nI ev >>> ((8 : Int32) &&& 31))) j (z + 2) (nI ev))) C hG hj ⟨Nat.le_of_ble_eq_true rfl, Nat.le_of_ble_eq_true rfl⟩ ⟨Nat.le_of_ble_eq_true rfl, Nat.le_of_ble_eq_true rfl⟩ (fun T H locs ls hT hP hD hS hl => ?_) 8 (z + 3) _ (by decide) (by omega) qI_s rfl _ _ ls hP hD hS (lv_sub hl [0, 1, 3, 4, 5, 2] rfl)
  have hzT : qI T 25 j = nI (z + 11) := by rw [hT]; exact pbL_25 8 (z + 3) _ qI_s
  have hslT : qS T 1 = nI sl := by rw [hT, pbL_S]; exact hsl
  have h6 : qI T 6 (ev % sl) = qI P 6 (ev % sl) := by rw [hT, pbL_6]; rfl
  refine lv_aload_n hx hb dX9_record_77 rfl (lv_at hl 0 rfl) ?_
  refine lv_iload_n hx hb dX9_record_78 rfl (lv_at hl 1 rfl) ?_
  refine lv_aload_n hx hb dX9_record_79 rfl (lv_at hl 0 rfl) ?_
  refine gm_6 C hP tm_672 dX9_record_80 ?_
  refine lv_iload_n hx hb dX9_record_83 rfl (lv_at hl 2 rfl) ?_
  refine lv_aload_n hx hb dX9_record_84 rfl (lv_at hl 0 rfl) ?_
  refine gm_1 (v := qS T 1) C hP rfl tm_667 dX9_record_85 ?_
  refine lv_irem hx hb dX9_record_88 (ne_sl (by first | exact hsl | exact hslT) h0 h16) ?_
  refine xl_6 (v := qI P 6 (ev % sl)) (j := ev % sl) C hP (ix_rem (by first | exact hsl | exact hslT) h0 h16 hev) (h6) dX9_record_89 ?_
  refine mc_V (As := [.int (nI j), .int (qI P 6 (ev % sl))]) (rest := []) (r := none) (T := ptS T j (z + 11) (qI P 6 (ev % sl))) C (k_put (z := z + 11) hG _ _ hj (hzT) (by omega)) tm_811 tm_813 tm_902 tm_3 tm_814 rfl hdX9_put ⟨Nat.le_of_ble_eq_true rfl, Nat.le_of_ble_eq_true rfl⟩ hl.1 rfl (Nat.le_of_ble_eq_true rfl) dX9_record_90 ⟨Nat.le_of_ble_eq_true rfl, Nat.le_of_ble_eq_true rfl⟩ hP hD hS (fun H locs hP hD hS => ?_)
  refine lv_iconst (v := 0) hx hb dX9_record_93 (by decide) ?_
  refine lv_istore (lv' := [(6, .int 0), (0, .ref (ad 0)), (1, .int (nI j)), (2, .int (nI ev)), (3, .int ((400 * (nI j)) + (qI P 25 j)))]) hx hb dX9_record_94 hl (by decide) rfl (fun ls hl => ?_)
  refine lv_iconst (v := 0) hx hb dX9_record_96 (by decide) ?_
  refine lv_istore (lv' := [(7, .int 0), (6, .int 0), (0, .ref (ad 0)), (1, .int (nI j)), (2, .int (nI ev)), (3, .int ((400 * (nI j)) + (qI P 25 j)))]) hx hb dX9_record_97 hl (by decide) rfl (fun ls hl => ?_)
  refine lp_recS (z := z) (P := ptS T j (z + 11) (qI P 6 (ev % sl))) C hj hz4 (by rw [hz, nI_400]) hP (fun ls hl => ?_) 12 0 (by decide) _ rfl ls (lv_sub hl [0, 1, 2, 3, 5] rfl)
  refine lv_aload_n hx hb dX9_record_126 rfl (lv_at hl 1 rfl) ?_
  refine lv_iload_n hx hb dX9_record_127 rfl (lv_at hl 2 rfl) ?_
  refine lv_iload hx hb dX9_record_128 (lv_at hl 0 rfl) ?_
  refine mc_V (As := [.int (nI j), .int (smF (qI (ptS T j (z + 11) (qI P 6 (ev % sl))) 26) (400 * j + z) 12)]) (rest := []) (r := none) (T := ptS (ptS T j (z + 11) (qI P 6 (ev % sl))) j (z + 12) (smF (qI (ptS T j (z + 11) (qI P 6 (ev % sl))) 26) (400 * j + z) 12)) C (k_put (z := z + 12) hG _ _ hj (qI_s) (by omega)) tm_811 tm_813 tm_902 tm_3 tm_814 rfl hdX9_put ⟨Nat.le_of_ble_eq_true rfl, Nat.le_of_ble_eq_true rfl⟩ hl.1 rfl (Nat.le_of_ble_eq_true rfl) dX9_record_130 ⟨Nat.le_of_ble_eq_true rfl, Nat.le_of_ble_eq_true rfl⟩ hP hD hS (fun H locs hP hD hS => ?_)
  exact ct_vret C hS hP hD (⟨rfl, by rw [hT]; rfl⟩) (Nat.le_of_ble_eq_true rfl) (Nat.le_of_ble_eq_true rfl) dX9_record_133
def rm256 (x : Int32) : Int32 := x - x / 256 * 256
def whB (f : Nat → Int32) (b : Nat) : Bool := decide (f (b + 0) = 13 ∧ f (b + 12) = rm256 (smF f b 12))
abbrev rmX9_whole : Room := { frames := 0, cells := 0, slots := 0, locals := 0 }
set_option maxRecDepth 100000 in
theorem k_whole {l : Launch} {s0 : State} {D : va_G} {cA : Nat → ClassId} {ad : Nat → Nat} (hG : cx_G l s0 D cA) {b : Nat} (P : MS) (hb4 : b + 13 ≤ 3200) : MC l s0 D cA ad yX9_whole cX9_whole 4 (some .boolean) rmX9_whole [.int (nI b)] P (some (.int (if whB (qI P 26) b then 1 else 0))) P := by
  refine Ct.of (cA := cA) hG (by decide +kernel) (Nat.le_of_ble_eq_true rfl) ?_
  intro p e s m below meth c A C hnm hP hD hS ls hl
  have hx := cx_x C
  have hb := cx_b C
  have hl : lv_has ls 4 [(0, .ref (ad 0)), (1, .int (nI b))] := hl
  refine lv_iconst (v := 0) hx hb dX9_whole_0 (by decide) ?_
  refine lv_istore_n (lv' := [(2, .int 0), (0, .ref (ad 0)), (1, .int (nI b))]) hx hb dX9_whole_1 rfl hl (by decide) rfl (fun ls hl => ?_)
  refine lv_iconst (v := 0) hx hb dX9_whole_2 (by decide) ?_
  refine lv_istore_n (lv' := [(3, .int 0), (2, .int 0), (0, .ref (ad 0)), (1, .int (nI b))]) hx hb dX9_whole_3 rfl hl (by decide) rfl (fun ls hl => ?_)
  refine lv_iload_n hx hb dX9_whole_4 rfl (lv_at hl 0 rfl) ?_
  refine lv_bipush (v := 12) hx hb dX9_whole_5 (by decide) ?_
  refine lv_icmp_ge (tgt := 27) hx hb dX9_whole_7 (by decide) (fun h9 => absurd h9 (by decide)) (fun _ => ?_)
  refine lv_iload_n hx hb dX9_whole_10 rfl (lv_at hl 1 rfl) ?_
  refine lv_aload_n hx hb dX9_whole_11 rfl (lv_at hl 2 rfl) ?_
  refine gm_26 C hP tm_692 dX9_whole_12 ?_
  refine lv_iload_n hx hb dX9_whole_15 rfl (lv_at hl 3 rfl) ?_
  refine lv_iload_n hx hb dX9_whole_16 rfl (lv_at hl 0 rfl) ?_
  refine lv_iadd hx hb dX9_whole_17 ?_
  refine xl_26 (v := qI P 26 (b + 0)) (j := b + 0) C hP (ix_eq (nI_k (by decide)) (by omega) (by decide)) (rfl) dX9_whole_18 ?_
  refine lv_iadd hx hb dX9_whole_19 ?_
  refine lv_istore_n (lv' := [(2, .int (0 + (qI P 26 (b + 0)))), (3, .int 0), (0, .ref (ad 0)), (1, .int (nI b))]) hx hb dX9_whole_20 rfl hl (by decide) rfl (fun ls hl => ?_)
  refine lv_iinc (v := 1) (lv' := [(3, .int 1), (2, .int (0 + (qI P 26 (b + 0)))), (0, .ref (ad 0)), (1, .int (nI b))]) hx hb dX9_whole_21 hl (k := 1) rfl (by first | rfl | decide) (by decide) rfl (fun ls hl => ?_)
  refine lv_goto (tgt := 4) hx hb dX9_whole_24 (by decide) ?_
  refine lv_iload_n hx hb dX9_whole_4 rfl (lv_at hl 0 rfl) ?_
  refine lv_bipush (v := 12) hx hb dX9_whole_5 (by decide) ?_
  refine lv_icmp_ge (tgt := 27) hx hb dX9_whole_7 (by decide) (fun h9 => absurd h9 (by decide)) (fun _ => ?_)
  refine lv_iload_n hx hb dX9_whole_10 rfl (lv_at hl 1 rfl) ?_
  refine lv_aload_n hx hb dX9_whole_11 rfl (lv_at hl 2 rfl) ?_
  refine gm_26 C hP tm_692 dX9_whole_12 ?_
  refine lv_iload_n hx hb dX9_whole_15 rfl (lv_at hl 3 rfl) ?_
  refine lv_iload_n hx hb dX9_whole_16 rfl (lv_at hl 0 rfl) ?_
  refine lv_iadd hx hb dX9_whole_17 ?_
  refine xl_26 (v := qI P 26 (b + 1)) (j := b + 1) C hP (ix_eq (nI_k (by decide)) (by omega) (by decide)) (rfl) dX9_whole_18 ?_
  refine lv_iadd hx hb dX9_whole_19 ?_
  refine lv_istore_n (lv' := [(2, .int ((0 + (qI P 26 (b + 0))) + (qI P 26 (b + 1)))), (3, .int 1), (0, .ref (ad 0)), (1, .int (nI b))]) hx hb dX9_whole_20 rfl hl (by decide) rfl (fun ls hl => ?_)
  refine lv_iinc (v := 2) (lv' := [(3, .int 2), (2, .int ((0 + (qI P 26 (b + 0))) + (qI P 26 (b + 1)))), (0, .ref (ad 0)), (1, .int (nI b))]) hx hb dX9_whole_21 hl (k := 1) rfl (by first | rfl | decide) (by decide) rfl (fun ls hl => ?_)
  refine lv_goto (tgt := 4) hx hb dX9_whole_24 (by decide) ?_
  refine lv_iload_n hx hb dX9_whole_4 rfl (lv_at hl 0 rfl) ?_
  refine lv_bipush (v := 12) hx hb dX9_whole_5 (by decide) ?_
  refine lv_icmp_ge (tgt := 27) hx hb dX9_whole_7 (by decide) (fun h9 => absurd h9 (by decide)) (fun _ => ?_)
  refine lv_iload_n hx hb dX9_whole_10 rfl (lv_at hl 1 rfl) ?_
  refine lv_aload_n hx hb dX9_whole_11 rfl (lv_at hl 2 rfl) ?_
  refine gm_26 C hP tm_692 dX9_whole_12 ?_
  refine lv_iload_n hx hb dX9_whole_15 rfl (lv_at hl 3 rfl) ?_
  refine lv_iload_n hx hb dX9_whole_16 rfl (lv_at hl 0 rfl) ?_
  refine lv_iadd hx hb dX9_whole_17 ?_
  refine xl_26 (v := qI P 26 (b + 2)) (j := b + 2) C hP (ix_eq (nI_k (by decide)) (by omega) (by decide)) (rfl) dX9_whole_18 ?_
  refine lv_iadd hx hb dX9_whole_19 ?_
  refine lv_istore_n (lv' := [(2, .int (((0 + (qI P 26 (b + 0))) + (qI P 26 (b + 1))) + (qI P 26 (b + 2)))), (3, .int 2), (0, .ref (ad 0)), (1, .int (nI b))]) hx hb dX9_whole_20 rfl hl (by decide) rfl (fun ls hl => ?_)
  refine lv_iinc (v := 3) (lv' := [(3, .int 3), (2, .int (((0 + (qI P 26 (b + 0))) + (qI P 26 (b + 1))) + (qI P 26 (b + 2)))), (0, .ref (ad 0)), (1, .int (nI b))]) hx hb dX9_whole_21 hl (k := 1) rfl (by first | rfl | decide) (by decide) rfl (fun ls hl => ?_)
  refine lv_goto (tgt := 4) hx hb dX9_whole_24 (by decide) ?_
  refine lv_iload_n hx hb dX9_whole_4 rfl (lv_at hl 0 rfl) ?_
  refine lv_bipush (v := 12) hx hb dX9_whole_5 (by decide) ?_
  refine lv_icmp_ge (tgt := 27) hx hb dX9_whole_7 (by decide) (fun h9 => absurd h9 (by decide)) (fun _ => ?_)
  refine lv_iload_n hx hb dX9_whole_10 rfl (lv_at hl 1 rfl) ?_
  refine lv_aload_n hx hb dX9_whole_11 rfl (lv_at hl 2 rfl) ?_
  refine gm_26 C hP tm_692 dX9_whole_12 ?_
  refine lv_iload_n hx hb dX9_whole_15 rfl (lv_at hl 3 rfl) ?_
  refine lv_iload_n hx hb dX9_whole_16 rfl (lv_at hl 0 rfl) ?_
  refine lv_iadd hx hb dX9_whole_17 ?_
  refine xl_26 (v := qI P 26 (b + 3)) (j := b + 3) C hP (ix_eq (nI_k (by decide)) (by omega) (by decide)) (rfl) dX9_whole_18 ?_
  refine lv_iadd hx hb dX9_whole_19 ?_
  refine lv_istore_n (lv' := [(2, .int ((((0 + (qI P 26 (b + 0))) + (qI P 26 (b + 1))) + (qI P 26 (b + 2))) + (qI P 26 (b + 3)))), (3, .int 3), (0, .ref (ad 0)), (1, .int (nI b))]) hx hb dX9_whole_20 rfl hl (by decide) rfl (fun ls hl => ?_)
  refine lv_iinc (v := 4) (lv' := [(3, .int 4), (2, .int ((((0 + (qI P 26 (b + 0))) + (qI P 26 (b + 1))) + (qI P 26 (b + 2))) + (qI P 26 (b + 3)))), (0, .ref (ad 0)), (1, .int (nI b))]) hx hb dX9_whole_21 hl (k := 1) rfl (by first | rfl | decide) (by decide) rfl (fun ls hl => ?_)
  refine lv_goto (tgt := 4) hx hb dX9_whole_24 (by decide) ?_
  refine lv_iload_n hx hb dX9_whole_4 rfl (lv_at hl 0 rfl) ?_
  refine lv_bipush (v := 12) hx hb dX9_whole_5 (by decide) ?_
  refine lv_icmp_ge (tgt := 27) hx hb dX9_whole_7 (by decide) (fun h9 => absurd h9 (by decide)) (fun _ => ?_)
  refine lv_iload_n hx hb dX9_whole_10 rfl (lv_at hl 1 rfl) ?_
  refine lv_aload_n hx hb dX9_whole_11 rfl (lv_at hl 2 rfl) ?_
  refine gm_26 C hP tm_692 dX9_whole_12 ?_
  refine lv_iload_n hx hb dX9_whole_15 rfl (lv_at hl 3 rfl) ?_
  refine lv_iload_n hx hb dX9_whole_16 rfl (lv_at hl 0 rfl) ?_
  refine lv_iadd hx hb dX9_whole_17 ?_
  refine xl_26 (v := qI P 26 (b + 4)) (j := b + 4) C hP (ix_eq (nI_k (by decide)) (by omega) (by decide)) (rfl) dX9_whole_18 ?_
  refine lv_iadd hx hb dX9_whole_19 ?_
  refine lv_istore_n (lv' := [(2, .int (((((0 + (qI P 26 (b + 0))) + (qI P 26 (b + 1))) + (qI P 26 (b + 2))) + (qI P 26 (b + 3))) + (qI P 26 (b + 4)))), (3, .int 4), (0, .ref (ad 0)), (1, .int (nI b))]) hx hb dX9_whole_20 rfl hl (by decide) rfl (fun ls hl => ?_)
  refine lv_iinc (v := 5) (lv' := [(3, .int 5), (2, .int (((((0 + (qI P 26 (b + 0))) + (qI P 26 (b + 1))) + (qI P 26 (b + 2))) + (qI P 26 (b + 3))) + (qI P 26 (b + 4)))), (0, .ref (ad 0)), (1, .int (nI b))]) hx hb dX9_whole_21 hl (k := 1) rfl (by first | rfl | decide) (by decide) rfl (fun ls hl => ?_)
  refine lv_goto (tgt := 4) hx hb dX9_whole_24 (by decide) ?_
  refine lv_iload_n hx hb dX9_whole_4 rfl (lv_at hl 0 rfl) ?_
  refine lv_bipush (v := 12) hx hb dX9_whole_5 (by decide) ?_
  refine lv_icmp_ge (tgt := 27) hx hb dX9_whole_7 (by decide) (fun h9 => absurd h9 (by decide)) (fun _ => ?_)
  refine lv_iload_n hx hb dX9_whole_10 rfl (lv_at hl 1 rfl) ?_
  refine lv_aload_n hx hb dX9_whole_11 rfl (lv_at hl 2 rfl) ?_
  refine gm_26 C hP tm_692 dX9_whole_12 ?_
  refine lv_iload_n hx hb dX9_whole_15 rfl (lv_at hl 3 rfl) ?_
  refine lv_iload_n hx hb dX9_whole_16 rfl (lv_at hl 0 rfl) ?_
  refine lv_iadd hx hb dX9_whole_17 ?_
  refine xl_26 (v := qI P 26 (b + 5)) (j := b + 5) C hP (ix_eq (nI_k (by decide)) (by omega) (by decide)) (rfl) dX9_whole_18 ?_
  refine lv_iadd hx hb dX9_whole_19 ?_
  refine lv_istore_n (lv' := [(2, .int ((((((0 + (qI P 26 (b + 0))) + (qI P 26 (b + 1))) + (qI P 26 (b + 2))) + (qI P 26 (b + 3))) + (qI P 26 (b + 4))) + (qI P 26 (b + 5)))), (3, .int 5), (0, .ref (ad 0)), (1, .int (nI b))]) hx hb dX9_whole_20 rfl hl (by decide) rfl (fun ls hl => ?_)
  refine lv_iinc (v := 6) (lv' := [(3, .int 6), (2, .int ((((((0 + (qI P 26 (b + 0))) + (qI P 26 (b + 1))) + (qI P 26 (b + 2))) + (qI P 26 (b + 3))) + (qI P 26 (b + 4))) + (qI P 26 (b + 5)))), (0, .ref (ad 0)), (1, .int (nI b))]) hx hb dX9_whole_21 hl (k := 1) rfl (by first | rfl | decide) (by decide) rfl (fun ls hl => ?_)
  refine lv_goto (tgt := 4) hx hb dX9_whole_24 (by decide) ?_
  refine lv_iload_n hx hb dX9_whole_4 rfl (lv_at hl 0 rfl) ?_
  refine lv_bipush (v := 12) hx hb dX9_whole_5 (by decide) ?_
  refine lv_icmp_ge (tgt := 27) hx hb dX9_whole_7 (by decide) (fun h9 => absurd h9 (by decide)) (fun _ => ?_)
  refine lv_iload_n hx hb dX9_whole_10 rfl (lv_at hl 1 rfl) ?_
  refine lv_aload_n hx hb dX9_whole_11 rfl (lv_at hl 2 rfl) ?_
  refine gm_26 C hP tm_692 dX9_whole_12 ?_
  refine lv_iload_n hx hb dX9_whole_15 rfl (lv_at hl 3 rfl) ?_
  refine lv_iload_n hx hb dX9_whole_16 rfl (lv_at hl 0 rfl) ?_
  refine lv_iadd hx hb dX9_whole_17 ?_
  refine xl_26 (v := qI P 26 (b + 6)) (j := b + 6) C hP (ix_eq (nI_k (by decide)) (by omega) (by decide)) (rfl) dX9_whole_18 ?_
  refine lv_iadd hx hb dX9_whole_19 ?_
  refine lv_istore_n (lv' := [(2, .int (((((((0 + (qI P 26 (b + 0))) + (qI P 26 (b + 1))) + (qI P 26 (b + 2))) + (qI P 26 (b + 3))) + (qI P 26 (b + 4))) + (qI P 26 (b + 5))) + (qI P 26 (b + 6)))), (3, .int 6), (0, .ref (ad 0)), (1, .int (nI b))]) hx hb dX9_whole_20 rfl hl (by decide) rfl (fun ls hl => ?_)
  refine lv_iinc (v := 7) (lv' := [(3, .int 7), (2, .int (((((((0 + (qI P 26 (b + 0))) + (qI P 26 (b + 1))) + (qI P 26 (b + 2))) + (qI P 26 (b + 3))) + (qI P 26 (b + 4))) + (qI P 26 (b + 5))) + (qI P 26 (b + 6)))), (0, .ref (ad 0)), (1, .int (nI b))]) hx hb dX9_whole_21 hl (k := 1) rfl (by first | rfl | decide) (by decide) rfl (fun ls hl => ?_)
  refine lv_goto (tgt := 4) hx hb dX9_whole_24 (by decide) ?_
  refine lv_iload_n hx hb dX9_whole_4 rfl (lv_at hl 0 rfl) ?_
  refine lv_bipush (v := 12) hx hb dX9_whole_5 (by decide) ?_
  refine lv_icmp_ge (tgt := 27) hx hb dX9_whole_7 (by decide) (fun h9 => absurd h9 (by decide)) (fun _ => ?_)
  refine lv_iload_n hx hb dX9_whole_10 rfl (lv_at hl 1 rfl) ?_
  refine lv_aload_n hx hb dX9_whole_11 rfl (lv_at hl 2 rfl) ?_
  refine gm_26 C hP tm_692 dX9_whole_12 ?_
  refine lv_iload_n hx hb dX9_whole_15 rfl (lv_at hl 3 rfl) ?_
  refine lv_iload_n hx hb dX9_whole_16 rfl (lv_at hl 0 rfl) ?_
  refine lv_iadd hx hb dX9_whole_17 ?_
  refine xl_26 (v := qI P 26 (b + 7)) (j := b + 7) C hP (ix_eq (nI_k (by decide)) (by omega) (by decide)) (rfl) dX9_whole_18 ?_
  refine lv_iadd hx hb dX9_whole_19 ?_
  refine lv_istore_n (lv' := [(2, .int ((((((((0 + (qI P 26 (b + 0))) + (qI P 26 (b + 1))) + (qI P 26 (b + 2))) + (qI P 26 (b + 3))) + (qI P 26 (b + 4))) + (qI P 26 (b + 5))) + (qI P 26 (b + 6))) + (qI P 26 (b + 7)))), (3, .int 7), (0, .ref (ad 0)), (1, .int (nI b))]) hx hb dX9_whole_20 rfl hl (by decide) rfl (fun ls hl => ?_)
  refine lv_iinc (v := 8) (lv' := [(3, .int 8), (2, .int ((((((((0 + (qI P 26 (b + 0))) + (qI P 26 (b + 1))) + (qI P 26 (b + 2))) + (qI P 26 (b + 3))) + (qI P 26 (b + 4))) + (qI P 26 (b + 5))) + (qI P 26 (b + 6))) + (qI P 26 (b + 7)))), (0, .ref (ad 0)), (1, .int (nI b))]) hx hb dX9_whole_21 hl (k := 1) rfl (by first | rfl | decide) (by decide) rfl (fun ls hl => ?_)
  refine lv_goto (tgt := 4) hx hb dX9_whole_24 (by decide) ?_
  refine lv_iload_n hx hb dX9_whole_4 rfl (lv_at hl 0 rfl) ?_
  refine lv_bipush (v := 12) hx hb dX9_whole_5 (by decide) ?_
  refine lv_icmp_ge (tgt := 27) hx hb dX9_whole_7 (by decide) (fun h9 => absurd h9 (by decide)) (fun _ => ?_)
  refine lv_iload_n hx hb dX9_whole_10 rfl (lv_at hl 1 rfl) ?_
  refine lv_aload_n hx hb dX9_whole_11 rfl (lv_at hl 2 rfl) ?_
  refine gm_26 C hP tm_692 dX9_whole_12 ?_
  refine lv_iload_n hx hb dX9_whole_15 rfl (lv_at hl 3 rfl) ?_
  refine lv_iload_n hx hb dX9_whole_16 rfl (lv_at hl 0 rfl) ?_
  refine lv_iadd hx hb dX9_whole_17 ?_
  refine xl_26 (v := qI P 26 (b + 8)) (j := b + 8) C hP (ix_eq (nI_k (by decide)) (by omega) (by decide)) (rfl) dX9_whole_18 ?_
  refine lv_iadd hx hb dX9_whole_19 ?_
  refine lv_istore_n (lv' := [(2, .int (((((((((0 + (qI P 26 (b + 0))) + (qI P 26 (b + 1))) + (qI P 26 (b + 2))) + (qI P 26 (b + 3))) + (qI P 26 (b + 4))) + (qI P 26 (b + 5))) + (qI P 26 (b + 6))) + (qI P 26 (b + 7))) + (qI P 26 (b + 8)))), (3, .int 8), (0, .ref (ad 0)), (1, .int (nI b))]) hx hb dX9_whole_20 rfl hl (by decide) rfl (fun ls hl => ?_)
  refine lv_iinc (v := 9) (lv' := [(3, .int 9), (2, .int (((((((((0 + (qI P 26 (b + 0))) + (qI P 26 (b + 1))) + (qI P 26 (b + 2))) + (qI P 26 (b + 3))) + (qI P 26 (b + 4))) + (qI P 26 (b + 5))) + (qI P 26 (b + 6))) + (qI P 26 (b + 7))) + (qI P 26 (b + 8)))), (0, .ref (ad 0)), (1, .int (nI b))]) hx hb dX9_whole_21 hl (k := 1) rfl (by first | rfl | decide) (by decide) rfl (fun ls hl => ?_)
  refine lv_goto (tgt := 4) hx hb dX9_whole_24 (by decide) ?_
  refine lv_iload_n hx hb dX9_whole_4 rfl (lv_at hl 0 rfl) ?_
  refine lv_bipush (v := 12) hx hb dX9_whole_5 (by decide) ?_
  refine lv_icmp_ge (tgt := 27) hx hb dX9_whole_7 (by decide) (fun h9 => absurd h9 (by decide)) (fun _ => ?_)
  refine lv_iload_n hx hb dX9_whole_10 rfl (lv_at hl 1 rfl) ?_
  refine lv_aload_n hx hb dX9_whole_11 rfl (lv_at hl 2 rfl) ?_
  refine gm_26 C hP tm_692 dX9_whole_12 ?_
  refine lv_iload_n hx hb dX9_whole_15 rfl (lv_at hl 3 rfl) ?_
  refine lv_iload_n hx hb dX9_whole_16 rfl (lv_at hl 0 rfl) ?_
  refine lv_iadd hx hb dX9_whole_17 ?_
  refine xl_26 (v := qI P 26 (b + 9)) (j := b + 9) C hP (ix_eq (nI_k (by decide)) (by omega) (by decide)) (rfl) dX9_whole_18 ?_
  refine lv_iadd hx hb dX9_whole_19 ?_
  refine lv_istore_n (lv' := [(2, .int ((((((((((0 + (qI P 26 (b + 0))) + (qI P 26 (b + 1))) + (qI P 26 (b + 2))) + (qI P 26 (b + 3))) + (qI P 26 (b + 4))) + (qI P 26 (b + 5))) + (qI P 26 (b + 6))) + (qI P 26 (b + 7))) + (qI P 26 (b + 8))) + (qI P 26 (b + 9)))), (3, .int 9), (0, .ref (ad 0)), (1, .int (nI b))]) hx hb dX9_whole_20 rfl hl (by decide) rfl (fun ls hl => ?_)
  refine lv_iinc (v := 10) (lv' := [(3, .int 10), (2, .int ((((((((((0 + (qI P 26 (b + 0))) + (qI P 26 (b + 1))) + (qI P 26 (b + 2))) + (qI P 26 (b + 3))) + (qI P 26 (b + 4))) + (qI P 26 (b + 5))) + (qI P 26 (b + 6))) + (qI P 26 (b + 7))) + (qI P 26 (b + 8))) + (qI P 26 (b + 9)))), (0, .ref (ad 0)), (1, .int (nI b))]) hx hb dX9_whole_21 hl (k := 1) rfl (by first | rfl | decide) (by decide) rfl (fun ls hl => ?_)
  refine lv_goto (tgt := 4) hx hb dX9_whole_24 (by decide) ?_
  refine lv_iload_n hx hb dX9_whole_4 rfl (lv_at hl 0 rfl) ?_
  refine lv_bipush (v := 12) hx hb dX9_whole_5 (by decide) ?_
  refine lv_icmp_ge (tgt := 27) hx hb dX9_whole_7 (by decide) (fun h9 => absurd h9 (by decide)) (fun _ => ?_)
  refine lv_iload_n hx hb dX9_whole_10 rfl (lv_at hl 1 rfl) ?_
  refine lv_aload_n hx hb dX9_whole_11 rfl (lv_at hl 2 rfl) ?_
  refine gm_26 C hP tm_692 dX9_whole_12 ?_
  refine lv_iload_n hx hb dX9_whole_15 rfl (lv_at hl 3 rfl) ?_
  refine lv_iload_n hx hb dX9_whole_16 rfl (lv_at hl 0 rfl) ?_
  refine lv_iadd hx hb dX9_whole_17 ?_
  refine xl_26 (v := qI P 26 (b + 10)) (j := b + 10) C hP (ix_eq (nI_k (by decide)) (by omega) (by decide)) (rfl) dX9_whole_18 ?_
  refine lv_iadd hx hb dX9_whole_19 ?_
  refine lv_istore_n (lv' := [(2, .int (((((((((((0 + (qI P 26 (b + 0))) + (qI P 26 (b + 1))) + (qI P 26 (b + 2))) + (qI P 26 (b + 3))) + (qI P 26 (b + 4))) + (qI P 26 (b + 5))) + (qI P 26 (b + 6))) + (qI P 26 (b + 7))) + (qI P 26 (b + 8))) + (qI P 26 (b + 9))) + (qI P 26 (b + 10)))), (3, .int 10), (0, .ref (ad 0)), (1, .int (nI b))]) hx hb dX9_whole_20 rfl hl (by decide) rfl (fun ls hl => ?_)
  refine lv_iinc (v := 11) (lv' := [(3, .int 11), (2, .int (((((((((((0 + (qI P 26 (b + 0))) + (qI P 26 (b + 1))) + (qI P 26 (b + 2))) + (qI P 26 (b + 3))) + (qI P 26 (b + 4))) + (qI P 26 (b + 5))) + (qI P 26 (b + 6))) + (qI P 26 (b + 7))) + (qI P 26 (b + 8))) + (qI P 26 (b + 9))) + (qI P 26 (b + 10)))), (0, .ref (ad 0)), (1, .int (nI b))]) hx hb dX9_whole_21 hl (k := 1) rfl (by first | rfl | decide) (by decide) rfl (fun ls hl => ?_)
  refine lv_goto (tgt := 4) hx hb dX9_whole_24 (by decide) ?_
  refine lv_iload_n hx hb dX9_whole_4 rfl (lv_at hl 0 rfl) ?_
  refine lv_bipush (v := 12) hx hb dX9_whole_5 (by decide) ?_
  refine lv_icmp_ge (tgt := 27) hx hb dX9_whole_7 (by decide) (fun h9 => absurd h9 (by decide)) (fun _ => ?_)
  refine lv_iload_n hx hb dX9_whole_10 rfl (lv_at hl 1 rfl) ?_
  refine lv_aload_n hx hb dX9_whole_11 rfl (lv_at hl 2 rfl) ?_
  refine gm_26 C hP tm_692 dX9_whole_12 ?_
  refine lv_iload_n hx hb dX9_whole_15 rfl (lv_at hl 3 rfl) ?_
  refine lv_iload_n hx hb dX9_whole_16 rfl (lv_at hl 0 rfl) ?_
  refine lv_iadd hx hb dX9_whole_17 ?_
  refine xl_26 (v := qI P 26 (b + 11)) (j := b + 11) C hP (ix_eq (nI_k (by decide)) (by omega) (by decide)) (rfl) dX9_whole_18 ?_
  refine lv_iadd hx hb dX9_whole_19 ?_
  refine lv_istore_n (lv' := [(2, .int ((((((((((((0 + (qI P 26 (b + 0))) + (qI P 26 (b + 1))) + (qI P 26 (b + 2))) + (qI P 26 (b + 3))) + (qI P 26 (b + 4))) + (qI P 26 (b + 5))) + (qI P 26 (b + 6))) + (qI P 26 (b + 7))) + (qI P 26 (b + 8))) + (qI P 26 (b + 9))) + (qI P 26 (b + 10))) + (qI P 26 (b + 11)))), (3, .int 11), (0, .ref (ad 0)), (1, .int (nI b))]) hx hb dX9_whole_20 rfl hl (by decide) rfl (fun ls hl => ?_)
  refine lv_iinc (v := 12) (lv' := [(3, .int 12), (2, .int ((((((((((((0 + (qI P 26 (b + 0))) + (qI P 26 (b + 1))) + (qI P 26 (b + 2))) + (qI P 26 (b + 3))) + (qI P 26 (b + 4))) + (qI P 26 (b + 5))) + (qI P 26 (b + 6))) + (qI P 26 (b + 7))) + (qI P 26 (b + 8))) + (qI P 26 (b + 9))) + (qI P 26 (b + 10))) + (qI P 26 (b + 11)))), (0, .ref (ad 0)), (1, .int (nI b))]) hx hb dX9_whole_21 hl (k := 1) rfl (by first | rfl | decide) (by decide) rfl (fun ls hl => ?_)
  refine lv_goto (tgt := 4) hx hb dX9_whole_24 (by decide) ?_
  refine lv_iload_n hx hb dX9_whole_4 rfl (lv_at hl 0 rfl) ?_
  refine lv_bipush (v := 12) hx hb dX9_whole_5 (by decide) ?_
  refine lv_icmp_ge (tgt := 27) hx hb dX9_whole_7 (by decide) (fun _ => ?_) (fun h9 => absurd (by decide) h9)
  refine lv_aload_n hx hb dX9_whole_27 rfl (lv_at hl 2 rfl) ?_
  refine gm_26 C hP tm_692 dX9_whole_28 ?_
  refine lv_iload_n hx hb dX9_whole_31 rfl (lv_at hl 3 rfl) ?_
  refine xl_26 (v := qI P 26 (b + 0)) (j := b + 0) C hP (ix_nI (by omega) (by decide)) (rfl) dX9_whole_32 ?_
  refine lv_bipush (v := 13) hx hb dX9_whole_33 (by decide) ?_
  refine lv_icmp_ne (tgt := 59) hx hb dX9_whole_35 (by decide) (fun w1 => ?_) (fun w1 => ?_)
  · refine lv_iconst (v := 0) hx hb dX9_whole_59 (by decide) ?_
    exact ct_zret C (by first | rfl | decide) hS hP hD (⟨by rw [show whB (qI P 26) b = false from decide_eq_false (fun h => by first | exact w1 h.1 | exact w2 h.2)]; rfl, rfl⟩) (Nat.le_of_ble_eq_true rfl) (Nat.le_of_ble_eq_true rfl) dX9_whole_60
  refine lv_aload_n hx hb dX9_whole_38 rfl (lv_at hl 2 rfl) ?_
  refine gm_26 C hP tm_692 dX9_whole_39 ?_
  refine lv_iload_n hx hb dX9_whole_42 rfl (lv_at hl 3 rfl) ?_
  refine lv_bipush (v := 12) hx hb dX9_whole_43 (by decide) ?_
  refine lv_iadd hx hb dX9_whole_45 ?_
  refine xl_26 (v := qI P 26 (b + 12)) (j := b + 12) C hP (ix_eq (nI_k (by decide)) (by omega) (by decide)) (rfl) dX9_whole_46 ?_
  refine lv_iload_n hx hb dX9_whole_47 rfl (lv_at hl 1 rfl) ?_
  refine lv_sipush (v := 256) hx hb dX9_whole_48 (by decide) ?_
  refine lv_irem hx hb dX9_whole_51 (by decide) ?_
  refine lv_icmp_ne (tgt := 59) hx hb dX9_whole_52 (by decide) (fun w2 => ?_) (fun w2 => ?_)
  · refine lv_iconst (v := 0) hx hb dX9_whole_59 (by decide) ?_
    exact ct_zret C (by first | rfl | decide) hS hP hD (⟨by rw [show whB (qI P 26) b = false from decide_eq_false (fun h => by first | exact w1 h.1 | exact w2 h.2)]; rfl, rfl⟩) (Nat.le_of_ble_eq_true rfl) (Nat.le_of_ble_eq_true rfl) dX9_whole_60
  refine lv_iconst (v := 1) hx hb dX9_whole_55 (by decide) ?_
  refine lv_goto (tgt := 60) hx hb dX9_whole_56 (by decide) ?_
  exact ct_zret C (by first | rfl | decide) hS hP hD (⟨by rw [show whB (qI P 26) b = true from decide_eq_true ⟨w1, w2⟩]; rfl, rfl⟩) (Nat.le_of_ble_eq_true rfl) (Nat.le_of_ble_eq_true rfl) dX9_whole_60
abbrev rmX9_answer : Room := { frames := 0, cells := 0, slots := 0, locals := 0 }
set_option maxRecDepth 100000 in
theorem k_ans_x {l : Launch} {s0 : State} {D : va_G} {cA : Nat → ClassId} {ad : Nat → Nat} (hG : cx_G l s0 D cA) {j : Nat} (s9 : Int32) (P : MS) (hj : j < 8) (hp : ¬ qI P 11 j = 2) : MC l s0 D cA ad yX9_answer cX9_answer 3 (some .int) rmX9_answer [.int (nI j), .int s9] P (some (.int (qI P 11 j))) P := by
  refine Ct.of (cA := cA) hG (by decide +kernel) (Nat.le_of_ble_eq_true rfl) ?_
  intro p e s m below meth c A C hnm hP hD hS ls hl
  have hx := cx_x C
  have hb := cx_b C
  have hl : lv_has ls 3 [(0, .ref (ad 0)), (1, .int (nI j)), (2, .int s9)] := hl
  refine lv_aload_n hx hb dX9_answer_0 rfl (lv_at hl 0 rfl) ?_
  refine gm_11 C hP tm_677 dX9_answer_1 ?_
  refine lv_iload_n hx hb dX9_answer_4 rfl (lv_at hl 1 rfl) ?_
  refine xl_11 (v := qI P 11 j) (j := j) C hP (ix8 hj) (rfl) dX9_answer_5 ?_
  refine lv_iconst (v := 2) hx hb dX9_answer_6 (by decide) ?_
  refine lv_icmp_eq (tgt := 17) hx hb dX9_answer_7 (by decide) (fun h9 => absurd h9 (hp)) (fun _ => ?_)
  refine lv_aload_n hx hb dX9_answer_10 rfl (lv_at hl 0 rfl) ?_
  refine gm_11 C hP tm_677 dX9_answer_11 ?_
  refine lv_iload_n hx hb dX9_answer_14 rfl (lv_at hl 1 rfl) ?_
  refine xl_11 (v := qI P 11 j) (j := j) C hP (ix8 hj) (rfl) dX9_answer_15 ?_
  exact ct_iret C hS hP hD (⟨rfl, rfl⟩) (Nat.le_of_ble_eq_true rfl) (Nat.le_of_ble_eq_true rfl) dX9_answer_16
/-- how often it has thrown at s9, one after the other -/
def tmS (P : MS) (j : Nat) (s9 : Int32) : Int32 := if qI P 18 j = s9 then qI P 19 j + 1 else 1
def anS (P : MS) (j : Nat) (s9 : Int32) : MS := sI (sI P 19 j (tmS P j s9)) 18 j s9
set_option maxRecDepth 100000 in
theorem k_ans_2 {l : Launch} {s0 : State} {D : va_G} {cA : Nat → ClassId} {ad : Nat → Nat} (hG : cx_G l s0 D cA) {j : Nat} (s9 : Int32) (P : MS) (hj : j < 8) (hp : qI P 11 j = 2) : MC l s0 D cA ad yX9_answer cX9_answer 3 (some .int) rmX9_answer [.int (nI j), .int s9] P (some (.int (if tmS P j s9 < 3 then 2 else 0))) (if tmS P j s9 < 3 then anS P j s9 else sI (anS P j s9) 19 j 0) := by
  refine Ct.of (cA := cA) hG (by decide +kernel) (Nat.le_of_ble_eq_true rfl) ?_
  intro p e s m below meth c A C hnm hP hD hS ls hl
  have hx := cx_x C
  have hb := cx_b C
  have hl : lv_has ls 3 [(0, .ref (ad 0)), (1, .int (nI j)), (2, .int s9)] := hl
  refine lv_aload_n hx hb dX9_answer_0 rfl (lv_at hl 0 rfl) ?_
  refine gm_11 C hP tm_677 dX9_answer_1 ?_
  refine lv_iload_n hx hb dX9_answer_4 rfl (lv_at hl 1 rfl) ?_
  refine xl_11 (v := qI P 11 j) (j := j) C hP (ix8 hj) (rfl) dX9_answer_5 ?_
  refine lv_iconst (v := 2) hx hb dX9_answer_6 (by decide) ?_
  refine lv_icmp_eq (tgt := 17) hx hb dX9_answer_7 (by decide) (fun _ => ?_) (fun h9 => absurd (hp) h9)
  refine lv_aload_n hx hb dX9_answer_17 rfl (lv_at hl 0 rfl) ?_
  refine gm_19 C hP tm_685 dX9_answer_18 ?_
  refine lv_iload_n hx hb dX9_answer_21 rfl (lv_at hl 1 rfl) ?_
  refine lv_aload_n hx hb dX9_answer_22 rfl (lv_at hl 0 rfl) ?_
  refine gm_18 C hP tm_684 dX9_answer_23 ?_
  refine lv_iload_n hx hb dX9_answer_26 rfl (lv_at hl 1 rfl) ?_
  refine xl_18 (v := qI P 18 j) (j := j) C hP (ix8 hj) (rfl) dX9_answer_27 ?_
  refine lv_iload_n hx hb dX9_answer_28 rfl (lv_at hl 2 rfl) ?_
  refine lv_icmp_ne (tgt := 43) hx hb dX9_answer_29 (by decide) (fun a0 => ?_) (fun a0 => ?_)
  · have a1 : tmS P j s9 = 1 := if_neg a0
    refine lv_iconst (v := 1) hx hb dX9_answer_43 (by decide) ?_
    refine xs_19 (x := 1) (j := j) C hP hD hS (ix8 hj) dX9_answer_44 (fun H locs hP hD hS => ?_)
    refine lv_aload_n hx hb dX9_answer_45 rfl (lv_at hl 0 rfl) ?_
    refine gm_18 C hP tm_684 dX9_answer_46 ?_
    refine lv_iload_n hx hb dX9_answer_49 rfl (lv_at hl 1 rfl) ?_
    refine lv_iload_n hx hb dX9_answer_50 rfl (lv_at hl 2 rfl) ?_
    refine xs_18 (x := s9) (j := j) C hP hD hS (ix8 hj) dX9_answer_51 (fun H locs hP hD hS => ?_)
    refine lv_aload_n hx hb dX9_answer_52 rfl (lv_at hl 0 rfl) ?_
    refine gm_19 C hP tm_685 dX9_answer_53 ?_
    refine lv_iload_n hx hb dX9_answer_56 rfl (lv_at hl 1 rfl) ?_
    refine xl_19 (v := 1) (j := j) C hP (ix8 hj) (qI_s (P := P) (k := 19) (j := j) (v := 1)) dX9_answer_57 ?_
    refine lv_iconst (v := 3) hx hb dX9_answer_58 (by decide) ?_
    refine lv_icmp_ge (tgt := 64) hx hb dX9_answer_59 (by decide) (fun h9 => absurd h9 (by decide)) (fun _ => ?_)
    refine lv_iconst (v := 2) hx hb dX9_answer_62 (by decide) ?_
    exact ct_iret C hS hP hD (⟨by rw [if_pos (show tmS P j s9 < 3 by first | exact a2 | (rw [a1]; decide))], by rw [if_pos (show tmS P j s9 < 3 by first | exact a2 | (rw [a1]; decide)), anS, a1]⟩) (Nat.le_of_ble_eq_true rfl) (Nat.le_of_ble_eq_true rfl) dX9_answer_63
  have a1 : tmS P j s9 = qI P 19 j + 1 := if_pos a0
  refine lv_aload_n hx hb dX9_answer_32 rfl (lv_at hl 0 rfl) ?_
  refine gm_19 C hP tm_685 dX9_answer_33 ?_
  refine lv_iload_n hx hb dX9_answer_36 rfl (lv_at hl 1 rfl) ?_
  refine xl_19 (v := qI P 19 j) (j := j) C hP (ix8 hj) (rfl) dX9_answer_37 ?_
  refine lv_iconst (v := 1) hx hb dX9_answer_38 (by decide) ?_
  refine lv_iadd hx hb dX9_answer_39 ?_
  refine lv_goto (tgt := 44) hx hb dX9_answer_40 (by decide) ?_
  refine xs_19 (x := (qI P 19 j) + 1) (j := j) C hP hD hS (ix8 hj) dX9_answer_44 (fun H locs hP hD hS => ?_)
  refine lv_aload_n hx hb dX9_answer_45 rfl (lv_at hl 0 rfl) ?_
  refine gm_18 C hP tm_684 dX9_answer_46 ?_
  refine lv_iload_n hx hb dX9_answer_49 rfl (lv_at hl 1 rfl) ?_
  refine lv_iload_n hx hb dX9_answer_50 rfl (lv_at hl 2 rfl) ?_
  refine xs_18 (x := s9) (j := j) C hP hD hS (ix8 hj) dX9_answer_51 (fun H locs hP hD hS => ?_)
  refine lv_aload_n hx hb dX9_answer_52 rfl (lv_at hl 0 rfl) ?_
  refine gm_19 C hP tm_685 dX9_answer_53 ?_
  refine lv_iload_n hx hb dX9_answer_56 rfl (lv_at hl 1 rfl) ?_
  refine xl_19 (v := (qI P 19 j) + 1) (j := j) C hP (ix8 hj) (qI_s (P := P) (k := 19) (j := j) (v := (qI P 19 j) + 1)) dX9_answer_57 ?_
  refine lv_iconst (v := 3) hx hb dX9_answer_58 (by decide) ?_
  refine lv_icmp_ge (tgt := 64) hx hb dX9_answer_59 (by decide) (fun a3 => ?_) (fun a3 => ?_)
  · have a2 : ¬ tmS P j s9 < 3 := by rw [a1]; exact Int32.not_lt.mpr a3
    refine lv_aload_n hx hb dX9_answer_64 rfl (lv_at hl 0 rfl) ?_
    refine gm_19 C hP tm_685 dX9_answer_65 ?_
    refine lv_iload_n hx hb dX9_answer_68 rfl (lv_at hl 1 rfl) ?_
    refine lv_iconst (v := 0) hx hb dX9_answer_69 (by decide) ?_
    refine xs_19 (x := 0) (j := j) C hP hD hS (ix8 hj) dX9_answer_70 (fun H locs hP hD hS => ?_)
    refine lv_iconst (v := 0) hx hb dX9_answer_71 (by decide) ?_
    exact ct_iret C hS hP hD (⟨by rw [if_neg a2], by rw [if_neg a2, anS, a1]⟩) (Nat.le_of_ble_eq_true rfl) (Nat.le_of_ble_eq_true rfl) dX9_answer_72
  have a2 : tmS P j s9 < 3 := by rw [a1]; exact Int32.not_le.mp a3
  refine lv_iconst (v := 2) hx hb dX9_answer_62 (by decide) ?_
  exact ct_iret C hS hP hD (⟨by rw [if_pos (show tmS P j s9 < 3 by first | exact a2 | (rw [a1]; decide))], by rw [if_pos (show tmS P j s9 < 3 by first | exact a2 | (rw [a1]; decide)), anS, a1]⟩) (Nat.le_of_ble_eq_true rfl) (Nat.le_of_ble_eq_true rfl) dX9_answer_63
/-- whether the handler of consumer j handles the value v -/
def hOk (P : MS) (j : Nat) (v : Int64) : Bool := decide ((qI P 9 j = 0 → ¬ v = -1) ∧ (¬ qI P 9 j = 0 → 0 ≤ v) ∧ (qI P 9 j = 3 → qI P 25 j + 13 ≤ 400))
def lvN (x : UInt32) (v : Int64) : UInt32 := FP.fadd x (FP.fmul (FP.fsub (FP.l2f v) x) 1048576000)
def mnN (x : UInt64) (v : Int64) (n : Int32) : UInt64 := FP.dadd x (FP.ddiv (FP.dsub (FP.l2d v) x) (FP.i2d n))
/-- what it has afterwards -/
def hSt (P : MS) (j ev z : Nat) (v : Int64) (g : Int32) : MS :=
  if qI P 9 j = 0 then sJ (sI P 15 j (qI P 15 j + 1)) 22 j (qJ P 22 j + v)
  else if qI P 9 j = 1 then sF (sI P 15 j (qI P 15 j + 1)) j (lvN (qF P j) v)
  else if qI P 9 j = 2 then sD (sI P 15 j (qI P 15 j + 1)) j (mnN (qD P j) v (qI P 15 j + 1))
  else recS (sI P 15 j (qI P 15 j + 1)) j ev z v g
def lvOk (x : UInt32) (v : Int64) : Prop := vf_n32 (FP.fsub (FP.l2f v) x) ∧ vf_n32 (FP.fmul (FP.fsub (FP.l2f v) x) 1048576000) ∧ vf_n32 (lvN x v)
def mnOk (x : UInt64) (v : Int64) (n : Int32) : Prop := vf_n64 (FP.dsub (FP.l2d v) x) ∧ vf_n64 (FP.ddiv (FP.dsub (FP.l2d v) x) (FP.i2d n)) ∧ vf_n64 (mnN x v n)
abbrev rmX9_handles : Room := { frames := 2, cells := 0, slots := 0, locals := 49 }
set_option maxRecDepth 100000 in
theorem k_h0 {l : Launch} {s0 : State} {D : va_G} {cA : Nat → ClassId} {ad : Nat → Nat} (hG : cx_G l s0 D cA) {j ev sl z : Nat} {v : Int64} {g : Int32} (P : MS) (hj : j < 8) (hsl : qS P 1 = nI sl) (h0 : 0 < sl) (h16 : sl ≤ 16) (hev : ev < 2 ^ 31) (hv : qJ P 5 (ev % sl) = v) (hg : qI P 6 (ev % sl) = g) (hk : qI P 9 j = 0) : MC l s0 D cA ad yX9_handles cX9_handles 5 (some .boolean) rmX9_handles [.int (nI j), .int (nI ev)] P (some (.int (if hOk P j v then 1 else 0))) (if hOk P j v then hSt P j ev z v g else P) := by
  subst hv
  subst hg
  refine Ct.of (cA := cA) hG (by decide +kernel) (Nat.le_of_ble_eq_true rfl) ?_
  intro p e s m below meth c A C hnm hP hD hS ls hl
  have hx := cx_x C
  have hb := cx_b C
  have hl : lv_has ls 5 [(0, .ref (ad 0)), (1, .int (nI j)), (2, .int (nI ev))] := hl
  refine lv_aload_n hx hb dX9_handles_0 rfl (lv_at hl 0 rfl) ?_
  refine gm_5 C hP tm_671 dX9_handles_1 ?_
  refine lv_iload_n hx hb dX9_handles_4 rfl (lv_at hl 2 rfl) ?_
  refine lv_aload_n hx hb dX9_handles_5 rfl (lv_at hl 0 rfl) ?_
  refine gm_1 (v := qS P 1) C hP rfl tm_667 dX9_handles_6 ?_
  refine lv_irem hx hb dX9_handles_9 (ne_sl hsl h0 h16) ?_
  refine xl_5 (v := qJ P 5 (ev % sl)) (j := ev % sl) C hP (ix_rem hsl h0 h16 hev) (rfl) dX9_handles_10 ?_
  refine lv_lstore_n (lv' := [(3, .long (qJ P 5 (ev % sl))), (0, .ref (ad 0)), (1, .int (nI j)), (2, .int (nI ev))]) hx hb dX9_handles_11 rfl hl (by decide) rfl (fun ls hl => ?_)
  refine lv_aload_n hx hb dX9_handles_12 rfl (lv_at hl 1 rfl) ?_
  refine gm_9 C hP tm_675 dX9_handles_13 ?_
  refine lv_iload_n hx hb dX9_handles_16 rfl (lv_at hl 2 rfl) ?_
  refine xl_9 (v := 0) (j := j) C hP (ix8 hj) (hk) dX9_handles_17 ?_
  refine lv_if_ne (tgt := 32) hx hb dX9_handles_18 (by decide) (fun h9 => absurd rfl h9) (fun _ => ?_)
  refine lv_lload_n hx hb dX9_handles_21 rfl (lv_at hl 0 rfl) ?_
  refine lv_ldc2 (v := (-1)) hx hb (cx_own C) (cx_t C _ tm_805) dX9_handles_22 ?_
  refine W.lcmp hx hb dX9_handles_25 ?_
  refine lv_if_ne (tgt := 40) hx hb dX9_handles_26 (by decide) (fun h26 => ?_) (fun h26 => ?_)
  · rw [lg_cmp_eq] at h26
    refine lv_aload_n hx hb dX9_handles_40 rfl (lv_at hl 1 rfl) ?_
    refine gm_9 C hP tm_675 dX9_handles_41 ?_
    refine lv_iload_n hx hb dX9_handles_44 rfl (lv_at hl 2 rfl) ?_
    refine xl_9 (v := 0) (j := j) C hP (ix8 hj) (hk) dX9_handles_45 ?_
    refine lv_iconst (v := 3) hx hb dX9_handles_46 (by decide) ?_
    refine lv_icmp_ne (tgt := 67) hx hb dX9_handles_47 (by decide) (fun _ => ?_) (fun h9 => absurd h9 (by decide))
    refine lv_aload_n hx hb dX9_handles_67 rfl (lv_at hl 1 rfl) ?_
    refine gm_15 C hP tm_681 dX9_handles_68 ?_
    refine lv_iload_n hx hb dX9_handles_71 rfl (lv_at hl 2 rfl) ?_
    refine lv_dup2_11 hx hb dX9_handles_72 rfl rfl ?_
    refine xl_15 (v := qI P 15 j) (j := j) C hP (ix8 hj) (rfl) dX9_handles_73 ?_
    refine lv_iconst (v := 1) hx hb dX9_handles_74 (by decide) ?_
    refine lv_iadd hx hb dX9_handles_75 ?_
    refine xs_15 (x := (qI P 15 j) + 1) (j := j) C hP hD hS (ix8 hj) dX9_handles_76 (fun H locs hP hD hS => ?_)
    refine lv_aload_n hx hb dX9_handles_77 rfl (lv_at hl 1 rfl) ?_
    refine gm_9 C hP tm_675 dX9_handles_78 ?_
    refine lv_iload_n hx hb dX9_handles_81 rfl (lv_at hl 2 rfl) ?_
    refine xl_9 (v := 0) (j := j) C hP (ix8 hj) (hk) dX9_handles_82 ?_
    refine lv_if_ne (tgt := 100) hx hb dX9_handles_83 (by decide) (fun h9 => absurd rfl h9) (fun _ => ?_)
    refine lv_aload_n hx hb dX9_handles_86 rfl (lv_at hl 1 rfl) ?_
    refine gm_22 C hP tm_688 dX9_handles_87 ?_
    refine lv_iload_n hx hb dX9_handles_90 rfl (lv_at hl 2 rfl) ?_
    refine lv_aload_n hx hb dX9_handles_91 rfl (lv_at hl 1 rfl) ?_
    refine gm_22 C hP tm_688 dX9_handles_92 ?_
    refine lv_iload_n hx hb dX9_handles_95 rfl (lv_at hl 2 rfl) ?_
    refine xl_22 (v := qJ P 22 j) (j := j) C hP (ix8 hj) (rfl) dX9_handles_96 ?_
    refine lv_lload_n hx hb dX9_handles_97 rfl (lv_at hl 0 rfl) ?_
    refine lv_ladd hx hb dX9_handles_98 ?_
    refine xs_22 (x := (qJ P 22 j) + (qJ P 5 (ev % sl))) (j := j) C hP hD hS (ix8 hj) dX9_handles_99 (fun H locs hP hD hS => ?_)
    refine lv_aload_n hx hb dX9_handles_100 rfl (lv_at hl 1 rfl) ?_
    refine gm_9 C hP tm_675 dX9_handles_101 ?_
    refine lv_iload_n hx hb dX9_handles_104 rfl (lv_at hl 2 rfl) ?_
    refine xl_9 (v := 0) (j := j) C hP (ix8 hj) (hk) dX9_handles_105 ?_
    refine lv_iconst (v := 1) hx hb dX9_handles_106 (by decide) ?_
    refine lv_icmp_ne (tgt := 135) hx hb dX9_handles_107 (by decide) (fun _ => ?_) (fun h9 => absurd h9 (by decide))
    refine lv_aload_n hx hb dX9_handles_135 rfl (lv_at hl 1 rfl) ?_
    refine gm_9 C hP tm_675 dX9_handles_136 ?_
    refine lv_iload_n hx hb dX9_handles_139 rfl (lv_at hl 2 rfl) ?_
    refine xl_9 (v := 0) (j := j) C hP (ix8 hj) (hk) dX9_handles_140 ?_
    refine lv_iconst (v := 2) hx hb dX9_handles_141 (by decide) ?_
    refine lv_icmp_ne (tgt := 175) hx hb dX9_handles_142 (by decide) (fun _ => ?_) (fun h9 => absurd h9 (by decide))
    refine lv_aload_n hx hb dX9_handles_175 rfl (lv_at hl 1 rfl) ?_
    refine gm_9 C hP tm_675 dX9_handles_176 ?_
    refine lv_iload_n hx hb dX9_handles_179 rfl (lv_at hl 2 rfl) ?_
    refine xl_9 (v := 0) (j := j) C hP (ix8 hj) (hk) dX9_handles_180 ?_
    refine lv_iconst (v := 3) hx hb dX9_handles_181 (by decide) ?_
    refine lv_icmp_ne (tgt := 191) hx hb dX9_handles_182 (by decide) (fun _ => ?_) (fun h9 => absurd h9 (by decide))
    refine lv_iconst (v := 1) hx hb dX9_handles_191 (by decide) ?_
    exact ct_zret C (by first | rfl | decide) hS hP hD (⟨by rw [show hOk P j (qJ P 5 (ev % sl)) = true from decide_eq_true ⟨fun _ => h26, fun h => absurd hk h, fun h => absurd (h.symm.trans hk) (by decide)⟩] <;> rfl, by rw [show hOk P j (qJ P 5 (ev % sl)) = true from decide_eq_true ⟨fun _ => h26, fun h => absurd hk h, fun h => absurd (h.symm.trans hk) (by decide)⟩, if_pos rfl, hSt, if_pos hk] <;> rfl⟩) (Nat.le_of_ble_eq_true rfl) (Nat.le_of_ble_eq_true rfl) dX9_handles_192
  rw [lg_cmp_eq] at h26
  refine lv_goto (tgt := 38) hx hb dX9_handles_29 (by decide) ?_
  refine lv_iconst (v := 0) hx hb dX9_handles_38 (by decide) ?_
  exact ct_zret C (by first | rfl | decide) hS hP hD (⟨by rw [show hOk P j (qJ P 5 (ev % sl)) = false from decide_eq_false (fun h => (by first | exact h.1 hk h26 | exact absurd (h.2.1 (by rw [hk]; decide)) h35 | exact absurd (h.2.1 (by rw [hk]; decide)) (Int64.not_le.mpr h35) | exact h62 (h.2.2 hk)))]; rfl, by rw [show hOk P j (qJ P 5 (ev % sl)) = false from decide_eq_false (fun h => (by first | exact h.1 hk h26 | exact absurd (h.2.1 (by rw [hk]; decide)) h35 | exact absurd (h.2.1 (by rw [hk]; decide)) (Int64.not_le.mpr h35) | exact h62 (h.2.2 hk)))]; rfl⟩) (Nat.le_of_ble_eq_true rfl) (Nat.le_of_ble_eq_true rfl) dX9_handles_39
set_option maxRecDepth 100000 in
theorem k_h1 {l : Launch} {s0 : State} {D : va_G} {cA : Nat → ClassId} {ad : Nat → Nat} (hG : cx_G l s0 D cA) {j ev sl z : Nat} {v : Int64} {g : Int32} (P : MS) (hj : j < 8) (hsl : qS P 1 = nI sl) (h0 : 0 < sl) (h16 : sl ≤ 16) (hev : ev < 2 ^ 31) (hv : qJ P 5 (ev % sl) = v) (hg : qI P 6 (ev % sl) = g) (hk : qI P 9 j = 1) (hn : 0 ≤ v → lvOk (qF P j) v) : MC l s0 D cA ad yX9_handles cX9_handles 5 (some .boolean) rmX9_handles [.int (nI j), .int (nI ev)] P (some (.int (if hOk P j v then 1 else 0))) (if hOk P j v then hSt P j ev z v g else P) := by
  subst hv
  subst hg
  refine Ct.of (cA := cA) hG (by decide +kernel) (Nat.le_of_ble_eq_true rfl) ?_
  intro p e s m below meth c A C hnm hP hD hS ls hl
  have hx := cx_x C
  have hb := cx_b C
  have hl : lv_has ls 5 [(0, .ref (ad 0)), (1, .int (nI j)), (2, .int (nI ev))] := hl
  refine lv_aload_n hx hb dX9_handles_0 rfl (lv_at hl 0 rfl) ?_
  refine gm_5 C hP tm_671 dX9_handles_1 ?_
  refine lv_iload_n hx hb dX9_handles_4 rfl (lv_at hl 2 rfl) ?_
  refine lv_aload_n hx hb dX9_handles_5 rfl (lv_at hl 0 rfl) ?_
  refine gm_1 (v := qS P 1) C hP rfl tm_667 dX9_handles_6 ?_
  refine lv_irem hx hb dX9_handles_9 (ne_sl hsl h0 h16) ?_
  refine xl_5 (v := qJ P 5 (ev % sl)) (j := ev % sl) C hP (ix_rem hsl h0 h16 hev) (rfl) dX9_handles_10 ?_
  refine lv_lstore_n (lv' := [(3, .long (qJ P 5 (ev % sl))), (0, .ref (ad 0)), (1, .int (nI j)), (2, .int (nI ev))]) hx hb dX9_handles_11 rfl hl (by decide) rfl (fun ls hl => ?_)
  refine lv_aload_n hx hb dX9_handles_12 rfl (lv_at hl 1 rfl) ?_
  refine gm_9 C hP tm_675 dX9_handles_13 ?_
  refine lv_iload_n hx hb dX9_handles_16 rfl (lv_at hl 2 rfl) ?_
  refine xl_9 (v := 1) (j := j) C hP (ix8 hj) (hk) dX9_handles_17 ?_
  refine lv_if_ne (tgt := 32) hx hb dX9_handles_18 (by decide) (fun _ => ?_) (fun h9 => absurd h9 (by decide))
  refine lv_lload_n hx hb dX9_handles_32 rfl (lv_at hl 0 rfl) ?_
  refine lv_lconst (v := 0) hx hb dX9_handles_33 (by decide) ?_
  refine W.lcmp hx hb dX9_handles_34 ?_
  refine lv_if_ge (tgt := 40) hx hb dX9_handles_35 (by decide) (fun h35 => ?_) (fun h35 => ?_)
  · rw [lg_cmp_ge] at h35
    refine lv_aload_n hx hb dX9_handles_40 rfl (lv_at hl 1 rfl) ?_
    refine gm_9 C hP tm_675 dX9_handles_41 ?_
    refine lv_iload_n hx hb dX9_handles_44 rfl (lv_at hl 2 rfl) ?_
    refine xl_9 (v := 1) (j := j) C hP (ix8 hj) (hk) dX9_handles_45 ?_
    refine lv_iconst (v := 3) hx hb dX9_handles_46 (by decide) ?_
    refine lv_icmp_ne (tgt := 67) hx hb dX9_handles_47 (by decide) (fun _ => ?_) (fun h9 => absurd h9 (by decide))
    refine lv_aload_n hx hb dX9_handles_67 rfl (lv_at hl 1 rfl) ?_
    refine gm_15 C hP tm_681 dX9_handles_68 ?_
    refine lv_iload_n hx hb dX9_handles_71 rfl (lv_at hl 2 rfl) ?_
    refine lv_dup2_11 hx hb dX9_handles_72 rfl rfl ?_
    refine xl_15 (v := qI P 15 j) (j := j) C hP (ix8 hj) (rfl) dX9_handles_73 ?_
    refine lv_iconst (v := 1) hx hb dX9_handles_74 (by decide) ?_
    refine lv_iadd hx hb dX9_handles_75 ?_
    refine xs_15 (x := (qI P 15 j) + 1) (j := j) C hP hD hS (ix8 hj) dX9_handles_76 (fun H locs hP hD hS => ?_)
    refine lv_aload_n hx hb dX9_handles_77 rfl (lv_at hl 1 rfl) ?_
    refine gm_9 C hP tm_675 dX9_handles_78 ?_
    refine lv_iload_n hx hb dX9_handles_81 rfl (lv_at hl 2 rfl) ?_
    refine xl_9 (v := 1) (j := j) C hP (ix8 hj) (hk) dX9_handles_82 ?_
    refine lv_if_ne (tgt := 100) hx hb dX9_handles_83 (by decide) (fun _ => ?_) (fun h9 => absurd h9 (by decide))
    refine lv_aload_n hx hb dX9_handles_100 rfl (lv_at hl 1 rfl) ?_
    refine gm_9 C hP tm_675 dX9_handles_101 ?_
    refine lv_iload_n hx hb dX9_handles_104 rfl (lv_at hl 2 rfl) ?_
    refine xl_9 (v := 1) (j := j) C hP (ix8 hj) (hk) dX9_handles_105 ?_
    refine lv_iconst (v := 1) hx hb dX9_handles_106 (by decide) ?_
    refine lv_icmp_ne (tgt := 135) hx hb dX9_handles_107 (by decide) (fun h9 => absurd rfl h9) (fun _ => ?_)
    refine lv_aload_n hx hb dX9_handles_110 rfl (lv_at hl 1 rfl) ?_
    refine gm_23 C hP tm_689 dX9_handles_111 ?_
    refine lv_iload_n hx hb dX9_handles_114 rfl (lv_at hl 2 rfl) ?_
    refine lv_aload_n hx hb dX9_handles_115 rfl (lv_at hl 1 rfl) ?_
    refine gm_23 C hP tm_689 dX9_handles_116 ?_
    refine lv_iload_n hx hb dX9_handles_119 rfl (lv_at hl 2 rfl) ?_
    refine xl_23 (v := qF P j) (j := j) C hP (ix8 hj) (rfl) dX9_handles_120 ?_
    refine lv_lload_n hx hb dX9_handles_121 rfl (lv_at hl 0 rfl) ?_
    refine lv_l2f hx hb dX9_handles_122 ?_
    refine lv_aload_n hx hb dX9_handles_123 rfl (lv_at hl 1 rfl) ?_
    refine gm_23 C hP tm_689 dX9_handles_124 ?_
    refine lv_iload_n hx hb dX9_handles_127 rfl (lv_at hl 2 rfl) ?_
    refine xl_23 (v := qF P j) (j := j) C hP (ix8 hj) (rfl) dX9_handles_128 ?_
    refine lv_fsub hx hb dX9_handles_129 ((hn h35).1) ?_
    refine lv_ldcf (v := 1048576000) hx hb (cx_own C) (cx_t C _ tm_806) dX9_handles_130 ?_
    refine lv_fmul hx hb dX9_handles_132 ((hn h35).2.1) ?_
    refine lv_fadd hx hb dX9_handles_133 ((hn h35).2.2) ?_
    refine xs_23 (x := FP.fadd (qF P j) (FP.fmul (FP.fsub (FP.l2f (qJ P 5 (ev % sl))) (qF P j)) 1048576000)) (j := j) C hP hD hS (ix8 hj) dX9_handles_134 (fun H locs hP hD hS => ?_)
    refine lv_aload_n hx hb dX9_handles_135 rfl (lv_at hl 1 rfl) ?_
    refine gm_9 C hP tm_675 dX9_handles_136 ?_
    refine lv_iload_n hx hb dX9_handles_139 rfl (lv_at hl 2 rfl) ?_
    refine xl_9 (v := 1) (j := j) C hP (ix8 hj) (hk) dX9_handles_140 ?_
    refine lv_iconst (v := 2) hx hb dX9_handles_141 (by decide) ?_
    refine lv_icmp_ne (tgt := 175) hx hb dX9_handles_142 (by decide) (fun _ => ?_) (fun h9 => absurd h9 (by decide))
    refine lv_aload_n hx hb dX9_handles_175 rfl (lv_at hl 1 rfl) ?_
    refine gm_9 C hP tm_675 dX9_handles_176 ?_
    refine lv_iload_n hx hb dX9_handles_179 rfl (lv_at hl 2 rfl) ?_
    refine xl_9 (v := 1) (j := j) C hP (ix8 hj) (hk) dX9_handles_180 ?_
    refine lv_iconst (v := 3) hx hb dX9_handles_181 (by decide) ?_
    refine lv_icmp_ne (tgt := 191) hx hb dX9_handles_182 (by decide) (fun _ => ?_) (fun h9 => absurd h9 (by decide))
    refine lv_iconst (v := 1) hx hb dX9_handles_191 (by decide) ?_
    exact ct_zret C (by first | rfl | decide) hS hP hD (⟨by rw [show hOk P j (qJ P 5 (ev % sl)) = true from decide_eq_true ⟨fun h => absurd (h.symm.trans hk) (by decide), fun _ => h35, fun h => absurd (h.symm.trans hk) (by decide)⟩] <;> rfl, by rw [show hOk P j (qJ P 5 (ev % sl)) = true from decide_eq_true ⟨fun h => absurd (h.symm.trans hk) (by decide), fun _ => h35, fun h => absurd (h.symm.trans hk) (by decide)⟩, if_pos rfl, hSt, if_neg (by rw [hk]; decide), if_pos hk] <;> rfl⟩) (Nat.le_of_ble_eq_true rfl) (Nat.le_of_ble_eq_true rfl) dX9_handles_192
  rw [lg_cmp_ge] at h35
  refine lv_iconst (v := 0) hx hb dX9_handles_38 (by decide) ?_
  exact ct_zret C (by first | rfl | decide) hS hP hD (⟨by rw [show hOk P j (qJ P 5 (ev % sl)) = false from decide_eq_false (fun h => (by first | exact h.1 hk h26 | exact absurd (h.2.1 (by rw [hk]; decide)) h35 | exact absurd (h.2.1 (by rw [hk]; decide)) (Int64.not_le.mpr h35) | exact h62 (h.2.2 hk)))]; rfl, by rw [show hOk P j (qJ P 5 (ev % sl)) = false from decide_eq_false (fun h => (by first | exact h.1 hk h26 | exact absurd (h.2.1 (by rw [hk]; decide)) h35 | exact absurd (h.2.1 (by rw [hk]; decide)) (Int64.not_le.mpr h35) | exact h62 (h.2.2 hk)))]; rfl⟩) (Nat.le_of_ble_eq_true rfl) (Nat.le_of_ble_eq_true rfl) dX9_handles_39
set_option maxRecDepth 100000 in
theorem k_h2 {l : Launch} {s0 : State} {D : va_G} {cA : Nat → ClassId} {ad : Nat → Nat} (hG : cx_G l s0 D cA) {j ev sl z : Nat} {v : Int64} {g : Int32} (P : MS) (hj : j < 8) (hsl : qS P 1 = nI sl) (h0 : 0 < sl) (h16 : sl ≤ 16) (hev : ev < 2 ^ 31) (hv : qJ P 5 (ev % sl) = v) (hg : qI P 6 (ev % sl) = g) (hk : qI P 9 j = 2) (hn : 0 ≤ v → mnOk (qD P j) v (qI P 15 j + 1)) : MC l s0 D cA ad yX9_handles cX9_handles 5 (some .boolean) rmX9_handles [.int (nI j), .int (nI ev)] P (some (.int (if hOk P j v then 1 else 0))) (if hOk P j v then hSt P j ev z v g else P) := by
  subst hv
  subst hg
  refine Ct.of (cA := cA) hG (by decide +kernel) (Nat.le_of_ble_eq_true rfl) ?_
  intro p e s m below meth c A C hnm hP hD hS ls hl
  have hx := cx_x C
  have hb := cx_b C
  have hl : lv_has ls 5 [(0, .ref (ad 0)), (1, .int (nI j)), (2, .int (nI ev))] := hl
  refine lv_aload_n hx hb dX9_handles_0 rfl (lv_at hl 0 rfl) ?_
  refine gm_5 C hP tm_671 dX9_handles_1 ?_
  refine lv_iload_n hx hb dX9_handles_4 rfl (lv_at hl 2 rfl) ?_
  refine lv_aload_n hx hb dX9_handles_5 rfl (lv_at hl 0 rfl) ?_
  refine gm_1 (v := qS P 1) C hP rfl tm_667 dX9_handles_6 ?_
  refine lv_irem hx hb dX9_handles_9 (ne_sl hsl h0 h16) ?_
  refine xl_5 (v := qJ P 5 (ev % sl)) (j := ev % sl) C hP (ix_rem hsl h0 h16 hev) (rfl) dX9_handles_10 ?_
  refine lv_lstore_n (lv' := [(3, .long (qJ P 5 (ev % sl))), (0, .ref (ad 0)), (1, .int (nI j)), (2, .int (nI ev))]) hx hb dX9_handles_11 rfl hl (by decide) rfl (fun ls hl => ?_)
  refine lv_aload_n hx hb dX9_handles_12 rfl (lv_at hl 1 rfl) ?_
  refine gm_9 C hP tm_675 dX9_handles_13 ?_
  refine lv_iload_n hx hb dX9_handles_16 rfl (lv_at hl 2 rfl) ?_
  refine xl_9 (v := 2) (j := j) C hP (ix8 hj) (hk) dX9_handles_17 ?_
  refine lv_if_ne (tgt := 32) hx hb dX9_handles_18 (by decide) (fun _ => ?_) (fun h9 => absurd h9 (by decide))
  refine lv_lload_n hx hb dX9_handles_32 rfl (lv_at hl 0 rfl) ?_
  refine lv_lconst (v := 0) hx hb dX9_handles_33 (by decide) ?_
  refine W.lcmp hx hb dX9_handles_34 ?_
  refine lv_if_ge (tgt := 40) hx hb dX9_handles_35 (by decide) (fun h35 => ?_) (fun h35 => ?_)
  · rw [lg_cmp_ge] at h35
    refine lv_aload_n hx hb dX9_handles_40 rfl (lv_at hl 1 rfl) ?_
    refine gm_9 C hP tm_675 dX9_handles_41 ?_
    refine lv_iload_n hx hb dX9_handles_44 rfl (lv_at hl 2 rfl) ?_
    refine xl_9 (v := 2) (j := j) C hP (ix8 hj) (hk) dX9_handles_45 ?_
    refine lv_iconst (v := 3) hx hb dX9_handles_46 (by decide) ?_
    refine lv_icmp_ne (tgt := 67) hx hb dX9_handles_47 (by decide) (fun _ => ?_) (fun h9 => absurd h9 (by decide))
    refine lv_aload_n hx hb dX9_handles_67 rfl (lv_at hl 1 rfl) ?_
    refine gm_15 C hP tm_681 dX9_handles_68 ?_
    refine lv_iload_n hx hb dX9_handles_71 rfl (lv_at hl 2 rfl) ?_
    refine lv_dup2_11 hx hb dX9_handles_72 rfl rfl ?_
    refine xl_15 (v := qI P 15 j) (j := j) C hP (ix8 hj) (rfl) dX9_handles_73 ?_
    refine lv_iconst (v := 1) hx hb dX9_handles_74 (by decide) ?_
    refine lv_iadd hx hb dX9_handles_75 ?_
    refine xs_15 (x := (qI P 15 j) + 1) (j := j) C hP hD hS (ix8 hj) dX9_handles_76 (fun H locs hP hD hS => ?_)
    refine lv_aload_n hx hb dX9_handles_77 rfl (lv_at hl 1 rfl) ?_
    refine gm_9 C hP tm_675 dX9_handles_78 ?_
    refine lv_iload_n hx hb dX9_handles_81 rfl (lv_at hl 2 rfl) ?_
    refine xl_9 (v := 2) (j := j) C hP (ix8 hj) (hk) dX9_handles_82 ?_
    refine lv_if_ne (tgt := 100) hx hb dX9_handles_83 (by decide) (fun _ => ?_) (fun h9 => absurd h9 (by decide))
    refine lv_aload_n hx hb dX9_handles_100 rfl (lv_at hl 1 rfl) ?_
    refine gm_9 C hP tm_675 dX9_handles_101 ?_
    refine lv_iload_n hx hb dX9_handles_104 rfl (lv_at hl 2 rfl) ?_
    refine xl_9 (v := 2) (j := j) C hP (ix8 hj) (hk) dX9_handles_105 ?_
    refine lv_iconst (v := 1) hx hb dX9_handles_106 (by decide) ?_
    refine lv_icmp_ne (tgt := 135) hx hb dX9_handles_107 (by decide) (fun _ => ?_) (fun h9 => absurd h9 (by decide))
    refine lv_aload_n hx hb dX9_handles_135 rfl (lv_at hl 1 rfl) ?_
    refine gm_9 C hP tm_675 dX9_handles_136 ?_
    refine lv_iload_n hx hb dX9_handles_139 rfl (lv_at hl 2 rfl) ?_
    refine xl_9 (v := 2) (j := j) C hP (ix8 hj) (hk) dX9_handles_140 ?_
    refine lv_iconst (v := 2) hx hb dX9_handles_141 (by decide) ?_
    refine lv_icmp_ne (tgt := 175) hx hb dX9_handles_142 (by decide) (fun h9 => absurd rfl h9) (fun _ => ?_)
    refine lv_aload_n hx hb dX9_handles_145 rfl (lv_at hl 1 rfl) ?_
    refine gm_24 C hP tm_690 dX9_handles_146 ?_
    refine lv_iload_n hx hb dX9_handles_149 rfl (lv_at hl 2 rfl) ?_
    refine lv_aload_n hx hb dX9_handles_150 rfl (lv_at hl 1 rfl) ?_
    refine gm_24 C hP tm_690 dX9_handles_151 ?_
    refine lv_iload_n hx hb dX9_handles_154 rfl (lv_at hl 2 rfl) ?_
    refine xl_24 (v := qD P j) (j := j) C hP (ix8 hj) (rfl) dX9_handles_155 ?_
    refine lv_lload_n hx hb dX9_handles_156 rfl (lv_at hl 0 rfl) ?_
    refine lv_l2d hx hb dX9_handles_157 ?_
    refine lv_aload_n hx hb dX9_handles_158 rfl (lv_at hl 1 rfl) ?_
    refine gm_24 C hP tm_690 dX9_handles_159 ?_
    refine lv_iload_n hx hb dX9_handles_162 rfl (lv_at hl 2 rfl) ?_
    refine xl_24 (v := qD P j) (j := j) C hP (ix8 hj) (rfl) dX9_handles_163 ?_
    refine lv_dsub hx hb dX9_handles_164 ((hn h35).1) ?_
    refine lv_aload_n hx hb dX9_handles_165 rfl (lv_at hl 1 rfl) ?_
    refine gm_15 C hP tm_681 dX9_handles_166 ?_
    refine lv_iload_n hx hb dX9_handles_169 rfl (lv_at hl 2 rfl) ?_
    refine xl_15 (v := (qI P 15 j) + 1) (j := j) C hP (ix8 hj) (qI_s (P := P) (k := 15) (j := j) (v := (qI P 15 j) + 1)) dX9_handles_170 ?_
    refine lv_i2d hx hb dX9_handles_171 ?_
    refine lv_ddiv hx hb dX9_handles_172 ((hn h35).2.1) ?_
    refine lv_dadd hx hb dX9_handles_173 ((hn h35).2.2) ?_
    refine xs_24 (x := FP.dadd (qD P j) (FP.ddiv (FP.dsub (FP.l2d (qJ P 5 (ev % sl))) (qD P j)) (FP.i2d ((qI P 15 j) + 1)))) (j := j) C hP hD hS (ix8 hj) dX9_handles_174 (fun H locs hP hD hS => ?_)
    refine lv_aload_n hx hb dX9_handles_175 rfl (lv_at hl 1 rfl) ?_
    refine gm_9 C hP tm_675 dX9_handles_176 ?_
    refine lv_iload_n hx hb dX9_handles_179 rfl (lv_at hl 2 rfl) ?_
    refine xl_9 (v := 2) (j := j) C hP (ix8 hj) (hk) dX9_handles_180 ?_
    refine lv_iconst (v := 3) hx hb dX9_handles_181 (by decide) ?_
    refine lv_icmp_ne (tgt := 191) hx hb dX9_handles_182 (by decide) (fun _ => ?_) (fun h9 => absurd h9 (by decide))
    refine lv_iconst (v := 1) hx hb dX9_handles_191 (by decide) ?_
    exact ct_zret C (by first | rfl | decide) hS hP hD (⟨by rw [show hOk P j (qJ P 5 (ev % sl)) = true from decide_eq_true ⟨fun h => absurd (h.symm.trans hk) (by decide), fun _ => h35, fun h => absurd (h.symm.trans hk) (by decide)⟩] <;> rfl, by rw [show hOk P j (qJ P 5 (ev % sl)) = true from decide_eq_true ⟨fun h => absurd (h.symm.trans hk) (by decide), fun _ => h35, fun h => absurd (h.symm.trans hk) (by decide)⟩, if_pos rfl, hSt, if_neg (by rw [hk]; decide), if_neg (by rw [hk]; decide), if_pos hk] <;> rfl⟩) (Nat.le_of_ble_eq_true rfl) (Nat.le_of_ble_eq_true rfl) dX9_handles_192
  rw [lg_cmp_ge] at h35
  refine lv_iconst (v := 0) hx hb dX9_handles_38 (by decide) ?_
  exact ct_zret C (by first | rfl | decide) hS hP hD (⟨by rw [show hOk P j (qJ P 5 (ev % sl)) = false from decide_eq_false (fun h => (by first | exact h.1 hk h26 | exact absurd (h.2.1 (by rw [hk]; decide)) h35 | exact absurd (h.2.1 (by rw [hk]; decide)) (Int64.not_le.mpr h35) | exact h62 (h.2.2 hk)))]; rfl, by rw [show hOk P j (qJ P 5 (ev % sl)) = false from decide_eq_false (fun h => (by first | exact h.1 hk h26 | exact absurd (h.2.1 (by rw [hk]; decide)) h35 | exact absurd (h.2.1 (by rw [hk]; decide)) (Int64.not_le.mpr h35) | exact h62 (h.2.2 hk)))]; rfl⟩) (Nat.le_of_ble_eq_true rfl) (Nat.le_of_ble_eq_true rfl) dX9_handles_39
set_option maxRecDepth 100000 in
theorem k_h3 {l : Launch} {s0 : State} {D : va_G} {cA : Nat → ClassId} {ad : Nat → Nat} (hG : cx_G l s0 D cA) {j ev sl z : Nat} {v : Int64} {g : Int32} (P : MS) (hj : j < 8) (hsl : qS P 1 = nI sl) (h0 : 0 < sl) (h16 : sl ≤ 16) (hev : ev < 2 ^ 31) (hv : qJ P 5 (ev % sl) = v) (hg : qI P 6 (ev % sl) = g) (hk : qI P 9 j = 3) (hz : qI P 25 j = nI z) (hz4 : z ≤ 400) : MC l s0 D cA ad yX9_handles cX9_handles 5 (some .boolean) rmX9_handles [.int (nI j), .int (nI ev)] P (some (.int (if hOk P j v then 1 else 0))) (if hOk P j v then hSt P j ev z v g else P) := by
  subst hv
  subst hg
  refine Ct.of (cA := cA) hG (by decide +kernel) (Nat.le_of_ble_eq_true rfl) ?_
  intro p e s m below meth c A C hnm hP hD hS ls hl
  have hx := cx_x C
  have hb := cx_b C
  have hl : lv_has ls 5 [(0, .ref (ad 0)), (1, .int (nI j)), (2, .int (nI ev))] := hl
  refine lv_aload_n hx hb dX9_handles_0 rfl (lv_at hl 0 rfl) ?_
  refine gm_5 C hP tm_671 dX9_handles_1 ?_
  refine lv_iload_n hx hb dX9_handles_4 rfl (lv_at hl 2 rfl) ?_
  refine lv_aload_n hx hb dX9_handles_5 rfl (lv_at hl 0 rfl) ?_
  refine gm_1 (v := qS P 1) C hP rfl tm_667 dX9_handles_6 ?_
  refine lv_irem hx hb dX9_handles_9 (ne_sl hsl h0 h16) ?_
  refine xl_5 (v := qJ P 5 (ev % sl)) (j := ev % sl) C hP (ix_rem hsl h0 h16 hev) (rfl) dX9_handles_10 ?_
  refine lv_lstore_n (lv' := [(3, .long (qJ P 5 (ev % sl))), (0, .ref (ad 0)), (1, .int (nI j)), (2, .int (nI ev))]) hx hb dX9_handles_11 rfl hl (by decide) rfl (fun ls hl => ?_)
  refine lv_aload_n hx hb dX9_handles_12 rfl (lv_at hl 1 rfl) ?_
  refine gm_9 C hP tm_675 dX9_handles_13 ?_
  refine lv_iload_n hx hb dX9_handles_16 rfl (lv_at hl 2 rfl) ?_
  refine xl_9 (v := 3) (j := j) C hP (ix8 hj) (hk) dX9_handles_17 ?_
  refine lv_if_ne (tgt := 32) hx hb dX9_handles_18 (by decide) (fun _ => ?_) (fun h9 => absurd h9 (by decide))
  refine lv_lload_n hx hb dX9_handles_32 rfl (lv_at hl 0 rfl) ?_
  refine lv_lconst (v := 0) hx hb dX9_handles_33 (by decide) ?_
  refine W.lcmp hx hb dX9_handles_34 ?_
  refine lv_if_ge (tgt := 40) hx hb dX9_handles_35 (by decide) (fun h35 => ?_) (fun h35 => ?_)
  · rw [lg_cmp_ge] at h35
    refine lv_aload_n hx hb dX9_handles_40 rfl (lv_at hl 1 rfl) ?_
    refine gm_9 C hP tm_675 dX9_handles_41 ?_
    refine lv_iload_n hx hb dX9_handles_44 rfl (lv_at hl 2 rfl) ?_
    refine xl_9 (v := 3) (j := j) C hP (ix8 hj) (hk) dX9_handles_45 ?_
    refine lv_iconst (v := 3) hx hb dX9_handles_46 (by decide) ?_
    refine lv_icmp_ne (tgt := 67) hx hb dX9_handles_47 (by decide) (fun h9 => absurd rfl h9) (fun _ => ?_)
    refine lv_aload_n hx hb dX9_handles_50 rfl (lv_at hl 1 rfl) ?_
    refine gm_25 C hP tm_691 dX9_handles_51 ?_
    refine lv_iload_n hx hb dX9_handles_54 rfl (lv_at hl 2 rfl) ?_
    refine xl_25 (v := qI P 25 j) (j := j) C hP (ix8 hj) (rfl) dX9_handles_55 ?_
    refine lv_bipush (v := 13) hx hb dX9_handles_56 (by decide) ?_
    refine lv_iadd hx hb dX9_handles_58 ?_
    refine lv_sipush (v := 400) hx hb dX9_handles_59 (by decide) ?_
    refine lv_icmp_le (tgt := 67) hx hb dX9_handles_62 (by decide) (fun h62 => ?_) (fun h62 => ?_)
    · have hz5 : z + 13 ≤ 400 := by have h7 := h62; rw [hz] at h7; exact nI_le13 hz4 h7
      refine lv_aload_n hx hb dX9_handles_67 rfl (lv_at hl 1 rfl) ?_
      refine gm_15 C hP tm_681 dX9_handles_68 ?_
      refine lv_iload_n hx hb dX9_handles_71 rfl (lv_at hl 2 rfl) ?_
      refine lv_dup2_11 hx hb dX9_handles_72 rfl rfl ?_
      refine xl_15 (v := qI P 15 j) (j := j) C hP (ix8 hj) (rfl) dX9_handles_73 ?_
      refine lv_iconst (v := 1) hx hb dX9_handles_74 (by decide) ?_
      refine lv_iadd hx hb dX9_handles_75 ?_
      refine xs_15 (x := (qI P 15 j) + 1) (j := j) C hP hD hS (ix8 hj) dX9_handles_76 (fun H locs hP hD hS => ?_)
      refine lv_aload_n hx hb dX9_handles_77 rfl (lv_at hl 1 rfl) ?_
      refine gm_9 C hP tm_675 dX9_handles_78 ?_
      refine lv_iload_n hx hb dX9_handles_81 rfl (lv_at hl 2 rfl) ?_
      refine xl_9 (v := 3) (j := j) C hP (ix8 hj) (hk) dX9_handles_82 ?_
      refine lv_if_ne (tgt := 100) hx hb dX9_handles_83 (by decide) (fun _ => ?_) (fun h9 => absurd h9 (by decide))
      refine lv_aload_n hx hb dX9_handles_100 rfl (lv_at hl 1 rfl) ?_
      refine gm_9 C hP tm_675 dX9_handles_101 ?_
      refine lv_iload_n hx hb dX9_handles_104 rfl (lv_at hl 2 rfl) ?_
      refine xl_9 (v := 3) (j := j) C hP (ix8 hj) (hk) dX9_handles_105 ?_
      refine lv_iconst (v := 1) hx hb dX9_handles_106 (by decide) ?_
      refine lv_icmp_ne (tgt := 135) hx hb dX9_handles_107 (by decide) (fun _ => ?_) (fun h9 => absurd h9 (by decide))
      refine lv_aload_n hx hb dX9_handles_135 rfl (lv_at hl 1 rfl) ?_
      refine gm_9 C hP tm_675 dX9_handles_136 ?_
      refine lv_iload_n hx hb dX9_handles_139 rfl (lv_at hl 2 rfl) ?_
      refine xl_9 (v := 3) (j := j) C hP (ix8 hj) (hk) dX9_handles_140 ?_
      refine lv_iconst (v := 2) hx hb dX9_handles_141 (by decide) ?_
      refine lv_icmp_ne (tgt := 175) hx hb dX9_handles_142 (by decide) (fun _ => ?_) (fun h9 => absurd h9 (by decide))
      refine lv_aload_n hx hb dX9_handles_175 rfl (lv_at hl 1 rfl) ?_
      refine gm_9 C hP tm_675 dX9_handles_176 ?_
      refine lv_iload_n hx hb dX9_handles_179 rfl (lv_at hl 2 rfl) ?_
      refine xl_9 (v := 3) (j := j) C hP (ix8 hj) (hk) dX9_handles_180 ?_
      refine lv_iconst (v := 3) hx hb dX9_handles_181 (by decide) ?_
      refine lv_icmp_ne (tgt := 191) hx hb dX9_handles_182 (by decide) (fun h9 => absurd rfl h9) (fun _ => ?_)
      refine lv_aload_n hx hb dX9_handles_185 rfl (lv_at hl 1 rfl) ?_
      refine lv_iload_n hx hb dX9_handles_186 rfl (lv_at hl 2 rfl) ?_
      refine lv_iload_n hx hb dX9_handles_187 rfl (lv_at hl 3 rfl) ?_
      refine mc_V (As := [.int (nI j), .int (nI ev)]) (rest := []) (r := none) (T := recS (sI P 15 j ((qI P 15 j) + 1)) j ev z (qJ P 5 (ev % sl)) (qI P 6 (ev % sl))) C (k_record (z := z) hG _ hj (hz) (by omega) hsl h0 h16 hev) tm_807 tm_809 tm_901 tm_3 tm_810 rfl hdX9_record ⟨Nat.le_of_ble_eq_true rfl, Nat.le_of_ble_eq_true rfl⟩ hl.1 rfl (Nat.le_of_ble_eq_true rfl) dX9_handles_188 ⟨Nat.le_of_ble_eq_true rfl, Nat.le_of_ble_eq_true rfl⟩ hP hD hS (fun H locs hP hD hS => ?_)
      refine lv_iconst (v := 1) hx hb dX9_handles_191 (by decide) ?_
      exact ct_zret C (by first | rfl | decide) hS hP hD (⟨by rw [show hOk P j (qJ P 5 (ev % sl)) = true from decide_eq_true ⟨fun h => absurd (h.symm.trans hk) (by decide), fun _ => h35, fun _ => h62⟩] <;> rfl, by rw [show hOk P j (qJ P 5 (ev % sl)) = true from decide_eq_true ⟨fun h => absurd (h.symm.trans hk) (by decide), fun _ => h35, fun _ => h62⟩, if_pos rfl, hSt, if_neg (by rw [hk]; decide), if_neg (by rw [hk]; decide), if_neg (by rw [hk]; decide)] <;> rfl⟩) (Nat.le_of_ble_eq_true rfl) (Nat.le_of_ble_eq_true rfl) dX9_handles_192
    have h62 : ¬ qI P 25 j + 13 ≤ 400 := h62
    refine lv_iconst (v := 0) hx hb dX9_handles_65 (by decide) ?_
    exact ct_zret C (by first | rfl | decide) hS hP hD (⟨by rw [show hOk P j (qJ P 5 (ev % sl)) = false from decide_eq_false (fun h => (by first | exact h.1 hk h26 | exact absurd (h.2.1 (by rw [hk]; decide)) h35 | exact absurd (h.2.1 (by rw [hk]; decide)) (Int64.not_le.mpr h35) | exact h62 (h.2.2 hk)))]; rfl, by rw [show hOk P j (qJ P 5 (ev % sl)) = false from decide_eq_false (fun h => (by first | exact h.1 hk h26 | exact absurd (h.2.1 (by rw [hk]; decide)) h35 | exact absurd (h.2.1 (by rw [hk]; decide)) (Int64.not_le.mpr h35) | exact h62 (h.2.2 hk)))]; rfl⟩) (Nat.le_of_ble_eq_true rfl) (Nat.le_of_ble_eq_true rfl) dX9_handles_66
  rw [lg_cmp_ge] at h35
  refine lv_iconst (v := 0) hx hb dX9_handles_38 (by decide) ?_
  exact ct_zret C (by first | rfl | decide) hS hP hD (⟨by rw [show hOk P j (qJ P 5 (ev % sl)) = false from decide_eq_false (fun h => (by first | exact h.1 hk h26 | exact absurd (h.2.1 (by rw [hk]; decide)) h35 | exact absurd (h.2.1 (by rw [hk]; decide)) (Int64.not_le.mpr h35) | exact h62 (h.2.2 hk)))]; rfl, by rw [show hOk P j (qJ P 5 (ev % sl)) = false from decide_eq_false (fun h => (by first | exact h.1 hk h26 | exact absurd (h.2.1 (by rw [hk]; decide)) h35 | exact absurd (h.2.1 (by rw [hk]; decide)) (Int64.not_le.mpr h35) | exact h62 (h.2.2 hk)))]; rfl⟩) (Nat.le_of_ble_eq_true rfl) (Nat.le_of_ble_eq_true rfl) dX9_handles_39
