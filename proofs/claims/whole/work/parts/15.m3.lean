/-! ===== the reference: places and bounds ===== -/
def fo (pl : Nat → Int32) (q : Int32) : Nat → Int32 → Int32
  | 0, f => f
  | k + 1, f => fo pl q k (if 0 ≤ q ∧ pl k = q then nI k else f)
def lsR (pl hs : Nat → Int32) (q t : Int32) : Nat → Int32
  | 0 => t
  | k + 1 => if pl k = q ∧ 0 ≤ hs k ∧ hs k < lsR pl hs q t k then hs k else lsR pl hs q t k
def nC (P : MS) : Nat := (qS P 8).toNatClampNeg
theorem nC_eq {P : MS} {n : Nat} (h : qS P 8 = nI n) (hn : n ≤ 8) : nC P = n := by unfold nC; rw [h]; exact nI_clamp (by omega)
/-- where a consumer is; of one in a pool, where the pool is -/
def plO (P : MS) (j : Nat) : Int32 := if 0 ≤ qI P 12 j then lsR (qI P 12) (qI P 20) (qI P 12 j) (qI P 21 (qI P 12 j).toNatClampNeg) (nC P) - 1 else qI P 13 j
def bdR (P : MS) (j : Nat) : Nat → Int32
  | 0 => qS P 4
  | k + 1 => if (if ((qI P 10 j >>> (nI k &&& 31)) &&& 1) = 1 then plO P k else bdR P j k) < bdR P j k then (if ((qI P 10 j >>> (nI k &&& 31)) &&& 1) = 1 then plO P k else bdR P j k) else bdR P j k
theorem not_ge {a b : Int32} (h : ¬ b ≤ a) : a < b := Int32.not_le.mp h
section Loops1
variable {p : Program} {l : Launch} {e : Env} {R : Room} {s : State} {m : MethodId} {args : Array Value} {below : List Frame} {meth : Method} {c : Code} {H : Heap} {locs : List Loc} {cells slots : Nat} {Q : State → Prop}
variable {s0 : State} {D : va_G} {cA : Nat → ClassId} {A : Nat → Prop} {ad : Nat → Nat}
set_option maxRecDepth 100000 in
theorem lp_firstOf (C : cx_C p l s m args meth c s0 D cA cX9_firstOf 4 (some .int) RX9 A) {P : MS} {q g : Int32} (hP : va_P D vwCl (mW cA ad P) H)
    (kk : ∀ ls : Array Slot, lv_has ls 4 [(2, .int g), (0, .ref (ad 0)), (1, .int q)] → W p l e R s m args below meth c H locs cells slots Q (F0 m 39 ls [])) :
    ∀ k : Nat, k ≤ 8 → ∀ f : Int32, fo (qI P 12) q k f = g → ∀ ls : Array Slot, lv_has ls 4 [(3, .int (nI k - 1)), (2, .int f), (0, .ref (ad 0)), (1, .int q)] → W p l e R s m args below meth c H locs cells slots Q (F0 m 9 ls []) := by
  have hx := cx_x C
  have hb := cx_b C
  intro k
  induction k with
  | zero =>
    intro _ f hf ls hl
    have hf : f = g := hf
    subst hf
    refine lv_iload_n hx hb dX9_firstOf_9 rfl (lv_at hl 0 rfl) ?_
    refine lv_if_lt (tgt := 39) hx hb dX9_firstOf_10 (by decide) (fun _ => ?_) (fun h9 => absurd (by decide +kernel) h9)
    exact kk ls (lv_sub hl [1, 2, 3] rfl)
  | succ k ih =>
    intro h8 f hf ls hl
    rw [nI_pred] at hl
    refine lv_iload_n hx hb dX9_firstOf_9 rfl (lv_at hl 0 rfl) ?_
    refine lv_if_lt (tgt := 39) hx hb dX9_firstOf_10 (by decide) (fun h9 => absurd h9 (nI_pos (by omega))) (fun _ => ?_)
    refine lv_iload_n hx hb dX9_firstOf_13 rfl (lv_at hl 3 rfl) ?_
    refine lv_if_lt (tgt := 31) hx hb dX9_firstOf_14 (by decide) (fun cq => ?_) (fun cq => ?_)
    · have c1 := cq
      refine lv_iload_n hx hb dX9_firstOf_31 rfl (lv_at hl 1 rfl) ?_
      refine lv_istore_n (lv' := [(2, .int f), (3, .int (nI k)), (0, .ref (ad 0)), (1, .int q)]) hx hb dX9_firstOf_32 rfl hl (by decide) rfl (fun ls hl => ?_)
      refine lv_iinc (v := nI k + (-1)) (lv' := [(3, .int (nI k + (-1))), (2, .int f), (0, .ref (ad 0)), (1, .int q)]) hx hb dX9_firstOf_33 hl (k := 1) rfl (by first | rfl | decide) (by decide) rfl (fun ls hl => ?_)
      refine lv_goto (tgt := 9) hx hb dX9_firstOf_36 (by decide) ?_
      rw [show nI k + (-1) = nI k - 1 from (Int32.sub_eq_add_neg ..).symm] at hl
      exact ih (by omega) _ (by rw [fo, if_neg (fun h => by first | exact c1 h.2 | exact absurd c1 (Int32.not_lt.mpr h.1))] at hf; exact hf) ls (lv_sub hl [0, 1, 2, 3] rfl)
    refine lv_aload_n hx hb dX9_firstOf_17 rfl (lv_at hl 2 rfl) ?_
    refine gm_12 C hP tm_678 dX9_firstOf_18 ?_
    refine lv_iload_n hx hb dX9_firstOf_21 rfl (lv_at hl 0 rfl) ?_
    refine xl_12 (v := qI P 12 k) (j := k) C hP (ix8 (by omega)) (rfl) dX9_firstOf_22 ?_
    refine lv_iload_n hx hb dX9_firstOf_23 rfl (lv_at hl 3 rfl) ?_
    refine lv_icmp_ne (tgt := 31) hx hb dX9_firstOf_24 (by decide) (fun c1 => ?_) (fun c1 => ?_)
    · refine lv_iload_n hx hb dX9_firstOf_31 rfl (lv_at hl 1 rfl) ?_
      refine lv_istore_n (lv' := [(2, .int f), (3, .int (nI k)), (0, .ref (ad 0)), (1, .int q)]) hx hb dX9_firstOf_32 rfl hl (by decide) rfl (fun ls hl => ?_)
      refine lv_iinc (v := nI k + (-1)) (lv' := [(3, .int (nI k + (-1))), (2, .int f), (0, .ref (ad 0)), (1, .int q)]) hx hb dX9_firstOf_33 hl (k := 1) rfl (by first | rfl | decide) (by decide) rfl (fun ls hl => ?_)
      refine lv_goto (tgt := 9) hx hb dX9_firstOf_36 (by decide) ?_
      rw [show nI k + (-1) = nI k - 1 from (Int32.sub_eq_add_neg ..).symm] at hl
      exact ih (by omega) _ (by rw [fo, if_neg (fun h => by first | exact c1 h.2 | exact absurd c1 (Int32.not_lt.mpr h.1))] at hf; exact hf) ls (lv_sub hl [0, 1, 2, 3] rfl)
    refine lv_iload_n hx hb dX9_firstOf_27 rfl (lv_at hl 0 rfl) ?_
    refine lv_goto (tgt := 32) hx hb dX9_firstOf_28 (by decide) ?_
    refine lv_istore_n (lv' := [(2, .int (nI k)), (3, .int (nI k)), (0, .ref (ad 0)), (1, .int q)]) hx hb dX9_firstOf_32 rfl hl (by decide) rfl (fun ls hl => ?_)
    refine lv_iinc (v := nI k + (-1)) (lv' := [(3, .int (nI k + (-1))), (2, .int (nI k)), (0, .ref (ad 0)), (1, .int q)]) hx hb dX9_firstOf_33 hl (k := 1) rfl (by first | rfl | decide) (by decide) rfl (fun ls hl => ?_)
    refine lv_goto (tgt := 9) hx hb dX9_firstOf_36 (by decide) ?_
    rw [show nI k + (-1) = nI k - 1 from (Int32.sub_eq_add_neg ..).symm] at hl
    exact ih (by omega) _ (by rw [fo, if_pos ⟨Int32.not_lt.mp cq, c1⟩] at hf; exact hf) ls (lv_sub hl [0, 1, 2, 3] rfl)
set_option maxRecDepth 100000 in
theorem lp_placeOf (C : cx_C p l s m args meth c s0 D cA cX9_placeOf 4 (some .int) RX9 A) {P : MS} {j n : Nat} (hn : qS P 8 = nI n) (hn8 : n ≤ 8) (hj : j < n) {t : Int32} (hP : va_P D vwCl (mW cA ad P) H)
    (kk : ∀ ls : Array Slot, lv_has ls 4 [(2, .int (lsR (qI P 12) (qI P 20) (qI P 12 j) t n))] → W p l e R s m args below meth c H locs cells slots Q (F0 m 89 ls [])) :
    ∀ d k : Nat, k + d = n → ∀ x : Int32, x = lsR (qI P 12) (qI P 20) (qI P 12 j) t k → ∀ ls : Array Slot, lv_has ls 4 [(3, .int (nI k)), (2, .int x), (0, .ref (ad 0)), (1, .int (nI j))] → W p l e R s m args below meth c H locs cells slots Q (F0 m 30 ls []) := by
  have hx := cx_x C
  have hb := cx_b C
  intro d
  induction d with
  | zero =>
    intro k hk x hx2 ls hl
    have hk : k = n := hk
    subst hk
    subst hx2
    refine lv_iload_n hx hb dX9_placeOf_30 rfl (lv_at hl 0 rfl) ?_
    refine lv_aload_n hx hb dX9_placeOf_31 rfl (lv_at hl 2 rfl) ?_
    refine gm_8 (v := qS P 8) C hP rfl tm_674 dX9_placeOf_32 ?_
    refine lv_icmp_ge (tgt := 89) hx hb dX9_placeOf_35 (by decide) (fun _ => ?_) (fun h9 => absurd (by rw [hn]; exact Int32.le_refl _) h9)
    exact kk ls (lv_sub hl [1] rfl)
  | succ d ih =>
    intro k hk x hx2 ls hl
    refine lv_iload_n hx hb dX9_placeOf_30 rfl (lv_at hl 0 rfl) ?_
    refine lv_aload_n hx hb dX9_placeOf_31 rfl (lv_at hl 2 rfl) ?_
    refine gm_8 (v := qS P 8) C hP rfl tm_674 dX9_placeOf_32 ?_
    refine lv_icmp_ge (tgt := 89) hx hb dX9_placeOf_35 (by decide) (fun h9 => absurd h9 (by rw [hn]; exact nI_ge (by omega) (by omega))) (fun _ => ?_)
    refine lv_aload_n hx hb dX9_placeOf_38 rfl (lv_at hl 2 rfl) ?_
    refine gm_12 C hP tm_678 dX9_placeOf_39 ?_
    refine lv_iload_n hx hb dX9_placeOf_42 rfl (lv_at hl 0 rfl) ?_
    refine xl_12 (v := qI P 12 k) (j := k) C hP (ix8 (by omega)) (rfl) dX9_placeOf_43 ?_
    refine lv_aload_n hx hb dX9_placeOf_44 rfl (lv_at hl 2 rfl) ?_
    refine gm_12 C hP tm_678 dX9_placeOf_45 ?_
    refine lv_iload_n hx hb dX9_placeOf_48 rfl (lv_at hl 3 rfl) ?_
    refine xl_12 (v := qI P 12 j) (j := j) C hP (ix8 (by omega)) (rfl) dX9_placeOf_49 ?_
    refine lv_icmp_ne (tgt := 81) hx hb dX9_placeOf_50 (by decide) (fun cp => ?_) (fun cp => ?_)
    · refine lv_iload_n hx hb dX9_placeOf_81 rfl (lv_at hl 1 rfl) ?_
      refine lv_istore_n (lv' := [(2, .int x), (3, .int (nI k)), (0, .ref (ad 0)), (1, .int (nI j))]) hx hb dX9_placeOf_82 rfl hl (by decide) rfl (fun ls hl => ?_)
      refine lv_iinc (v := nI k + 1) (lv' := [(3, .int (nI k + 1)), (2, .int x), (0, .ref (ad 0)), (1, .int (nI j))]) hx hb dX9_placeOf_83 hl (k := 1) rfl (by first | rfl | decide) (by decide) rfl (fun ls hl => ?_)
      refine lv_goto (tgt := 30) hx hb dX9_placeOf_86 (by decide) ?_
      rw [nI_1] at hl
      exact ih (k + 1) (by omega) _ (by rw [lsR, ← hx2]; exact (if_neg (fun h => by first | exact cp h.1 | exact absurd h.2.1 (Int32.not_le.mpr ch) | exact absurd h.2.2 (Int32.not_lt.mpr cl))).symm) ls (lv_sub hl [0, 1, 2, 3] rfl)
    refine lv_aload_n hx hb dX9_placeOf_53 rfl (lv_at hl 2 rfl) ?_
    refine gm_20 C hP tm_686 dX9_placeOf_54 ?_
    refine lv_iload_n hx hb dX9_placeOf_57 rfl (lv_at hl 0 rfl) ?_
    refine xl_20 (v := qI P 20 k) (j := k) C hP (ix8 (by omega)) (rfl) dX9_placeOf_58 ?_
    refine lv_if_lt (tgt := 81) hx hb dX9_placeOf_59 (by decide) (fun ch => ?_) (fun ch => ?_)
    · refine lv_iload_n hx hb dX9_placeOf_81 rfl (lv_at hl 1 rfl) ?_
      refine lv_istore_n (lv' := [(2, .int x), (3, .int (nI k)), (0, .ref (ad 0)), (1, .int (nI j))]) hx hb dX9_placeOf_82 rfl hl (by decide) rfl (fun ls hl => ?_)
      refine lv_iinc (v := nI k + 1) (lv' := [(3, .int (nI k + 1)), (2, .int x), (0, .ref (ad 0)), (1, .int (nI j))]) hx hb dX9_placeOf_83 hl (k := 1) rfl (by first | rfl | decide) (by decide) rfl (fun ls hl => ?_)
      refine lv_goto (tgt := 30) hx hb dX9_placeOf_86 (by decide) ?_
      rw [nI_1] at hl
      exact ih (k + 1) (by omega) _ (by rw [lsR, ← hx2]; exact (if_neg (fun h => by first | exact cp h.1 | exact absurd h.2.1 (Int32.not_le.mpr ch) | exact absurd h.2.2 (Int32.not_lt.mpr cl))).symm) ls (lv_sub hl [0, 1, 2, 3] rfl)
    refine lv_aload_n hx hb dX9_placeOf_62 rfl (lv_at hl 2 rfl) ?_
    refine gm_20 C hP tm_686 dX9_placeOf_63 ?_
    refine lv_iload_n hx hb dX9_placeOf_66 rfl (lv_at hl 0 rfl) ?_
    refine xl_20 (v := qI P 20 k) (j := k) C hP (ix8 (by omega)) (rfl) dX9_placeOf_67 ?_
    refine lv_iload_n hx hb dX9_placeOf_68 rfl (lv_at hl 1 rfl) ?_
    refine lv_icmp_ge (tgt := 81) hx hb dX9_placeOf_69 (by decide) (fun cl => ?_) (fun cl => ?_)
    · refine lv_iload_n hx hb dX9_placeOf_81 rfl (lv_at hl 1 rfl) ?_
      refine lv_istore_n (lv' := [(2, .int x), (3, .int (nI k)), (0, .ref (ad 0)), (1, .int (nI j))]) hx hb dX9_placeOf_82 rfl hl (by decide) rfl (fun ls hl => ?_)
      refine lv_iinc (v := nI k + 1) (lv' := [(3, .int (nI k + 1)), (2, .int x), (0, .ref (ad 0)), (1, .int (nI j))]) hx hb dX9_placeOf_83 hl (k := 1) rfl (by first | rfl | decide) (by decide) rfl (fun ls hl => ?_)
      refine lv_goto (tgt := 30) hx hb dX9_placeOf_86 (by decide) ?_
      rw [nI_1] at hl
      exact ih (k + 1) (by omega) _ (by rw [lsR, ← hx2]; exact (if_neg (fun h => by first | exact cp h.1 | exact absurd h.2.1 (Int32.not_le.mpr ch) | exact absurd h.2.2 (Int32.not_lt.mpr cl))).symm) ls (lv_sub hl [0, 1, 2, 3] rfl)
    refine lv_aload_n hx hb dX9_placeOf_72 rfl (lv_at hl 2 rfl) ?_
    refine gm_20 C hP tm_686 dX9_placeOf_73 ?_
    refine lv_iload_n hx hb dX9_placeOf_76 rfl (lv_at hl 0 rfl) ?_
    refine xl_20 (v := qI P 20 k) (j := k) C hP (ix8 (by omega)) (rfl) dX9_placeOf_77 ?_
    refine lv_goto (tgt := 82) hx hb dX9_placeOf_78 (by decide) ?_
    refine lv_istore_n (lv' := [(2, .int (qI P 20 k)), (3, .int (nI k)), (0, .ref (ad 0)), (1, .int (nI j))]) hx hb dX9_placeOf_82 rfl hl (by decide) rfl (fun ls hl => ?_)
    refine lv_iinc (v := nI k + 1) (lv' := [(3, .int (nI k + 1)), (2, .int (qI P 20 k)), (0, .ref (ad 0)), (1, .int (nI j))]) hx hb dX9_placeOf_83 hl (k := 1) rfl (by first | rfl | decide) (by decide) rfl (fun ls hl => ?_)
    refine lv_goto (tgt := 30) hx hb dX9_placeOf_86 (by decide) ?_
    rw [nI_1] at hl
    exact ih (k + 1) (by omega) _ (by rw [lsR, ← hx2]; exact (if_pos ⟨cp, Int32.not_lt.mp ch, Int32.not_le.mp cl⟩).symm) ls (lv_sub hl [0, 1, 2, 3] rfl)
end Loops1
abbrev rmX9_firstOf : Room := { frames := 0, cells := 0, slots := 0, locals := 0 }
abbrev rmX9_placeOf : Room := { frames := 0, cells := 0, slots := 0, locals := 0 }
set_option maxRecDepth 100000 in
theorem k_firstOf {l : Launch} {s0 : State} {D : va_G} {cA : Nat → ClassId} {ad : Nat → Nat} (hG : cx_G l s0 D cA) {n : Nat} (q : Int32) (P : MS) (hn : qS P 8 = nI n) (hn8 : n ≤ 8) : MC l s0 D cA ad yX9_firstOf cX9_firstOf 4 (some .int) rmX9_firstOf [.int q] P (some (.int (fo (qI P 12) q n (-1)))) P := by
  refine Ct.of (cA := cA) hG (by decide +kernel) (Nat.le_of_ble_eq_true rfl) ?_
  intro p e s m below meth c A C hnm hP hD hS ls hl
  have hx := cx_x C
  have hb := cx_b C
  have hl : lv_has ls 4 [(0, .ref (ad 0)), (1, .int q)] := hl
  refine lv_iconst (v := (-1)) hx hb dX9_firstOf_0 (by decide) ?_
  refine lv_istore_n (lv' := [(2, .int (-1)), (0, .ref (ad 0)), (1, .int q)]) hx hb dX9_firstOf_1 rfl hl (by decide) rfl (fun ls hl => ?_)
  refine lv_aload_n hx hb dX9_firstOf_2 rfl (lv_at hl 1 rfl) ?_
  refine gm_8 (v := qS P 8) C hP rfl tm_674 dX9_firstOf_3 ?_
  refine lv_iconst (v := 1) hx hb dX9_firstOf_6 (by decide) ?_
  refine lv_isub hx hb dX9_firstOf_7 ?_
  refine lv_istore_n (lv' := [(3, .int ((qS P 8) - 1)), (2, .int (-1)), (0, .ref (ad 0)), (1, .int q)]) hx hb dX9_firstOf_8 rfl hl (by decide) rfl (fun ls hl => ?_)
  rw [hn] at hl
  refine lp_firstOf C hP (fun ls hl => ?_) n hn8 (-1) rfl ls (lv_sub hl [0, 1, 2, 3] rfl)
  refine lv_iload_n hx hb dX9_firstOf_39 rfl (lv_at hl 0 rfl) ?_
  exact ct_iret C hS hP hD (⟨rfl, rfl⟩) (Nat.le_of_ble_eq_true rfl) (Nat.le_of_ble_eq_true rfl) dX9_firstOf_40
set_option maxRecDepth 100000 in
theorem k_place_n {l : Launch} {s0 : State} {D : va_G} {cA : Nat → ClassId} {ad : Nat → Nat} (hG : cx_G l s0 D cA) {j n : Nat} (P : MS) (hn : qS P 8 = nI n) (hn8 : n ≤ 8) (hj : j < n) (hq : ¬ (0 : Int32) ≤ qI P 12 j) : MC l s0 D cA ad yX9_placeOf cX9_placeOf 4 (some .int) rmX9_placeOf [.int (nI j)] P (some (.int (plO P j))) P := by
  refine Ct.of (cA := cA) hG (by decide +kernel) (Nat.le_of_ble_eq_true rfl) ?_
  intro p e s m below meth c A C hnm hP hD hS ls hl
  have hx := cx_x C
  have hb := cx_b C
  have hl : lv_has ls 4 [(0, .ref (ad 0)), (1, .int (nI j))] := hl
  refine lv_aload_n hx hb dX9_placeOf_0 rfl (lv_at hl 0 rfl) ?_
  refine gm_12 C hP tm_678 dX9_placeOf_1 ?_
  refine lv_iload_n hx hb dX9_placeOf_4 rfl (lv_at hl 1 rfl) ?_
  refine xl_12 (v := qI P 12 j) (j := j) C hP (ix8 (Nat.lt_of_lt_of_le hj hn8)) (rfl) dX9_placeOf_5 ?_
  refine lv_if_ge (tgt := 16) hx hb dX9_placeOf_6 (by decide) (fun h9 => absurd h9 (hq)) (fun _ => ?_)
  refine lv_aload_n hx hb dX9_placeOf_9 rfl (lv_at hl 0 rfl) ?_
  refine gm_13 C hP tm_679 dX9_placeOf_10 ?_
  refine lv_iload_n hx hb dX9_placeOf_13 rfl (lv_at hl 1 rfl) ?_
  refine xl_13 (v := qI P 13 j) (j := j) C hP (ix8 (Nat.lt_of_lt_of_le hj hn8)) (rfl) dX9_placeOf_14 ?_
  exact ct_iret C hS hP hD (⟨by rw [plO, if_neg hq], rfl⟩) (Nat.le_of_ble_eq_true rfl) (Nat.le_of_ble_eq_true rfl) dX9_placeOf_15
set_option maxRecDepth 100000 in
theorem k_place_p {l : Launch} {s0 : State} {D : va_G} {cA : Nat → ClassId} {ad : Nat → Nat} (hG : cx_G l s0 D cA) {j n t : Nat} (P : MS) (hn : qS P 8 = nI n) (hn8 : n ≤ 8) (hj : j < n) (hq : qI P 12 j = nI t) (ht : t < 2) : MC l s0 D cA ad yX9_placeOf cX9_placeOf 4 (some .int) rmX9_placeOf [.int (nI j)] P (some (.int (plO P j))) P := by
  refine Ct.of (cA := cA) hG (by decide +kernel) (Nat.le_of_ble_eq_true rfl) ?_
  intro p e s m below meth c A C hnm hP hD hS ls hl
  have hx := cx_x C
  have hb := cx_b C
  have hl : lv_has ls 4 [(0, .ref (ad 0)), (1, .int (nI j))] := hl
  refine lv_aload_n hx hb dX9_placeOf_0 rfl (lv_at hl 0 rfl) ?_
  refine gm_12 C hP tm_678 dX9_placeOf_1 ?_
  refine lv_iload_n hx hb dX9_placeOf_4 rfl (lv_at hl 1 rfl) ?_
  refine xl_12 (v := qI P 12 j) (j := j) C hP (ix8 (Nat.lt_of_lt_of_le hj hn8)) (rfl) dX9_placeOf_5 ?_
  refine lv_if_ge (tgt := 16) hx hb dX9_placeOf_6 (by decide) (fun _ => ?_) (fun h9 => absurd (by rw [hq]; exact nI_pos' (by omega)) h9)
  refine lv_aload_n hx hb dX9_placeOf_16 rfl (lv_at hl 0 rfl) ?_
  refine gm_21 C hP tm_687 dX9_placeOf_17 ?_
  refine lv_aload_n hx hb dX9_placeOf_20 rfl (lv_at hl 0 rfl) ?_
  refine gm_12 C hP tm_678 dX9_placeOf_21 ?_
  refine lv_iload_n hx hb dX9_placeOf_24 rfl (lv_at hl 1 rfl) ?_
  refine xl_12 (v := qI P 12 j) (j := j) C hP (ix8 (Nat.lt_of_lt_of_le hj hn8)) (rfl) dX9_placeOf_25 ?_
  refine xl_21 (v := qI P 21 t) (j := t) C hP (ix_eq hq ht (by decide)) (rfl) dX9_placeOf_26 ?_
  refine lv_istore_n (lv' := [(2, .int (qI P 21 t)), (0, .ref (ad 0)), (1, .int (nI j))]) hx hb dX9_placeOf_27 rfl hl (by decide) rfl (fun ls hl => ?_)
  refine lv_iconst (v := 0) hx hb dX9_placeOf_28 (by decide) ?_
  refine lv_istore_n (lv' := [(3, .int 0), (2, .int (qI P 21 t)), (0, .ref (ad 0)), (1, .int (nI j))]) hx hb dX9_placeOf_29 rfl hl (by decide) rfl (fun ls hl => ?_)
  refine lp_placeOf (n := n) (t := qI P 21 t) C hn hn8 hj hP (fun ls hl => ?_) n 0 (by omega) _ rfl ls (lv_sub hl [0, 1, 2, 3] rfl)
  refine lv_iload_n hx hb dX9_placeOf_89 rfl (lv_at hl 0 rfl) ?_
  refine lv_iconst (v := 1) hx hb dX9_placeOf_90 (by decide) ?_
  refine lv_isub hx hb dX9_placeOf_91 ?_
  exact ct_iret C hS hP hD (⟨by rw [plO, if_pos (by rw [hq]; exact nI_pos' (by omega)), nC_eq hn hn8, hq, nI_clamp (by omega)], rfl⟩) (Nat.le_of_ble_eq_true rfl) (Nat.le_of_ble_eq_true rfl) dX9_placeOf_92
theorem k_placeOf {l : Launch} {s0 : State} {D : va_G} {cA : Nat → ClassId} {ad : Nat → Nat} (hG : cx_G l s0 D cA) {j n : Nat} (P : MS) (hn : qS P 8 = nI n) (hn8 : n ≤ 8) (hj : j < n) (hq : qI P 12 j = -1 ∨ ∃ t, t < 2 ∧ qI P 12 j = nI t) : MC l s0 D cA ad yX9_placeOf cX9_placeOf 4 (some .int) rmX9_placeOf [.int (nI j)] P (some (.int (plO P j))) P := by
  rcases hq with h | ⟨t, ht, h⟩
  · exact k_place_n hG P hn hn8 hj (by rw [h]; decide)
  · exact k_place_p hG P hn hn8 hj h ht
abbrev rmX9_place : Room := { frames := 2, cells := 0, slots := 0, locals := 43 }
set_option maxRecDepth 100000 in
theorem k_Place_no {l : Launch} {s0 : State} {D : va_G} {cA : Nat → ClassId} {ad : Nat → Nat} (hG : cx_G l s0 D cA) {cn : Int32} (P : MS) (hc : ¬ ((0 : Int32) ≤ cn ∧ cn ≤ qS P 8 - 1)) : MC l s0 D cA ad yX9_place cX9_place 2 (some .long) rmX9_place [.int cn] P (some (.long ((0 : Int32).toInt64))) (sS (sS P 0 0) 0 1) := by
  refine Ct.of (cA := cA) hG (by decide +kernel) (Nat.le_of_ble_eq_true rfl) ?_
  intro p e s m below meth c A C hnm hP hD hS ls hl
  have hx := cx_x C
  have hb := cx_b C
  have hl : lv_has ls 2 [(0, .ref (ad 0)), (1, .int cn)] := hl
  refine lv_aload_n hx hb dX9_place_0 rfl (lv_at hl 0 rfl) ?_
  refine lv_iconst (v := 0) hx hb dX9_place_1 (by decide) ?_
  refine pm_0 (v := 0) C hP hD hS tm_666 dX9_place_2 (fun H locs hP hD hS => ?_)
  refine lv_aload_n hx hb dX9_place_5 rfl (lv_at hl 0 rfl) ?_
  refine lv_iload_n hx hb dX9_place_6 rfl (lv_at hl 1 rfl) ?_
  refine mc_V (As := [.int cn]) (rest := []) (r := some (.int 1)) (T := sS P 0 0) C (k_none_no hG (sS P 0 0) hc) tm_789 tm_791 tm_897 tm_3 tm_792 rfl hdX9_none ⟨Nat.le_of_ble_eq_true rfl, Nat.le_of_ble_eq_true rfl⟩ hl.1 rfl (Nat.le_of_ble_eq_true rfl) dX9_place_7 ⟨Nat.le_of_ble_eq_true rfl, Nat.le_of_ble_eq_true rfl⟩ hP hD hS (fun H locs hP hD hS => ?_)
  refine lv_if_eq (tgt := 22) hx hb dX9_place_10 (by decide) (fun h9 => absurd h9 (by decide)) (fun _ => ?_)
  refine lv_aload_n hx hb dX9_place_13 rfl (lv_at hl 0 rfl) ?_
  refine lv_iconst (v := 1) hx hb dX9_place_14 (by decide) ?_
  refine mc_V (As := [.int 1]) (rest := []) (r := some (.int 0)) (T := sS (sS P 0 0) 0 1) C (k_fail hG _ _) tm_769 tm_771 tm_895 tm_3 tm_772 rfl hdX9_fail ⟨Nat.le_of_ble_eq_true rfl, Nat.le_of_ble_eq_true rfl⟩ hl.1 rfl (Nat.le_of_ble_eq_true rfl) dX9_place_15 ⟨Nat.le_of_ble_eq_true rfl, Nat.le_of_ble_eq_true rfl⟩ hP hD hS (fun H locs hP hD hS => ?_)
  refine lv_i2l (v := (0 : Int32).toInt64) hx hb dX9_place_18 rfl ?_
  refine lv_goto (tgt := 28) hx hb dX9_place_19 (by decide) ?_
  exact ct_lret C hS hP hD (⟨rfl, rfl⟩) (Nat.le_of_ble_eq_true rfl) (Nat.le_of_ble_eq_true rfl) dX9_place_28
set_option maxRecDepth 100000 in
theorem k_Place {l : Launch} {s0 : State} {D : va_G} {cA : Nat → ClassId} {ad : Nat → Nat} (hG : cx_G l s0 D cA) {j n : Nat} (P : MS) (hn : qS P 8 = nI n) (hn8 : n ≤ 8) (hj : j < n) (hq : ∀ k, k < n → qI P 12 k = -1 ∨ ∃ t, t < 2 ∧ qI P 12 k = nI t) : MC l s0 D cA ad yX9_place cX9_place 2 (some .long) rmX9_place [.int (nI j)] P (some (.long (plO P j).toInt64)) (sS P 0 0) := by
  refine Ct.of (cA := cA) hG (by decide +kernel) (Nat.le_of_ble_eq_true rfl) ?_
  intro p e s m below meth c A C hnm hP hD hS ls hl
  have hx := cx_x C
  have hb := cx_b C
  have hl : lv_has ls 2 [(0, .ref (ad 0)), (1, .int (nI j))] := hl
  refine lv_aload_n hx hb dX9_place_0 rfl (lv_at hl 0 rfl) ?_
  refine lv_iconst (v := 0) hx hb dX9_place_1 (by decide) ?_
  refine pm_0 (v := 0) C hP hD hS tm_666 dX9_place_2 (fun H locs hP hD hS => ?_)
  refine lv_aload_n hx hb dX9_place_5 rfl (lv_at hl 0 rfl) ?_
  refine lv_iload_n hx hb dX9_place_6 rfl (lv_at hl 1 rfl) ?_
  refine mc_V (As := [.int (nI j)]) (rest := []) (r := some (.int 0)) (T := sS P 0 0) C (k_none_ok (n := n) hG (sS P 0 0) hn hn8 hj) tm_789 tm_791 tm_897 tm_3 tm_792 rfl hdX9_none ⟨Nat.le_of_ble_eq_true rfl, Nat.le_of_ble_eq_true rfl⟩ hl.1 rfl (Nat.le_of_ble_eq_true rfl) dX9_place_7 ⟨Nat.le_of_ble_eq_true rfl, Nat.le_of_ble_eq_true rfl⟩ hP hD hS (fun H locs hP hD hS => ?_)
  refine lv_if_eq (tgt := 22) hx hb dX9_place_10 (by decide) (fun _ => ?_) (fun h9 => absurd (by decide) h9)
  refine lv_aload_n hx hb dX9_place_22 rfl (lv_at hl 0 rfl) ?_
  refine lv_iload_n hx hb dX9_place_23 rfl (lv_at hl 1 rfl) ?_
  refine mc_V (As := [.int (nI j)]) (rest := []) (r := some (.int (plO P j))) (T := sS P 0 0) C (k_placeOf (n := n) hG (sS P 0 0) hn hn8 (by omega) (hq j (by omega))) tm_777 tm_779 tm_896 tm_3 tm_780 rfl hdX9_placeOf ⟨Nat.le_of_ble_eq_true rfl, Nat.le_of_ble_eq_true rfl⟩ hl.1 rfl (Nat.le_of_ble_eq_true rfl) dX9_place_24 ⟨Nat.le_of_ble_eq_true rfl, Nat.le_of_ble_eq_true rfl⟩ hP hD hS (fun H locs hP hD hS => ?_)
  refine lv_i2l (v := (plO P j).toInt64) hx hb dX9_place_27 rfl ?_
  exact ct_lret C hS hP hD (⟨rfl, rfl⟩) (Nat.le_of_ble_eq_true rfl) (Nat.le_of_ble_eq_true rfl) dX9_place_28
section Loops2
variable {p : Program} {l : Launch} {e : Env} {R : Room} {s : State} {m : MethodId} {args : Array Value} {below : List Frame} {meth : Method} {c : Code} {H : Heap} {locs : List Loc} {cells slots : Nat} {Q : State → Prop}
variable {s0 : State} {D : va_G} {cA : Nat → ClassId} {A : Nat → Prop} {ad : Nat → Nat}
set_option maxRecDepth 100000 in
theorem lp_bound (C : cx_C p l s m args meth c s0 D cA cX9_bound 5 (some .int) RX9 A) (hG : cx_G l s0 D cA) {P : MS} {j n : Nat} (hn : qS P 8 = nI n) (hn8 : n ≤ 8) (hj : j < n) (hq : ∀ k, k < n → qI P 12 k = -1 ∨ ∃ t, t < 2 ∧ qI P 12 k = nI t) (hR0 : rmX9_placeOf.frames + 1 ≤ R.frames ∧ 8 + (4 + 11) + rmX9_placeOf.locals ≤ R.locals) (hC0 : cells + rmX9_placeOf.cells ≤ R.cells ∧ slots + rmX9_placeOf.slots ≤ R.slots) 
    (kk : ∀ (H : Heap) (locs : List Loc) (ls : Array Slot), va_P D vwCl (mW cA ad P) H → va_D A (mW cA ad P) → va_S A s.heap H locs → lv_has ls 5 [(2, .int (bdR P j j))] → W p l e R s m args below meth c H locs cells slots Q (F0 m 56 ls [])) :
    ∀ d k : Nat, k + d = j → ∀ x : Int32, x = bdR P j k → ∀ (H : Heap) (locs : List Loc) (ls : Array Slot), va_P D vwCl (mW cA ad P) H → va_D A (mW cA ad P) → va_S A s.heap H locs → lv_has ls 5 [(3, .int (nI k)), (2, .int x), (0, .ref (ad 0)), (1, .int (nI j))] → W p l e R s m args below meth c H locs cells slots Q (F0 m 7 ls []) := by
  have hx := cx_x C
  have hb := cx_b C
  intro d
  induction d with
  | zero =>
    intro k hk x hx2 H locs ls hP hD hS hl
    have hk : k = j := hk
    subst hk
    subst hx2
    refine lv_iload_n hx hb dX9_bound_7 rfl (lv_at hl 0 rfl) ?_
    refine lv_iload_n hx hb dX9_bound_8 rfl (lv_at hl 3 rfl) ?_
    refine lv_icmp_ge (tgt := 56) hx hb dX9_bound_9 (by decide) (fun _ => ?_) (fun h9 => absurd (Int32.le_refl _) h9)
    exact kk H locs ls hP hD hS (lv_sub hl [1] rfl)
  | succ d ih =>
    intro k hk x hx2 H locs ls hP hD hS hl
    refine lv_iload_n hx hb dX9_bound_7 rfl (lv_at hl 0 rfl) ?_
    refine lv_iload_n hx hb dX9_bound_8 rfl (lv_at hl 3 rfl) ?_
    refine lv_icmp_ge (tgt := 56) hx hb dX9_bound_9 (by decide) (fun h9 => absurd h9 (nI_ge (by omega) (by omega))) (fun _ => ?_)
    refine lv_aload_n hx hb dX9_bound_12 rfl (lv_at hl 2 rfl) ?_
    refine gm_10 C hP tm_676 dX9_bound_13 ?_
    refine lv_iload_n hx hb dX9_bound_16 rfl (lv_at hl 3 rfl) ?_
    refine xl_10 (v := qI P 10 j) (j := j) C hP (ix8 (by omega)) (rfl) dX9_bound_17 ?_
    refine lv_iload_n hx hb dX9_bound_18 rfl (lv_at hl 0 rfl) ?_
    refine lv_ishr hx hb dX9_bound_19 ?_
    refine lv_iconst (v := 1) hx hb dX9_bound_20 (by decide) ?_
    refine lv_iand hx hb dX9_bound_21 ?_
    refine lv_iconst (v := 1) hx hb dX9_bound_22 (by decide) ?_
    refine lv_icmp_ne (tgt := 34) hx hb dX9_bound_23 (by decide) (fun cb => ?_) (fun cb => ?_)
    · refine lv_iload_n hx hb dX9_bound_34 rfl (lv_at hl 1 rfl) ?_
      refine lv_istore (lv' := [(4, .int x), (3, .int (nI k)), (2, .int x), (0, .ref (ad 0)), (1, .int (nI j))]) hx hb dX9_bound_35 hl (by decide) rfl (fun ls hl => ?_)
      refine lv_iload hx hb dX9_bound_37 (lv_at hl 0 rfl) ?_
      refine lv_iload_n hx hb dX9_bound_39 rfl (lv_at hl 2 rfl) ?_
      refine lv_icmp_ge (tgt := 48) hx hb dX9_bound_40 (by decide) (fun cl => ?_) (fun cl => ?_)
      · refine lv_iload_n hx hb dX9_bound_48 rfl (lv_at hl 2 rfl) ?_
        refine lv_istore_n (lv' := [(2, .int x), (4, .int x), (3, .int (nI k)), (0, .ref (ad 0)), (1, .int (nI j))]) hx hb dX9_bound_49 rfl hl (by decide) rfl (fun ls hl => ?_)
        refine lv_iinc (v := nI k + 1) (lv' := [(3, .int (nI k + 1)), (2, .int x), (4, .int x), (0, .ref (ad 0)), (1, .int (nI j))]) hx hb dX9_bound_50 hl (k := 2) rfl (by first | rfl | decide) (by decide) rfl (fun ls hl => ?_)
        refine lv_goto (tgt := 7) hx hb dX9_bound_53 (by decide) ?_
        rw [nI_1] at hl
        exact ih (k + 1) (by omega) _ (by rw [bdR, ← hx2]; simp only [if_neg cb]; split <;> rfl) H locs ls hP hD hS (lv_sub hl [0, 1, 3, 4] rfl)
      refine lv_iload hx hb dX9_bound_43 (lv_at hl 0 rfl) ?_
      refine lv_goto (tgt := 49) hx hb dX9_bound_45 (by decide) ?_
      refine lv_istore_n (lv' := [(2, .int x), (4, .int x), (3, .int (nI k)), (0, .ref (ad 0)), (1, .int (nI j))]) hx hb dX9_bound_49 rfl hl (by decide) rfl (fun ls hl => ?_)
      refine lv_iinc (v := nI k + 1) (lv' := [(3, .int (nI k + 1)), (2, .int x), (4, .int x), (0, .ref (ad 0)), (1, .int (nI j))]) hx hb dX9_bound_50 hl (k := 2) rfl (by first | rfl | decide) (by decide) rfl (fun ls hl => ?_)
      refine lv_goto (tgt := 7) hx hb dX9_bound_53 (by decide) ?_
      rw [nI_1] at hl
      exact ih (k + 1) (by omega) _ (by rw [bdR, ← hx2]; simp only [if_neg cb]; split <;> rfl) H locs ls hP hD hS (lv_sub hl [0, 1, 3, 4] rfl)
    refine lv_aload_n hx hb dX9_bound_26 rfl (lv_at hl 2 rfl) ?_
    refine lv_iload_n hx hb dX9_bound_27 rfl (lv_at hl 0 rfl) ?_
    refine mc_V (As := [.int (nI k)]) (rest := []) (r := some (.int (plO P k))) (T := P) C (k_placeOf (n := n) hG P hn hn8 (by omega) (hq k (by omega))) tm_777 tm_779 tm_896 tm_3 tm_780 rfl hdX9_placeOf hR0 hl.1 rfl (Nat.le_of_ble_eq_true rfl) dX9_bound_28 hC0 hP hD hS (fun H locs hP hD hS => ?_)
    refine lv_goto (tgt := 35) hx hb dX9_bound_31 (by decide) ?_
    refine lv_istore (lv' := [(4, .int (plO P k)), (3, .int (nI k)), (2, .int x), (0, .ref (ad 0)), (1, .int (nI j))]) hx hb dX9_bound_35 hl (by decide) rfl (fun ls hl => ?_)
    refine lv_iload hx hb dX9_bound_37 (lv_at hl 0 rfl) ?_
    refine lv_iload_n hx hb dX9_bound_39 rfl (lv_at hl 2 rfl) ?_
    refine lv_icmp_ge (tgt := 48) hx hb dX9_bound_40 (by decide) (fun cl => ?_) (fun cl => ?_)
    · refine lv_iload_n hx hb dX9_bound_48 rfl (lv_at hl 2 rfl) ?_
      refine lv_istore_n (lv' := [(2, .int x), (4, .int (plO P k)), (3, .int (nI k)), (0, .ref (ad 0)), (1, .int (nI j))]) hx hb dX9_bound_49 rfl hl (by decide) rfl (fun ls hl => ?_)
      refine lv_iinc (v := nI k + 1) (lv' := [(3, .int (nI k + 1)), (2, .int x), (4, .int (plO P k)), (0, .ref (ad 0)), (1, .int (nI j))]) hx hb dX9_bound_50 hl (k := 2) rfl (by first | rfl | decide) (by decide) rfl (fun ls hl => ?_)
      refine lv_goto (tgt := 7) hx hb dX9_bound_53 (by decide) ?_
      rw [nI_1] at hl
      exact ih (k + 1) (by omega) _ (by rw [bdR, ← hx2]; simp only [if_pos cb]; exact (if_neg (Int32.not_lt.mpr cl)).symm) H locs ls hP hD hS (lv_sub hl [0, 1, 3, 4] rfl)
    refine lv_iload hx hb dX9_bound_43 (lv_at hl 0 rfl) ?_
    refine lv_goto (tgt := 49) hx hb dX9_bound_45 (by decide) ?_
    refine lv_istore_n (lv' := [(2, .int (plO P k)), (4, .int (plO P k)), (3, .int (nI k)), (0, .ref (ad 0)), (1, .int (nI j))]) hx hb dX9_bound_49 rfl hl (by decide) rfl (fun ls hl => ?_)
    refine lv_iinc (v := nI k + 1) (lv' := [(3, .int (nI k + 1)), (2, .int (plO P k)), (4, .int (plO P k)), (0, .ref (ad 0)), (1, .int (nI j))]) hx hb dX9_bound_50 hl (k := 2) rfl (by first | rfl | decide) (by decide) rfl (fun ls hl => ?_)
    refine lv_goto (tgt := 7) hx hb dX9_bound_53 (by decide) ?_
    rw [nI_1] at hl
    exact ih (k + 1) (by omega) _ (by rw [bdR, ← hx2]; simp only [if_pos cb]; exact (if_pos (Int32.not_le.mp cl)).symm) H locs ls hP hD hS (lv_sub hl [0, 1, 3, 4] rfl)
end Loops2
abbrev rmX9_bound : Room := { frames := 1, cells := 0, slots := 0, locals := 23 }
set_option maxRecDepth 100000 in
theorem k_bound {l : Launch} {s0 : State} {D : va_G} {cA : Nat → ClassId} {ad : Nat → Nat} (hG : cx_G l s0 D cA) {j n : Nat} (P : MS) (hn : qS P 8 = nI n) (hn8 : n ≤ 8) (hj : j < n) (hq : ∀ k, k < n → qI P 12 k = -1 ∨ ∃ t, t < 2 ∧ qI P 12 k = nI t) : MC l s0 D cA ad yX9_bound cX9_bound 5 (some .int) rmX9_bound [.int (nI j)] P (some (.int (bdR P j j))) P := by
  refine Ct.of (cA := cA) hG (by decide +kernel) (Nat.le_of_ble_eq_true rfl) ?_
  intro p e s m below meth c A C hnm hP hD hS ls hl
  have hx := cx_x C
  have hb := cx_b C
  have hl : lv_has ls 5 [(0, .ref (ad 0)), (1, .int (nI j))] := hl
  refine lv_aload_n hx hb dX9_bound_0 rfl (lv_at hl 0 rfl) ?_
  refine gm_4 (v := qS P 4) C hP rfl tm_670 dX9_bound_1 ?_
  refine lv_istore_n (lv' := [(2, .int (qS P 4)), (0, .ref (ad 0)), (1, .int (nI j))]) hx hb dX9_bound_4 rfl hl (by decide) rfl (fun ls hl => ?_)
  refine lv_iconst (v := 0) hx hb dX9_bound_5 (by decide) ?_
  refine lv_istore_n (lv' := [(3, .int 0), (2, .int (qS P 4)), (0, .ref (ad 0)), (1, .int (nI j))]) hx hb dX9_bound_6 rfl hl (by decide) rfl (fun ls hl => ?_)
  refine lp_bound (n := n) C hG hn hn8 hj hq ⟨Nat.le_of_ble_eq_true rfl, Nat.le_of_ble_eq_true rfl⟩ ⟨Nat.le_of_ble_eq_true rfl, Nat.le_of_ble_eq_true rfl⟩ (fun H locs ls hP hD hS hl => ?_) j 0 (by omega) _ rfl _ _ ls hP hD hS (lv_sub hl [0, 1, 2, 3] rfl)
  refine lv_iload_n hx hb dX9_bound_56 rfl (lv_at hl 0 rfl) ?_
  exact ct_iret C hS hP hD (⟨rfl, rfl⟩) (Nat.le_of_ble_eq_true rfl) (Nat.le_of_ble_eq_true rfl) dX9_bound_57
