/-! ===== the class: the ring and the object are made ===== -/
def puL (S : Mem) (u : Nat) : Nat → Mem
  | 0 => S
  | k + 1 => uaJ (puL S u k) u k (-1)
theorem puL_r {S : Mem} {u a w n k : Nat} : ∀ i, (a ∈ mL S ∧ mK S a = k ∧ mN S a = n ∧ mR S 2 a = some w) → (a ∈ mL (puL S u i) ∧ mK (puL S u i) a = k ∧ mN (puL S u i) a = n ∧ mR (puL S u i) 2 a = some w)
  | 0, h => h
  | i + 1, h => puL_r i h
theorem puL_o {S : Mem} {u a n k : Nat} : ∀ i, (a ∈ mL S ∧ mK S a = k ∧ mN S a = n) → (a ∈ mL (puL S u i) ∧ mK (puL S u i) a = k ∧ mN (puL S u i) a = n)
  | 0, h => h
  | i + 1, h => puL_o i h
section Ri1
variable {p : Program} {l : Launch} {e : Env} {R : Room} {s : State} {m : MethodId} {args : Array Value} {below : List Frame} {meth : Method} {c : Code} {H : Heap} {locs : List Loc} {cells slots : Nat} {Q : State → Prop}
variable {s0 : State} {D : va_G} {cA : Nat → ClassId} {A : Nat → Prop} {ad : Nat → Nat}
set_option maxRecDepth 100000 in
theorem lp_ri (C : cx_C p l s m args meth c s0 D cA cX5_init 3 none RX5 A) {S : Mem} {a u N : Nat} (hN : N ≤ 16) (h1 : a ∈ mL S ∧ mK S a = 4 ∧ mR S 2 a = some u) (h2 : u ∈ mL S ∧ mK S u = 13 ∧ mN S u = N) 
    (kk : ∀ (H : Heap) (locs : List Loc) (ls : Array Slot), va_P D vwCl (pW cA (puL S u N)) H → va_D A (pW cA (puL S u N)) → va_S A s.heap H locs → W p l e R s m args below meth c H locs cells slots Q (F0 m 61 ls [])) :
    ∀ d i : Nat, i + d = N → ∀ T : Mem, T = puL S u i → ∀ (H : Heap) (locs : List Loc) (ls : Array Slot), va_P D vwCl (pW cA T) H → va_D A (pW cA T) → va_S A s.heap H locs → lv_has ls 3 [(2, .int (nI i)), (0, .ref a), (1, .int (nI N))] → W p l e R s m args below meth c H locs cells slots Q (F0 m 41 ls []) := by
  have hx := cx_x C
  have hb := cx_b C
  intro d
  induction d with
  | zero =>
    intro i hi T hT H locs ls hP hD hS hl
    have hi : i = N := hi
    subst hi
    subst hT
    refine lv_iload_n hx hb dX5_init_41 rfl (lv_at hl 0 rfl) ?_
    refine lv_iload_n hx hb dX5_init_42 rfl (lv_at hl 2 rfl) ?_
    refine lv_icmp_ge (tgt := 61) hx hb dX5_init_43 (by decide) (fun _ => ?_) (fun h9 => absurd (Int32.le_refl _) h9)
    exact kk H locs ls hP hD hS
  | succ d ih =>
    intro i hi T hT H locs ls hP hD hS hl
    have g1 : a ∈ mL T ∧ mK T a = 4 ∧ mN T a = mN S a ∧ mR T 2 a = some u := by rw [hT]; exact puL_r i ⟨h1.1, h1.2.1, rfl, h1.2.2⟩
    have g2 : u ∈ mL T ∧ mK T u = 13 ∧ mN T u = N := by rw [hT]; exact puL_o i h2
    refine lv_iload_n hx hb dX5_init_41 rfl (lv_at hl 0 rfl) ?_
    refine lv_iload_n hx hb dX5_init_42 rfl (lv_at hl 2 rfl) ?_
    refine lv_icmp_ge (tgt := 61) hx hb dX5_init_43 (by decide) (fun h9 => absurd h9 (nI_ge (by omega) (by omega))) (fun _ => ?_)
    refine lv_aload_n hx hb dX5_init_46 rfl (lv_at hl 1 rfl) ?_
    refine gf_5_2s (b := u) C hP g1.1 g1.2.1 (g1.2.2.2) tm_40 dX5_init_47 ?_
    refine lv_iload_n hx hb dX5_init_50 rfl (lv_at hl 0 rfl) ?_
    refine lv_ldc2 (v := (-1)) hx hb (cx_own C) (cx_t C _ tm_37) dX5_init_51 ?_
    refine as_J (x := (-1)) (j := i) C hP hD hS g2.1 g2.2.1 (ixN g2.2.2 (ix_nI (by omega) (by omega))) dX5_init_54 (fun H locs hP hD hS => ?_)
    refine lv_iinc (v := nI i + 1) (lv' := [(2, .int (nI i + 1)), (0, .ref a), (1, .int (nI N))]) hx hb dX5_init_55 hl (k := 0) rfl (by first | rfl | decide) (by decide) rfl (fun ls hl => ?_)
    refine lv_goto (tgt := 41) hx hb dX5_init_58 (by decide) ?_
    rw [nI_1] at hl
    exact ih (i + 1) (by omega) _ (by rw [puL, ← hT]) H locs ls hP hD hS (lv_sub hl [0, 1, 2] rfl)
end Ri1
abbrev rmX5_init : Room := { frames := 1, cells := 3, slots := 48, locals := 20 }
set_option maxRecDepth 100000 in
theorem c_rini {l : Launch} {s0 : State} {D : va_G} {cA : Nat → ClassId} (hG : cx_G l s0 D cA) {S : Mem} {a N : Nat}  (h1 : a ∈ mL S) (h2 : mK S a = 4) (hN : N ≤ 16) : PC l s0 D cA yX5_init cX5_init 3 none rmX5_init [.ref a, .int (nI N)] S (none) (fun S1 => ∃ q0 q1 q2 M0 M1 M2, q0 ∉ mL (uJ (uJ S 3 a (-1)) 4 a (-1)) ∧ q1 ∉ mL (uR M0 0 a (some q0)) ∧ q2 ∉ mL (uR M1 1 a (some q1)) ∧ M0 = nw (uJ (uJ S 3 a (-1)) 4 a (-1)) q0 13 N ∧ M1 = nw (uR M0 0 a (some q0)) q1 12 N ∧ M2 = nw (uR M1 1 a (some q1)) q2 13 N ∧ S1 = puL (uR M2 2 a (some q2)) q2 N) := by
  refine Ct.of (cA := cA) hG (by decide +kernel) (Nat.le_of_ble_eq_true rfl) ?_
  intro p e s m below meth c A C hnm hP hD hS ls hl
  have hx := cx_x C
  have hb := cx_b C
  have hl : lv_has ls 3 [(0, .ref a), (1, .int (nI N))] := hl
  refine lv_aload_n hx hb dX5_init_0 rfl (lv_at hl 0 rfl) ?_
  refine ct_obj C hl.1 tm_36 (Nat.le_of_ble_eq_true rfl) (Nat.le_of_ble_eq_true rfl) dX5_init_1 ?_
  refine lv_aload_n hx hb dX5_init_4 rfl (lv_at hl 0 rfl) ?_
  refine lv_ldc2 (v := (-1)) hx hb (cx_own C) (cx_t C _ tm_37) dX5_init_5 ?_
  refine pf_5_3 (v := (-1)) C hP hD hS h1 h2 tm_41 dX5_init_8 (fun H locs hP hD hS => ?_)
  refine lv_aload_n hx hb dX5_init_11 rfl (lv_at hl 0 rfl) ?_
  refine lv_ldc2 (v := (-1)) hx hb (cx_own C) (cx_t C _ tm_37) dX5_init_12 ?_
  refine pf_5_4 (v := (-1)) C hP hD hS h1 h2 tm_43 dX5_init_15 (fun H locs hP hD hS => ?_)
  refine lv_aload_n hx hb dX5_init_18 rfl (lv_at hl 0 rfl) ?_
  refine lv_iload_n hx hb dX5_init_19 rfl (lv_at hl 1 rfl) ?_
  refine nwa_J (N := N) C hP hD hS (nI_pos (by omega)) (nI_clamp (by omega)) (by omega) (Nat.le_of_ble_eq_true rfl) (by show 0 + N ≤ 48; omega) dX5_init_20 (fun q0 H hq0 hP hD hS => ?_)
  obtain ⟨M0, eM0⟩ : ∃ M9, M9 = nw (uJ (uJ S 3 a (-1)) 4 a (-1)) q0 13 N := ⟨_, rfl⟩
  rw [← eM0] at hP hD
  have lM0_0 : a ∈ mL M0 := by rw [eM0]; exact nw_L (S := uJ (uJ S 3 a (-1)) 4 a (-1)) (q := q0) (k := 13) (n := N) (a := a) h1
  have kM0_0 := (show mK M0 a = mK (uJ (uJ S 3 a (-1)) 4 a (-1)) a by rw [eM0]; exact nw_K (S := uJ (uJ S 3 a (-1)) 4 a (-1)) (q := q0) (k := 13) (n := N) (a := a) h1 hq0).trans h2
  have lM0q : q0 ∈ mL M0 := by rw [eM0]; exact nw_q (S := uJ (uJ S 3 a (-1)) 4 a (-1)) (q := q0) (k := 13) (n := N)
  have kM0q : mK M0 q0 = 13 := by rw [eM0]; exact nw_Kq (S := uJ (uJ S 3 a (-1)) 4 a (-1)) (q := q0) (k := 13) (n := N)
  have nM0q : mN M0 q0 = N := by rw [eM0]; exact nw_Nq (S := uJ (uJ S 3 a (-1)) 4 a (-1)) (q := q0) (k := 13) (n := N)
  refine pf_5_0 (v := some q0) C hnm hP hD hS lM0_0 kM0_0 tm_38 dX5_init_22 (fun H locs hP hD hS => ?_)
  refine lv_aload_n hx hb dX5_init_25 rfl (lv_at hl 0 rfl) ?_
  refine lv_iload_n hx hb dX5_init_26 rfl (lv_at hl 1 rfl) ?_
  refine nwa_I (N := N) C hP hD hS (nI_pos (by omega)) (nI_clamp (by omega)) (by omega) (Nat.le_of_ble_eq_true rfl) (by show 0 + N + N ≤ 48; omega) dX5_init_27 (fun q1 H hq1 hP hD hS => ?_)
  obtain ⟨M1, eM1⟩ : ∃ M9, M9 = nw (uR M0 0 a (some q0)) q1 12 N := ⟨_, rfl⟩
  rw [← eM1] at hP hD
  have lM1_0 : a ∈ mL M1 := by rw [eM1]; exact nw_L (S := uR M0 0 a (some q0)) (q := q1) (k := 12) (n := N) (a := a) lM0_0
  have kM1_0 := (show mK M1 a = mK (uR M0 0 a (some q0)) a by rw [eM1]; exact nw_K (S := uR M0 0 a (some q0)) (q := q1) (k := 12) (n := N) (a := a) lM0_0 hq1).trans kM0_0
  have lM1_1 : q0 ∈ mL M1 := by rw [eM1]; exact nw_L (S := uR M0 0 a (some q0)) (q := q1) (k := 12) (n := N) (a := q0) lM0q
  have kM1_1 := (show mK M1 q0 = mK (uR M0 0 a (some q0)) q0 by rw [eM1]; exact nw_K (S := uR M0 0 a (some q0)) (q := q1) (k := 12) (n := N) (a := q0) lM0q hq1).trans kM0q
  have nM1_1 := (show mN M1 q0 = mN (uR M0 0 a (some q0)) q0 by rw [eM1]; exact nw_N (S := uR M0 0 a (some q0)) (q := q1) (k := 12) (n := N) (a := q0) lM0q hq1).trans nM0q
  have lM1q : q1 ∈ mL M1 := by rw [eM1]; exact nw_q (S := uR M0 0 a (some q0)) (q := q1) (k := 12) (n := N)
  have kM1q : mK M1 q1 = 12 := by rw [eM1]; exact nw_Kq (S := uR M0 0 a (some q0)) (q := q1) (k := 12) (n := N)
  have nM1q : mN M1 q1 = N := by rw [eM1]; exact nw_Nq (S := uR M0 0 a (some q0)) (q := q1) (k := 12) (n := N)
  refine pf_5_1 (v := some q1) C hnm hP hD hS lM1_0 kM1_0 tm_39 dX5_init_29 (fun H locs hP hD hS => ?_)
  refine lv_aload_n hx hb dX5_init_32 rfl (lv_at hl 0 rfl) ?_
  refine lv_iload_n hx hb dX5_init_33 rfl (lv_at hl 1 rfl) ?_
  refine nwa_J (N := N) C hP hD hS (nI_pos (by omega)) (nI_clamp (by omega)) (by omega) (Nat.le_of_ble_eq_true rfl) (by show 0 + N + N + N ≤ 48; omega) dX5_init_34 (fun q2 H hq2 hP hD hS => ?_)
  obtain ⟨M2, eM2⟩ : ∃ M9, M9 = nw (uR M1 1 a (some q1)) q2 13 N := ⟨_, rfl⟩
  rw [← eM2] at hP hD
  have lM2_0 : a ∈ mL M2 := by rw [eM2]; exact nw_L (S := uR M1 1 a (some q1)) (q := q2) (k := 13) (n := N) (a := a) lM1_0
  have kM2_0 := (show mK M2 a = mK (uR M1 1 a (some q1)) a by rw [eM2]; exact nw_K (S := uR M1 1 a (some q1)) (q := q2) (k := 13) (n := N) (a := a) lM1_0 hq2).trans kM1_0
  have lM2_1 : q0 ∈ mL M2 := by rw [eM2]; exact nw_L (S := uR M1 1 a (some q1)) (q := q2) (k := 13) (n := N) (a := q0) lM1_1
  have kM2_1 := (show mK M2 q0 = mK (uR M1 1 a (some q1)) q0 by rw [eM2]; exact nw_K (S := uR M1 1 a (some q1)) (q := q2) (k := 13) (n := N) (a := q0) lM1_1 hq2).trans kM1_1
  have nM2_1 := (show mN M2 q0 = mN (uR M1 1 a (some q1)) q0 by rw [eM2]; exact nw_N (S := uR M1 1 a (some q1)) (q := q2) (k := 13) (n := N) (a := q0) lM1_1 hq2).trans nM1_1
  have lM2_2 : q1 ∈ mL M2 := by rw [eM2]; exact nw_L (S := uR M1 1 a (some q1)) (q := q2) (k := 13) (n := N) (a := q1) lM1q
  have kM2_2 := (show mK M2 q1 = mK (uR M1 1 a (some q1)) q1 by rw [eM2]; exact nw_K (S := uR M1 1 a (some q1)) (q := q2) (k := 13) (n := N) (a := q1) lM1q hq2).trans kM1q
  have nM2_2 := (show mN M2 q1 = mN (uR M1 1 a (some q1)) q1 by rw [eM2]; exact nw_N (S := uR M1 1 a (some q1)) (q := q2) (k := 13) (n := N) (a := q1) lM1q hq2).trans nM1q
  have lM2q : q2 ∈ mL M2 := by rw [eM2]; exact nw_q (S := uR M1 1 a (some q1)) (q := q2) (k := 13) (n := N)
  have kM2q : mK M2 q2 = 13 := by rw [eM2]; exact nw_Kq (S := uR M1 1 a (some q1)) (q := q2) (k := 13) (n := N)
  have nM2q : mN M2 q2 = N := by rw [eM2]; exact nw_Nq (S := uR M1 1 a (some q1)) (q := q2) (k := 13) (n := N)
  refine pf_5_2 (v := some q2) C hnm hP hD hS lM2_0 kM2_0 tm_40 dX5_init_36 (fun H locs hP hD hS => ?_)
  refine lv_iconst (v := 0) hx hb dX5_init_39 (by decide) ?_
  refine lv_istore_n (lv' := [(2, .int 0), (0, .ref a), (1, .int (nI N))]) hx hb dX5_init_40 rfl hl (by decide) rfl (fun ls hl => ?_)
  refine lp_ri (S := uR M2 2 a (some q2)) (u := q2) (N := N) C hN ⟨lM2_0, kM2_0, mR_s (S := M2) (k := 2) (a := a) (v := some q2)⟩ ⟨lM2q, kM2q, nM2q⟩ (fun H locs ls hP hD hS => ?_) N 0 (by omega) _ rfl _ _ ls hP hD hS (lv_sub hl [0, 1, 2] rfl)
  exact ct_vret C hS hP hD (⟨rfl, _, rfl, q0, q1, q2, M0, M1, M2, hq0, hq1, hq2, eM0, eM1, eM2, rfl⟩) (Nat.le_of_ble_eq_true rfl) (by show 0 + N + N + N ≤ 48; omega) dX5_init_61
