/-! ===== the reference: work, run ===== -/
def tkS (P : MS) (j t : Nat) : MS := sI (sI P 20 j (qI P 21 t)) 21 t (qI P 21 t + 1)
/-- a worker that has none takes the next -/
def wP (P : MS) (j t : Nat) : MS := if qI P 20 j < 0 then tkS P j t else P
def wst (P : MS) (j : Nat) (b a h : Int32) : MS := sI (sI (sI P 14 j (vp_nar .boolean b)) 16 j (qI P 16 j + a)) 20 j h
def evW (P : MS) (j : Nat) : Nat := (qI P 20 j).toNatClampNeg
/-- a worker's turn, of which d events may still be handled and i have been -/
def wk (far : Int32) (j t sl : Nat) : Nat → Nat → MS → MS × Int32
  | 0, i, P => (P, nI i)
  | d + 1, i, P =>
    if far < qI (wP P j t) 20 j then (wP P j t, nI i)
    else if hB (wP P j t) j (evW (wP P j t) j) sl = true then wk far j t sl d (i + 1) (wst (hSf (wP P j t) j (evW (wP P j t) j) sl) j 0 0 (-1))
    else if qI P 11 j = 1 then (wst (wP P j t) j 1 0 (qI (wP P j t) 20 j), nI i)
    else wk far j t sl d (i + 1) (wst (wP P j t) j 0 1 (-1))
theorem wP_S {P : MS} {j t : Nat} : qS (wP P j t) = qS P := by unfold wP; split <;> rfl
theorem wP_k {P : MS} {j t k : Nat} (h : k ≠ 20) (h1 : k ≠ 21) : qI (wP P j t) k = qI P k := by
  unfold wP
  split
  · rw [tkS, sI_k h1, sI_k h]
  · rfl
theorem wP_F {P : MS} {j t : Nat} : qF (wP P j t) = qF P := by unfold wP; split <;> rfl
theorem wP_D {P : MS} {j t : Nat} : qD (wP P j t) = qD P := by unfold wP; split <;> rfl
theorem wP_J {P : MS} {j t : Nat} : qJ (wP P j t) = qJ P := by unfold wP; split <;> rfl
theorem bInv_wP {P : MS} {j t sl b : Nat} (h : bInv P j sl b) : bInv (wP P j t) j sl b := bInv_of h (by rw [wP_S]) (by rw [wP_k (by decide) (by decide)]) (by rw [wP_k (by decide) (by decide)]) (by rw [wP_F]) (by rw [wP_D]) (by rw [wP_k (by decide) (by decide)]) (by rw [wP_k (by decide) (by decide)])
theorem bInv_wst {P : MS} {j sl b : Nat} {x y z : Int32} (h : bInv P j sl b) : bInv (wst P j x y z) j sl b := bInv_of h rfl rfl rfl rfl rfl rfl rfl
/-- what a worker has, and what its pool has given out -/
def wInv (P : MS) (j t d : Nat) : Prop := (qI P 20 j = -1 ∨ ∃ e, e < 2 ^ 30 ∧ qI P 20 j = nI e) ∧ (∃ k, k + d < 2 ^ 30 ∧ qI P 21 t = nI k) ∧ qI P 12 j = nI t ∧ ¬ qI P 11 j = 2
theorem wInv_P {P : MS} {j t d : Nat} (h : wInv P j t (d + 1)) : (∃ e, e < 2 ^ 30 ∧ qI (wP P j t) 20 j = nI e) ∧ ∃ k, k + d < 2 ^ 30 ∧ qI (wP P j t) 21 t = nI k := by
  obtain ⟨h20, ⟨k, hk, h21⟩, _, _⟩ := h
  unfold wP
  by_cases hn : qI P 20 j < 0
  · rw [if_pos hn]
    refine ⟨⟨k, by omega, ?_⟩, ⟨k + 1, by omega, ?_⟩⟩
    · rw [tkS, sI_k (by decide), qI_s, h21]
    · rw [tkS, qI_s, h21, nI_1]
  · rw [if_neg hn]
    rcases h20 with h | ⟨e, he, h⟩
    · rw [h] at hn
      exact absurd (by decide) hn
    · exact ⟨⟨e, he, h⟩, k, by omega, h21⟩
section Loops8
variable {p : Program} {l : Launch} {e : Env} {R : Room} {s : State} {m : MethodId} {args : Array Value} {below : List Frame} {meth : Method} {c : Code} {H : Heap} {locs : List Loc} {cells slots : Nat} {Q : State → Prop}
variable {s0 : State} {D : va_G} {cA : Nat → ClassId} {A : Nat → Prop} {ad : Nat → Nat}
set_option maxRecDepth 100000 in
theorem lp_work {R0 : MS × Int32} (C : cx_C p l s m args meth c s0 D cA cX9_work 8 (some .int) RX9 A) (hG : cx_G l s0 D cA) {j t sl M fr : Nat} {far : Int32} (hj : j < 8) (ht : t < 2) (h0 : 0 < sl) (h16 : sl ≤ 16) (hM : M ≤ 20) (hfar : far = nI fr - 1) (hfr : fr ≤ 8208) (hR0 : rmX9_handles.frames + 1 ≤ R.frames ∧ 8 + (5 + 11) + rmX9_handles.locals ≤ R.locals) (hC0 : cells + rmX9_handles.cells ≤ R.cells ∧ slots + rmX9_handles.slots ≤ R.slots) 
    (kk : ∀ (T : MS) (r : Int32) (H : Heap) (locs : List Loc) (ls : Array Slot), (T, r) = R0 → va_P D vwCl (mW cA ad T) H → va_D A (mW cA ad T) → va_S A s.heap H locs → lv_has ls 8 [(4, .int r)] → W p l e R s m args below meth c H locs cells slots Q (F0 m 206 ls [])) :
    ∀ (d i : Nat) (P : MS) (b : Nat), i + d = M → b + d < 2 ^ 30 → bInv P j sl b → wInv P j t d → wk far j t sl d i P = R0 → ∀ (H : Heap) (locs : List Loc) (ls : Array Slot), va_P D vwCl (mW cA ad P) H → va_D A (mW cA ad P) → va_S A s.heap H locs → lv_has ls 8 [(6, .int (nI i)), (5, .int 1), (4, .int (nI i)), (0, .ref (ad 0)), (1, .int (nI j)), (2, .int (nI M)), (3, .int far)] → W p l e R s m args below meth c H locs cells slots Q (F0 m 15 ls []) := by
  have hx := cx_x C
  have hb := cx_b C
  intro d
  induction d with
  | zero =>
    intro i P b hi hb3 hI hW hR H locs ls hP hD hS hl
    have hi : i = M := hi
    have hR : (P, nI i) = R0 := hR
    refine lv_iload hx hb dX9_work_15 (lv_at hl 0 rfl) ?_
    refine lv_iload_n hx hb dX9_work_17 rfl (lv_at hl 5 rfl) ?_
    refine lv_icmp_ge (tgt := 206) hx hb dX9_work_18 (by decide) (fun _ => ?_) (fun h9 => absurd (by rw [hi]; exact Int32.le_refl _) h9)
    exact kk _ _ H locs ls hR hP hD hS (lv_sub hl [2] rfl)
  | succ d ih =>
    intro i P b hi hb3 hI hW hR H locs ls hP hD hS hl
    obtain ⟨⟨ew, he, hhas⟩, htk⟩ := wInv_P hW
    have h11 : qI (wP P j t) 11 j = qI P 11 j := by rw [wP_k (by decide) (by decide)]
    have h12 : qI (wP P j t) 12 j = nI t := by rw [wP_k (by decide) (by decide)]; exact hW.2.2.1
    have hIT := bInv_wP (t := t) hI
    have hEW : evW (wP P j t) j = ew := by rw [evW, hhas]; exact nI_clamp (by omega)
    have hp2 : ¬ qI P 11 j = 2 := hW.2.2.2
    rw [wk, hEW] at hR
    have s67 : ∀ (T : MS), T = wP P j t → ∀ (H : Heap) (locs : List Loc) (ls : Array Slot), va_P D vwCl (mW cA ad T) H → va_D A (mW cA ad T) → va_S A s.heap H locs → lv_has ls 8 [(6, .int (nI i)), (5, .int 1), (4, .int (nI i)), (0, .ref (ad 0)), (1, .int (nI j)), (2, .int (nI M)), (3, .int far)] → W p l e R s m args below meth c H locs cells slots Q (F0 m 67 ls []) := by
      intro T hT
      rw [← hT] at hR hhas h11 h12 hIT htk
      intro H locs ls hP hD hS hl
      by_cases hgt : far < qI T 20 j
      · rw [if_pos hgt] at hR
        refine lv_aload_n hx hb dX9_work_67 rfl (lv_at hl 3 rfl) ?_
        refine gm_20 C hP tm_686 dX9_work_68 ?_
        refine lv_iload_n hx hb dX9_work_71 rfl (lv_at hl 4 rfl) ?_
        refine xl_20 (v := qI T 20 j) (j := j) C hP (ix8 hj) (rfl) dX9_work_72 ?_
        refine lv_iload_n hx hb dX9_work_73 rfl (lv_at hl 6 rfl) ?_
        refine lv_icmp_gt (tgt := 81) hx hb dX9_work_74 (by decide) (fun _ => ?_) (fun h9 => absurd (hgt) h9)
        refine lv_iconst (v := 0) hx hb dX9_work_81 (by decide) ?_
        refine lv_istore (lv' := [(5, .int 0), (6, .int (nI i)), (4, .int (nI i)), (0, .ref (ad 0)), (1, .int (nI j)), (2, .int (nI M)), (3, .int far)]) hx hb dX9_work_82 hl (by decide) rfl (fun ls hl => ?_)
        refine lv_iload hx hb dX9_work_84 (lv_at hl 0 rfl) ?_
        refine lv_if_eq (tgt := 200) hx hb dX9_work_86 (by decide) (fun _ => ?_) (fun h9 => absurd (by decide) h9)
        refine lv_iinc (v := nI i + 1) (lv' := [(6, .int (nI i + 1)), (5, .int 0), (4, .int (nI i)), (0, .ref (ad 0)), (1, .int (nI j)), (2, .int (nI M)), (3, .int far)]) hx hb dX9_work_200 hl (k := 1) rfl (by first | rfl | decide) (by decide) rfl (fun ls hl => ?_)
        refine lv_goto (tgt := 15) hx hb dX9_work_203 (by decide) ?_
        refine lv_iload hx hb dX9_work_15 (lv_at hl 0 rfl) ?_
        refine lv_iload_n hx hb dX9_work_17 rfl (lv_at hl 5 rfl) ?_
        refine lv_icmp_ge (tgt := 206) hx hb dX9_work_18 (by decide) (fun c1 => ?_) (fun c1 => ?_)
        · exact kk _ _ H locs ls hR hP hD hS (lv_sub hl [2] rfl)
        refine lv_iload hx hb dX9_work_21 (lv_at hl 1 rfl) ?_
        refine lv_if_eq (tgt := 206) hx hb dX9_work_23 (by decide) (fun _ => ?_) (fun h9 => absurd (by decide) h9)
        exact kk _ _ H locs ls hR hP hD hS (lv_sub hl [2] rfl)
      rw [if_neg hgt] at hR
      have hef : ew < fr := by rw [hhas, hfar] at hgt; exact Nat.lt_of_not_le fun h => hgt ((nIm_lt (by omega) (by omega)).mpr h)
      by_cases hho : hB T j ew sl = true
      · rw [if_pos hho] at hR
        refine lv_aload_n hx hb dX9_work_67 rfl (lv_at hl 3 rfl) ?_
        refine gm_20 C hP tm_686 dX9_work_68 ?_
        refine lv_iload_n hx hb dX9_work_71 rfl (lv_at hl 4 rfl) ?_
        refine xl_20 (v := qI T 20 j) (j := j) C hP (ix8 hj) (rfl) dX9_work_72 ?_
        refine lv_iload_n hx hb dX9_work_73 rfl (lv_at hl 6 rfl) ?_
        refine lv_icmp_gt (tgt := 81) hx hb dX9_work_74 (by decide) (fun h9 => absurd h9 (hgt)) (fun _ => ?_)
        refine lv_iconst (v := 1) hx hb dX9_work_77 (by decide) ?_
        refine lv_goto (tgt := 82) hx hb dX9_work_78 (by decide) ?_
        refine lv_istore (lv' := [(5, .int 1), (6, .int (nI i)), (4, .int (nI i)), (0, .ref (ad 0)), (1, .int (nI j)), (2, .int (nI M)), (3, .int far)]) hx hb dX9_work_82 hl (by decide) rfl (fun ls hl => ?_)
        refine lv_iload hx hb dX9_work_84 (lv_at hl 0 rfl) ?_
        refine lv_if_eq (tgt := 200) hx hb dX9_work_86 (by decide) (fun h9 => absurd h9 (by decide)) (fun _ => ?_)
        refine lv_aload_n hx hb dX9_work_89 rfl (lv_at hl 3 rfl) ?_
        refine lv_iload_n hx hb dX9_work_90 rfl (lv_at hl 4 rfl) ?_
        refine lv_aload_n hx hb dX9_work_91 rfl (lv_at hl 3 rfl) ?_
        refine gm_20 C hP tm_686 dX9_work_92 ?_
        refine lv_iload_n hx hb dX9_work_95 rfl (lv_at hl 4 rfl) ?_
        refine xl_20 (v := qI T 20 j) (j := j) C hP (ix8 hj) (rfl) dX9_work_96 ?_
        refine lv_topi (fun z9 e9 => ?_)
        obtain rfl : z9 = nI ew := e9.trans hhas
        refine mc_V (As := [.int (nI j), .int (nI ew)]) (rest := []) (r := some (.int 1)) (T := hSf T j ew sl) C (k_hd_y (sl := sl) (b := b) hG _ hj h0 h16 (by omega) hIT (by omega) hho) tm_801 tm_803 tm_900 tm_3 tm_804 rfl hdX9_handles hR0 hl.1 rfl (Nat.le_of_ble_eq_true rfl) dX9_work_97 hC0 hP hD hS (fun H locs hP hD hS => ?_)
        refine lv_if_eq (tgt := 107) hx hb dX9_work_100 (by decide) (fun h9 => absurd h9 (by decide)) (fun _ => ?_)
        refine lv_iconst (v := (-1)) hx hb dX9_work_103 (by decide) ?_
        refine lv_goto (tgt := 113) hx hb dX9_work_104 (by decide) ?_
        refine lv_istore (lv' := [(7, .int (-1)), (5, .int 1), (6, .int (nI i)), (4, .int (nI i)), (0, .ref (ad 0)), (1, .int (nI j)), (2, .int (nI M)), (3, .int far)]) hx hb dX9_work_113 hl (by decide) rfl (fun ls hl => ?_)
        refine lv_aload_n hx hb dX9_work_115 rfl (lv_at hl 4 rfl) ?_
        refine gm_14 C hP tm_680 dX9_work_116 ?_
        refine lv_iload_n hx hb dX9_work_119 rfl (lv_at hl 5 rfl) ?_
        refine lv_iload hx hb dX9_work_120 (lv_at hl 0 rfl) ?_
        refine lv_iconst (v := 1) hx hb dX9_work_122 (by decide) ?_
        refine lv_icmp_ne (tgt := 130) hx hb dX9_work_123 (by decide) (fun _ => ?_) (fun h9 => absurd h9 (by decide))
        refine lv_iconst (v := 0) hx hb dX9_work_130 (by decide) ?_
        refine xs_14 (x := 0) (j := j) C hP hD hS (ix8 hj) dX9_work_131 (fun H locs hP hD hS => ?_)
        refine lv_iload hx hb dX9_work_132 (lv_at hl 0 rfl) ?_
        refine lv_iconst (v := 1) hx hb dX9_work_134 (by decide) ?_
        refine lv_icmp_eq (tgt := 142) hx hb dX9_work_135 (by decide) (fun h9 => absurd h9 (by decide)) (fun _ => ?_)
        refine lv_iconst (v := 1) hx hb dX9_work_138 (by decide) ?_
        refine lv_goto (tgt := 143) hx hb dX9_work_139 (by decide) ?_
        refine lv_istore (lv' := [(5, .int 1), (7, .int (-1)), (6, .int (nI i)), (4, .int (nI i)), (0, .ref (ad 0)), (1, .int (nI j)), (2, .int (nI M)), (3, .int far)]) hx hb dX9_work_143 hl (by decide) rfl (fun ls hl => ?_)
        refine lv_aload_n hx hb dX9_work_145 rfl (lv_at hl 4 rfl) ?_
        refine gm_16 C hP tm_682 dX9_work_146 ?_
        refine lv_iload_n hx hb dX9_work_149 rfl (lv_at hl 5 rfl) ?_
        refine lv_dup2_11 hx hb dX9_work_150 rfl rfl ?_
        refine xl_16 (v := qI (hSf T j ew sl) 16 j) (j := j) C hP (ix8 hj) (rfl) dX9_work_151 ?_
        refine lv_iload hx hb dX9_work_152 (lv_at hl 1 rfl) ?_
        refine lv_if_ne (tgt := 161) hx hb dX9_work_154 (by decide) (fun _ => ?_) (fun h9 => absurd h9 (by decide))
        refine lv_iconst (v := 0) hx hb dX9_work_161 (by decide) ?_
        refine lv_iadd hx hb dX9_work_162 ?_
        refine xs_16 (x := (qI (hSf T j ew sl) 16 j) + 0) (j := j) C hP hD hS (ix8 hj) dX9_work_163 (fun H locs hP hD hS => ?_)
        refine lv_iload hx hb dX9_work_164 (lv_at hl 3 rfl) ?_
        refine lv_iload hx hb dX9_work_166 (lv_at hl 0 rfl) ?_
        refine lv_if_eq (tgt := 175) hx hb dX9_work_168 (by decide) (fun h9 => absurd h9 (by decide)) (fun _ => ?_)
        refine lv_iconst (v := 1) hx hb dX9_work_171 (by decide) ?_
        refine lv_goto (tgt := 176) hx hb dX9_work_172 (by decide) ?_
        refine lv_iadd hx hb dX9_work_176 ?_
        refine lv_istore (lv' := [(4, .int ((nI i) + 1)), (5, .int 1), (7, .int (-1)), (6, .int (nI i)), (0, .ref (ad 0)), (1, .int (nI j)), (2, .int (nI M)), (3, .int far)]) hx hb dX9_work_177 hl (by decide) rfl (fun ls hl => ?_)
        refine lv_aload_n hx hb dX9_work_179 rfl (lv_at hl 4 rfl) ?_
        refine gm_20 C hP tm_686 dX9_work_180 ?_
        refine lv_iload_n hx hb dX9_work_183 rfl (lv_at hl 5 rfl) ?_
        refine lv_iload hx hb dX9_work_184 (lv_at hl 1 rfl) ?_
        refine lv_if_eq (tgt := 193) hx hb dX9_work_186 (by decide) (fun h9 => absurd h9 (by decide)) (fun _ => ?_)
        refine lv_iconst (v := (-1)) hx hb dX9_work_189 (by decide) ?_
        refine lv_goto (tgt := 199) hx hb dX9_work_190 (by decide) ?_
        refine xs_20 (x := (-1)) (j := j) C hP hD hS (ix8 hj) dX9_work_199 (fun H locs hP hD hS => ?_)
        refine lv_iinc (v := nI i + 1) (lv' := [(6, .int (nI i + 1)), (4, .int ((nI i) + 1)), (5, .int 1), (7, .int (-1)), (0, .ref (ad 0)), (1, .int (nI j)), (2, .int (nI M)), (3, .int far)]) hx hb dX9_work_200 hl (k := 3) rfl (by first | rfl | decide) (by decide) rfl (fun ls hl => ?_)
        refine lv_goto (tgt := 15) hx hb dX9_work_203 (by decide) ?_
        rw [nI_1] at hl
        exact ih (i + 1) (wst (hSf T j ew sl) j 0 0 (-1)) (b + 1) (by omega) (by omega) (bInv_wst (bInv_h hIT (by omega) hho)) ⟨Or.inl qI_s, htk.elim (fun k h => ⟨k, h.1, (show qI (wst (hSf T j ew sl) j 0 0 (-1)) 21 _ = qI T 21 _ by first | rfl | exact congrFun (hS_k (P := T) (j := j) (ev := ew) (sl := sl) (k := 21) (by decide) (by decide) (by decide)) _).trans h.2⟩), (show qI (wst (hSf T j ew sl) j 0 0 (-1)) 12 _ = qI T 12 _ by first | rfl | exact congrFun (hS_k (P := T) (j := j) (ev := ew) (sl := sl) (k := 12) (by decide) (by decide) (by decide)) _).trans h12, by rw [(show qI (wst (hSf T j ew sl) j 0 0 (-1)) 11 _ = qI T 11 _ by first | rfl | exact congrFun (hS_k (P := T) (j := j) (ev := ew) (sl := sl) (k := 11) (by decide) (by decide) (by decide)) _), h11]; exact hp2⟩ hR H locs ls hP hD hS (lv_sub hl [0, 2, 1, 4, 5, 6, 7] rfl)
      have hho : hB T j ew sl = false := by cases h : hB T j ew sl with
        | true => exact absurd h hho
        | false => rfl
      rw [if_neg (by rw [hho]; decide)] at hR
      by_cases hpx : qI P 11 j = 1
      · rw [if_pos hpx] at hR
        refine lv_aload_n hx hb dX9_work_67 rfl (lv_at hl 3 rfl) ?_
        refine gm_20 C hP tm_686 dX9_work_68 ?_
        refine lv_iload_n hx hb dX9_work_71 rfl (lv_at hl 4 rfl) ?_
        refine xl_20 (v := qI T 20 j) (j := j) C hP (ix8 hj) (rfl) dX9_work_72 ?_
        refine lv_iload_n hx hb dX9_work_73 rfl (lv_at hl 6 rfl) ?_
        refine lv_icmp_gt (tgt := 81) hx hb dX9_work_74 (by decide) (fun h9 => absurd h9 (hgt)) (fun _ => ?_)
        refine lv_iconst (v := 1) hx hb dX9_work_77 (by decide) ?_
        refine lv_goto (tgt := 82) hx hb dX9_work_78 (by decide) ?_
        refine lv_istore (lv' := [(5, .int 1), (6, .int (nI i)), (4, .int (nI i)), (0, .ref (ad 0)), (1, .int (nI j)), (2, .int (nI M)), (3, .int far)]) hx hb dX9_work_82 hl (by decide) rfl (fun ls hl => ?_)
        refine lv_iload hx hb dX9_work_84 (lv_at hl 0 rfl) ?_
        refine lv_if_eq (tgt := 200) hx hb dX9_work_86 (by decide) (fun h9 => absurd h9 (by decide)) (fun _ => ?_)
        refine lv_aload_n hx hb dX9_work_89 rfl (lv_at hl 3 rfl) ?_
        refine lv_iload_n hx hb dX9_work_90 rfl (lv_at hl 4 rfl) ?_
        refine lv_aload_n hx hb dX9_work_91 rfl (lv_at hl 3 rfl) ?_
        refine gm_20 C hP tm_686 dX9_work_92 ?_
        refine lv_iload_n hx hb dX9_work_95 rfl (lv_at hl 4 rfl) ?_
        refine xl_20 (v := qI T 20 j) (j := j) C hP (ix8 hj) (rfl) dX9_work_96 ?_
        refine lv_topi (fun z9 e9 => ?_)
        obtain rfl : z9 = nI ew := e9.trans hhas
        refine mc_V (As := [.int (nI j), .int (nI ew)]) (rest := []) (r := some (.int 0)) (T := T) C (k_hd_n (sl := sl) (b := b) hG _ hj h0 h16 (by omega) hIT (by omega) hho) tm_801 tm_803 tm_900 tm_3 tm_804 rfl hdX9_handles hR0 hl.1 rfl (Nat.le_of_ble_eq_true rfl) dX9_work_97 hC0 hP hD hS (fun H locs hP hD hS => ?_)
        refine lv_if_eq (tgt := 107) hx hb dX9_work_100 (by decide) (fun _ => ?_) (fun h9 => absurd (by decide) h9)
        refine lv_aload_n hx hb dX9_work_107 rfl (lv_at hl 3 rfl) ?_
        refine gm_11 C hP tm_677 dX9_work_108 ?_
        refine lv_iload_n hx hb dX9_work_111 rfl (lv_at hl 4 rfl) ?_
        refine xl_11 (v := 1) (j := j) C hP (ix8 hj) (h11.trans hpx) dX9_work_112 ?_
        refine lv_istore (lv' := [(7, .int 1), (5, .int 1), (6, .int (nI i)), (4, .int (nI i)), (0, .ref (ad 0)), (1, .int (nI j)), (2, .int (nI M)), (3, .int far)]) hx hb dX9_work_113 hl (by decide) rfl (fun ls hl => ?_)
        refine lv_aload_n hx hb dX9_work_115 rfl (lv_at hl 4 rfl) ?_
        refine gm_14 C hP tm_680 dX9_work_116 ?_
        refine lv_iload_n hx hb dX9_work_119 rfl (lv_at hl 5 rfl) ?_
        refine lv_iload hx hb dX9_work_120 (lv_at hl 0 rfl) ?_
        refine lv_iconst (v := 1) hx hb dX9_work_122 (by decide) ?_
        refine lv_icmp_ne (tgt := 130) hx hb dX9_work_123 (by decide) (fun h9 => absurd rfl h9) (fun _ => ?_)
        refine lv_iconst (v := 1) hx hb dX9_work_126 (by decide) ?_
        refine lv_goto (tgt := 131) hx hb dX9_work_127 (by decide) ?_
        refine xs_14 (x := 1) (j := j) C hP hD hS (ix8 hj) dX9_work_131 (fun H locs hP hD hS => ?_)
        refine lv_iload hx hb dX9_work_132 (lv_at hl 0 rfl) ?_
        refine lv_iconst (v := 1) hx hb dX9_work_134 (by decide) ?_
        refine lv_icmp_eq (tgt := 142) hx hb dX9_work_135 (by decide) (fun _ => ?_) (fun h9 => absurd (by decide) h9)
        refine lv_iconst (v := 0) hx hb dX9_work_142 (by decide) ?_
        refine lv_istore (lv' := [(5, .int 0), (7, .int 1), (6, .int (nI i)), (4, .int (nI i)), (0, .ref (ad 0)), (1, .int (nI j)), (2, .int (nI M)), (3, .int far)]) hx hb dX9_work_143 hl (by decide) rfl (fun ls hl => ?_)
        refine lv_aload_n hx hb dX9_work_145 rfl (lv_at hl 4 rfl) ?_
        refine gm_16 C hP tm_682 dX9_work_146 ?_
        refine lv_iload_n hx hb dX9_work_149 rfl (lv_at hl 5 rfl) ?_
        refine lv_dup2_11 hx hb dX9_work_150 rfl rfl ?_
        refine xl_16 (v := qI T 16 j) (j := j) C hP (ix8 hj) (rfl) dX9_work_151 ?_
        refine lv_iload hx hb dX9_work_152 (lv_at hl 1 rfl) ?_
        refine lv_if_ne (tgt := 161) hx hb dX9_work_154 (by decide) (fun _ => ?_) (fun h9 => absurd h9 (by decide))
        refine lv_iconst (v := 0) hx hb dX9_work_161 (by decide) ?_
        refine lv_iadd hx hb dX9_work_162 ?_
        refine xs_16 (x := (qI T 16 j) + 0) (j := j) C hP hD hS (ix8 hj) dX9_work_163 (fun H locs hP hD hS => ?_)
        refine lv_iload hx hb dX9_work_164 (lv_at hl 3 rfl) ?_
        refine lv_iload hx hb dX9_work_166 (lv_at hl 0 rfl) ?_
        refine lv_if_eq (tgt := 175) hx hb dX9_work_168 (by decide) (fun _ => ?_) (fun h9 => absurd (by decide) h9)
        refine lv_iconst (v := 0) hx hb dX9_work_175 (by decide) ?_
        refine lv_iadd hx hb dX9_work_176 ?_
        refine lv_istore (lv' := [(4, .int ((nI i) + 0)), (5, .int 0), (7, .int 1), (6, .int (nI i)), (0, .ref (ad 0)), (1, .int (nI j)), (2, .int (nI M)), (3, .int far)]) hx hb dX9_work_177 hl (by decide) rfl (fun ls hl => ?_)
        refine lv_aload_n hx hb dX9_work_179 rfl (lv_at hl 4 rfl) ?_
        refine gm_20 C hP tm_686 dX9_work_180 ?_
        refine lv_iload_n hx hb dX9_work_183 rfl (lv_at hl 5 rfl) ?_
        refine lv_iload hx hb dX9_work_184 (lv_at hl 1 rfl) ?_
        refine lv_if_eq (tgt := 193) hx hb dX9_work_186 (by decide) (fun _ => ?_) (fun h9 => absurd (by decide) h9)
        refine lv_aload_n hx hb dX9_work_193 rfl (lv_at hl 4 rfl) ?_
        refine gm_20 C hP tm_686 dX9_work_194 ?_
        refine lv_iload_n hx hb dX9_work_197 rfl (lv_at hl 5 rfl) ?_
        refine xl_20 (v := qI T 20 j) (j := j) C hP (ix8 hj) (rfl) dX9_work_198 ?_
        refine xs_20 (x := qI T 20 j) (j := j) C hP hD hS (ix8 hj) dX9_work_199 (fun H locs hP hD hS => ?_)
        refine lv_iinc (v := nI i + 1) (lv' := [(6, .int (nI i + 1)), (4, .int ((nI i) + 0)), (5, .int 0), (7, .int 1), (0, .ref (ad 0)), (1, .int (nI j)), (2, .int (nI M)), (3, .int far)]) hx hb dX9_work_200 hl (k := 3) rfl (by first | rfl | decide) (by decide) rfl (fun ls hl => ?_)
        refine lv_goto (tgt := 15) hx hb dX9_work_203 (by decide) ?_
        rw [show nI i + 0 = nI i from Int32.add_zero _] at hl
        refine lv_iload hx hb dX9_work_15 (lv_at hl 0 rfl) ?_
        refine lv_iload_n hx hb dX9_work_17 rfl (lv_at hl 6 rfl) ?_
        refine lv_icmp_ge (tgt := 206) hx hb dX9_work_18 (by decide) (fun c1 => ?_) (fun c1 => ?_)
        · exact kk _ _ H locs ls hR hP hD hS (lv_sub hl [1] rfl)
        refine lv_iload hx hb dX9_work_21 (lv_at hl 2 rfl) ?_
        refine lv_if_eq (tgt := 206) hx hb dX9_work_23 (by decide) (fun _ => ?_) (fun h9 => absurd (by decide) h9)
        exact kk _ _ H locs ls hR hP hD hS (lv_sub hl [1] rfl)
      rw [if_neg hpx] at hR
      have hpx : qI P 11 j = 0 := hI.2.2.1.resolve_right (fun h => h.elim hpx hp2)
      refine lv_aload_n hx hb dX9_work_67 rfl (lv_at hl 3 rfl) ?_
      refine gm_20 C hP tm_686 dX9_work_68 ?_
      refine lv_iload_n hx hb dX9_work_71 rfl (lv_at hl 4 rfl) ?_
      refine xl_20 (v := qI T 20 j) (j := j) C hP (ix8 hj) (rfl) dX9_work_72 ?_
      refine lv_iload_n hx hb dX9_work_73 rfl (lv_at hl 6 rfl) ?_
      refine lv_icmp_gt (tgt := 81) hx hb dX9_work_74 (by decide) (fun h9 => absurd h9 (hgt)) (fun _ => ?_)
      refine lv_iconst (v := 1) hx hb dX9_work_77 (by decide) ?_
      refine lv_goto (tgt := 82) hx hb dX9_work_78 (by decide) ?_
      refine lv_istore (lv' := [(5, .int 1), (6, .int (nI i)), (4, .int (nI i)), (0, .ref (ad 0)), (1, .int (nI j)), (2, .int (nI M)), (3, .int far)]) hx hb dX9_work_82 hl (by decide) rfl (fun ls hl => ?_)
      refine lv_iload hx hb dX9_work_84 (lv_at hl 0 rfl) ?_
      refine lv_if_eq (tgt := 200) hx hb dX9_work_86 (by decide) (fun h9 => absurd h9 (by decide)) (fun _ => ?_)
      refine lv_aload_n hx hb dX9_work_89 rfl (lv_at hl 3 rfl) ?_
      refine lv_iload_n hx hb dX9_work_90 rfl (lv_at hl 4 rfl) ?_
      refine lv_aload_n hx hb dX9_work_91 rfl (lv_at hl 3 rfl) ?_
      refine gm_20 C hP tm_686 dX9_work_92 ?_
      refine lv_iload_n hx hb dX9_work_95 rfl (lv_at hl 4 rfl) ?_
      refine xl_20 (v := qI T 20 j) (j := j) C hP (ix8 hj) (rfl) dX9_work_96 ?_
      refine lv_topi (fun z9 e9 => ?_)
      obtain rfl : z9 = nI ew := e9.trans hhas
      refine mc_V (As := [.int (nI j), .int (nI ew)]) (rest := []) (r := some (.int 0)) (T := T) C (k_hd_n (sl := sl) (b := b) hG _ hj h0 h16 (by omega) hIT (by omega) hho) tm_801 tm_803 tm_900 tm_3 tm_804 rfl hdX9_handles hR0 hl.1 rfl (Nat.le_of_ble_eq_true rfl) dX9_work_97 hC0 hP hD hS (fun H locs hP hD hS => ?_)
      refine lv_if_eq (tgt := 107) hx hb dX9_work_100 (by decide) (fun _ => ?_) (fun h9 => absurd (by decide) h9)
      refine lv_aload_n hx hb dX9_work_107 rfl (lv_at hl 3 rfl) ?_
      refine gm_11 C hP tm_677 dX9_work_108 ?_
      refine lv_iload_n hx hb dX9_work_111 rfl (lv_at hl 4 rfl) ?_
      refine xl_11 (v := 0) (j := j) C hP (ix8 hj) (h11.trans hpx) dX9_work_112 ?_
      refine lv_istore (lv' := [(7, .int 0), (5, .int 1), (6, .int (nI i)), (4, .int (nI i)), (0, .ref (ad 0)), (1, .int (nI j)), (2, .int (nI M)), (3, .int far)]) hx hb dX9_work_113 hl (by decide) rfl (fun ls hl => ?_)
      refine lv_aload_n hx hb dX9_work_115 rfl (lv_at hl 4 rfl) ?_
      refine gm_14 C hP tm_680 dX9_work_116 ?_
      refine lv_iload_n hx hb dX9_work_119 rfl (lv_at hl 5 rfl) ?_
      refine lv_iload hx hb dX9_work_120 (lv_at hl 0 rfl) ?_
      refine lv_iconst (v := 1) hx hb dX9_work_122 (by decide) ?_
      refine lv_icmp_ne (tgt := 130) hx hb dX9_work_123 (by decide) (fun _ => ?_) (fun h9 => absurd h9 (by decide))
      refine lv_iconst (v := 0) hx hb dX9_work_130 (by decide) ?_
      refine xs_14 (x := 0) (j := j) C hP hD hS (ix8 hj) dX9_work_131 (fun H locs hP hD hS => ?_)
      refine lv_iload hx hb dX9_work_132 (lv_at hl 0 rfl) ?_
      refine lv_iconst (v := 1) hx hb dX9_work_134 (by decide) ?_
      refine lv_icmp_eq (tgt := 142) hx hb dX9_work_135 (by decide) (fun h9 => absurd h9 (by decide)) (fun _ => ?_)
      refine lv_iconst (v := 1) hx hb dX9_work_138 (by decide) ?_
      refine lv_goto (tgt := 143) hx hb dX9_work_139 (by decide) ?_
      refine lv_istore (lv' := [(5, .int 1), (7, .int 0), (6, .int (nI i)), (4, .int (nI i)), (0, .ref (ad 0)), (1, .int (nI j)), (2, .int (nI M)), (3, .int far)]) hx hb dX9_work_143 hl (by decide) rfl (fun ls hl => ?_)
      refine lv_aload_n hx hb dX9_work_145 rfl (lv_at hl 4 rfl) ?_
      refine gm_16 C hP tm_682 dX9_work_146 ?_
      refine lv_iload_n hx hb dX9_work_149 rfl (lv_at hl 5 rfl) ?_
      refine lv_dup2_11 hx hb dX9_work_150 rfl rfl ?_
      refine xl_16 (v := qI T 16 j) (j := j) C hP (ix8 hj) (rfl) dX9_work_151 ?_
      refine lv_iload hx hb dX9_work_152 (lv_at hl 1 rfl) ?_
      refine lv_if_ne (tgt := 161) hx hb dX9_work_154 (by decide) (fun h9 => absurd rfl h9) (fun _ => ?_)
      refine lv_iconst (v := 1) hx hb dX9_work_157 (by decide) ?_
      refine lv_goto (tgt := 162) hx hb dX9_work_158 (by decide) ?_
      refine lv_iadd hx hb dX9_work_162 ?_
      refine xs_16 (x := (qI T 16 j) + 1) (j := j) C hP hD hS (ix8 hj) dX9_work_163 (fun H locs hP hD hS => ?_)
      refine lv_iload hx hb dX9_work_164 (lv_at hl 3 rfl) ?_
      refine lv_iload hx hb dX9_work_166 (lv_at hl 0 rfl) ?_
      refine lv_if_eq (tgt := 175) hx hb dX9_work_168 (by decide) (fun h9 => absurd h9 (by decide)) (fun _ => ?_)
      refine lv_iconst (v := 1) hx hb dX9_work_171 (by decide) ?_
      refine lv_goto (tgt := 176) hx hb dX9_work_172 (by decide) ?_
      refine lv_iadd hx hb dX9_work_176 ?_
      refine lv_istore (lv' := [(4, .int ((nI i) + 1)), (5, .int 1), (7, .int 0), (6, .int (nI i)), (0, .ref (ad 0)), (1, .int (nI j)), (2, .int (nI M)), (3, .int far)]) hx hb dX9_work_177 hl (by decide) rfl (fun ls hl => ?_)
      refine lv_aload_n hx hb dX9_work_179 rfl (lv_at hl 4 rfl) ?_
      refine gm_20 C hP tm_686 dX9_work_180 ?_
      refine lv_iload_n hx hb dX9_work_183 rfl (lv_at hl 5 rfl) ?_
      refine lv_iload hx hb dX9_work_184 (lv_at hl 1 rfl) ?_
      refine lv_if_eq (tgt := 193) hx hb dX9_work_186 (by decide) (fun h9 => absurd h9 (by decide)) (fun _ => ?_)
      refine lv_iconst (v := (-1)) hx hb dX9_work_189 (by decide) ?_
      refine lv_goto (tgt := 199) hx hb dX9_work_190 (by decide) ?_
      refine xs_20 (x := (-1)) (j := j) C hP hD hS (ix8 hj) dX9_work_199 (fun H locs hP hD hS => ?_)
      refine lv_iinc (v := nI i + 1) (lv' := [(6, .int (nI i + 1)), (4, .int ((nI i) + 1)), (5, .int 1), (7, .int 0), (0, .ref (ad 0)), (1, .int (nI j)), (2, .int (nI M)), (3, .int far)]) hx hb dX9_work_200 hl (k := 3) rfl (by first | rfl | decide) (by decide) rfl (fun ls hl => ?_)
      refine lv_goto (tgt := 15) hx hb dX9_work_203 (by decide) ?_
      rw [nI_1] at hl
      exact ih (i + 1) (wst T j 0 1 (-1)) (b) (by omega) (by omega) (bInv_wst (hIT)) ⟨Or.inl qI_s, htk.elim (fun k h => ⟨k, h.1, (show qI (wst T j 0 1 (-1)) 21 _ = qI T 21 _ by first | rfl | exact congrFun (hS_k (P := T) (j := j) (ev := ew) (sl := sl) (k := 21) (by decide) (by decide) (by decide)) _).trans h.2⟩), (show qI (wst T j 0 1 (-1)) 12 _ = qI T 12 _ by first | rfl | exact congrFun (hS_k (P := T) (j := j) (ev := ew) (sl := sl) (k := 12) (by decide) (by decide) (by decide)) _).trans h12, by rw [(show qI (wst T j 0 1 (-1)) 11 _ = qI T 11 _ by first | rfl | exact congrFun (hS_k (P := T) (j := j) (ev := ew) (sl := sl) (k := 11) (by decide) (by decide) (by decide)) _), h11]; exact hp2⟩ hR H locs ls hP hD hS (lv_sub hl [0, 2, 1, 4, 5, 6, 7] rfl)
    by_cases hneg : qI P 20 j < 0
    · refine lv_iload hx hb dX9_work_15 (lv_at hl 0 rfl) ?_
      refine lv_iload_n hx hb dX9_work_17 rfl (lv_at hl 5 rfl) ?_
      refine lv_icmp_ge (tgt := 206) hx hb dX9_work_18 (by decide) (fun h9 => absurd h9 (nI_ge (by omega) (by omega))) (fun _ => ?_)
      refine lv_iload hx hb dX9_work_21 (lv_at hl 1 rfl) ?_
      refine lv_if_eq (tgt := 206) hx hb dX9_work_23 (by decide) (fun h9 => absurd h9 (by decide)) (fun _ => ?_)
      refine lv_aload_n hx hb dX9_work_26 rfl (lv_at hl 3 rfl) ?_
      refine gm_20 C hP tm_686 dX9_work_27 ?_
      refine lv_iload_n hx hb dX9_work_30 rfl (lv_at hl 4 rfl) ?_
      refine xl_20 (v := qI P 20 j) (j := j) C hP (ix8 hj) (rfl) dX9_work_31 ?_
      refine lv_if_ge (tgt := 67) hx hb dX9_work_32 (by decide) (fun h9 => absurd h9 (Int32.not_le.mpr hneg)) (fun _ => ?_)
      refine lv_aload_n hx hb dX9_work_35 rfl (lv_at hl 3 rfl) ?_
      refine gm_20 C hP tm_686 dX9_work_36 ?_
      refine lv_iload_n hx hb dX9_work_39 rfl (lv_at hl 4 rfl) ?_
      refine lv_aload_n hx hb dX9_work_40 rfl (lv_at hl 3 rfl) ?_
      refine gm_21 C hP tm_687 dX9_work_41 ?_
      refine lv_aload_n hx hb dX9_work_44 rfl (lv_at hl 3 rfl) ?_
      refine gm_12 C hP tm_678 dX9_work_45 ?_
      refine lv_iload_n hx hb dX9_work_48 rfl (lv_at hl 4 rfl) ?_
      refine xl_12 (v := qI P 12 j) (j := j) C hP (ix8 hj) (rfl) dX9_work_49 ?_
      refine xl_21 (v := qI P 21 t) (j := t) C hP (ix_eq hW.2.2.1 ht (by decide)) (rfl) dX9_work_50 ?_
      refine xs_20 (x := qI P 21 t) (j := j) C hP hD hS (ix8 hj) dX9_work_51 (fun H locs hP hD hS => ?_)
      refine lv_aload_n hx hb dX9_work_52 rfl (lv_at hl 3 rfl) ?_
      refine gm_21 C hP tm_687 dX9_work_53 ?_
      refine lv_aload_n hx hb dX9_work_56 rfl (lv_at hl 3 rfl) ?_
      refine gm_12 C hP tm_678 dX9_work_57 ?_
      refine lv_iload_n hx hb dX9_work_60 rfl (lv_at hl 4 rfl) ?_
      refine xl_12 (v := qI P 12 j) (j := j) C hP (ix8 hj) (rfl) dX9_work_61 ?_
      refine lv_dup2_11 hx hb dX9_work_62 rfl rfl ?_
      refine xl_21 (v := qI P 21 t) (j := t) C hP (ix_eq hW.2.2.1 ht (by decide)) (rfl) dX9_work_63 ?_
      refine lv_iconst (v := 1) hx hb dX9_work_64 (by decide) ?_
      refine lv_iadd hx hb dX9_work_65 ?_
      refine xs_21 (x := (qI P 21 t) + 1) (j := t) C hP hD hS (ix_eq hW.2.2.1 ht (by decide)) dX9_work_66 (fun H locs hP hD hS => ?_)
      exact s67 _ (if_pos hneg).symm H locs ls hP hD hS (lv_sub hl [0, 1, 2, 3, 4, 5, 6] rfl)
    refine lv_iload hx hb dX9_work_15 (lv_at hl 0 rfl) ?_
    refine lv_iload_n hx hb dX9_work_17 rfl (lv_at hl 5 rfl) ?_
    refine lv_icmp_ge (tgt := 206) hx hb dX9_work_18 (by decide) (fun h9 => absurd h9 (nI_ge (by omega) (by omega))) (fun _ => ?_)
    refine lv_iload hx hb dX9_work_21 (lv_at hl 1 rfl) ?_
    refine lv_if_eq (tgt := 206) hx hb dX9_work_23 (by decide) (fun h9 => absurd h9 (by decide)) (fun _ => ?_)
    refine lv_aload_n hx hb dX9_work_26 rfl (lv_at hl 3 rfl) ?_
    refine gm_20 C hP tm_686 dX9_work_27 ?_
    refine lv_iload_n hx hb dX9_work_30 rfl (lv_at hl 4 rfl) ?_
    refine xl_20 (v := qI P 20 j) (j := j) C hP (ix8 hj) (rfl) dX9_work_31 ?_
    refine lv_if_ge (tgt := 67) hx hb dX9_work_32 (by decide) (fun _ => ?_) (fun h9 => absurd (Int32.not_lt.mp hneg) h9)
    exact s67 _ (if_neg hneg).symm H locs ls hP hD hS (lv_sub hl [0, 1, 2, 3, 4, 5, 6] rfl)
end Loops8
abbrev rmX9_work : Room := { frames := 3, cells := 0, slots := 0, locals := 73 }
set_option maxRecDepth 100000 in
theorem k_work {l : Launch} {s0 : State} {D : va_G} {cA : Nat → ClassId} {ad : Nat → Nat} (hG : cx_G l s0 D cA) {j n M sl b fr t : Nat} (P : MS) (hn : qS P 8 = nI n) (hn8 : n ≤ 8) (hj : j < n) (hq : ∀ k, k < n → qI P 12 k = -1 ∨ ∃ t, t < 2 ∧ qI P 12 k = nI t) (ht : t < 2) (h0 : 0 < sl) (h16 : sl ≤ 16) (hM : M ≤ 20) (hI : bInv P j sl b) (hb2 : b < 2 ^ 29) (hW : wInv P j t M) (hfar : bdR P j j = nI fr - 1) (hfr : fr ≤ 8208) : MC l s0 D cA ad yX9_work cX9_work 8 (some .int) rmX9_work [.int (nI j), .int (nI M)] P (some (.int (wk (bdR P j j) j t sl M 0 P).2)) ((wk (bdR P j j) j t sl M 0 P).1) := by
  refine Ct.of (cA := cA) hG (by decide +kernel) (Nat.le_of_ble_eq_true rfl) ?_
  intro p e s m below meth c A C hnm hP hD hS ls hl
  have hx := cx_x C
  have hb := cx_b C
  have hl : lv_has ls 8 [(0, .ref (ad 0)), (1, .int (nI j)), (2, .int (nI M))] := hl
  refine lv_aload_n hx hb dX9_work_0 rfl (lv_at hl 0 rfl) ?_
  refine lv_iload_n hx hb dX9_work_1 rfl (lv_at hl 1 rfl) ?_
  refine mc_V (As := [.int (nI j)]) (rest := []) (r := some (.int (bdR P j j))) (T := P) C (k_bound (n := n) hG _ hn hn8 hj hq) tm_797 tm_799 tm_899 tm_3 tm_800 rfl hdX9_bound ⟨Nat.le_of_ble_eq_true rfl, Nat.le_of_ble_eq_true rfl⟩ hl.1 rfl (Nat.le_of_ble_eq_true rfl) dX9_work_2 ⟨Nat.le_of_ble_eq_true rfl, Nat.le_of_ble_eq_true rfl⟩ hP hD hS (fun H locs hP hD hS => ?_)
  refine lv_istore_n (lv' := [(3, .int (bdR P j j)), (0, .ref (ad 0)), (1, .int (nI j)), (2, .int (nI M))]) hx hb dX9_work_5 rfl hl (by decide) rfl (fun ls hl => ?_)
  refine lv_iconst (v := 0) hx hb dX9_work_6 (by decide) ?_
  refine lv_istore (lv' := [(4, .int 0), (3, .int (bdR P j j)), (0, .ref (ad 0)), (1, .int (nI j)), (2, .int (nI M))]) hx hb dX9_work_7 hl (by decide) rfl (fun ls hl => ?_)
  refine lv_iconst (v := 1) hx hb dX9_work_9 (by decide) ?_
  refine lv_istore (lv' := [(5, .int 1), (4, .int 0), (3, .int (bdR P j j)), (0, .ref (ad 0)), (1, .int (nI j)), (2, .int (nI M))]) hx hb dX9_work_10 hl (by decide) rfl (fun ls hl => ?_)
  refine lv_iconst (v := 0) hx hb dX9_work_12 (by decide) ?_
  refine lv_istore (lv' := [(6, .int 0), (5, .int 1), (4, .int 0), (3, .int (bdR P j j)), (0, .ref (ad 0)), (1, .int (nI j)), (2, .int (nI M))]) hx hb dX9_work_13 hl (by decide) rfl (fun ls hl => ?_)
  refine lp_work (R := rmX9_work) (M := M) (t := t) (sl := sl) (fr := fr) (R0 := wk (bdR P j j) j t sl M 0 P) C hG (Nat.lt_of_lt_of_le hj hn8) ht h0 h16 hM hfar hfr ⟨Nat.le_of_ble_eq_true rfl, Nat.le_of_ble_eq_true rfl⟩ ⟨Nat.le_of_ble_eq_true rfl, Nat.le_of_ble_eq_true rfl⟩ (fun T r H locs ls hR hP hD hS hl => ?_) M 0 P b (by omega) (by omega) hI hW rfl _ _ ls hP hD hS (lv_sub hl [0, 1, 2, 4, 5, 6, 3] rfl)
  refine lv_iload hx hb dX9_work_206 (lv_at hl 0 rfl) ?_
  exact ct_iret C hS hP hD (⟨by rw [← hR], by rw [← hR]⟩) (Nat.le_of_ble_eq_true rfl) (Nat.le_of_ble_eq_true rfl) dX9_work_208
abbrev rmX9_run : Room := { frames := 4, cells := 0, slots := 0, locals := 108 }
set_option maxRecDepth 100000 in
theorem k_run_no {l : Launch} {s0 : State} {D : va_G} {cA : Nat → ClassId} {ad : Nat → Nat} (hG : cx_G l s0 D cA) {cn : Int32} (mm : Int32) (P : MS) (hc : ¬ ((0 : Int32) ≤ cn ∧ cn ≤ qS P 8 - 1)) : MC l s0 D cA ad yX9_run cX9_run 3 (some .int) rmX9_run [.int cn, .int mm] P (some (.int 0)) (sS (sS P 0 0) 0 1) := by
  refine Ct.of (cA := cA) hG (by decide +kernel) (Nat.le_of_ble_eq_true rfl) ?_
  intro p e s m below meth c A C hnm hP hD hS ls hl
  have hx := cx_x C
  have hb := cx_b C
  have hl : lv_has ls 3 [(0, .ref (ad 0)), (1, .int cn), (2, .int mm)] := hl
  refine lv_aload_n hx hb dX9_run_0 rfl (lv_at hl 0 rfl) ?_
  refine lv_iconst (v := 0) hx hb dX9_run_1 (by decide) ?_
  refine pm_0 (v := 0) C hP hD hS tm_666 dX9_run_2 (fun H locs hP hD hS => ?_)
  refine lv_aload_n hx hb dX9_run_5 rfl (lv_at hl 0 rfl) ?_
  refine lv_iload_n hx hb dX9_run_6 rfl (lv_at hl 1 rfl) ?_
  refine mc_V (As := [.int cn]) (rest := []) (r := some (.int 1)) (T := sS P 0 0) C (k_none_no hG (sS P 0 0) hc) tm_789 tm_791 tm_897 tm_3 tm_792 rfl hdX9_none ⟨Nat.le_of_ble_eq_true rfl, Nat.le_of_ble_eq_true rfl⟩ hl.1 rfl (Nat.le_of_ble_eq_true rfl) dX9_run_7 ⟨Nat.le_of_ble_eq_true rfl, Nat.le_of_ble_eq_true rfl⟩ hP hD hS (fun H locs hP hD hS => ?_)
  refine lv_if_ne (tgt := 23) hx hb dX9_run_10 (by decide) (fun _ => ?_) (fun h9 => absurd h9 (by decide))
  refine lv_aload_n hx hb dX9_run_23 rfl (lv_at hl 0 rfl) ?_
  refine lv_iconst (v := 1) hx hb dX9_run_24 (by decide) ?_
  refine mc_V (As := [.int 1]) (rest := []) (r := some (.int 0)) (T := sS (sS P 0 0) 0 1) C (k_fail hG _ _) tm_769 tm_771 tm_895 tm_3 tm_772 rfl hdX9_fail ⟨Nat.le_of_ble_eq_true rfl, Nat.le_of_ble_eq_true rfl⟩ hl.1 rfl (Nat.le_of_ble_eq_true rfl) dX9_run_25 ⟨Nat.le_of_ble_eq_true rfl, Nat.le_of_ble_eq_true rfl⟩ hP hD hS (fun H locs hP hD hS => ?_)
  exact ct_iret C hS hP hD (⟨rfl, rfl⟩) (Nat.le_of_ble_eq_true rfl) (Nat.le_of_ble_eq_true rfl) dX9_run_28
set_option maxRecDepth 100000 in
theorem k_run_m {l : Launch} {s0 : State} {D : va_G} {cA : Nat → ClassId} {ad : Nat → Nat} (hG : cx_G l s0 D cA) {j n : Nat} (mm : Int32) (P : MS) (hn : qS P 8 = nI n) (hn8 : n ≤ 8) (hj : j < n) (hm : ¬ ((1 : Int32) ≤ mm ∧ mm ≤ 20)) : MC l s0 D cA ad yX9_run cX9_run 3 (some .int) rmX9_run [.int (nI j), .int mm] P (some (.int 0)) (sS (sS P 0 0) 0 1) := by
  refine Ct.of (cA := cA) hG (by decide +kernel) (Nat.le_of_ble_eq_true rfl) ?_
  intro p e s m below meth c A C hnm hP hD hS ls hl
  have hx := cx_x C
  have hb := cx_b C
  have hl : lv_has ls 3 [(0, .ref (ad 0)), (1, .int (nI j)), (2, .int mm)] := hl
  refine lv_aload_n hx hb dX9_run_0 rfl (lv_at hl 0 rfl) ?_
  refine lv_iconst (v := 0) hx hb dX9_run_1 (by decide) ?_
  refine pm_0 (v := 0) C hP hD hS tm_666 dX9_run_2 (fun H locs hP hD hS => ?_)
  refine lv_aload_n hx hb dX9_run_5 rfl (lv_at hl 0 rfl) ?_
  refine lv_iload_n hx hb dX9_run_6 rfl (lv_at hl 1 rfl) ?_
  refine mc_V (As := [.int (nI j)]) (rest := []) (r := some (.int 0)) (T := sS P 0 0) C (k_none_ok (n := n) hG (sS P 0 0) hn hn8 hj) tm_789 tm_791 tm_897 tm_3 tm_792 rfl hdX9_none ⟨Nat.le_of_ble_eq_true rfl, Nat.le_of_ble_eq_true rfl⟩ hl.1 rfl (Nat.le_of_ble_eq_true rfl) dX9_run_7 ⟨Nat.le_of_ble_eq_true rfl, Nat.le_of_ble_eq_true rfl⟩ hP hD hS (fun H locs hP hD hS => ?_)
  refine lv_if_ne (tgt := 23) hx hb dX9_run_10 (by decide) (fun h9 => absurd rfl h9) (fun _ => ?_)
  refine lv_iload_n hx hb dX9_run_13 rfl (lv_at hl 2 rfl) ?_
  refine lv_iconst (v := 1) hx hb dX9_run_14 (by decide) ?_
  refine lv_bipush (v := 20) hx hb dX9_run_15 (by decide) ?_
  refine ct_S0 (As := [.int mm, .int 1, .int 20]) (rest := []) (r := some (.int 0)) C (k_within0 hG _ _ _ (hm)) tm_762 tm_763 tm_3 tm_764 hdX9_within.2 ⟨Nat.le_of_ble_eq_true rfl, Nat.le_of_ble_eq_true rfl⟩ hl.1 rfl (Nat.le_of_ble_eq_true rfl) dX9_run_17 ⟨Nat.le_of_ble_eq_true rfl, Nat.le_of_ble_eq_true rfl⟩ hP hD hS (fun H locs hP hD hS => ?_)
  refine lv_if_ne (tgt := 29) hx hb dX9_run_20 (by decide) (fun h9 => absurd rfl h9) (fun _ => ?_)
  refine lv_aload_n hx hb dX9_run_23 rfl (lv_at hl 0 rfl) ?_
  refine lv_iconst (v := 1) hx hb dX9_run_24 (by decide) ?_
  refine mc_V (As := [.int 1]) (rest := []) (r := some (.int 0)) (T := sS (sS P 0 0) 0 1) C (k_fail hG _ _) tm_769 tm_771 tm_895 tm_3 tm_772 rfl hdX9_fail ⟨Nat.le_of_ble_eq_true rfl, Nat.le_of_ble_eq_true rfl⟩ hl.1 rfl (Nat.le_of_ble_eq_true rfl) dX9_run_25 ⟨Nat.le_of_ble_eq_true rfl, Nat.le_of_ble_eq_true rfl⟩ hP hD hS (fun H locs hP hD hS => ?_)
  exact ct_iret C hS hP hD (⟨rfl, rfl⟩) (Nat.le_of_ble_eq_true rfl) (Nat.le_of_ble_eq_true rfl) dX9_run_28
set_option maxRecDepth 100000 in
theorem k_run_h {l : Launch} {s0 : State} {D : va_G} {cA : Nat → ClassId} {ad : Nat → Nat} (hG : cx_G l s0 D cA) {j n : Nat} (mm : Int32) (P : MS) (hn : qS P 8 = nI n) (hn8 : n ≤ 8) (hj : j < n) (hm : (1 : Int32) ≤ mm ∧ mm ≤ 20) (hh : ¬ qI P 14 j = 0) : MC l s0 D cA ad yX9_run cX9_run 3 (some .int) rmX9_run [.int (nI j), .int mm] P (some (.int 0)) (sS (sS P 0 0) 0 2) := by
  refine Ct.of (cA := cA) hG (by decide +kernel) (Nat.le_of_ble_eq_true rfl) ?_
  intro p e s m below meth c A C hnm hP hD hS ls hl
  have hx := cx_x C
  have hb := cx_b C
  have hl : lv_has ls 3 [(0, .ref (ad 0)), (1, .int (nI j)), (2, .int mm)] := hl
  refine lv_aload_n hx hb dX9_run_0 rfl (lv_at hl 0 rfl) ?_
  refine lv_iconst (v := 0) hx hb dX9_run_1 (by decide) ?_
  refine pm_0 (v := 0) C hP hD hS tm_666 dX9_run_2 (fun H locs hP hD hS => ?_)
  refine lv_aload_n hx hb dX9_run_5 rfl (lv_at hl 0 rfl) ?_
  refine lv_iload_n hx hb dX9_run_6 rfl (lv_at hl 1 rfl) ?_
  refine mc_V (As := [.int (nI j)]) (rest := []) (r := some (.int 0)) (T := sS P 0 0) C (k_none_ok (n := n) hG (sS P 0 0) hn hn8 hj) tm_789 tm_791 tm_897 tm_3 tm_792 rfl hdX9_none ⟨Nat.le_of_ble_eq_true rfl, Nat.le_of_ble_eq_true rfl⟩ hl.1 rfl (Nat.le_of_ble_eq_true rfl) dX9_run_7 ⟨Nat.le_of_ble_eq_true rfl, Nat.le_of_ble_eq_true rfl⟩ hP hD hS (fun H locs hP hD hS => ?_)
  refine lv_if_ne (tgt := 23) hx hb dX9_run_10 (by decide) (fun h9 => absurd rfl h9) (fun _ => ?_)
  refine lv_iload_n hx hb dX9_run_13 rfl (lv_at hl 2 rfl) ?_
  refine lv_iconst (v := 1) hx hb dX9_run_14 (by decide) ?_
  refine lv_bipush (v := 20) hx hb dX9_run_15 (by decide) ?_
  refine ct_S0 (As := [.int mm, .int 1, .int 20]) (rest := []) (r := some (.int 1)) C (k_within1 hG _ _ _ (hm)) tm_762 tm_763 tm_3 tm_764 hdX9_within.2 ⟨Nat.le_of_ble_eq_true rfl, Nat.le_of_ble_eq_true rfl⟩ hl.1 rfl (Nat.le_of_ble_eq_true rfl) dX9_run_17 ⟨Nat.le_of_ble_eq_true rfl, Nat.le_of_ble_eq_true rfl⟩ hP hD hS (fun H locs hP hD hS => ?_)
  refine lv_if_ne (tgt := 29) hx hb dX9_run_20 (by decide) (fun _ => ?_) (fun h9 => absurd h9 (by decide))
  refine lv_aload_n hx hb dX9_run_29 rfl (lv_at hl 0 rfl) ?_
  refine gm_14 C hP tm_680 dX9_run_30 ?_
  refine lv_iload_n hx hb dX9_run_33 rfl (lv_at hl 1 rfl) ?_
  refine xl_14 (v := qI P 14 j) (j := j) C hP (ix8 (Nat.lt_of_lt_of_le hj hn8)) (rfl) dX9_run_34 ?_
  refine lv_if_eq (tgt := 44) hx hb dX9_run_35 (by decide) (fun h9 => absurd h9 (hh)) (fun _ => ?_)
  refine lv_aload_n hx hb dX9_run_38 rfl (lv_at hl 0 rfl) ?_
  refine lv_iconst (v := 2) hx hb dX9_run_39 (by decide) ?_
  refine mc_V (As := [.int 2]) (rest := []) (r := some (.int 0)) (T := sS (sS P 0 0) 0 2) C (k_fail hG _ _) tm_769 tm_771 tm_895 tm_3 tm_772 rfl hdX9_fail ⟨Nat.le_of_ble_eq_true rfl, Nat.le_of_ble_eq_true rfl⟩ hl.1 rfl (Nat.le_of_ble_eq_true rfl) dX9_run_40 ⟨Nat.le_of_ble_eq_true rfl, Nat.le_of_ble_eq_true rfl⟩ hP hD hS (fun H locs hP hD hS => ?_)
  exact ct_iret C hS hP hD (⟨rfl, rfl⟩) (Nat.le_of_ble_eq_true rfl) (Nat.le_of_ble_eq_true rfl) dX9_run_43
set_option maxRecDepth 100000 in
theorem k_run_b {l : Launch} {s0 : State} {D : va_G} {cA : Nat → ClassId} {ad : Nat → Nat} (hG : cx_G l s0 D cA) {j n M sl b fr : Nat} (P : MS) (hn : qS P 8 = nI n) (hn8 : n ≤ 8) (hj : j < n) (hq : ∀ k, k < n → qI P 12 k = -1 ∨ ∃ t, t < 2 ∧ qI P 12 k = nI t) (hm : (1 : Int32) ≤ nI M ∧ nI M ≤ 20) (h0 : 0 < sl) (h16 : sl ≤ 16) (hM : M ≤ 20) (hI : bInv (sS P 0 0) j sl b) (hb2 : b < 2 ^ 29) (hfar : bdR (sS P 0 0) j j = nI fr - 1) (hfr : fr ≤ 8208) (hh : qI P 14 j = 0) (hpo : qI P 12 j < 0) (hpl : ∃ pl, pl ≤ 8208 ∧ qI P 13 j = nI pl - 1) : MC l s0 D cA ad yX9_run cX9_run 3 (some .int) rmX9_run [.int (nI j), .int (nI M)] P (some (.int (bt (bdR (sS P 0 0) j j) j sl (sS P 0 0) M 0 (sS P 0 0)).2)) ((bt (bdR (sS P 0 0) j j) j sl (sS P 0 0) M 0 (sS P 0 0)).1) := by
  refine Ct.of (cA := cA) hG (by decide +kernel) (Nat.le_of_ble_eq_true rfl) ?_
  intro p e s m below meth c A C hnm hP hD hS ls hl
  have hx := cx_x C
  have hb := cx_b C
  have hl : lv_has ls 3 [(0, .ref (ad 0)), (1, .int (nI j)), (2, .int (nI M))] := hl
  refine lv_aload_n hx hb dX9_run_0 rfl (lv_at hl 0 rfl) ?_
  refine lv_iconst (v := 0) hx hb dX9_run_1 (by decide) ?_
  refine pm_0 (v := 0) C hP hD hS tm_666 dX9_run_2 (fun H locs hP hD hS => ?_)
  refine lv_aload_n hx hb dX9_run_5 rfl (lv_at hl 0 rfl) ?_
  refine lv_iload_n hx hb dX9_run_6 rfl (lv_at hl 1 rfl) ?_
  refine mc_V (As := [.int (nI j)]) (rest := []) (r := some (.int 0)) (T := sS P 0 0) C (k_none_ok (n := n) hG (sS P 0 0) hn hn8 hj) tm_789 tm_791 tm_897 tm_3 tm_792 rfl hdX9_none ⟨Nat.le_of_ble_eq_true rfl, Nat.le_of_ble_eq_true rfl⟩ hl.1 rfl (Nat.le_of_ble_eq_true rfl) dX9_run_7 ⟨Nat.le_of_ble_eq_true rfl, Nat.le_of_ble_eq_true rfl⟩ hP hD hS (fun H locs hP hD hS => ?_)
  refine lv_if_ne (tgt := 23) hx hb dX9_run_10 (by decide) (fun h9 => absurd rfl h9) (fun _ => ?_)
  refine lv_iload_n hx hb dX9_run_13 rfl (lv_at hl 2 rfl) ?_
  refine lv_iconst (v := 1) hx hb dX9_run_14 (by decide) ?_
  refine lv_bipush (v := 20) hx hb dX9_run_15 (by decide) ?_
  refine ct_S0 (As := [.int (nI M), .int 1, .int 20]) (rest := []) (r := some (.int 1)) C (k_within1 hG _ _ _ (hm)) tm_762 tm_763 tm_3 tm_764 hdX9_within.2 ⟨Nat.le_of_ble_eq_true rfl, Nat.le_of_ble_eq_true rfl⟩ hl.1 rfl (Nat.le_of_ble_eq_true rfl) dX9_run_17 ⟨Nat.le_of_ble_eq_true rfl, Nat.le_of_ble_eq_true rfl⟩ hP hD hS (fun H locs hP hD hS => ?_)
  refine lv_if_ne (tgt := 29) hx hb dX9_run_20 (by decide) (fun _ => ?_) (fun h9 => absurd h9 (by decide))
  refine lv_aload_n hx hb dX9_run_29 rfl (lv_at hl 0 rfl) ?_
  refine gm_14 C hP tm_680 dX9_run_30 ?_
  refine lv_iload_n hx hb dX9_run_33 rfl (lv_at hl 1 rfl) ?_
  refine xl_14 (v := qI P 14 j) (j := j) C hP (ix8 (Nat.lt_of_lt_of_le hj hn8)) (rfl) dX9_run_34 ?_
  refine lv_if_eq (tgt := 44) hx hb dX9_run_35 (by decide) (fun _ => ?_) (fun h9 => absurd (hh) h9)
  refine lv_aload_n hx hb dX9_run_44 rfl (lv_at hl 0 rfl) ?_
  refine gm_12 C hP tm_678 dX9_run_45 ?_
  refine lv_iload_n hx hb dX9_run_48 rfl (lv_at hl 1 rfl) ?_
  refine xl_12 (v := qI P 12 j) (j := j) C hP (ix8 (Nat.lt_of_lt_of_le hj hn8)) (rfl) dX9_run_49 ?_
  refine lv_if_ge (tgt := 62) hx hb dX9_run_50 (by decide) (fun h9 => absurd h9 (Int32.not_le.mpr hpo)) (fun _ => ?_)
  refine lv_aload_n hx hb dX9_run_53 rfl (lv_at hl 0 rfl) ?_
  refine lv_iload_n hx hb dX9_run_54 rfl (lv_at hl 1 rfl) ?_
  refine lv_iload_n hx hb dX9_run_55 rfl (lv_at hl 2 rfl) ?_
  refine mc_V (As := [.int (nI j), .int (nI M)]) (rest := []) (r := some (.int ((bt (bdR (sS P 0 0) j j) j sl (sS P 0 0) M 0 (sS P 0 0)).2))) (T := (bt (bdR (sS P 0 0) j j) j sl (sS P 0 0) M 0 (sS P 0 0)).1) C (k_batch (n := n) (sl := sl) (b := b) (fr := fr) hG (sS P 0 0) hn hn8 hj hq h0 h16 hM hI hb2 hfar hfr hpl) tm_793 tm_795 tm_898 tm_3 tm_796 rfl hdX9_batch ⟨Nat.le_of_ble_eq_true rfl, Nat.le_of_ble_eq_true rfl⟩ hl.1 rfl (Nat.le_of_ble_eq_true rfl) dX9_run_56 ⟨Nat.le_of_ble_eq_true rfl, Nat.le_of_ble_eq_true rfl⟩ hP hD hS (fun H locs hP hD hS => ?_)
  refine lv_goto (tgt := 68) hx hb dX9_run_59 (by decide) ?_
  exact ct_iret C hS hP hD (⟨rfl, rfl⟩) (Nat.le_of_ble_eq_true rfl) (Nat.le_of_ble_eq_true rfl) dX9_run_68
set_option maxRecDepth 100000 in
theorem k_run_w {l : Launch} {s0 : State} {D : va_G} {cA : Nat → ClassId} {ad : Nat → Nat} (hG : cx_G l s0 D cA) {j n M sl b fr t : Nat} (P : MS) (hn : qS P 8 = nI n) (hn8 : n ≤ 8) (hj : j < n) (hq : ∀ k, k < n → qI P 12 k = -1 ∨ ∃ t, t < 2 ∧ qI P 12 k = nI t) (hm : (1 : Int32) ≤ nI M ∧ nI M ≤ 20) (h0 : 0 < sl) (h16 : sl ≤ 16) (hM : M ≤ 20) (hI : bInv (sS P 0 0) j sl b) (hb2 : b < 2 ^ 29) (hfar : bdR (sS P 0 0) j j = nI fr - 1) (hfr : fr ≤ 8208) (hh : qI P 14 j = 0) (hpo : qI P 12 j = nI t) (ht : t < 2) (hW : wInv (sS P 0 0) j t M) : MC l s0 D cA ad yX9_run cX9_run 3 (some .int) rmX9_run [.int (nI j), .int (nI M)] P (some (.int (wk (bdR (sS P 0 0) j j) j t sl M 0 (sS P 0 0)).2)) ((wk (bdR (sS P 0 0) j j) j t sl M 0 (sS P 0 0)).1) := by
  refine Ct.of (cA := cA) hG (by decide +kernel) (Nat.le_of_ble_eq_true rfl) ?_
  intro p e s m below meth c A C hnm hP hD hS ls hl
  have hx := cx_x C
  have hb := cx_b C
  have hl : lv_has ls 3 [(0, .ref (ad 0)), (1, .int (nI j)), (2, .int (nI M))] := hl
  refine lv_aload_n hx hb dX9_run_0 rfl (lv_at hl 0 rfl) ?_
  refine lv_iconst (v := 0) hx hb dX9_run_1 (by decide) ?_
  refine pm_0 (v := 0) C hP hD hS tm_666 dX9_run_2 (fun H locs hP hD hS => ?_)
  refine lv_aload_n hx hb dX9_run_5 rfl (lv_at hl 0 rfl) ?_
  refine lv_iload_n hx hb dX9_run_6 rfl (lv_at hl 1 rfl) ?_
  refine mc_V (As := [.int (nI j)]) (rest := []) (r := some (.int 0)) (T := sS P 0 0) C (k_none_ok (n := n) hG (sS P 0 0) hn hn8 hj) tm_789 tm_791 tm_897 tm_3 tm_792 rfl hdX9_none ⟨Nat.le_of_ble_eq_true rfl, Nat.le_of_ble_eq_true rfl⟩ hl.1 rfl (Nat.le_of_ble_eq_true rfl) dX9_run_7 ⟨Nat.le_of_ble_eq_true rfl, Nat.le_of_ble_eq_true rfl⟩ hP hD hS (fun H locs hP hD hS => ?_)
  refine lv_if_ne (tgt := 23) hx hb dX9_run_10 (by decide) (fun h9 => absurd rfl h9) (fun _ => ?_)
  refine lv_iload_n hx hb dX9_run_13 rfl (lv_at hl 2 rfl) ?_
  refine lv_iconst (v := 1) hx hb dX9_run_14 (by decide) ?_
  refine lv_bipush (v := 20) hx hb dX9_run_15 (by decide) ?_
  refine ct_S0 (As := [.int (nI M), .int 1, .int 20]) (rest := []) (r := some (.int 1)) C (k_within1 hG _ _ _ (hm)) tm_762 tm_763 tm_3 tm_764 hdX9_within.2 ⟨Nat.le_of_ble_eq_true rfl, Nat.le_of_ble_eq_true rfl⟩ hl.1 rfl (Nat.le_of_ble_eq_true rfl) dX9_run_17 ⟨Nat.le_of_ble_eq_true rfl, Nat.le_of_ble_eq_true rfl⟩ hP hD hS (fun H locs hP hD hS => ?_)
  refine lv_if_ne (tgt := 29) hx hb dX9_run_20 (by decide) (fun _ => ?_) (fun h9 => absurd h9 (by decide))
  refine lv_aload_n hx hb dX9_run_29 rfl (lv_at hl 0 rfl) ?_
  refine gm_14 C hP tm_680 dX9_run_30 ?_
  refine lv_iload_n hx hb dX9_run_33 rfl (lv_at hl 1 rfl) ?_
  refine xl_14 (v := qI P 14 j) (j := j) C hP (ix8 (Nat.lt_of_lt_of_le hj hn8)) (rfl) dX9_run_34 ?_
  refine lv_if_eq (tgt := 44) hx hb dX9_run_35 (by decide) (fun _ => ?_) (fun h9 => absurd (hh) h9)
  refine lv_aload_n hx hb dX9_run_44 rfl (lv_at hl 0 rfl) ?_
  refine gm_12 C hP tm_678 dX9_run_45 ?_
  refine lv_iload_n hx hb dX9_run_48 rfl (lv_at hl 1 rfl) ?_
  refine xl_12 (v := qI P 12 j) (j := j) C hP (ix8 (Nat.lt_of_lt_of_le hj hn8)) (rfl) dX9_run_49 ?_
  refine lv_if_ge (tgt := 62) hx hb dX9_run_50 (by decide) (fun _ => ?_) (fun h9 => absurd (by rw [hpo]; exact nI_pos' (by omega)) h9)
  refine lv_aload_n hx hb dX9_run_62 rfl (lv_at hl 0 rfl) ?_
  refine lv_iload_n hx hb dX9_run_63 rfl (lv_at hl 1 rfl) ?_
  refine lv_iload_n hx hb dX9_run_64 rfl (lv_at hl 2 rfl) ?_
  refine mc_V (As := [.int (nI j), .int (nI M)]) (rest := []) (r := some (.int ((wk (bdR (sS P 0 0) j j) j t sl M 0 (sS P 0 0)).2))) (T := (wk (bdR (sS P 0 0) j j) j t sl M 0 (sS P 0 0)).1) C (k_work (n := n) (sl := sl) (b := b) (fr := fr) (t := t) hG (sS P 0 0) hn hn8 hj hq ht h0 h16 hM hI hb2 hW hfar hfr) tm_819 tm_821 tm_904 tm_3 tm_822 rfl hdX9_work ⟨Nat.le_of_ble_eq_true rfl, Nat.le_of_ble_eq_true rfl⟩ hl.1 rfl (Nat.le_of_ble_eq_true rfl) dX9_run_65 ⟨Nat.le_of_ble_eq_true rfl, Nat.le_of_ble_eq_true rfl⟩ hP hD hS (fun H locs hP hD hS => ?_)
  exact ct_iret C hS hP hD (⟨rfl, rfl⟩) (Nat.le_of_ble_eq_true rfl) (Nat.le_of_ble_eq_true rfl) dX9_run_68
