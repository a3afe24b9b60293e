/-! ===== the reference: batch, work, run ===== -/
theorem ptS_I {P : MS} {j z k i : Nat} {v : Int32} : qI (ptS P j z v) k i = if k = 25 ∧ i = j then nI (z + 1) else if k = 26 ∧ i = 400 * j + z then v &&& 255 else qI P k i := by rw [ptS, qI_if, qI_if]
theorem ptS_k {P : MS} {j z k : Nat} {v : Int32} (h5 : k ≠ 25) (h6 : k ≠ 26) : qI (ptS P j z v) k = qI P k := funext fun i => by rw [ptS_I, if_neg (fun h => h5 h.1), if_neg (fun h => h6 h.1)]
theorem pbL_k {j : Nat} {v : Int64} {k : Nat} (h5 : k ≠ 25) (h6 : k ≠ 26) : ∀ (d z : Nat) (P : MS), qI (pbL j v d z P) k = qI P k
  | 0, _, _ => rfl
  | d + 1, z, P => by rw [pbL, pbL_k h5 h6 d, ptS_k h5 h6]
theorem pbL_F {j : Nat} {v : Int64} : ∀ (k z : Nat) (P : MS), qF (pbL j v k z P) = qF P
  | 0, _, _ => rfl
  | k + 1, z, P => pbL_F k (z + 1) _
theorem pbL_D {j : Nat} {v : Int64} : ∀ (k z : Nat) (P : MS), qD (pbL j v k z P) = qD P
  | 0, _, _ => rfl
  | k + 1, z, P => pbL_D k (z + 1) _
theorem pbL_R {j : Nat} {v : Int64} : ∀ (k z : Nat) (P : MS), qR (pbL j v k z P) = qR P
  | 0, _, _ => rfl
  | k + 1, z, P => pbL_R k (z + 1) _
theorem ptS_S {P : MS} {j z : Nat} {v : Int32} : qS (ptS P j z v) = qS P := rfl
theorem recS_S {P : MS} {j e z : Nat} {v : Int64} {g : Int32} : qS (recS P j e z v g) = qS P := by rw [recS, ptS_S, recA, ptS_S, pbL_S, ptS_S, ptS_S, ptS_S]
theorem ptS_J {P : MS} {j z : Nat} {v : Int32} : qJ (ptS P j z v) = qJ P := rfl
theorem recS_J {P : MS} {j e z : Nat} {v : Int64} {g : Int32} : qJ (recS P j e z v g) = qJ P := by rw [recS, ptS_J, recA, ptS_J, pbL_J, ptS_J, ptS_J, ptS_J]
theorem ptS_F {P : MS} {j z : Nat} {v : Int32} : qF (ptS P j z v) = qF P := rfl
theorem recS_F {P : MS} {j e z : Nat} {v : Int64} {g : Int32} : qF (recS P j e z v g) = qF P := by rw [recS, ptS_F, recA, ptS_F, pbL_F, ptS_F, ptS_F, ptS_F]
theorem ptS_D {P : MS} {j z : Nat} {v : Int32} : qD (ptS P j z v) = qD P := rfl
theorem recS_D {P : MS} {j e z : Nat} {v : Int64} {g : Int32} : qD (recS P j e z v g) = qD P := by rw [recS, ptS_D, recA, ptS_D, pbL_D, ptS_D, ptS_D, ptS_D]
theorem ptS_R {P : MS} {j z : Nat} {v : Int32} : qR (ptS P j z v) = qR P := rfl
theorem recS_R {P : MS} {j e z : Nat} {v : Int64} {g : Int32} : qR (recS P j e z v g) = qR P := by rw [recS, ptS_R, recA, ptS_R, pbL_R, ptS_R, ptS_R, ptS_R]
theorem recS_k {P : MS} {j e z k : Nat} {v : Int64} {g : Int32} (h5 : k ≠ 25) (h6 : k ≠ 26) : qI (recS P j e z v g) k = qI P k := by
  rw [recS, ptS_k h5 h6, recA, ptS_k h5 h6, pbL_k h5 h6, ptS_k h5 h6, ptS_k h5 h6, ptS_k h5 h6]
theorem recS_25 {P : MS} {j e z : Nat} {v : Int64} {g : Int32} : qI (recS P j e z v g) 25 j = nI (z + 13) := by rw [recS, ptS_I, if_pos ⟨rfl, rfl⟩]
/-- what a handler has after event ev -/
def hSf (P : MS) (j ev sl : Nat) : MS := hSt P j ev (qI P 25 j).toNatClampNeg (qJ P 5 (ev % sl)) (qI P 6 (ev % sl))
def hB (P : MS) (j ev sl : Nat) : Bool := hOk P j (qJ P 5 (ev % sl))
theorem sI_k {P : MS} {k j a : Nat} {v : Int32} (h : a ≠ k) : qI (sI P k j v) a = qI P a := funext fun b => by rw [qI_if, if_neg (fun q => h q.1)]
theorem hS_S {P : MS} {j ev sl : Nat} : qS (hSf P j ev sl) = qS P := by
  unfold hSf hSt
  split
  · rfl
  split
  · rfl
  split
  · rfl
  · rw [recS_S]; rfl
theorem hS_k {P : MS} {j ev sl k : Nat} (h1 : k ≠ 15) (h5 : k ≠ 25) (h6 : k ≠ 26) : qI (hSf P j ev sl) k = qI P k := by
  unfold hSf hSt
  split
  · exact sI_k h1
  split
  · exact sI_k h1
  split
  · exact sI_k h1
  · rw [recS_k h5 h6]; exact sI_k h1
theorem hS_15 {P : MS} {j ev sl : Nat} : qI (hSf P j ev sl) 15 = qI (sI P 15 j (qI P 15 j + 1)) 15 := by
  unfold hSf hSt
  split
  · rfl
  split
  · rfl
  split
  · rfl
  · rw [recS_k (by decide) (by decide)]
/-- what holds of consumer j whatever it handles: b bounds how many it has handled -/
def bInv (P : MS) (j sl b : Nat) : Prop := qS P 1 = nI sl ∧ (qI P 9 j = 0 ∨ qI P 9 j = 1 ∨ qI P 9 j = 2 ∨ qI P 9 j = 3) ∧ (qI P 11 j = 0 ∨ qI P 11 j = 1 ∨ qI P 11 j = 2) ∧ lvI (qF P j) ∧ mnI (qD P j) ∧ (∃ q, q ≤ b ∧ qI P 15 j = nI q) ∧ (∃ z, z ≤ 400 ∧ qI P 25 j = nI z)
theorem bInv_of {P T : MS} {j sl b : Nat} (h : bInv P j sl b) (h1 : qS T 1 = qS P 1) (h9 : qI T 9 j = qI P 9 j) (h11 : qI T 11 j = qI P 11 j) (hF : qF T j = qF P j) (hD : qD T j = qD P j) (h15 : qI T 15 j = qI P 15 j) (h25 : qI T 25 j = qI P 25 j) : bInv T j sl b := by
  unfold bInv
  rw [h1, h9, h11, hF, hD, h15, h25]
  exact h
theorem hOk_t {P : MS} {j : Nat} {v : Int64} (h : hOk P j v = true) : (qI P 9 j = 0 → ¬ v = -1) ∧ (¬ qI P 9 j = 0 → 0 ≤ v) ∧ (qI P 9 j = 3 → qI P 25 j + 13 ≤ 400) := of_decide_eq_true h
theorem hd1 {q b : Nat} (h : q ≤ b) (hb : b < 2 ^ 30) : 1 ≤ (nI q + 1).toInt := by rw [nI_1, nI_toInt (by omega)]; omega
theorem bInv_h {P : MS} {j sl b ev : Nat} (h : bInv P j sl b) (hb : b < 2 ^ 30) (ho : hB P j ev sl = true) : bInv (hSf P j ev sl) j sl (b + 1) := by
  obtain ⟨g1, g9, g11, gF, gD, ⟨q, hq, g15⟩, ⟨z, hz, g25⟩⟩ := h
  have ho := hOk_t ho
  refine ⟨by rw [hS_S]; exact g1, by rw [hS_k (by decide) (by decide) (by decide)]; exact g9, by rw [hS_k (by decide) (by decide) (by decide)]; exact g11, ?_, ?_, ⟨q + 1, by omega, by rw [hS_15, qI_s, g15, nI_1]⟩, ?_⟩
  · unfold hSf hSt
    split
    · exact gF
    split
    · rename_i h0 h1
      have : qF (sF (sI P 15 j (qI P 15 j + 1)) j (lvN (qF P j) (qJ P 5 (ev % sl)))) j = lvN (qF P j) (qJ P 5 (ev % sl)) := by simp [qF, sF, vf_upd]
      rw [this]
      exact (lvI_step gF (ho.2.1 h0)).2
    split
    · exact gF
    · rw [recS_F]; exact gF
  · unfold hSf hSt
    split
    · exact gD
    split
    · exact gD
    split
    · rename_i h0 h1 h2
      have : qD (sD (sI P 15 j (qI P 15 j + 1)) j (mnN (qD P j) (qJ P 5 (ev % sl)) (qI P 15 j + 1))) j = mnN (qD P j) (qJ P 5 (ev % sl)) (qI P 15 j + 1) := by simp [qD, sD, vf_upd]
      rw [this, g15]
      exact (mnI_step gD (ho.2.1 h0) (hd1 hq hb)).2
    · rw [recS_D]; exact gD
  · unfold hSf hSt
    split
    · exact ⟨z, hz, g25⟩
    split
    · exact ⟨z, hz, g25⟩
    split
    · exact ⟨z, hz, g25⟩
    · rename_i h0 h1 h2
      have h3 : qI P 9 j = 3 := ((g9.resolve_left h0).resolve_left h1).resolve_left h2
      have h4 := ho.2.2 h3
      rw [g25] at h4 ⊢
      rw [nI_clamp (by omega), recS_25]
      exact ⟨z + 13, nI_le13 hz h4, rfl⟩
theorem k_handles {l : Launch} {s0 : State} {D : va_G} {cA : Nat → ClassId} {ad : Nat → Nat} (hG : cx_G l s0 D cA) {j ev sl b : Nat} (P : MS) (hj : j < 8) (h0 : 0 < sl) (h16 : sl ≤ 16) (hev : ev < 2 ^ 31) (hI : bInv P j sl b) (hb : b < 2 ^ 30) : MC l s0 D cA ad yX9_handles cX9_handles 5 (some .boolean) rmX9_handles [.int (nI j), .int (nI ev)] P (some (.int (if hB P j ev sl then 1 else 0))) (if hB P j ev sl then hSf P j ev sl else P) := by
  obtain ⟨g1, g9, g11, gF, gD, ⟨q, hq, g15⟩, ⟨z, hz, g25⟩⟩ := hI
  have e25 : (qI P 25 j).toNatClampNeg = z := by rw [g25]; exact nI_clamp (by omega)
  unfold hB hSf
  rcases g9 with h | h | h | h
  · exact k_h0 hG P hj g1 h0 h16 hev rfl rfl h
  · exact k_h1 hG P hj g1 h0 h16 hev rfl rfl h (fun h2 => (lvI_step gF h2).1)
  · exact k_h2 hG P hj g1 h0 h16 hev rfl rfl h (fun h2 => (mnI_step gD h2 (by rw [g15]; exact hd1 hq hb)).1)
  · rw [e25]; exact k_h3 hG P hj g1 h0 h16 hev rfl rfl h g25 hz
theorem k_hd_y {l : Launch} {s0 : State} {D : va_G} {cA : Nat → ClassId} {ad : Nat → Nat} (hG : cx_G l s0 D cA) {j ev sl b : Nat} (P : MS) (hj : j < 8) (h0 : 0 < sl) (h16 : sl ≤ 16) (hev : ev < 2 ^ 31) (hI : bInv P j sl b) (hb : b < 2 ^ 30) (ho : hB P j ev sl = true) : MC l s0 D cA ad yX9_handles cX9_handles 5 (some .boolean) rmX9_handles [.int (nI j), .int (nI ev)] P (some (.int 1)) (hSf P j ev sl) := by
  have := k_handles (ad := ad) hG P hj h0 h16 hev hI hb
  rw [ho] at this
  exact this
theorem k_hd_n {l : Launch} {s0 : State} {D : va_G} {cA : Nat → ClassId} {ad : Nat → Nat} (hG : cx_G l s0 D cA) {j ev sl b : Nat} (P : MS) (hj : j < 8) (h0 : 0 < sl) (h16 : sl ≤ 16) (hev : ev < 2 ^ 31) (hI : bInv P j sl b) (hb : b < 2 ^ 30) (ho : hB P j ev sl = false) : MC l s0 D cA ad yX9_handles cX9_handles 5 (some .boolean) rmX9_handles [.int (nI j), .int (nI ev)] P (some (.int 0)) P := by
  have := k_handles (ad := ad) hG P hj h0 h16 hev hI hb
  rw [ho] at this
  exact this
theorem k_an_x {l : Launch} {s0 : State} {D : va_G} {cA : Nat → ClassId} {ad : Nat → Nat} (hG : cx_G l s0 D cA) {j : Nat} {r : Int32} (s9 : Int32) (P : MS) (hj : j < 8) (hp : qI P 11 j = r) (h2 : ¬ r = 2) : MC l s0 D cA ad yX9_answer cX9_answer 3 (some .int) rmX9_answer [.int (nI j), .int s9] P (some (.int r)) P := by
  have := k_ans_x (ad := ad) hG s9 P hj (by rw [hp]; exact h2)
  rw [hp] at this
  exact this
theorem k_an_r {l : Launch} {s0 : State} {D : va_G} {cA : Nat → ClassId} {ad : Nat → Nat} (hG : cx_G l s0 D cA) {j : Nat} (s9 : Int32) (P : MS) (hj : j < 8) (hp : qI P 11 j = 2) (h3 : tmS P j s9 < 3) : MC l s0 D cA ad yX9_answer cX9_answer 3 (some .int) rmX9_answer [.int (nI j), .int s9] P (some (.int 2)) (anS P j s9) := by
  have := k_ans_2 (ad := ad) hG s9 P hj hp
  rw [if_pos h3, if_pos h3] at this
  exact this
theorem k_an_i {l : Launch} {s0 : State} {D : va_G} {cA : Nat → ClassId} {ad : Nat → Nat} (hG : cx_G l s0 D cA) {j : Nat} (s9 : Int32) (P : MS) (hj : j < 8) (hp : qI P 11 j = 2) (h3 : ¬ tmS P j s9 < 3) : MC l s0 D cA ad yX9_answer cX9_answer 3 (some .int) rmX9_answer [.int (nI j), .int s9] P (some (.int 0)) (sI (anS P j s9) 19 j 0) := by
  have := k_ans_2 (ad := ad) hG s9 P hj hp
  rw [if_neg h3, if_neg h3] at this
  exact this
def stq (P : MS) (j : Nat) (b a c : Int32) : MS := sI (sI (sI P 14 j (vp_nar .boolean b)) 16 j (qI P 16 j + a)) 13 j (qI P 13 j + c)
/-- back to where the batch began -/
def rwS (B P : MS) (j : Nat) : MS := sI (sI (sI (sI (sD (sF (sJ (sI P 13 j (qI B 13 j)) 22 j (qJ B 22 j)) j (qF B j)) j (qD B j)) 25 j (qI B 25 j)) 15 j (qI B 15 j)) 16 j (qI B 16 j)) 17 j (qI P 17 j + 1)
def evO (P : MS) (j : Nat) : Nat := (qI P 13 j + 1).toNatClampNeg
/-- a batch, of which d events may still be handled and i have been -/
def bt (far : Int32) (j sl : Nat) (B : MS) : Nat → Nat → MS → MS × Int32
  | 0, i, P => (P, nI i)
  | d + 1, i, P =>
    if qI P 13 j < far ∧ qI P 14 j = 0 then
      if hB P j (evO P j) sl = true then bt far j sl B d (i + 1) (stq (hSf P j (evO P j) sl) j 0 0 1)
      else if qI P 11 j = 1 then (stq P j 1 0 0, nI i)
      else if qI P 11 j = 2 then
        if tmS P j (nI (evO P j)) < 3 then (rwS B (anS P j (nI (evO P j))) j, -1)
        else bt far j sl B d (i + 1) (stq (sI (anS P j (nI (evO P j))) 19 j 0) j 0 1 1)
      else bt far j sl B d (i + 1) (stq P j 0 1 1)
    else (P, nI i)
theorem bInv_stq {P : MS} {j sl b : Nat} {x y z : Int32} (h : bInv P j sl b) : bInv (stq P j x y z) j sl b := bInv_of h rfl rfl rfl rfl rfl rfl rfl
theorem bInv_an {P : MS} {j sl b : Nat} {s9 : Int32} (h : bInv P j sl b) : bInv (sI (anS P j s9) 19 j 0) j sl b := bInv_of h rfl rfl rfl rfl rfl rfl rfl
section Loops7
variable {p : Program} {l : Launch} {e : Env} {R : Room} {s : State} {m : MethodId} {args : Array Value} {below : List Frame} {meth : Method} {c : Code} {H : Heap} {locs : List Loc} {cells slots : Nat} {Q : State → Prop}
variable {s0 : State} {D : va_G} {cA : Nat → ClassId} {A : Nat → Prop} {ad : Nat → Nat}
set_option maxRecDepth 100000 in
theorem lp_batch {R0 : MS × Int32} (C : cx_C p l s m args meth c s0 D cA cX9_batch 16 (some .int) RX9 A) (hG : cx_G l s0 D cA) {B : MS} {j sl M fr : Nat} {far : Int32} (hj : j < 8) (h0 : 0 < sl) (h16 : sl ≤ 16) (hM : M ≤ 20) (hfar : far = nI fr - 1) (hfr : fr ≤ 8208) (hR0 : rmX9_handles.frames + 1 ≤ R.frames ∧ 8 + (5 + 11) + rmX9_handles.locals ≤ R.locals) (hC0 : cells + rmX9_handles.cells ≤ R.cells ∧ slots + rmX9_handles.slots ≤ R.slots) (hR1 : rmX9_answer.frames + 1 ≤ R.frames ∧ 8 + (3 + 11) + rmX9_answer.locals ≤ R.locals) (hC1 : cells + rmX9_answer.cells ≤ R.cells ∧ slots + rmX9_answer.slots ≤ R.slots) 
    (kk2 : ∀ (T : MS) (H : Heap) (locs : List Loc) (ls : Array Slot), (T, (-1 : Int32)) = R0 → va_P D vwCl (mW cA ad T) H → va_D A (mW cA ad T) → va_S A s.heap H locs → W p l e R s m args below meth c H locs cells slots Q (F0 m 196 ls [.int (-1)]))
    (kk : ∀ (T : MS) (r : Int32) (H : Heap) (locs : List Loc) (ls : Array Slot), (T, r) = R0 → va_P D vwCl (mW cA ad T) H → va_D A (mW cA ad T) → va_S A s.heap H locs → lv_has ls 16 [(13, .int r)] → W p l e R s m args below meth c H locs cells slots Q (F0 m 272 ls [])) :
    ∀ (d i : Nat) (P : MS) (b : Nat), i + d = M → b + d < 2 ^ 30 → bInv P j sl b → (∃ pl, pl ≤ 8208 ∧ qI P 13 j = nI pl - 1) → bt far j sl B d i P = R0 → ∀ (H : Heap) (locs : List Loc) (ls : Array Slot), va_P D vwCl (mW cA ad P) H → va_D A (mW cA ad P) → va_S A s.heap H locs → lv_has ls 16 [(13, .int (nI i)), (0, .ref (ad 0)), (1, .int (nI j)), (2, .int (nI M)), (3, .int far), (4, .int (qI B 13 j)), (5, .long (qJ B 22 j)), (7, .float (qF B j)), (8, .double (qD B j)), (10, .int (qI B 25 j)), (11, .int (qI B 15 j)), (12, .int (qI B 16 j))] → W p l e R s m args below meth c H locs cells slots Q (F0 m 65 ls []) := by
  have hx := cx_x C
  have hb := cx_b C
  intro d
  induction d with
  | zero =>
    intro i P b hi hb3 hI hpl hR H locs ls hP hD hS hl
    have hi : i = M := hi
    have hR : (P, nI i) = R0 := hR
    refine lv_iload hx hb dX9_batch_65 (lv_at hl 0 rfl) ?_
    refine lv_iload_n hx hb dX9_batch_67 rfl (lv_at hl 3 rfl) ?_
    refine lv_icmp_ge (tgt := 272) hx hb dX9_batch_68 (by decide) (fun _ => ?_) (fun h9 => absurd (by rw [hi]; exact Int32.le_refl _) h9)
    exact kk _ _ H locs ls hR hP hD hS (lv_sub hl [0] rfl)
  | succ d ih =>
    intro i P b hi hb3 hI hpl hR H locs ls hP hD hS hl
    obtain ⟨pl, hp8, hpl⟩ := hpl
    have hev : qI P 13 j + 1 = nI pl := by rw [hpl, nIm_1]
    have heO : evO P j = pl := by rw [evO, hev]; exact nI_clamp (by omega)
    rw [bt] at hR
    by_cases hgo : qI P 13 j < far ∧ qI P 14 j = 0
    · rw [if_pos hgo, heO] at hR
      have hpf : pl < fr := by have := hgo.1; rw [hpl, hfar] at this; exact (nIm_lm (by omega) (by omega)).mp this
      by_cases hho : hB P j pl sl = true
      · rw [if_pos hho] at hR
        refine lv_iload hx hb dX9_batch_65 (lv_at hl 0 rfl) ?_
        refine lv_iload_n hx hb dX9_batch_67 rfl (lv_at hl 3 rfl) ?_
        refine lv_icmp_ge (tgt := 272) hx hb dX9_batch_68 (by decide) (fun h9 => absurd h9 (nI_ge (by omega) (by omega))) (fun _ => ?_)
        refine lv_aload_n hx hb dX9_batch_71 rfl (lv_at hl 1 rfl) ?_
        refine gm_13 C hP tm_679 dX9_batch_72 ?_
        refine lv_iload_n hx hb dX9_batch_75 rfl (lv_at hl 2 rfl) ?_
        refine xl_13 (v := qI P 13 j) (j := j) C hP (ix8 hj) (rfl) dX9_batch_76 ?_
        refine lv_iload_n hx hb dX9_batch_77 rfl (lv_at hl 4 rfl) ?_
        refine lv_icmp_ge (tgt := 272) hx hb dX9_batch_78 (by decide) (fun h9 => absurd h9 (Int32.not_le.mpr hgo.1)) (fun _ => ?_)
        refine lv_aload_n hx hb dX9_batch_81 rfl (lv_at hl 1 rfl) ?_
        refine gm_14 C hP tm_680 dX9_batch_82 ?_
        refine lv_iload_n hx hb dX9_batch_85 rfl (lv_at hl 2 rfl) ?_
        refine xl_14 (v := qI P 14 j) (j := j) C hP (ix8 hj) (rfl) dX9_batch_86 ?_
        refine lv_if_ne (tgt := 272) hx hb dX9_batch_87 (by decide) (fun h9 => absurd (hgo.2) h9) (fun _ => ?_)
        refine lv_aload_n hx hb dX9_batch_90 rfl (lv_at hl 1 rfl) ?_
        refine gm_13 C hP tm_679 dX9_batch_91 ?_
        refine lv_iload_n hx hb dX9_batch_94 rfl (lv_at hl 2 rfl) ?_
        refine xl_13 (v := qI P 13 j) (j := j) C hP (ix8 hj) (rfl) dX9_batch_95 ?_
        refine lv_iconst (v := 1) hx hb dX9_batch_96 (by decide) ?_
        refine lv_iadd hx hb dX9_batch_97 ?_
        refine lv_istore (lv' := [(14, .int ((qI P 13 j) + 1)), (13, .int (nI i)), (0, .ref (ad 0)), (1, .int (nI j)), (2, .int (nI M)), (3, .int far), (4, .int (qI B 13 j)), (5, .long (qJ B 22 j)), (7, .float (qF B j)), (8, .double (qD B j)), (10, .int (qI B 25 j)), (11, .int (qI B 15 j)), (12, .int (qI B 16 j))]) hx hb dX9_batch_98 hl (by decide) rfl (fun ls hl => ?_)
        rw [hev] at hl
        refine lv_aload_n hx hb dX9_batch_100 rfl (lv_at hl 2 rfl) ?_
        refine lv_iload_n hx hb dX9_batch_101 rfl (lv_at hl 3 rfl) ?_
        refine lv_iload hx hb dX9_batch_102 (lv_at hl 0 rfl) ?_
        refine mc_V (As := [.int (nI j), .int (nI pl)]) (rest := []) (r := some (.int 1)) (T := hSf P j pl sl) C (k_hd_y (sl := sl) (b := b) hG _ hj h0 h16 (by omega) hI (by omega) hho) tm_801 tm_803 tm_900 tm_3 tm_804 rfl hdX9_handles hR0 hl.1 rfl (Nat.le_of_ble_eq_true rfl) dX9_batch_104 hC0 hP hD hS (fun H locs hP hD hS => ?_)
        refine lv_if_eq (tgt := 114) hx hb dX9_batch_107 (by decide) (fun h9 => absurd h9 (by decide)) (fun _ => ?_)
        refine lv_iconst (v := (-1)) hx hb dX9_batch_110 (by decide) ?_
        refine lv_goto (tgt := 121) hx hb dX9_batch_111 (by decide) ?_
        refine lv_istore (lv' := [(15, .int (-1)), (14, .int (nI pl)), (13, .int (nI i)), (0, .ref (ad 0)), (1, .int (nI j)), (2, .int (nI M)), (3, .int far), (4, .int (qI B 13 j)), (5, .long (qJ B 22 j)), (7, .float (qF B j)), (8, .double (qD B j)), (10, .int (qI B 25 j)), (11, .int (qI B 15 j)), (12, .int (qI B 16 j))]) hx hb dX9_batch_121 hl (by decide) rfl (fun ls hl => ?_)
        refine lv_iload hx hb dX9_batch_123 (lv_at hl 0 rfl) ?_
        refine lv_iconst (v := 2) hx hb dX9_batch_125 (by decide) ?_
        refine lv_icmp_ne (tgt := 197) hx hb dX9_batch_126 (by decide) (fun _ => ?_) (fun h9 => absurd h9 (by decide))
        refine lv_aload_n hx hb dX9_batch_197 rfl (lv_at hl 3 rfl) ?_
        refine gm_14 C hP tm_680 dX9_batch_198 ?_
        refine lv_iload_n hx hb dX9_batch_201 rfl (lv_at hl 4 rfl) ?_
        refine lv_iload hx hb dX9_batch_202 (lv_at hl 0 rfl) ?_
        refine lv_iconst (v := 1) hx hb dX9_batch_204 (by decide) ?_
        refine lv_icmp_ne (tgt := 212) hx hb dX9_batch_205 (by decide) (fun _ => ?_) (fun h9 => absurd h9 (by decide))
        refine lv_iconst (v := 0) hx hb dX9_batch_212 (by decide) ?_
        refine xs_14 (x := 0) (j := j) C hP hD hS (ix8 hj) dX9_batch_213 (fun H locs hP hD hS => ?_)
        refine lv_aload_n hx hb dX9_batch_214 rfl (lv_at hl 3 rfl) ?_
        refine gm_16 C hP tm_682 dX9_batch_215 ?_
        refine lv_iload_n hx hb dX9_batch_218 rfl (lv_at hl 4 rfl) ?_
        refine lv_dup2_11 hx hb dX9_batch_219 rfl rfl ?_
        refine xl_16 (v := qI (hSf P j pl sl) 16 j) (j := j) C hP (ix8 hj) (rfl) dX9_batch_220 ?_
        refine lv_iload hx hb dX9_batch_221 (lv_at hl 0 rfl) ?_
        refine lv_if_ne (tgt := 230) hx hb dX9_batch_223 (by decide) (fun _ => ?_) (fun h9 => absurd h9 (by decide))
        refine lv_iconst (v := 0) hx hb dX9_batch_230 (by decide) ?_
        refine lv_iadd hx hb dX9_batch_231 ?_
        refine xs_16 (x := (qI (hSf P j pl sl) 16 j) + 0) (j := j) C hP hD hS (ix8 hj) dX9_batch_232 (fun H locs hP hD hS => ?_)
        refine lv_aload_n hx hb dX9_batch_233 rfl (lv_at hl 3 rfl) ?_
        refine gm_13 C hP tm_679 dX9_batch_234 ?_
        refine lv_iload_n hx hb dX9_batch_237 rfl (lv_at hl 4 rfl) ?_
        refine lv_dup2_11 hx hb dX9_batch_238 rfl rfl ?_
        refine xl_13 (v := qI (hSf P j pl sl) 13 j) (j := j) C hP (ix8 hj) (rfl) dX9_batch_239 ?_
        refine lv_iload hx hb dX9_batch_240 (lv_at hl 0 rfl) ?_
        refine lv_iconst (v := 1) hx hb dX9_batch_242 (by decide) ?_
        refine lv_icmp_ne (tgt := 250) hx hb dX9_batch_243 (by decide) (fun _ => ?_) (fun h9 => absurd h9 (by decide))
        refine lv_iconst (v := 1) hx hb dX9_batch_250 (by decide) ?_
        refine lv_iadd hx hb dX9_batch_251 ?_
        refine xs_13 (x := (qI (hSf P j pl sl) 13 j) + 1) (j := j) C hP hD hS (ix8 hj) dX9_batch_252 (fun H locs hP hD hS => ?_)
        refine lv_iload hx hb dX9_batch_253 (lv_at hl 2 rfl) ?_
        refine lv_iload hx hb dX9_batch_255 (lv_at hl 0 rfl) ?_
        refine lv_iconst (v := 1) hx hb dX9_batch_257 (by decide) ?_
        refine lv_icmp_ne (tgt := 265) hx hb dX9_batch_258 (by decide) (fun _ => ?_) (fun h9 => absurd h9 (by decide))
        refine lv_iconst (v := 1) hx hb dX9_batch_265 (by decide) ?_
        refine lv_iadd hx hb dX9_batch_266 ?_
        refine lv_istore (lv' := [(13, .int ((nI i) + 1)), (15, .int (-1)), (14, .int (nI pl)), (0, .ref (ad 0)), (1, .int (nI j)), (2, .int (nI M)), (3, .int far), (4, .int (qI B 13 j)), (5, .long (qJ B 22 j)), (7, .float (qF B j)), (8, .double (qD B j)), (10, .int (qI B 25 j)), (11, .int (qI B 15 j)), (12, .int (qI B 16 j))]) hx hb dX9_batch_267 hl (by decide) rfl (fun ls hl => ?_)
        refine lv_goto (tgt := 65) hx hb dX9_batch_269 (by decide) ?_
        rw [nI_1] at hl
        refine ih (i + 1) (stq (hSf P j pl sl) j 0 0 1) (b + 1) (by omega) (by omega) (bInv_stq (bInv_h hI (by omega) hho)) ⟨pl + 1, by omega, ?_⟩ hR H locs ls hP hD hS (lv_sub hl [0, 3, 4, 5, 6, 7, 8, 9, 10, 11, 12, 13] rfl)
        show qI (sI _ 13 j (qI (hSf P j pl sl) 13 j + 1)) 13 j = _
        rw [qI_s, nI_pred]
        exact (show qI (hSf P j pl sl) 13 j + 1 = qI P 13 j + 1 by first | rfl | rw [hS_k (by decide) (by decide) (by decide)]).trans hev
      have hho : hB P j pl sl = false := by cases h : hB P j pl sl with
        | true => exact absurd h hho
        | false => rfl
      rw [if_neg (by rw [hho]; decide)] at hR
      by_cases hpx : qI P 11 j = 1
      · rw [if_pos hpx] at hR
        refine lv_iload hx hb dX9_batch_65 (lv_at hl 0 rfl) ?_
        refine lv_iload_n hx hb dX9_batch_67 rfl (lv_at hl 3 rfl) ?_
        refine lv_icmp_ge (tgt := 272) hx hb dX9_batch_68 (by decide) (fun h9 => absurd h9 (nI_ge (by omega) (by omega))) (fun _ => ?_)
        refine lv_aload_n hx hb dX9_batch_71 rfl (lv_at hl 1 rfl) ?_
        refine gm_13 C hP tm_679 dX9_batch_72 ?_
        refine lv_iload_n hx hb dX9_batch_75 rfl (lv_at hl 2 rfl) ?_
        refine xl_13 (v := qI P 13 j) (j := j) C hP (ix8 hj) (rfl) dX9_batch_76 ?_
        refine lv_iload_n hx hb dX9_batch_77 rfl (lv_at hl 4 rfl) ?_
        refine lv_icmp_ge (tgt := 272) hx hb dX9_batch_78 (by decide) (fun h9 => absurd h9 (Int32.not_le.mpr hgo.1)) (fun _ => ?_)
        refine lv_aload_n hx hb dX9_batch_81 rfl (lv_at hl 1 rfl) ?_
        refine gm_14 C hP tm_680 dX9_batch_82 ?_
        refine lv_iload_n hx hb dX9_batch_85 rfl (lv_at hl 2 rfl) ?_
        refine xl_14 (v := qI P 14 j) (j := j) C hP (ix8 hj) (rfl) dX9_batch_86 ?_
        refine lv_if_ne (tgt := 272) hx hb dX9_batch_87 (by decide) (fun h9 => absurd (hgo.2) h9) (fun _ => ?_)
        refine lv_aload_n hx hb dX9_batch_90 rfl (lv_at hl 1 rfl) ?_
        refine gm_13 C hP tm_679 dX9_batch_91 ?_
        refine lv_iload_n hx hb dX9_batch_94 rfl (lv_at hl 2 rfl) ?_
        refine xl_13 (v := qI P 13 j) (j := j) C hP (ix8 hj) (rfl) dX9_batch_95 ?_
        refine lv_iconst (v := 1) hx hb dX9_batch_96 (by decide) ?_
        refine lv_iadd hx hb dX9_batch_97 ?_
        refine lv_istore (lv' := [(14, .int ((qI P 13 j) + 1)), (13, .int (nI i)), (0, .ref (ad 0)), (1, .int (nI j)), (2, .int (nI M)), (3, .int far), (4, .int (qI B 13 j)), (5, .long (qJ B 22 j)), (7, .float (qF B j)), (8, .double (qD B j)), (10, .int (qI B 25 j)), (11, .int (qI B 15 j)), (12, .int (qI B 16 j))]) hx hb dX9_batch_98 hl (by decide) rfl (fun ls hl => ?_)
        rw [hev] at hl
        refine lv_aload_n hx hb dX9_batch_100 rfl (lv_at hl 2 rfl) ?_
        refine lv_iload_n hx hb dX9_batch_101 rfl (lv_at hl 3 rfl) ?_
        refine lv_iload hx hb dX9_batch_102 (lv_at hl 0 rfl) ?_
        refine mc_V (As := [.int (nI j), .int (nI pl)]) (rest := []) (r := some (.int 0)) (T := P) C (k_hd_n (sl := sl) (b := b) hG _ hj h0 h16 (by omega) hI (by omega) hho) tm_801 tm_803 tm_900 tm_3 tm_804 rfl hdX9_handles hR0 hl.1 rfl (Nat.le_of_ble_eq_true rfl) dX9_batch_104 hC0 hP hD hS (fun H locs hP hD hS => ?_)
        refine lv_if_eq (tgt := 114) hx hb dX9_batch_107 (by decide) (fun _ => ?_) (fun h9 => absurd (by decide) h9)
        refine lv_aload_n hx hb dX9_batch_114 rfl (lv_at hl 2 rfl) ?_
        refine lv_iload_n hx hb dX9_batch_115 rfl (lv_at hl 3 rfl) ?_
        refine lv_iload hx hb dX9_batch_116 (lv_at hl 0 rfl) ?_
        refine mc_V (As := [.int (nI j), .int (nI pl)]) (rest := []) (r := some (.int 1)) (T := P) C (k_an_x (r := 1) hG _ _ hj hpx (by decide)) tm_815 tm_817 tm_903 tm_3 tm_818 rfl hdX9_answer hR1 hl.1 rfl (Nat.le_of_ble_eq_true rfl) dX9_batch_118 hC1 hP hD hS (fun H locs hP hD hS => ?_)
        refine lv_istore (lv' := [(15, .int 1), (14, .int (nI pl)), (13, .int (nI i)), (0, .ref (ad 0)), (1, .int (nI j)), (2, .int (nI M)), (3, .int far), (4, .int (qI B 13 j)), (5, .long (qJ B 22 j)), (7, .float (qF B j)), (8, .double (qD B j)), (10, .int (qI B 25 j)), (11, .int (qI B 15 j)), (12, .int (qI B 16 j))]) hx hb dX9_batch_121 hl (by decide) rfl (fun ls hl => ?_)
        refine lv_iload hx hb dX9_batch_123 (lv_at hl 0 rfl) ?_
        refine lv_iconst (v := 2) hx hb dX9_batch_125 (by decide) ?_
        refine lv_icmp_ne (tgt := 197) hx hb dX9_batch_126 (by decide) (fun _ => ?_) (fun h9 => absurd h9 (by decide))
        refine lv_aload_n hx hb dX9_batch_197 rfl (lv_at hl 3 rfl) ?_
        refine gm_14 C hP tm_680 dX9_batch_198 ?_
        refine lv_iload_n hx hb dX9_batch_201 rfl (lv_at hl 4 rfl) ?_
        refine lv_iload hx hb dX9_batch_202 (lv_at hl 0 rfl) ?_
        refine lv_iconst (v := 1) hx hb dX9_batch_204 (by decide) ?_
        refine lv_icmp_ne (tgt := 212) hx hb dX9_batch_205 (by decide) (fun h9 => absurd rfl h9) (fun _ => ?_)
        refine lv_iconst (v := 1) hx hb dX9_batch_208 (by decide) ?_
        refine lv_goto (tgt := 213) hx hb dX9_batch_209 (by decide) ?_
        refine xs_14 (x := 1) (j := j) C hP hD hS (ix8 hj) dX9_batch_213 (fun H locs hP hD hS => ?_)
        refine lv_aload_n hx hb dX9_batch_214 rfl (lv_at hl 3 rfl) ?_
        refine gm_16 C hP tm_682 dX9_batch_215 ?_
        refine lv_iload_n hx hb dX9_batch_218 rfl (lv_at hl 4 rfl) ?_
        refine lv_dup2_11 hx hb dX9_batch_219 rfl rfl ?_
        refine xl_16 (v := qI P 16 j) (j := j) C hP (ix8 hj) (rfl) dX9_batch_220 ?_
        refine lv_iload hx hb dX9_batch_221 (lv_at hl 0 rfl) ?_
        refine lv_if_ne (tgt := 230) hx hb dX9_batch_223 (by decide) (fun _ => ?_) (fun h9 => absurd h9 (by decide))
        refine lv_iconst (v := 0) hx hb dX9_batch_230 (by decide) ?_
        refine lv_iadd hx hb dX9_batch_231 ?_
        refine xs_16 (x := (qI P 16 j) + 0) (j := j) C hP hD hS (ix8 hj) dX9_batch_232 (fun H locs hP hD hS => ?_)
        refine lv_aload_n hx hb dX9_batch_233 rfl (lv_at hl 3 rfl) ?_
        refine gm_13 C hP tm_679 dX9_batch_234 ?_
        refine lv_iload_n hx hb dX9_batch_237 rfl (lv_at hl 4 rfl) ?_
        refine lv_dup2_11 hx hb dX9_batch_238 rfl rfl ?_
        refine xl_13 (v := qI P 13 j) (j := j) C hP (ix8 hj) (rfl) dX9_batch_239 ?_
        refine lv_iload hx hb dX9_batch_240 (lv_at hl 0 rfl) ?_
        refine lv_iconst (v := 1) hx hb dX9_batch_242 (by decide) ?_
        refine lv_icmp_ne (tgt := 250) hx hb dX9_batch_243 (by decide) (fun h9 => absurd rfl h9) (fun _ => ?_)
        refine lv_iconst (v := 0) hx hb dX9_batch_246 (by decide) ?_
        refine lv_goto (tgt := 251) hx hb dX9_batch_247 (by decide) ?_
        refine lv_iadd hx hb dX9_batch_251 ?_
        refine xs_13 (x := (qI P 13 j) + 0) (j := j) C hP hD hS (ix8 hj) dX9_batch_252 (fun H locs hP hD hS => ?_)
        refine lv_iload hx hb dX9_batch_253 (lv_at hl 2 rfl) ?_
        refine lv_iload hx hb dX9_batch_255 (lv_at hl 0 rfl) ?_
        refine lv_iconst (v := 1) hx hb dX9_batch_257 (by decide) ?_
        refine lv_icmp_ne (tgt := 265) hx hb dX9_batch_258 (by decide) (fun h9 => absurd rfl h9) (fun _ => ?_)
        refine lv_iconst (v := 0) hx hb dX9_batch_261 (by decide) ?_
        refine lv_goto (tgt := 266) hx hb dX9_batch_262 (by decide) ?_
        refine lv_iadd hx hb dX9_batch_266 ?_
        refine lv_istore (lv' := [(13, .int ((nI i) + 0)), (15, .int 1), (14, .int (nI pl)), (0, .ref (ad 0)), (1, .int (nI j)), (2, .int (nI M)), (3, .int far), (4, .int (qI B 13 j)), (5, .long (qJ B 22 j)), (7, .float (qF B j)), (8, .double (qD B j)), (10, .int (qI B 25 j)), (11, .int (qI B 15 j)), (12, .int (qI B 16 j))]) hx hb dX9_batch_267 hl (by decide) rfl (fun ls hl => ?_)
        refine lv_goto (tgt := 65) hx hb dX9_batch_269 (by decide) ?_
        rw [show nI i + 0 = nI i from Int32.add_zero _] at hl
        refine lv_iload hx hb dX9_batch_65 (lv_at hl 0 rfl) ?_
        refine lv_iload_n hx hb dX9_batch_67 rfl (lv_at hl 5 rfl) ?_
        refine lv_icmp_ge (tgt := 272) hx hb dX9_batch_68 (by decide) (fun h9 => absurd h9 (nI_ge (by omega) (by omega))) (fun _ => ?_)
        refine lv_aload_n hx hb dX9_batch_71 rfl (lv_at hl 3 rfl) ?_
        refine gm_13 C hP tm_679 dX9_batch_72 ?_
        refine lv_iload_n hx hb dX9_batch_75 rfl (lv_at hl 4 rfl) ?_
        refine xl_13 (v := (qI P 13 j) + 0) (j := j) C hP (ix8 hj) (qI_s (P := (sI (sI P 14 j (vp_nar .boolean 1)) 16 j ((qI P 16 j) + 0))) (k := 13) (j := j) (v := (qI P 13 j) + 0)) dX9_batch_76 ?_
        refine lv_iload_n hx hb dX9_batch_77 rfl (lv_at hl 6 rfl) ?_
        refine lv_icmp_ge (tgt := 272) hx hb dX9_batch_78 (by decide) (fun h9 => absurd h9 (by rw [show qI P 13 j + 0 = qI P 13 j from Int32.add_zero _]; exact Int32.not_le.mpr hgo.1)) (fun _ => ?_)
        refine lv_aload_n hx hb dX9_batch_81 rfl (lv_at hl 3 rfl) ?_
        refine gm_14 C hP tm_680 dX9_batch_82 ?_
        refine lv_iload_n hx hb dX9_batch_85 rfl (lv_at hl 4 rfl) ?_
        refine xl_14 (v := vp_nar .boolean 1) (j := j) C hP (ix8 hj) (qI_s (P := P) (k := 14) (j := j) (v := vp_nar .boolean 1)) dX9_batch_86 ?_
        refine lv_if_ne (tgt := 272) hx hb dX9_batch_87 (by decide) (fun _ => ?_) (fun h9 => absurd h9 (by decide))
        exact kk _ _ H locs ls hR hP hD hS (lv_sub hl [0] rfl)
      rw [if_neg hpx] at hR
      by_cases hp2 : qI P 11 j = 2
      · rw [if_pos hp2] at hR
        by_cases ht3 : tmS P j (nI pl) < 3
        · rw [if_pos ht3] at hR
          refine lv_iload hx hb dX9_batch_65 (lv_at hl 0 rfl) ?_
          refine lv_iload_n hx hb dX9_batch_67 rfl (lv_at hl 3 rfl) ?_
          refine lv_icmp_ge (tgt := 272) hx hb dX9_batch_68 (by decide) (fun h9 => absurd h9 (nI_ge (by omega) (by omega))) (fun _ => ?_)
          refine lv_aload_n hx hb dX9_batch_71 rfl (lv_at hl 1 rfl) ?_
          refine gm_13 C hP tm_679 dX9_batch_72 ?_
          refine lv_iload_n hx hb dX9_batch_75 rfl (lv_at hl 2 rfl) ?_
          refine xl_13 (v := qI P 13 j) (j := j) C hP (ix8 hj) (rfl) dX9_batch_76 ?_
          refine lv_iload_n hx hb dX9_batch_77 rfl (lv_at hl 4 rfl) ?_
          refine lv_icmp_ge (tgt := 272) hx hb dX9_batch_78 (by decide) (fun h9 => absurd h9 (Int32.not_le.mpr hgo.1)) (fun _ => ?_)
          refine lv_aload_n hx hb dX9_batch_81 rfl (lv_at hl 1 rfl) ?_
          refine gm_14 C hP tm_680 dX9_batch_82 ?_
          refine lv_iload_n hx hb dX9_batch_85 rfl (lv_at hl 2 rfl) ?_
          refine xl_14 (v := qI P 14 j) (j := j) C hP (ix8 hj) (rfl) dX9_batch_86 ?_
          refine lv_if_ne (tgt := 272) hx hb dX9_batch_87 (by decide) (fun h9 => absurd (hgo.2) h9) (fun _ => ?_)
          refine lv_aload_n hx hb dX9_batch_90 rfl (lv_at hl 1 rfl) ?_
          refine gm_13 C hP tm_679 dX9_batch_91 ?_
          refine lv_iload_n hx hb dX9_batch_94 rfl (lv_at hl 2 rfl) ?_
          refine xl_13 (v := qI P 13 j) (j := j) C hP (ix8 hj) (rfl) dX9_batch_95 ?_
          refine lv_iconst (v := 1) hx hb dX9_batch_96 (by decide) ?_
          refine lv_iadd hx hb dX9_batch_97 ?_
          refine lv_istore (lv' := [(14, .int ((qI P 13 j) + 1)), (13, .int (nI i)), (0, .ref (ad 0)), (1, .int (nI j)), (2, .int (nI M)), (3, .int far), (4, .int (qI B 13 j)), (5, .long (qJ B 22 j)), (7, .float (qF B j)), (8, .double (qD B j)), (10, .int (qI B 25 j)), (11, .int (qI B 15 j)), (12, .int (qI B 16 j))]) hx hb dX9_batch_98 hl (by decide) rfl (fun ls hl => ?_)
          rw [hev] at hl
          refine lv_aload_n hx hb dX9_batch_100 rfl (lv_at hl 2 rfl) ?_
          refine lv_iload_n hx hb dX9_batch_101 rfl (lv_at hl 3 rfl) ?_
          refine lv_iload hx hb dX9_batch_102 (lv_at hl 0 rfl) ?_
          refine mc_V (As := [.int (nI j), .int (nI pl)]) (rest := []) (r := some (.int 0)) (T := P) C (k_hd_n (sl := sl) (b := b) hG _ hj h0 h16 (by omega) hI (by omega) hho) tm_801 tm_803 tm_900 tm_3 tm_804 rfl hdX9_handles hR0 hl.1 rfl (Nat.le_of_ble_eq_true rfl) dX9_batch_104 hC0 hP hD hS (fun H locs hP hD hS => ?_)
          refine lv_if_eq (tgt := 114) hx hb dX9_batch_107 (by decide) (fun _ => ?_) (fun h9 => absurd (by decide) h9)
          refine lv_aload_n hx hb dX9_batch_114 rfl (lv_at hl 2 rfl) ?_
          refine lv_iload_n hx hb dX9_batch_115 rfl (lv_at hl 3 rfl) ?_
          refine lv_iload hx hb dX9_batch_116 (lv_at hl 0 rfl) ?_
          refine mc_V (As := [.int (nI j), .int (nI pl)]) (rest := []) (r := some (.int 2)) (T := anS P j (nI pl)) C (k_an_r hG _ _ hj hp2 ht3) tm_815 tm_817 tm_903 tm_3 tm_818 rfl hdX9_answer hR1 hl.1 rfl (Nat.le_of_ble_eq_true rfl) dX9_batch_118 hC1 hP hD hS (fun H locs hP hD hS => ?_)
          refine lv_istore (lv' := [(15, .int 2), (14, .int (nI pl)), (13, .int (nI i)), (0, .ref (ad 0)), (1, .int (nI j)), (2, .int (nI M)), (3, .int far), (4, .int (qI B 13 j)), (5, .long (qJ B 22 j)), (7, .float (qF B j)), (8, .double (qD B j)), (10, .int (qI B 25 j)), (11, .int (qI B 15 j)), (12, .int (qI B 16 j))]) hx hb dX9_batch_121 hl (by decide) rfl (fun ls hl => ?_)
          refine lv_iload hx hb dX9_batch_123 (lv_at hl 0 rfl) ?_
          refine lv_iconst (v := 2) hx hb dX9_batch_125 (by decide) ?_
          refine lv_icmp_ne (tgt := 197) hx hb dX9_batch_126 (by decide) (fun h9 => absurd rfl h9) (fun _ => ?_)
          refine lv_aload_n hx hb dX9_batch_129 rfl (lv_at hl 3 rfl) ?_
          refine gm_13 C hP tm_679 dX9_batch_130 ?_
          refine lv_iload_n hx hb dX9_batch_133 rfl (lv_at hl 4 rfl) ?_
          refine lv_iload hx hb dX9_batch_134 (lv_at hl 7 rfl) ?_
          refine xs_13 (x := qI B 13 j) (j := j) C hP hD hS (ix8 hj) dX9_batch_136 (fun H locs hP hD hS => ?_)
          refine lv_aload_n hx hb dX9_batch_137 rfl (lv_at hl 3 rfl) ?_
          refine gm_22 C hP tm_688 dX9_batch_138 ?_
          refine lv_iload_n hx hb dX9_batch_141 rfl (lv_at hl 4 rfl) ?_
          refine lv_lload hx hb dX9_batch_142 (lv_at hl 8 rfl) ?_
          refine xs_22 (x := qJ B 22 j) (j := j) C hP hD hS (ix8 hj) dX9_batch_144 (fun H locs hP hD hS => ?_)
          refine lv_aload_n hx hb dX9_batch_145 rfl (lv_at hl 3 rfl) ?_
          refine gm_23 C hP tm_689 dX9_batch_146 ?_
          refine lv_iload_n hx hb dX9_batch_149 rfl (lv_at hl 4 rfl) ?_
          refine lv_fload hx hb dX9_batch_150 (lv_at hl 9 rfl) ?_
          refine xs_23 (x := qF B j) (j := j) C hP hD hS (ix8 hj) dX9_batch_152 (fun H locs hP hD hS => ?_)
          refine lv_aload_n hx hb dX9_batch_153 rfl (lv_at hl 3 rfl) ?_
          refine gm_24 C hP tm_690 dX9_batch_154 ?_
          refine lv_iload_n hx hb dX9_batch_157 rfl (lv_at hl 4 rfl) ?_
          refine lv_dload hx hb dX9_batch_158 (lv_at hl 10 rfl) ?_
          refine xs_24 (x := qD B j) (j := j) C hP hD hS (ix8 hj) dX9_batch_160 (fun H locs hP hD hS => ?_)
          refine lv_aload_n hx hb dX9_batch_161 rfl (lv_at hl 3 rfl) ?_
          refine gm_25 C hP tm_691 dX9_batch_162 ?_
          refine lv_iload_n hx hb dX9_batch_165 rfl (lv_at hl 4 rfl) ?_
          refine lv_iload hx hb dX9_batch_166 (lv_at hl 11 rfl) ?_
          refine xs_25 (x := qI B 25 j) (j := j) C hP hD hS (ix8 hj) dX9_batch_168 (fun H locs hP hD hS => ?_)
          refine lv_aload_n hx hb dX9_batch_169 rfl (lv_at hl 3 rfl) ?_
          refine gm_15 C hP tm_681 dX9_batch_170 ?_
          refine lv_iload_n hx hb dX9_batch_173 rfl (lv_at hl 4 rfl) ?_
          refine lv_iload hx hb dX9_batch_174 (lv_at hl 12 rfl) ?_
          refine xs_15 (x := qI B 15 j) (j := j) C hP hD hS (ix8 hj) dX9_batch_176 (fun H locs hP hD hS => ?_)
          refine lv_aload_n hx hb dX9_batch_177 rfl (lv_at hl 3 rfl) ?_
          refine gm_16 C hP tm_682 dX9_batch_178 ?_
          refine lv_iload_n hx hb dX9_batch_181 rfl (lv_at hl 4 rfl) ?_
          refine lv_iload hx hb dX9_batch_182 (lv_at hl 13 rfl) ?_
          refine xs_16 (x := qI B 16 j) (j := j) C hP hD hS (ix8 hj) dX9_batch_184 (fun H locs hP hD hS => ?_)
          refine lv_aload_n hx hb dX9_batch_185 rfl (lv_at hl 3 rfl) ?_
          refine gm_17 C hP tm_683 dX9_batch_186 ?_
          refine lv_iload_n hx hb dX9_batch_189 rfl (lv_at hl 4 rfl) ?_
          refine lv_dup2_11 hx hb dX9_batch_190 rfl rfl ?_
          refine xl_17 (v := qI (anS P j (nI pl)) 17 j) (j := j) C hP (ix8 hj) (rfl) dX9_batch_191 ?_
          refine lv_iconst (v := 1) hx hb dX9_batch_192 (by decide) ?_
          refine lv_iadd hx hb dX9_batch_193 ?_
          refine xs_17 (x := (qI (anS P j (nI pl)) 17 j) + 1) (j := j) C hP hD hS (ix8 hj) dX9_batch_194 (fun H locs hP hD hS => ?_)
          refine lv_iconst (v := (-1)) hx hb dX9_batch_195 (by decide) ?_
          exact kk2 _ H locs ls hR hP hD hS
        rw [if_neg ht3] at hR
        refine lv_iload hx hb dX9_batch_65 (lv_at hl 0 rfl) ?_
        refine lv_iload_n hx hb dX9_batch_67 rfl (lv_at hl 3 rfl) ?_
        refine lv_icmp_ge (tgt := 272) hx hb dX9_batch_68 (by decide) (fun h9 => absurd h9 (nI_ge (by omega) (by omega))) (fun _ => ?_)
        refine lv_aload_n hx hb dX9_batch_71 rfl (lv_at hl 1 rfl) ?_
        refine gm_13 C hP tm_679 dX9_batch_72 ?_
        refine lv_iload_n hx hb dX9_batch_75 rfl (lv_at hl 2 rfl) ?_
        refine xl_13 (v := qI P 13 j) (j := j) C hP (ix8 hj) (rfl) dX9_batch_76 ?_
        refine lv_iload_n hx hb dX9_batch_77 rfl (lv_at hl 4 rfl) ?_
        refine lv_icmp_ge (tgt := 272) hx hb dX9_batch_78 (by decide) (fun h9 => absurd h9 (Int32.not_le.mpr hgo.1)) (fun _ => ?_)
        refine lv_aload_n hx hb dX9_batch_81 rfl (lv_at hl 1 rfl) ?_
        refine gm_14 C hP tm_680 dX9_batch_82 ?_
        refine lv_iload_n hx hb dX9_batch_85 rfl (lv_at hl 2 rfl) ?_
        refine xl_14 (v := qI P 14 j) (j := j) C hP (ix8 hj) (rfl) dX9_batch_86 ?_
        refine lv_if_ne (tgt := 272) hx hb dX9_batch_87 (by decide) (fun h9 => absurd (hgo.2) h9) (fun _ => ?_)
        refine lv_aload_n hx hb dX9_batch_90 rfl (lv_at hl 1 rfl) ?_
        refine gm_13 C hP tm_679 dX9_batch_91 ?_
        refine lv_iload_n hx hb dX9_batch_94 rfl (lv_at hl 2 rfl) ?_
        refine xl_13 (v := qI P 13 j) (j := j) C hP (ix8 hj) (rfl) dX9_batch_95 ?_
        refine lv_iconst (v := 1) hx hb dX9_batch_96 (by decide) ?_
        refine lv_iadd hx hb dX9_batch_97 ?_
        refine lv_istore (lv' := [(14, .int ((qI P 13 j) + 1)), (13, .int (nI i)), (0, .ref (ad 0)), (1, .int (nI j)), (2, .int (nI M)), (3, .int far), (4, .int (qI B 13 j)), (5, .long (qJ B 22 j)), (7, .float (qF B j)), (8, .double (qD B j)), (10, .int (qI B 25 j)), (11, .int (qI B 15 j)), (12, .int (qI B 16 j))]) hx hb dX9_batch_98 hl (by decide) rfl (fun ls hl => ?_)
        rw [hev] at hl
        refine lv_aload_n hx hb dX9_batch_100 rfl (lv_at hl 2 rfl) ?_
        refine lv_iload_n hx hb dX9_batch_101 rfl (lv_at hl 3 rfl) ?_
        refine lv_iload hx hb dX9_batch_102 (lv_at hl 0 rfl) ?_
        refine mc_V (As := [.int (nI j), .int (nI pl)]) (rest := []) (r := some (.int 0)) (T := P) C (k_hd_n (sl := sl) (b := b) hG _ hj h0 h16 (by omega) hI (by omega) hho) tm_801 tm_803 tm_900 tm_3 tm_804 rfl hdX9_handles hR0 hl.1 rfl (Nat.le_of_ble_eq_true rfl) dX9_batch_104 hC0 hP hD hS (fun H locs hP hD hS => ?_)
        refine lv_if_eq (tgt := 114) hx hb dX9_batch_107 (by decide) (fun _ => ?_) (fun h9 => absurd (by decide) h9)
        refine lv_aload_n hx hb dX9_batch_114 rfl (lv_at hl 2 rfl) ?_
        refine lv_iload_n hx hb dX9_batch_115 rfl (lv_at hl 3 rfl) ?_
        refine lv_iload hx hb dX9_batch_116 (lv_at hl 0 rfl) ?_
        refine mc_V (As := [.int (nI j), .int (nI pl)]) (rest := []) (r := some (.int 0)) (T := sI (anS P j (nI pl)) 19 j 0) C (k_an_i hG _ _ hj hp2 ht3) tm_815 tm_817 tm_903 tm_3 tm_818 rfl hdX9_answer hR1 hl.1 rfl (Nat.le_of_ble_eq_true rfl) dX9_batch_118 hC1 hP hD hS (fun H locs hP hD hS => ?_)
        refine lv_istore (lv' := [(15, .int 0), (14, .int (nI pl)), (13, .int (nI i)), (0, .ref (ad 0)), (1, .int (nI j)), (2, .int (nI M)), (3, .int far), (4, .int (qI B 13 j)), (5, .long (qJ B 22 j)), (7, .float (qF B j)), (8, .double (qD B j)), (10, .int (qI B 25 j)), (11, .int (qI B 15 j)), (12, .int (qI B 16 j))]) hx hb dX9_batch_121 hl (by decide) rfl (fun ls hl => ?_)
        refine lv_iload hx hb dX9_batch_123 (lv_at hl 0 rfl) ?_
        refine lv_iconst (v := 2) hx hb dX9_batch_125 (by decide) ?_
        refine lv_icmp_ne (tgt := 197) hx hb dX9_batch_126 (by decide) (fun _ => ?_) (fun h9 => absurd h9 (by decide))
        refine lv_aload_n hx hb dX9_batch_197 rfl (lv_at hl 3 rfl) ?_
        refine gm_14 C hP tm_680 dX9_batch_198 ?_
        refine lv_iload_n hx hb dX9_batch_201 rfl (lv_at hl 4 rfl) ?_
        refine lv_iload hx hb dX9_batch_202 (lv_at hl 0 rfl) ?_
        refine lv_iconst (v := 1) hx hb dX9_batch_204 (by decide) ?_
        refine lv_icmp_ne (tgt := 212) hx hb dX9_batch_205 (by decide) (fun _ => ?_) (fun h9 => absurd h9 (by decide))
        refine lv_iconst (v := 0) hx hb dX9_batch_212 (by decide) ?_
        refine xs_14 (x := 0) (j := j) C hP hD hS (ix8 hj) dX9_batch_213 (fun H locs hP hD hS => ?_)
        refine lv_aload_n hx hb dX9_batch_214 rfl (lv_at hl 3 rfl) ?_
        refine gm_16 C hP tm_682 dX9_batch_215 ?_
        refine lv_iload_n hx hb dX9_batch_218 rfl (lv_at hl 4 rfl) ?_
        refine lv_dup2_11 hx hb dX9_batch_219 rfl rfl ?_
        refine xl_16 (v := qI (sI (anS P j (nI pl)) 19 j 0) 16 j) (j := j) C hP (ix8 hj) (rfl) dX9_batch_220 ?_
        refine lv_iload hx hb dX9_batch_221 (lv_at hl 0 rfl) ?_
        refine lv_if_ne (tgt := 230) hx hb dX9_batch_223 (by decide) (fun h9 => absurd rfl h9) (fun _ => ?_)
        refine lv_iconst (v := 1) hx hb dX9_batch_226 (by decide) ?_
        refine lv_goto (tgt := 231) hx hb dX9_batch_227 (by decide) ?_
        refine lv_iadd hx hb dX9_batch_231 ?_
        refine xs_16 (x := (qI (sI (anS P j (nI pl)) 19 j 0) 16 j) + 1) (j := j) C hP hD hS (ix8 hj) dX9_batch_232 (fun H locs hP hD hS => ?_)
        refine lv_aload_n hx hb dX9_batch_233 rfl (lv_at hl 3 rfl) ?_
        refine gm_13 C hP tm_679 dX9_batch_234 ?_
        refine lv_iload_n hx hb dX9_batch_237 rfl (lv_at hl 4 rfl) ?_
        refine lv_dup2_11 hx hb dX9_batch_238 rfl rfl ?_
        refine xl_13 (v := qI (sI (anS P j (nI pl)) 19 j 0) 13 j) (j := j) C hP (ix8 hj) (rfl) dX9_batch_239 ?_
        refine lv_iload hx hb dX9_batch_240 (lv_at hl 0 rfl) ?_
        refine lv_iconst (v := 1) hx hb dX9_batch_242 (by decide) ?_
        refine lv_icmp_ne (tgt := 250) hx hb dX9_batch_243 (by decide) (fun _ => ?_) (fun h9 => absurd h9 (by decide))
        refine lv_iconst (v := 1) hx hb dX9_batch_250 (by decide) ?_
        refine lv_iadd hx hb dX9_batch_251 ?_
        refine xs_13 (x := (qI (sI (anS P j (nI pl)) 19 j 0) 13 j) + 1) (j := j) C hP hD hS (ix8 hj) dX9_batch_252 (fun H locs hP hD hS => ?_)
        refine lv_iload hx hb dX9_batch_253 (lv_at hl 2 rfl) ?_
        refine lv_iload hx hb dX9_batch_255 (lv_at hl 0 rfl) ?_
        refine lv_iconst (v := 1) hx hb dX9_batch_257 (by decide) ?_
        refine lv_icmp_ne (tgt := 265) hx hb dX9_batch_258 (by decide) (fun _ => ?_) (fun h9 => absurd h9 (by decide))
        refine lv_iconst (v := 1) hx hb dX9_batch_265 (by decide) ?_
        refine lv_iadd hx hb dX9_batch_266 ?_
        refine lv_istore (lv' := [(13, .int ((nI i) + 1)), (15, .int 0), (14, .int (nI pl)), (0, .ref (ad 0)), (1, .int (nI j)), (2, .int (nI M)), (3, .int far), (4, .int (qI B 13 j)), (5, .long (qJ B 22 j)), (7, .float (qF B j)), (8, .double (qD B j)), (10, .int (qI B 25 j)), (11, .int (qI B 15 j)), (12, .int (qI B 16 j))]) hx hb dX9_batch_267 hl (by decide) rfl (fun ls hl => ?_)
        refine lv_goto (tgt := 65) hx hb dX9_batch_269 (by decide) ?_
        rw [nI_1] at hl
        refine ih (i + 1) (stq (sI (anS P j (nI pl)) 19 j 0) j 0 1 1) (b) (by omega) (by omega) (bInv_stq (bInv_an hI)) ⟨pl + 1, by omega, ?_⟩ hR H locs ls hP hD hS (lv_sub hl [0, 3, 4, 5, 6, 7, 8, 9, 10, 11, 12, 13] rfl)
        show qI (sI _ 13 j (qI (sI (anS P j (nI pl)) 19 j 0) 13 j + 1)) 13 j = _
        rw [qI_s, nI_pred]
        exact (show qI (sI (anS P j (nI pl)) 19 j 0) 13 j + 1 = qI P 13 j + 1 by first | rfl | rw [hS_k (by decide) (by decide) (by decide)]).trans hev
      rw [if_neg hp2] at hR
      have hpx : qI P 11 j = 0 := hI.2.2.1.resolve_right (fun h => h.elim hpx hp2)
      refine lv_iload hx hb dX9_batch_65 (lv_at hl 0 rfl) ?_
      refine lv_iload_n hx hb dX9_batch_67 rfl (lv_at hl 3 rfl) ?_
      refine lv_icmp_ge (tgt := 272) hx hb dX9_batch_68 (by decide) (fun h9 => absurd h9 (nI_ge (by omega) (by omega))) (fun _ => ?_)
      refine lv_aload_n hx hb dX9_batch_71 rfl (lv_at hl 1 rfl) ?_
      refine gm_13 C hP tm_679 dX9_batch_72 ?_
      refine lv_iload_n hx hb dX9_batch_75 rfl (lv_at hl 2 rfl) ?_
      refine xl_13 (v := qI P 13 j) (j := j) C hP (ix8 hj) (rfl) dX9_batch_76 ?_
      refine lv_iload_n hx hb dX9_batch_77 rfl (lv_at hl 4 rfl) ?_
      refine lv_icmp_ge (tgt := 272) hx hb dX9_batch_78 (by decide) (fun h9 => absurd h9 (Int32.not_le.mpr hgo.1)) (fun _ => ?_)
      refine lv_aload_n hx hb dX9_batch_81 rfl (lv_at hl 1 rfl) ?_
      refine gm_14 C hP tm_680 dX9_batch_82 ?_
      refine lv_iload_n hx hb dX9_batch_85 rfl (lv_at hl 2 rfl) ?_
      refine xl_14 (v := qI P 14 j) (j := j) C hP (ix8 hj) (rfl) dX9_batch_86 ?_
      refine lv_if_ne (tgt := 272) hx hb dX9_batch_87 (by decide) (fun h9 => absurd (hgo.2) h9) (fun _ => ?_)
      refine lv_aload_n hx hb dX9_batch_90 rfl (lv_at hl 1 rfl) ?_
      refine gm_13 C hP tm_679 dX9_batch_91 ?_
      refine lv_iload_n hx hb dX9_batch_94 rfl (lv_at hl 2 rfl) ?_
      refine xl_13 (v := qI P 13 j) (j := j) C hP (ix8 hj) (rfl) dX9_batch_95 ?_
      refine lv_iconst (v := 1) hx hb dX9_batch_96 (by decide) ?_
      refine lv_iadd hx hb dX9_batch_97 ?_
      refine lv_istore (lv' := [(14, .int ((qI P 13 j) + 1)), (13, .int (nI i)), (0, .ref (ad 0)), (1, .int (nI j)), (2, .int (nI M)), (3, .int far), (4, .int (qI B 13 j)), (5, .long (qJ B 22 j)), (7, .float (qF B j)), (8, .double (qD B j)), (10, .int (qI B 25 j)), (11, .int (qI B 15 j)), (12, .int (qI B 16 j))]) hx hb dX9_batch_98 hl (by decide) rfl (fun ls hl => ?_)
      rw [hev] at hl
      refine lv_aload_n hx hb dX9_batch_100 rfl (lv_at hl 2 rfl) ?_
      refine lv_iload_n hx hb dX9_batch_101 rfl (lv_at hl 3 rfl) ?_
      refine lv_iload hx hb dX9_batch_102 (lv_at hl 0 rfl) ?_
      refine mc_V (As := [.int (nI j), .int (nI pl)]) (rest := []) (r := some (.int 0)) (T := P) C (k_hd_n (sl := sl) (b := b) hG _ hj h0 h16 (by omega) hI (by omega) hho) tm_801 tm_803 tm_900 tm_3 tm_804 rfl hdX9_handles hR0 hl.1 rfl (Nat.le_of_ble_eq_true rfl) dX9_batch_104 hC0 hP hD hS (fun H locs hP hD hS => ?_)
      refine lv_if_eq (tgt := 114) hx hb dX9_batch_107 (by decide) (fun _ => ?_) (fun h9 => absurd (by decide) h9)
      refine lv_aload_n hx hb dX9_batch_114 rfl (lv_at hl 2 rfl) ?_
      refine lv_iload_n hx hb dX9_batch_115 rfl (lv_at hl 3 rfl) ?_
      refine lv_iload hx hb dX9_batch_116 (lv_at hl 0 rfl) ?_
      refine mc_V (As := [.int (nI j), .int (nI pl)]) (rest := []) (r := some (.int 0)) (T := P) C (k_an_x (r := 0) hG _ _ hj hpx (by decide)) tm_815 tm_817 tm_903 tm_3 tm_818 rfl hdX9_answer hR1 hl.1 rfl (Nat.le_of_ble_eq_true rfl) dX9_batch_118 hC1 hP hD hS (fun H locs hP hD hS => ?_)
      refine lv_istore (lv' := [(15, .int 0), (14, .int (nI pl)), (13, .int (nI i)), (0, .ref (ad 0)), (1, .int (nI j)), (2, .int (nI M)), (3, .int far), (4, .int (qI B 13 j)), (5, .long (qJ B 22 j)), (7, .float (qF B j)), (8, .double (qD B j)), (10, .int (qI B 25 j)), (11, .int (qI B 15 j)), (12, .int (qI B 16 j))]) hx hb dX9_batch_121 hl (by decide) rfl (fun ls hl => ?_)
      refine lv_iload hx hb dX9_batch_123 (lv_at hl 0 rfl) ?_
      refine lv_iconst (v := 2) hx hb dX9_batch_125 (by decide) ?_
      refine lv_icmp_ne (tgt := 197) hx hb dX9_batch_126 (by decide) (fun _ => ?_) (fun h9 => absurd h9 (by decide))
      refine lv_aload_n hx hb dX9_batch_197 rfl (lv_at hl 3 rfl) ?_
      refine gm_14 C hP tm_680 dX9_batch_198 ?_
      refine lv_iload_n hx hb dX9_batch_201 rfl (lv_at hl 4 rfl) ?_
      refine lv_iload hx hb dX9_batch_202 (lv_at hl 0 rfl) ?_
      refine lv_iconst (v := 1) hx hb dX9_batch_204 (by decide) ?_
      refine lv_icmp_ne (tgt := 212) hx hb dX9_batch_205 (by decide) (fun _ => ?_) (fun h9 => absurd h9 (by decide))
      refine lv_iconst (v := 0) hx hb dX9_batch_212 (by decide) ?_
      refine xs_14 (x := 0) (j := j) C hP hD hS (ix8 hj) dX9_batch_213 (fun H locs hP hD hS => ?_)
      refine lv_aload_n hx hb dX9_batch_214 rfl (lv_at hl 3 rfl) ?_
      refine gm_16 C hP tm_682 dX9_batch_215 ?_
      refine lv_iload_n hx hb dX9_batch_218 rfl (lv_at hl 4 rfl) ?_
      refine lv_dup2_11 hx hb dX9_batch_219 rfl rfl ?_
      refine xl_16 (v := qI P 16 j) (j := j) C hP (ix8 hj) (rfl) dX9_batch_220 ?_
      refine lv_iload hx hb dX9_batch_221 (lv_at hl 0 rfl) ?_
      refine lv_if_ne (tgt := 230) hx hb dX9_batch_223 (by decide) (fun h9 => absurd rfl h9) (fun _ => ?_)
      refine lv_iconst (v := 1) hx hb dX9_batch_226 (by decide) ?_
      refine lv_goto (tgt := 231) hx hb dX9_batch_227 (by decide) ?_
      refine lv_iadd hx hb dX9_batch_231 ?_
      refine xs_16 (x := (qI P 16 j) + 1) (j := j) C hP hD hS (ix8 hj) dX9_batch_232 (fun H locs hP hD hS => ?_)
      refine lv_aload_n hx hb dX9_batch_233 rfl (lv_at hl 3 rfl) ?_
      refine gm_13 C hP tm_679 dX9_batch_234 ?_
      refine lv_iload_n hx hb dX9_batch_237 rfl (lv_at hl 4 rfl) ?_
      refine lv_dup2_11 hx hb dX9_batch_238 rfl rfl ?_
      refine xl_13 (v := qI P 13 j) (j := j) C hP (ix8 hj) (rfl) dX9_batch_239 ?_
      refine lv_iload hx hb dX9_batch_240 (lv_at hl 0 rfl) ?_
      refine lv_iconst (v := 1) hx hb dX9_batch_242 (by decide) ?_
      refine lv_icmp_ne (tgt := 250) hx hb dX9_batch_243 (by decide) (fun _ => ?_) (fun h9 => absurd h9 (by decide))
      refine lv_iconst (v := 1) hx hb dX9_batch_250 (by decide) ?_
      refine lv_iadd hx hb dX9_batch_251 ?_
      refine xs_13 (x := (qI P 13 j) + 1) (j := j) C hP hD hS (ix8 hj) dX9_batch_252 (fun H locs hP hD hS => ?_)
      refine lv_iload hx hb dX9_batch_253 (lv_at hl 2 rfl) ?_
      refine lv_iload hx hb dX9_batch_255 (lv_at hl 0 rfl) ?_
      refine lv_iconst (v := 1) hx hb dX9_batch_257 (by decide) ?_
      refine lv_icmp_ne (tgt := 265) hx hb dX9_batch_258 (by decide) (fun _ => ?_) (fun h9 => absurd h9 (by decide))
      refine lv_iconst (v := 1) hx hb dX9_batch_265 (by decide) ?_
      refine lv_iadd hx hb dX9_batch_266 ?_
      refine lv_istore (lv' := [(13, .int ((nI i) + 1)), (15, .int 0), (14, .int (nI pl)), (0, .ref (ad 0)), (1, .int (nI j)), (2, .int (nI M)), (3, .int far), (4, .int (qI B 13 j)), (5, .long (qJ B 22 j)), (7, .float (qF B j)), (8, .double (qD B j)), (10, .int (qI B 25 j)), (11, .int (qI B 15 j)), (12, .int (qI B 16 j))]) hx hb dX9_batch_267 hl (by decide) rfl (fun ls hl => ?_)
      refine lv_goto (tgt := 65) hx hb dX9_batch_269 (by decide) ?_
      rw [nI_1] at hl
      refine ih (i + 1) (stq P j 0 1 1) (b) (by omega) (by omega) (bInv_stq (hI)) ⟨pl + 1, by omega, ?_⟩ hR H locs ls hP hD hS (lv_sub hl [0, 3, 4, 5, 6, 7, 8, 9, 10, 11, 12, 13] rfl)
      show qI (sI _ 13 j (qI P 13 j + 1)) 13 j = _
      rw [qI_s, nI_pred]
      exact (show qI P 13 j + 1 = qI P 13 j + 1 by first | rfl | rw [hS_k (by decide) (by decide) (by decide)]).trans hev
    · rw [if_neg hgo] at hR
      refine lv_iload hx hb dX9_batch_65 (lv_at hl 0 rfl) ?_
      refine lv_iload_n hx hb dX9_batch_67 rfl (lv_at hl 3 rfl) ?_
      refine lv_icmp_ge (tgt := 272) hx hb dX9_batch_68 (by decide) (fun h9 => absurd h9 (nI_ge (by omega) (by omega))) (fun _ => ?_)
      refine lv_aload_n hx hb dX9_batch_71 rfl (lv_at hl 1 rfl) ?_
      refine gm_13 C hP tm_679 dX9_batch_72 ?_
      refine lv_iload_n hx hb dX9_batch_75 rfl (lv_at hl 2 rfl) ?_
      refine xl_13 (v := qI P 13 j) (j := j) C hP (ix8 hj) (rfl) dX9_batch_76 ?_
      refine lv_iload_n hx hb dX9_batch_77 rfl (lv_at hl 4 rfl) ?_
      refine lv_icmp_ge (tgt := 272) hx hb dX9_batch_78 (by decide) (fun g1 => ?_) (fun g1 => ?_)
      · exact kk _ _ H locs ls hR hP hD hS (lv_sub hl [0] rfl)
      refine lv_aload_n hx hb dX9_batch_81 rfl (lv_at hl 1 rfl) ?_
      refine gm_14 C hP tm_680 dX9_batch_82 ?_
      refine lv_iload_n hx hb dX9_batch_85 rfl (lv_at hl 2 rfl) ?_
      refine xl_14 (v := qI P 14 j) (j := j) C hP (ix8 hj) (rfl) dX9_batch_86 ?_
      refine lv_if_ne (tgt := 272) hx hb dX9_batch_87 (by decide) (fun g2 => ?_) (fun g2 => ?_)
      · exact kk _ _ H locs ls hR hP hD hS (lv_sub hl [0] rfl)
      exact absurd ⟨Int32.not_le.mp g1, g2⟩ hgo
end Loops7

abbrev rmX9_batch : Room := { frames := 3, cells := 0, slots := 0, locals := 73 }
set_option maxRecDepth 100000 in
theorem k_batch {l : Launch} {s0 : State} {D : va_G} {cA : Nat → ClassId} {ad : Nat → Nat} (hG : cx_G l s0 D cA) {j n M sl b fr : Nat} (P : MS) (hn : qS P 8 = nI n) (hn8 : n ≤ 8) (hj : j < n) (hq : ∀ k, k < n → qI P 12 k = -1 ∨ ∃ t, t < 2 ∧ qI P 12 k = nI t) (h0 : 0 < sl) (h16 : sl ≤ 16) (hM : M ≤ 20) (hI : bInv P j sl b) (hb2 : b < 2 ^ 29) (hfar : bdR P j j = nI fr - 1) (hfr : fr ≤ 8208) (hpl : ∃ pl, pl ≤ 8208 ∧ qI P 13 j = nI pl - 1) : MC l s0 D cA ad yX9_batch cX9_batch 16 (some .int) rmX9_batch [.int (nI j), .int (nI M)] P (some (.int (bt (bdR P j j) j sl P M 0 P).2)) ((bt (bdR P j j) j sl P M 0 P).1) := by
  refine Ct.of (cA := cA) hG (by decide +kernel) (Nat.le_of_ble_eq_true rfl) ?_
  intro p e s m below meth c A C hnm hP hD hS ls hl
  have hx := cx_x C
  have hb := cx_b C
  have hl : lv_has ls 16 [(0, .ref (ad 0)), (1, .int (nI j)), (2, .int (nI M))] := hl
  refine lv_aload_n hx hb dX9_batch_0 rfl (lv_at hl 0 rfl) ?_
  refine lv_iload_n hx hb dX9_batch_1 rfl (lv_at hl 1 rfl) ?_
  refine mc_V (As := [.int (nI j)]) (rest := []) (r := some (.int (bdR P j j))) (T := P) C (k_bound (n := n) hG _ hn hn8 hj hq) tm_797 tm_799 tm_899 tm_3 tm_800 rfl hdX9_bound ⟨Nat.le_of_ble_eq_true rfl, Nat.le_of_ble_eq_true rfl⟩ hl.1 rfl (Nat.le_of_ble_eq_true rfl) dX9_batch_2 ⟨Nat.le_of_ble_eq_true rfl, Nat.le_of_ble_eq_true rfl⟩ hP hD hS (fun H locs hP hD hS => ?_)
  refine lv_istore_n (lv' := [(3, .int (bdR P j j)), (0, .ref (ad 0)), (1, .int (nI j)), (2, .int (nI M))]) hx hb dX9_batch_5 rfl hl (by decide) rfl (fun ls hl => ?_)
  refine lv_aload_n hx hb dX9_batch_6 rfl (lv_at hl 1 rfl) ?_
  refine gm_13 C hP tm_679 dX9_batch_7 ?_
  refine lv_iload_n hx hb dX9_batch_10 rfl (lv_at hl 2 rfl) ?_
  refine xl_13 (v := qI P 13 j) (j := j) C hP (ix8 (Nat.lt_of_lt_of_le hj hn8)) (rfl) dX9_batch_11 ?_
  refine lv_istore (lv' := [(4, .int (qI P 13 j)), (3, .int (bdR P j j)), (0, .ref (ad 0)), (1, .int (nI j)), (2, .int (nI M))]) hx hb dX9_batch_12 hl (by decide) rfl (fun ls hl => ?_)
  refine lv_aload_n hx hb dX9_batch_14 rfl (lv_at hl 2 rfl) ?_
  refine gm_22 C hP tm_688 dX9_batch_15 ?_
  refine lv_iload_n hx hb dX9_batch_18 rfl (lv_at hl 3 rfl) ?_
  refine xl_22 (v := qJ P 22 j) (j := j) C hP (ix8 (Nat.lt_of_lt_of_le hj hn8)) (rfl) dX9_batch_19 ?_
  refine lv_lstore (lv' := [(5, .long (qJ P 22 j)), (4, .int (qI P 13 j)), (3, .int (bdR P j j)), (0, .ref (ad 0)), (1, .int (nI j)), (2, .int (nI M))]) hx hb dX9_batch_20 hl (by decide) rfl (fun ls hl => ?_)
  refine lv_aload_n hx hb dX9_batch_22 rfl (lv_at hl 3 rfl) ?_
  refine gm_23 C hP tm_689 dX9_batch_23 ?_
  refine lv_iload_n hx hb dX9_batch_26 rfl (lv_at hl 4 rfl) ?_
  refine xl_23 (v := qF P j) (j := j) C hP (ix8 (Nat.lt_of_lt_of_le hj hn8)) (rfl) dX9_batch_27 ?_
  refine lv_fstore (lv' := [(7, .float (qF P j)), (5, .long (qJ P 22 j)), (4, .int (qI P 13 j)), (3, .int (bdR P j j)), (0, .ref (ad 0)), (1, .int (nI j)), (2, .int (nI M))]) hx hb dX9_batch_28 hl (by decide) rfl (fun ls hl => ?_)
  refine lv_aload_n hx hb dX9_batch_30 rfl (lv_at hl 4 rfl) ?_
  refine gm_24 C hP tm_690 dX9_batch_31 ?_
  refine lv_iload_n hx hb dX9_batch_34 rfl (lv_at hl 5 rfl) ?_
  refine xl_24 (v := qD P j) (j := j) C hP (ix8 (Nat.lt_of_lt_of_le hj hn8)) (rfl) dX9_batch_35 ?_
  refine lv_dstore (lv' := [(8, .double (qD P j)), (7, .float (qF P j)), (5, .long (qJ P 22 j)), (4, .int (qI P 13 j)), (3, .int (bdR P j j)), (0, .ref (ad 0)), (1, .int (nI j)), (2, .int (nI M))]) hx hb dX9_batch_36 hl (by decide) rfl (fun ls hl => ?_)
  refine lv_aload_n hx hb dX9_batch_38 rfl (lv_at hl 5 rfl) ?_
  refine gm_25 C hP tm_691 dX9_batch_39 ?_
  refine lv_iload_n hx hb dX9_batch_42 rfl (lv_at hl 6 rfl) ?_
  refine xl_25 (v := qI P 25 j) (j := j) C hP (ix8 (Nat.lt_of_lt_of_le hj hn8)) (rfl) dX9_batch_43 ?_
  refine lv_istore (lv' := [(10, .int (qI P 25 j)), (8, .double (qD P j)), (7, .float (qF P j)), (5, .long (qJ P 22 j)), (4, .int (qI P 13 j)), (3, .int (bdR P j j)), (0, .ref (ad 0)), (1, .int (nI j)), (2, .int (nI M))]) hx hb dX9_batch_44 hl (by decide) rfl (fun ls hl => ?_)
  refine lv_aload_n hx hb dX9_batch_46 rfl (lv_at hl 6 rfl) ?_
  refine gm_15 C hP tm_681 dX9_batch_47 ?_
  refine lv_iload_n hx hb dX9_batch_50 rfl (lv_at hl 7 rfl) ?_
  refine xl_15 (v := qI P 15 j) (j := j) C hP (ix8 (Nat.lt_of_lt_of_le hj hn8)) (rfl) dX9_batch_51 ?_
  refine lv_istore (lv' := [(11, .int (qI P 15 j)), (10, .int (qI P 25 j)), (8, .double (qD P j)), (7, .float (qF P j)), (5, .long (qJ P 22 j)), (4, .int (qI P 13 j)), (3, .int (bdR P j j)), (0, .ref (ad 0)), (1, .int (nI j)), (2, .int (nI M))]) hx hb dX9_batch_52 hl (by decide) rfl (fun ls hl => ?_)
  refine lv_aload_n hx hb dX9_batch_54 rfl (lv_at hl 7 rfl) ?_
  refine gm_16 C hP tm_682 dX9_batch_55 ?_
  refine lv_iload_n hx hb dX9_batch_58 rfl (lv_at hl 8 rfl) ?_
  refine xl_16 (v := qI P 16 j) (j := j) C hP (ix8 (Nat.lt_of_lt_of_le hj hn8)) (rfl) dX9_batch_59 ?_
  refine lv_istore (lv' := [(12, .int (qI P 16 j)), (11, .int (qI P 15 j)), (10, .int (qI P 25 j)), (8, .double (qD P j)), (7, .float (qF P j)), (5, .long (qJ P 22 j)), (4, .int (qI P 13 j)), (3, .int (bdR P j j)), (0, .ref (ad 0)), (1, .int (nI j)), (2, .int (nI M))]) hx hb dX9_batch_60 hl (by decide) rfl (fun ls hl => ?_)
  refine lv_iconst (v := 0) hx hb dX9_batch_62 (by decide) ?_
  refine lv_istore (lv' := [(13, .int 0), (12, .int (qI P 16 j)), (11, .int (qI P 15 j)), (10, .int (qI P 25 j)), (8, .double (qD P j)), (7, .float (qF P j)), (5, .long (qJ P 22 j)), (4, .int (qI P 13 j)), (3, .int (bdR P j j)), (0, .ref (ad 0)), (1, .int (nI j)), (2, .int (nI M))]) hx hb dX9_batch_63 hl (by decide) rfl (fun ls hl => ?_)
  refine lp_batch (R := rmX9_batch) (B := P) (M := M) (sl := sl) (fr := fr) (R0 := bt (bdR P j j) j sl P M 0 P) C hG (Nat.lt_of_lt_of_le hj hn8) h0 h16 hM hfar hfr ⟨Nat.le_of_ble_eq_true rfl, Nat.le_of_ble_eq_true rfl⟩ ⟨Nat.le_of_ble_eq_true rfl, Nat.le_of_ble_eq_true rfl⟩ ⟨Nat.le_of_ble_eq_true rfl, Nat.le_of_ble_eq_true rfl⟩ ⟨Nat.le_of_ble_eq_true rfl, Nat.le_of_ble_eq_true rfl⟩ (fun T H locs ls hR hP hD hS => ?_) (fun T r H locs ls hR hP hD hS hl => ?_) M 0 P b (by omega) (by omega) hI hpl rfl _ _ ls hP hD hS (lv_sub hl [0, 9, 10, 11, 8, 7, 6, 5, 4, 3, 2, 1] rfl)
  · exact ct_iret C hS hP hD (⟨by rw [← hR], by rw [← hR]⟩) (Nat.le_of_ble_eq_true rfl) (Nat.le_of_ble_eq_true rfl) dX9_batch_196
  refine lv_iload hx hb dX9_batch_272 (lv_at hl 0 rfl) ?_
  exact ct_iret C hS hP hD (⟨by rw [← hR], by rw [← hR]⟩) (Nat.le_of_ble_eq_true rfl) (Nat.le_of_ble_eq_true rfl) dX9_batch_274
