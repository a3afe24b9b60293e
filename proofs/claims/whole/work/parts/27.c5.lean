/-! ===== the class and the reference: a handler ===== -/
/-- the handler h (a journal's bytes: b) has what the reference has of consumer j -/
def RH (S : Mem) (h b : Nat) (P : MS) (j : Nat) : Prop :=
  (qI P 9 j = 0 ∧ (h ∈ mL S ∧ mK S h = 6) ∧ mJ S 0 h = qJ P 22 j) ∨
  (qI P 9 j = 1 ∧ (h ∈ mL S ∧ mK S h = 5) ∧ mF S 0 h = qF P j) ∨
  (qI P 9 j = 2 ∧ (h ∈ mL S ∧ mK S h = 2) ∧ mE S 0 h = qD P j ∧ mI S 1 h = qI P 15 j) ∨
  (qI P 9 j = 3 ∧ ∃ z, z ≤ 400 ∧ jrA S h b z ∧ qI P 25 j = nI z ∧ JR S b P j z)
/-- and keeps what the reference had at B -/
def RK (S : Mem) (h : Nat) (B P : MS) (j : Nat) : Prop :=
  (qI P 9 j = 0 → mJ S 1 h = qJ B 22 j) ∧ (qI P 9 j = 1 → mF S 1 h = qF B j) ∧ (qI P 9 j = 2 → mE S 2 h = qD B j ∧ mI S 3 h = qI B 15 j) ∧ (qI P 9 j = 3 → mI S 2 h = qI B 25 j ∧ ∃ x z, x ≤ z ∧ z ≤ 400 ∧ qI B 25 j = nI x ∧ qI P 25 j = nI z)
def Xh (h b : Nat) (P : MS) (j : Nat) : Nat → Prop := fun q => q = h ∨ (qI P 9 j = 3 ∧ q = b)
theorem hSf_0 {P : MS} {j ev sl : Nat} (h : qI P 9 j = 0) : hSf P j ev sl = sJ (sI P 15 j (qI P 15 j + 1)) 22 j (qJ P 22 j + qJ P 5 (ev % sl)) := by unfold hSf hSt; rw [if_pos h]
theorem hSf_1 {P : MS} {j ev sl : Nat} (h : qI P 9 j = 1) : hSf P j ev sl = sF (sI P 15 j (qI P 15 j + 1)) j (lvN (qF P j) (qJ P 5 (ev % sl))) := by unfold hSf hSt; rw [if_neg (by rw [h]; decide), if_pos h]
theorem hSf_2 {P : MS} {j ev sl : Nat} (h : qI P 9 j = 2) : hSf P j ev sl = sD (sI P 15 j (qI P 15 j + 1)) j (mnN (qD P j) (qJ P 5 (ev % sl)) (qI P 15 j + 1)) := by unfold hSf hSt; rw [if_neg (by rw [h]; decide), if_neg (by rw [h]; decide), if_pos h]
theorem hSf_3 {P : MS} {j ev sl z : Nat} (h : qI P 9 j = 3) (hz : qI P 25 j = nI z) (hz4 : z ≤ 400) : hSf P j ev sl = recS (sI P 15 j (qI P 15 j + 1)) j ev z (qJ P 5 (ev % sl)) (qI P 6 (ev % sl)) := by unfold hSf hSt; rw [if_neg (by rw [h]; decide), if_neg (by rw [h]; decide), if_neg (by rw [h]; decide), hz, nI_clamp (by omega)]
theorem jrS_A {S : Mem} {a b z : Nat} {e v : Int64} {g : Int32} (h : jrA S a b z) : jrA (jrS S a b z e v g) a b (z + 13) := by
  unfold jrS jr9
  exact apS_A (z := z + 12) (apS_A (z := z + 11) (jbL_A 8 (z + 3) _ (apS_A (apS_A (apS_A h)))))
theorem apS_2 {S : Mem} {a b z : Nat} {x : Int64} : mI (apS S a b z x) 2 a = mI S 2 a := mI_k (S := uaI S b z _) (by decide)
theorem jbL_2 {a b : Nat} {v : Int64} : ∀ (k z : Nat) (S : Mem), mI (jbL a b v k z S) 2 a = mI S 2 a
  | 0, _, _ => rfl
  | k + 1, z, S => (jbL_2 k (z + 1) _).trans apS_2
theorem jrS_2 {S : Mem} {a b z : Nat} {e v : Int64} {g : Int32} : mI (jrS S a b z e v g) 2 a = mI S 2 a := by
  unfold jrS jr9
  rw [apS_2, apS_2, jbL_2, apS_2, apS_2, apS_2]
theorem hB_t {P : MS} {j ev sl : Nat} (h : (qI P 9 j = 0 → ¬ qJ P 5 (ev % sl) = -1) ∧ (¬ qI P 9 j = 0 → 0 ≤ qJ P 5 (ev % sl)) ∧ (qI P 9 j = 3 → qI P 25 j + 13 ≤ 400)) : hB P j ev sl = true := decide_eq_true h
theorem hB_f {P : MS} {j ev sl : Nat} (h : ¬ ((qI P 9 j = 0 → ¬ qJ P 5 (ev % sl) = -1) ∧ (¬ qI P 9 j = 0 → 0 ≤ qJ P 5 (ev % sl)) ∧ (qI P 9 j = 3 → qI P 25 j + 13 ≤ 400))) : hB P j ev sl = false := decide_eq_false h
theorem hdH_3 : "RingPipeline$Handler" ≠ "java/lang/invoke/MethodHandle" ∧ "RingPipeline$Handler" ≠ "java/lang/invoke/VarHandle" ∧ (parseMethodDescriptor "(JJI)Z").map (fun d => d.parameters.length) = some 3 := ⟨by decide, by decide, by decide +kernel⟩
section Hand1
variable {p : Program} {l : Launch} {e : Env} {R : Room} {s : State} {m : MethodId} {args : Array Value} {below : List Frame} {meth : Method} {c : Code} {H : Heap} {locs : List Loc} {cells slots : Nat} {Q : State → Prop}
variable {s0 : State} {D : va_G} {cA : Nat → ClassId} {A : Nat → Prop} {cc : ByteArray} {nL : Nat} {ret : Option FieldType} {pc : Nat} {ls : Array Slot} {rest : List Value} {S : Mem} {P : MS} {h b j ev sl bb : Nat}
set_option maxRecDepth 100000 in
theorem w_handles (C : cx_C p l s m args meth c s0 D cA cc nL ret RX0 A) (hG : cx_G l s0 D cA) (hH : RH S h b P j) (hI : bInv P j sl bb) (hbb : bb < 2 ^ 30) (hev : ev < 2 ^ 31) (hz : ls.size = nL) (hw : (rest.map fun v => v.category).sum ≤ 8) (d : decode cc pc = .ok (.invokevirtual 76, 3)) (hR : rmX2_handles.frames + 1 ≤ R.frames ∧ 8 + (8 + 11) + rmX2_handles.locals ≤ R.locals) (hC : cells ≤ R.cells ∧ slots ≤ R.slots) (hP : va_P D vwCl (pW cA S) H) (hD : va_D A (pW cA S)) (hS : va_S A s.heap H locs)
    (ky : hB P j ev sl = true → ∀ (S1 : Mem) (H1 : Heap) (locs1 : List Loc), ag (Xh h b P j) S S1 → RH S1 h b (hSf P j ev sl) j → (∀ B, RK S h B P j → RK S1 h B (hSf P j ev sl) j) → va_P D vwCl (pW cA S1) H1 → va_D A (pW cA S1) → va_S A s.heap H1 locs1 → W p l e R s m args below meth c H1 locs1 cells slots Q (F0 m (pc + 3) ls (.int 1 :: rest)))
    (kn : hB P j ev sl = false → ∀ (H1 : Heap) (locs1 : List Loc), va_P D vwCl (pW cA S) H1 → va_D A (pW cA S) → va_S A s.heap H1 locs1 → W p l e R s m args below meth c H1 locs1 cells slots Q (F0 m (pc + 3) ls (.int 0 :: rest))) :
    W p l e R s m args below meth c H locs cells slots Q (F0 m pc ls (.int (qI P 6 (ev % sl)) :: .long (qJ P 5 (ev % sl)) :: .long (lN ev) :: .ref h :: rest)) := by
  obtain ⟨g1, g9, g11, gF, gD, ⟨q, hq, g15⟩, -⟩ := hI
  have n1 : ¬ (1 : Int32) = 0 := by decide
  have n2 : ¬ (2 : Int32) = 0 := by decide
  have n3 : ¬ (3 : Int32) = 0 := by decide
  rcases hH with ⟨hk, ⟨h1, h2⟩, e0⟩ | ⟨hk, ⟨h1, h2⟩, e0⟩ | ⟨hk, ⟨h1, h2⟩, e0, e1⟩ | ⟨hk, z, hz4, hJ, e25, hR4⟩
  · by_cases hv : qJ P 5 (ev % sl) = -1
    · refine pc_A (X := "RingPipeline$Sum") (owner := "RingPipeline$Handler") (z := ⟨"RingPipeline$Handler", "handles", "(JJI)Z"⟩) (y := yX7_handles) (As := [.long (lN ev), .long (qJ P 5 (ev % sl)), .int (qI P 6 (ev % sl))]) (rest := rest) (r := some (.int 0)) C (c_sum_n hG (lN ev) _ _ h1 h2 hv) tm_476 tm_478 tm_502 tm_503 tm_11 tm_504 tn_477 hdH_3 ⟨Nat.le_trans (Nat.le_of_ble_eq_true rfl) hR.1, Nat.le_trans (Nat.le_of_ble_eq_true rfl) hR.2⟩ (rcv_7 C hP h1 h2) hz rfl hw d ⟨hC.1, hC.2⟩ hP hD hS (fun S1 H locs hQ hP hD hS => ?_)
      rw [hQ] at hP hD
      exact kn (hB_f fun t => t.1 hk hv) H locs hP hD hS
    · refine pc_A (X := "RingPipeline$Sum") (owner := "RingPipeline$Handler") (z := ⟨"RingPipeline$Handler", "handles", "(JJI)Z"⟩) (y := yX7_handles) (As := [.long (lN ev), .long (qJ P 5 (ev % sl)), .int (qI P 6 (ev % sl))]) (rest := rest) (r := some (.int 1)) C (c_sum_y hG (lN ev) _ _ h1 h2 hv) tm_476 tm_478 tm_502 tm_503 tm_11 tm_504 tn_477 hdH_3 ⟨Nat.le_trans (Nat.le_of_ble_eq_true rfl) hR.1, Nat.le_trans (Nat.le_of_ble_eq_true rfl) hR.2⟩ (rcv_7 C hP h1 h2) hz rfl hw d ⟨hC.1, hC.2⟩ hP hD hS (fun S1 H locs hQ hP hD hS => ?_)
      rw [hQ] at hP hD
      refine ky (hB_t ⟨fun _ => hv, fun n => absurd hk n, fun n => absurd (n.symm.trans hk) (by decide)⟩) _ H locs (ag_uJ (Or.inl rfl)) (Or.inl ⟨?_, ⟨h1, h2⟩, ?_⟩) (fun B hB => ?_) hP hD hS
      · rw [hSf_0 hk]; exact hk
      · rw [hSf_0 hk, qJ_s, mJ_s, e0]
      · refine ⟨fun _ => (mJ_k (S := S) (by decide)).trans (hB.1 hk), fun n => ?_, fun n => ?_, fun n => ?_⟩ <;> (rw [hSf_0 hk] at n; exact absurd (n.symm.trans hk) (by decide))
  · by_cases hv : 0 ≤ qJ P 5 (ev % sl)
    · have hn := (lvI_step gF hv).1
      rw [← e0] at hn
      refine pc_A (X := "RingPipeline$Smooth") (owner := "RingPipeline$Handler") (z := ⟨"RingPipeline$Handler", "handles", "(JJI)Z"⟩) (y := yX6_handles) (As := [.long (lN ev), .long (qJ P 5 (ev % sl)), .int (qI P 6 (ev % sl))]) (rest := rest) (r := some (.int 1)) C (c_smo_y hG (lN ev) _ _ h1 h2 hv hn) tm_476 tm_478 tm_498 tm_499 tm_12 tm_500 tn_477 hdH_3 ⟨Nat.le_trans (Nat.le_of_ble_eq_true rfl) hR.1, Nat.le_trans (Nat.le_of_ble_eq_true rfl) hR.2⟩ (rcv_6 C hP h1 h2) hz rfl hw d ⟨hC.1, hC.2⟩ hP hD hS (fun S1 H locs hQ hP hD hS => ?_)
      rw [hQ] at hP hD
      refine ky (hB_t ⟨fun n => absurd (hk.symm.trans n) n1, fun _ => hv, fun n => absurd (n.symm.trans hk) (by decide)⟩) _ H locs (ag_uF (Or.inl rfl)) (Or.inr (Or.inl ⟨?_, ⟨h1, h2⟩, ?_⟩)) (fun B hB => ?_) hP hD hS
      · rw [hSf_1 hk]; exact hk
      · rw [hSf_1 hk, qF_s, mF_s, e0]
      · refine ⟨fun n => ?_, fun _ => (mF_k (S := S) (by decide)).trans (hB.2.1 hk), fun n => ?_, fun n => ?_⟩ <;> (rw [hSf_1 hk] at n; exact absurd (n.symm.trans hk) (by decide))
    · refine pc_A (X := "RingPipeline$Smooth") (owner := "RingPipeline$Handler") (z := ⟨"RingPipeline$Handler", "handles", "(JJI)Z"⟩) (y := yX6_handles) (As := [.long (lN ev), .long (qJ P 5 (ev % sl)), .int (qI P 6 (ev % sl))]) (rest := rest) (r := some (.int 0)) C (c_smo_n hG (lN ev) _ _ h1 h2 hv) tm_476 tm_478 tm_498 tm_499 tm_12 tm_500 tn_477 hdH_3 ⟨Nat.le_trans (Nat.le_of_ble_eq_true rfl) hR.1, Nat.le_trans (Nat.le_of_ble_eq_true rfl) hR.2⟩ (rcv_6 C hP h1 h2) hz rfl hw d ⟨hC.1, hC.2⟩ hP hD hS (fun S1 H locs hQ hP hD hS => ?_)
      rw [hQ] at hP hD
      exact kn (hB_f fun t => hv (t.2.1 (fun n => n1 (hk.symm.trans n)))) H locs hP hD hS
  · by_cases hv : 0 ≤ qJ P 5 (ev % sl)
    · have hn := (mnI_step gD hv (n := qI P 15 j + 1) (by rw [g15]; exact hd1 hq hbb)).1
      rw [← e0, ← e1] at hn
      refine pc_A (X := "RingPipeline$Mean") (owner := "RingPipeline$Handler") (z := ⟨"RingPipeline$Handler", "handles", "(JJI)Z"⟩) (y := yX3_handles) (As := [.long (lN ev), .long (qJ P 5 (ev % sl)), .int (qI P 6 (ev % sl))]) (rest := rest) (r := some (.int 1)) C (c_mea_y hG (lN ev) _ _ h1 h2 hv hn) tm_476 tm_478 tm_495 tm_496 tm_13 tm_497 tn_477 hdH_3 ⟨Nat.le_trans (Nat.le_of_ble_eq_true rfl) hR.1, Nat.le_trans (Nat.le_of_ble_eq_true rfl) hR.2⟩ (rcv_3 C hP h1 h2) hz rfl hw d ⟨hC.1, hC.2⟩ hP hD hS (fun S1 H locs hQ hP hD hS => ?_)
      rw [hQ] at hP hD
      refine ky (hB_t ⟨fun n => absurd (hk.symm.trans n) n2, fun _ => hv, fun n => absurd (n.symm.trans hk) (by decide)⟩) _ H locs (ag_tr (ag_uI (Or.inl rfl)) (ag_uE (Or.inl rfl))) (Or.inr (Or.inr (Or.inl ⟨?_, ⟨h1, h2⟩, ?_, ?_⟩))) (fun B hB => ?_) hP hD hS
      · rw [hSf_2 hk]; exact hk
      · rw [hSf_2 hk, qD_s, mE_s, e0, e1]
      · rw [hSf_2 hk]
        refine (mI_s (S := S)).trans ?_
        rw [e1]
        exact (qI_s (P := P) (k := 15) (j := j) (v := qI P 15 j + 1)).symm
      · refine ⟨fun n => ?_, fun n => ?_, fun _ => ⟨(mE_k (S := uI S 1 h (mI S 1 h + 1)) (by decide)).trans (hB.2.2.1 hk).1, (mI_k (S := S) (k := 1) (a := h) (v := mI S 1 h + 1) (i := 3) (b := h) (by decide)).trans (hB.2.2.1 hk).2⟩, fun n => ?_⟩ <;> (rw [hSf_2 hk] at n; exact absurd (n.symm.trans hk) (by decide))
    · refine pc_A (X := "RingPipeline$Mean") (owner := "RingPipeline$Handler") (z := ⟨"RingPipeline$Handler", "handles", "(JJI)Z"⟩) (y := yX3_handles) (As := [.long (lN ev), .long (qJ P 5 (ev % sl)), .int (qI P 6 (ev % sl))]) (rest := rest) (r := some (.int 0)) C (c_mea_n hG (lN ev) _ _ h1 h2 hv) tm_476 tm_478 tm_495 tm_496 tm_13 tm_497 tn_477 hdH_3 ⟨Nat.le_trans (Nat.le_of_ble_eq_true rfl) hR.1, Nat.le_trans (Nat.le_of_ble_eq_true rfl) hR.2⟩ (rcv_3 C hP h1 h2) hz rfl hw d ⟨hC.1, hC.2⟩ hP hD hS (fun S1 H locs hQ hP hD hS => ?_)
      rw [hQ] at hP hD
      exact kn (hB_f fun t => hv (t.2.1 (fun n => n2 (hk.symm.trans n)))) H locs hP hD hS
  · by_cases hv : 0 ≤ qJ P 5 (ev % sl)
    · by_cases hf : z + 13 ≤ 400
      · refine pc_A (X := "RingPipeline$Journal") (owner := "RingPipeline$Handler") (z := ⟨"RingPipeline$Handler", "handles", "(JJI)Z"⟩) (y := yX2_handles) (As := [.long (lN ev), .long (qJ P 5 (ev % sl)), .int (qI P 6 (ev % sl))]) (rest := rest) (r := some (.int 1)) C (c_jou_y hG (lN ev) _ _ hJ hv hf) tm_476 tm_478 tm_479 tm_480 tm_14 tm_481 tn_477 hdH_3 ⟨Nat.le_trans (Nat.le_of_ble_eq_true rfl) hR.1, Nat.le_trans (Nat.le_of_ble_eq_true rfl) hR.2⟩ (rcv_2 C hP hJ.1.1 hJ.1.2) hz rfl hw d ⟨hC.1, hC.2⟩ hP hD hS (fun S1 H locs hQ hP hD hS => ?_)
        rw [hQ] at hP hD
        obtain ⟨V, hV, eV⟩ := pk_lOf (Int64.not_lt.mpr hv)
        have e13 : qI P 25 j + 13 ≤ 400 := by
          rw [e25, show (13 : Int32) = nI 13 by decide, nI_add, show (400 : Int32) = nI 400 by decide]
          exact nI_le hf (by decide)
        refine ky (hB_t ⟨fun n => absurd (hk.symm.trans n) n3, fun _ => hv, fun _ => e13⟩) _ H locs (ag_jr (Or.inl rfl) (Or.inr ⟨hk, rfl⟩)) (Or.inr (Or.inr (Or.inr ⟨?_, z + 13, hf, jrS_A hJ, ?_, ?_⟩))) (fun B hB => ?_) hP hD hS
        · rw [hSf_3 hk e25 hz4, recS_k (by decide) (by decide)]; exact hk
        · rw [hSf_3 hk e25 hz4, recS_25]
        · rw [hSf_3 hk e25 hz4, eV]
          exact JR_r hV hev (P := sI P 15 j (qI P 15 j + 1)) hR4
        · have ek : qI (hSf P j ev sl) 9 j = qI P 9 j := by rw [hS_k (by decide) (by decide) (by decide)]
          rw [RK, ek]
          refine ⟨fun n => absurd (n.symm.trans hk) (by decide), fun n => absurd (n.symm.trans hk) (by decide), fun n => absurd (n.symm.trans hk) (by decide), fun _ => ?_⟩
          obtain ⟨b1, x, z', hx, hz', bx, bz⟩ := hB.2.2.2 hk
          have : z' = z := (nI_eq (by omega) (by omega)).mp (bz.symm.trans e25)
          exact ⟨jrS_2.trans b1, x, z + 13, by omega, hf, bx, by rw [hSf_3 hk e25 hz4, recS_25]⟩
      · refine pc_A (X := "RingPipeline$Journal") (owner := "RingPipeline$Handler") (z := ⟨"RingPipeline$Handler", "handles", "(JJI)Z"⟩) (y := yX2_handles) (As := [.long (lN ev), .long (qJ P 5 (ev % sl)), .int (qI P 6 (ev % sl))]) (rest := rest) (r := some (.int 0)) C (c_jou_f hG (lN ev) _ _ hJ hz4 hv hf) tm_476 tm_478 tm_479 tm_480 tm_14 tm_481 tn_477 hdH_3 ⟨Nat.le_trans (Nat.le_of_ble_eq_true rfl) hR.1, Nat.le_trans (Nat.le_of_ble_eq_true rfl) hR.2⟩ (rcv_2 C hP hJ.1.1 hJ.1.2) hz rfl hw d ⟨hC.1, hC.2⟩ hP hD hS (fun S1 H locs hQ hP hD hS => ?_)
        rw [hQ] at hP hD
        refine kn (hB_f fun t => hf (nI_le13 hz4 ?_)) H locs hP hD hS
        have := t.2.2 hk
        rw [e25] at this
        exact this
    · refine pc_A (X := "RingPipeline$Journal") (owner := "RingPipeline$Handler") (z := ⟨"RingPipeline$Handler", "handles", "(JJI)Z"⟩) (y := yX2_handles) (As := [.long (lN ev), .long (qJ P 5 (ev % sl)), .int (qI P 6 (ev % sl))]) (rest := rest) (r := some (.int 0)) C (c_jou_l hG (lN ev) _ _ hJ hv) tm_476 tm_478 tm_479 tm_480 tm_14 tm_481 tn_477 hdH_3 ⟨Nat.le_trans (Nat.le_of_ble_eq_true rfl) hR.1, Nat.le_trans (Nat.le_of_ble_eq_true rfl) hR.2⟩ (rcv_2 C hP hJ.1.1 hJ.1.2) hz rfl hw d ⟨hC.1, hC.2⟩ hP hD hS (fun S1 H locs hQ hP hD hS => ?_)
      rw [hQ] at hP hD
      exact kn (hB_f fun t => hv (t.2.1 (fun n => n3 (hk.symm.trans n)))) H locs hP hD hS
set_option maxRecDepth 100000 in
theorem w_keep (C : cx_C p l s m args meth c s0 D cA cc nL ret RX0 A) (hG : cx_G l s0 D cA) (hH : RH S h b P j) (hz : ls.size = nL) (hw : (rest.map fun v => v.category).sum ≤ 8) (d : decode cc pc = .ok (.invokevirtual 106, 3)) (hR : 1 ≤ R.frames ∧ 20 ≤ R.locals) (hC : cells ≤ R.cells ∧ slots ≤ R.slots) (hP : va_P D vwCl (pW cA S) H) (hD : va_D A (pW cA S)) (hS : va_S A s.heap H locs)
    (ky : ∀ (S1 : Mem) (H1 : Heap) (locs1 : List Loc), ag (Xh h b P j) S S1 → RH S1 h b P j → RK S1 h P P j → va_P D vwCl (pW cA S1) H1 → va_D A (pW cA S1) → va_S A s.heap H1 locs1 → W p l e R s m args below meth c H1 locs1 cells slots Q (F0 m (pc + 3) ls (rest))) :
    W p l e R s m args below meth c H locs cells slots Q (F0 m pc ls (.ref h :: rest)) := by
  rcases hH with ⟨hk, ⟨h1, h2⟩, e0⟩ | ⟨hk, ⟨h1, h2⟩, e0⟩ | ⟨hk, ⟨h1, h2⟩, e0, e1⟩ | ⟨hk, z, hz4, hJ, e25, hR4⟩
  · refine pc_A (X := "RingPipeline$Sum") (owner := "RingPipeline$Handler") (z := ⟨"RingPipeline$Handler", "keep", "()V"⟩) (y := yX7_keep) (As := []) (rest := rest) (r := none) C (c_sum_k hG h1 h2) tm_449 tm_451 tm_461 tm_462 tm_11 tm_463 tn_450 ⟨by decide, by decide, by decide +kernel⟩ ⟨Nat.le_trans (Nat.le_of_ble_eq_true rfl) hR.1, Nat.le_trans (Nat.le_of_ble_eq_true rfl) hR.2⟩ (rcv_7 C hP h1 h2) hz rfl hw d ⟨hC.1, hC.2⟩ hP hD hS (fun S1 H locs hQ hP hD hS => ?_)
    rw [hQ] at hP hD
    exact ky _ H locs (ag_uJ (Or.inl rfl)) (Or.inl ⟨hk, ⟨h1, h2⟩, (mJ_k (S := S) (by decide)).trans e0⟩) ⟨fun _ => (mJ_s (S := S)).trans e0, fun n => absurd (n.symm.trans hk) (by decide), fun n => absurd (n.symm.trans hk) (by decide), fun n => absurd (n.symm.trans hk) (by decide)⟩ hP hD hS
  · refine pc_A (X := "RingPipeline$Smooth") (owner := "RingPipeline$Handler") (z := ⟨"RingPipeline$Handler", "keep", "()V"⟩) (y := yX6_keep) (As := []) (rest := rest) (r := none) C (c_smo_k hG h1 h2) tm_449 tm_451 tm_458 tm_459 tm_12 tm_460 tn_450 ⟨by decide, by decide, by decide +kernel⟩ ⟨Nat.le_trans (Nat.le_of_ble_eq_true rfl) hR.1, Nat.le_trans (Nat.le_of_ble_eq_true rfl) hR.2⟩ (rcv_6 C hP h1 h2) hz rfl hw d ⟨hC.1, hC.2⟩ hP hD hS (fun S1 H locs hQ hP hD hS => ?_)
    rw [hQ] at hP hD
    exact ky _ H locs (ag_uF (Or.inl rfl)) (Or.inr (Or.inl ⟨hk, ⟨h1, h2⟩, (mF_k (S := S) (by decide)).trans e0⟩)) ⟨fun n => absurd (n.symm.trans hk) (by decide), fun _ => (mF_s (S := S)).trans e0, fun n => absurd (n.symm.trans hk) (by decide), fun n => absurd (n.symm.trans hk) (by decide)⟩ hP hD hS
  · refine pc_A (X := "RingPipeline$Mean") (owner := "RingPipeline$Handler") (z := ⟨"RingPipeline$Handler", "keep", "()V"⟩) (y := yX3_keep) (As := []) (rest := rest) (r := none) C (c_mea_k hG h1 h2) tm_449 tm_451 tm_455 tm_456 tm_13 tm_457 tn_450 ⟨by decide, by decide, by decide +kernel⟩ ⟨Nat.le_trans (Nat.le_of_ble_eq_true rfl) hR.1, Nat.le_trans (Nat.le_of_ble_eq_true rfl) hR.2⟩ (rcv_3 C hP h1 h2) hz rfl hw d ⟨hC.1, hC.2⟩ hP hD hS (fun S1 H locs hQ hP hD hS => ?_)
    rw [hQ] at hP hD
    exact ky _ H locs (ag_tr (ag_uE (Or.inl rfl)) (ag_uI (Or.inl rfl))) (Or.inr (Or.inr (Or.inl ⟨hk, ⟨h1, h2⟩, (mE_k (S := S) (by decide)).trans e0, (mI_k (S := uE S 2 h (mE S 0 h)) (by decide)).trans e1⟩))) ⟨fun n => absurd (n.symm.trans hk) (by decide), fun n => absurd (n.symm.trans hk) (by decide), fun _ => ⟨(mE_s (S := S)).trans e0, (mI_s (S := uE S 2 h (mE S 0 h))).trans e1⟩, fun n => absurd (n.symm.trans hk) (by decide)⟩ hP hD hS
  · refine pc_A (X := "RingPipeline$Journal") (owner := "RingPipeline$Handler") (z := ⟨"RingPipeline$Handler", "keep", "()V"⟩) (y := yX2_keep) (As := []) (rest := rest) (r := none) C (c_jkeep hG hJ) tm_449 tm_451 tm_452 tm_453 tm_14 tm_454 tn_450 ⟨by decide, by decide, by decide +kernel⟩ ⟨Nat.le_trans (Nat.le_of_ble_eq_true rfl) hR.1, Nat.le_trans (Nat.le_of_ble_eq_true rfl) hR.2⟩ (rcv_2 C hP hJ.1.1 hJ.1.2) hz rfl hw d ⟨hC.1, hC.2⟩ hP hD hS (fun S1 H locs hQ hP hD hS => ?_)
    rw [hQ] at hP hD
    exact ky _ H locs (ag_uI (Or.inl rfl)) (Or.inr (Or.inr (Or.inr ⟨hk, z, hz4, ⟨hJ.1, hJ.2.1, hJ.2.2.1, (mI_k (S := S) (by decide)).trans hJ.2.2.2⟩, e25, hR4⟩))) ⟨fun n => absurd (n.symm.trans hk) (by decide), fun n => absurd (n.symm.trans hk) (by decide), fun n => absurd (n.symm.trans hk) (by decide), fun _ => ⟨(mI_s (S := S)).trans e25.symm, z, z, Nat.le_refl _, hz4, e25, e25⟩⟩ hP hD hS
set_option maxRecDepth 100000 in
theorem w_restore {B T : MS} (C : cx_C p l s m args meth c s0 D cA cc nL ret RX0 A) (hG : cx_G l s0 D cA) (hH : RH S h b P j) (hK : RK S h B P j) (hT9 : qI T 9 j = qI P 9 j) (hT22 : qJ T 22 j = qJ B 22 j) (hTF : qF T j = qF B j) (hTD : qD T j = qD B j) (hT15 : qI T 15 j = qI B 15 j) (hT25 : qI T 25 j = qI B 25 j) (hT26 : qI T 26 = qI P 26) (hz : ls.size = nL) (hw : (rest.map fun v => v.category).sum ≤ 8) (d : decode cc pc = .ok (.invokevirtual 109, 3)) (hR : 1 ≤ R.frames ∧ 20 ≤ R.locals) (hC : cells ≤ R.cells ∧ slots ≤ R.slots) (hP : va_P D vwCl (pW cA S) H) (hD : va_D A (pW cA S)) (hS : va_S A s.heap H locs)
    (ky : ∀ (S1 : Mem) (H1 : Heap) (locs1 : List Loc), ag (Xh h b P j) S S1 → RH S1 h b T j → va_P D vwCl (pW cA S1) H1 → va_D A (pW cA S1) → va_S A s.heap H1 locs1 → W p l e R s m args below meth c H1 locs1 cells slots Q (F0 m (pc + 3) ls (rest))) :
    W p l e R s m args below meth c H locs cells slots Q (F0 m pc ls (.ref h :: rest)) := by
  rcases hH with ⟨hk, ⟨h1, h2⟩, e0⟩ | ⟨hk, ⟨h1, h2⟩, e0⟩ | ⟨hk, ⟨h1, h2⟩, e0, e1⟩ | ⟨hk, z, hz4, hJ, e25, hR4⟩
  · refine pc_A (X := "RingPipeline$Sum") (owner := "RingPipeline$Handler") (z := ⟨"RingPipeline$Handler", "restore", "()V"⟩) (y := yX7_restore) (As := []) (rest := rest) (r := none) C (c_sum_r hG h1 h2) tm_514 tm_516 tm_526 tm_527 tm_11 tm_528 tn_515 ⟨by decide, by decide, by decide +kernel⟩ ⟨Nat.le_trans (Nat.le_of_ble_eq_true rfl) hR.1, Nat.le_trans (Nat.le_of_ble_eq_true rfl) hR.2⟩ (rcv_7 C hP h1 h2) hz rfl hw d ⟨hC.1, hC.2⟩ hP hD hS (fun S1 H locs hQ hP hD hS => ?_)
    rw [hQ] at hP hD
    exact ky _ H locs (ag_uJ (Or.inl rfl)) (Or.inl ⟨hT9.trans hk, ⟨h1, h2⟩, (mJ_s (S := S)).trans ((hK.1 hk).trans hT22.symm)⟩) hP hD hS
  · refine pc_A (X := "RingPipeline$Smooth") (owner := "RingPipeline$Handler") (z := ⟨"RingPipeline$Handler", "restore", "()V"⟩) (y := yX6_restore) (As := []) (rest := rest) (r := none) C (c_smo_r hG h1 h2) tm_514 tm_516 tm_523 tm_524 tm_12 tm_525 tn_515 ⟨by decide, by decide, by decide +kernel⟩ ⟨Nat.le_trans (Nat.le_of_ble_eq_true rfl) hR.1, Nat.le_trans (Nat.le_of_ble_eq_true rfl) hR.2⟩ (rcv_6 C hP h1 h2) hz rfl hw d ⟨hC.1, hC.2⟩ hP hD hS (fun S1 H locs hQ hP hD hS => ?_)
    rw [hQ] at hP hD
    exact ky _ H locs (ag_uF (Or.inl rfl)) (Or.inr (Or.inl ⟨hT9.trans hk, ⟨h1, h2⟩, (mF_s (S := S)).trans ((hK.2.1 hk).trans hTF.symm)⟩)) hP hD hS
  · refine pc_A (X := "RingPipeline$Mean") (owner := "RingPipeline$Handler") (z := ⟨"RingPipeline$Handler", "restore", "()V"⟩) (y := yX3_restore) (As := []) (rest := rest) (r := none) C (c_mea_r hG h1 h2) tm_514 tm_516 tm_520 tm_521 tm_13 tm_522 tn_515 ⟨by decide, by decide, by decide +kernel⟩ ⟨Nat.le_trans (Nat.le_of_ble_eq_true rfl) hR.1, Nat.le_trans (Nat.le_of_ble_eq_true rfl) hR.2⟩ (rcv_3 C hP h1 h2) hz rfl hw d ⟨hC.1, hC.2⟩ hP hD hS (fun S1 H locs hQ hP hD hS => ?_)
    rw [hQ] at hP hD
    exact ky _ H locs (ag_tr (ag_uE (Or.inl rfl)) (ag_uI (Or.inl rfl))) (Or.inr (Or.inr (Or.inl ⟨hT9.trans hk, ⟨h1, h2⟩, (mE_s (S := S)).trans ((hK.2.2.1 hk).1.trans hTD.symm), (mI_s (S := uE S 0 h (mE S 2 h))).trans ((hK.2.2.1 hk).2.trans hT15.symm)⟩))) hP hD hS
  · refine pc_A (X := "RingPipeline$Journal") (owner := "RingPipeline$Handler") (z := ⟨"RingPipeline$Handler", "restore", "()V"⟩) (y := yX2_restore) (As := []) (rest := rest) (r := none) C (c_jrestore hG hJ) tm_514 tm_516 tm_517 tm_518 tm_14 tm_519 tn_515 ⟨by decide, by decide, by decide +kernel⟩ ⟨Nat.le_trans (Nat.le_of_ble_eq_true rfl) hR.1, Nat.le_trans (Nat.le_of_ble_eq_true rfl) hR.2⟩ (rcv_2 C hP hJ.1.1 hJ.1.2) hz rfl hw d ⟨hC.1, hC.2⟩ hP hD hS (fun S1 H locs hQ hP hD hS => ?_)
    rw [hQ] at hP hD
    obtain ⟨b1, x, z', hx, hz', bx, bz⟩ := hK.2.2.2 hk
    have e : z' = z := (nI_eq (by omega) (by omega)).mp (bz.symm.trans e25)
    subst e
    exact ky _ H locs (ag_uI (Or.inl rfl)) (Or.inr (Or.inr (Or.inr ⟨hT9.trans hk, x, by omega, ⟨hJ.1, hJ.2.1, hJ.2.2.1, (mI_s (S := S)).trans (b1.trans bx)⟩, hT25.trans bx, fun i hi => by rw [hT26]; exact hR4 i (by omega)⟩))) hP hD hS
end Hand1
