/-! ===== the class and the reference: a batch ===== -/
theorem sJ_k {P : MS} {k j i : Nat} {v : Int64} (h : i ≠ k) : qJ (sJ P k j v) i = qJ P i := funext fun b => by rw [qJ_if, if_neg (fun q => h q.1)]
theorem hS_J {P : MS} {j ev sl : Nat} : qJ (hSf P j ev sl) 5 = qJ P 5 := by
  unfold hSf hSt
  split
  · exact sJ_k (by decide)
  split
  · rfl
  split
  · rfl
  · rw [recS_J]; rfl
theorem rgA_ag {X : Nat → Prop} {S T : Mem} {r v g u N : Nat} (hx : ag X S T) (h : rgA S r v g u N) : rgA T r v g u N := by
  unfold rgA
  rw [hx.1, hx.2.1, hx.2.2.1, hx.2.2.2.1]
  exact h
theorem Xc_k {S : Mem} {a h b j q : Nat} {P : MS} (hk : mK S a = 0) (r : RH S h b P j) (hq : mK S q = 13 ∨ mK S q = 12 ∨ mK S q = 4 ∨ mK S q = 3 ∨ mK S q = 7 ∨ mK S q = 15 ∨ mK S q = 16) : ¬ Xc a h b P j q := by
  rintro (e | e | ⟨h3, e⟩)
  · subst e; omega
  · subst e
    rcases r with ⟨_, h1, _⟩ | ⟨_, h1, _⟩ | ⟨_, h1, _⟩ | ⟨_, z, _, hJ, _⟩
    · omega
    · omega
    · omega
    · have := hJ.1.2; omega
  · subst e
    rcases r with ⟨h9, h1, _⟩ | ⟨h9, h1, _⟩ | ⟨h9, h1, _⟩ | ⟨_, z, _, hJ, _⟩
    · exact absurd (h3.symm.trans h9) (by decide)
    · exact absurd (h3.symm.trans h9) (by decide)
    · exact absurd (h3.symm.trans h9) (by decide)
    · have := hJ.2.2.1.2.1; omega
/-- values and producers as the reference has them, for the events from p to f -/
def RV (S : Mem) (v g N : Nat) (P : MS) (p f : Nat) : Prop := (∀ x, maJ S v (x % N) = qJ P 5 (x % N)) ∧ ∀ x, p ≤ x → x < f → maI S g (x % N) = qI P 6 (x % N)
theorem RV_ag {X : Nat → Prop} {S T : Mem} {v g N p f : Nat} {P P' : MS} (hx : ag X S T) (hv : ¬ X v) (hg : ¬ X g) (e5 : qJ P' 5 = qJ P 5) (e6 : qI P' 6 = qI P 6) (h : RV S v g N P p f) : RV T v g N P' p f := by
  obtain ⟨_, _, _, _, _, a6⟩ := hx.2.2.2.2.2 v hv
  obtain ⟨_, _, _, _, b5, _⟩ := hx.2.2.2.2.2 g hg
  exact ⟨fun x => by rw [a6, e5]; exact h.1 x, fun x h1 h2 => by rw [b5, e6]; exact h.2 x h1 h2⟩
theorem Xc_P {a h b j : Nat} {P P' : MS} (e9 : qI P' 9 j = qI P 9 j) : Xc a h b P' j = Xc a h b P j := by unfold Xc Xh; rw [e9]
section Go1
theorem rw_13 (B P : MS) (j : Nat) : qI (rwS B P j) 13 j = qI B 13 j := by
  unfold rwS
  rw [sI_k (by decide), sI_k (by decide), sI_k (by decide), sI_k (by decide)]
  exact qI_s (P := P) (k := 13) (j := j) (v := qI B 13 j)
theorem stq_14 {P : MS} {j : Nat} {a c : Int32} : qI (stq P j 0 a c) 14 j = 0 := by
  unfold stq
  rw [sI_k (by decide), sI_k (by decide), qI_s]
  rfl
theorem stq_J {P : MS} {j : Nat} {b a c : Int32} : qJ (stq P j b a c) = qJ P := rfl
theorem stq_k {P : MS} {j k : Nat} {b a c : Int32} (h3 : k ≠ 13) (h4 : k ≠ 14) (h6 : k ≠ 16) : qI (stq P j b a c) k = qI P k := by rw [stq, sI_k h3, sI_k h6, sI_k h4]
theorem stq_2 {P : MS} {j k : Nat} {b a c : Int32} (h3 : k ≠ 13) : qI (stq P j b a c) k = qI (st2 P j b a) k := by rw [stq, sI_k h3, st2]
theorem stq_13 {P X : MS} {j pl : Nat} {b a : Int32} (h : qI X 13 j = qI P 13 j) (h2 : qI P 13 j + 1 = nI pl) : qI (stq X j b a 1) 13 j = nI (pl + 1) - 1 := by
  rw [stq, qI_s, nI_pred, h, h2]
theorem stq_13h {P : MS} {j pl : Nat} {b a : Int32} (h : qI P 13 j = nI pl - 1) : qI (stq P j b a 0) 13 j = nI pl - 1 := by
  rw [stq, qI_s, h]
  exact Int32.add_zero _
theorem go_back {S1 : Mem} {a h b j pl hq w : Nat} {po : Option Nat} {X : MS} {x y : Int32} (q : RQ S1 a h b po (st2 X j x y) j pl hq w) (hw : w ≤ pl + 1) : RQ (uJ S1 4 a (eL pl + 1)) a h b po (stq X j x y 1) j (pl + 1) hq (pl + 1) := by
  have e := fun k h => congrFun (stq_2 (P := X) (j := j) (k := k) (b := x) (a := y) (c := 1) h) j
  refine ⟨RC_of q.1 rfl rfl rfl (e 10 (by decide)) (e 11 (by decide)) rfl rfl ((mJ_s (S := S1)).trans (eL_1.trans eL_S.symm)) ((mJ_k (S := S1) (by decide)).trans q.1.2.2.2.2.2.2.1) (q.1.2.2.2.2.2.2.2.1.trans (e 15 (by decide)).symm) (q.1.2.2.2.2.2.2.2.2.1.trans (e 16 (by decide)).symm) (q.1.2.2.2.2.2.2.2.2.2.1.trans (e 17 (by decide)).symm) (q.1.2.2.2.2.2.2.2.2.2.2.1.trans (e 14 (by decide)).symm) (RT_of q.1.2.2.2.2.2.2.2.2.2.2.2 (e 18 (by decide)) (e 19 (by decide)) (mJ_k (S := S1) (by decide)) rfl hw), ?_⟩
  exact RH_P (e 9 (by decide)) rfl rfl rfl (e 15 (by decide)) (e 25 (by decide)) (stq_2 (by decide)) (RH_u q.1.1.2 (ag_uJ rfl) q.2)
theorem go_halt {S1 : Mem} {a h b j pl hq w : Nat} {po : Option Nat} {X : MS} {x y z : Int32} (q : RQ S1 a h b po (st2 X j x y) j pl hq w) : RQ S1 a h b po (stq X j x y z) j pl hq w := by
  have e := fun k h => congrFun (stq_2 (P := X) (j := j) (k := k) (b := x) (a := y) (c := z) h) j
  refine ⟨RC_of q.1 rfl rfl rfl (e 10 (by decide)) (e 11 (by decide)) rfl rfl q.1.2.2.2.2.2.1 q.1.2.2.2.2.2.2.1 (q.1.2.2.2.2.2.2.2.1.trans (e 15 (by decide)).symm) (q.1.2.2.2.2.2.2.2.2.1.trans (e 16 (by decide)).symm) (q.1.2.2.2.2.2.2.2.2.2.1.trans (e 17 (by decide)).symm) (q.1.2.2.2.2.2.2.2.2.2.2.1.trans (e 14 (by decide)).symm) (RT_of q.1.2.2.2.2.2.2.2.2.2.2.2 (e 18 (by decide)) (e 19 (by decide)) rfl rfl (Nat.le_refl _)), ?_⟩
  exact RH_P (e 9 (by decide)) rfl rfl rfl (e 15 (by decide)) (e 25 (by decide)) (stq_2 (by decide)) q.2
theorem go_RB {S1 : Mem} {a h b j pl hq w pB : Nat} {po : Option Nat} {B X : MS} {x y : Int32} {z : Int64} (q : RQ S1 a h b po (st2 X j x y) j pl hq w) (hb : RB S1 a h B (st2 X j x y) j pB) : RB (uJ S1 4 a z) a h B (stq X j x y 1) j pB :=
  ⟨⟨(mJ_k (S := S1) (by decide)).trans hb.1.1, hb.1.2.1, hb.1.2.2⟩, RK_P (congrFun (stq_2 (by decide)) j) (congrFun (stq_2 (by decide)) j) (RK_ag (S := S1) (X := fun q => q = a) (ag_uJ rfl) (fun e => (RH_ne q.1.1.2 q.2).1 e.symm) hb.2)⟩
variable {p : Program} {l : Launch} {e : Env} {R : Room} {s : State} {m : MethodId} {args : Array Value} {below : List Frame} {meth : Method} {c : Code} {H : Heap} {locs : List Loc} {cells slots : Nat} {Q : State → Prop}
variable {s0 : State} {D : va_G} {cA : Nat → ClassId} {A : Nat → Prop} {ad : Nat → Nat}
set_option maxRecDepth 100000 in
theorem lp_go {R0 : MS × Int32} (C : cx_C p l s m args meth c s0 D cA cX0_goThrough 6 (some .int) RX0 A) (hG : cx_G l s0 D cA) {S0 : Mem} {P0 B : MS} {a h b j hq r v g u N M fr pB p0 : Nat} {po : Option Nat} {far : Int32} (hM : M ≤ 20) (hfar : far = nI fr - 1) (hfr : fr ≤ 8208) (hpB : pB ≤ 8208) (hBp : qI B 13 j = nI pB - 1) (hR0 : rmX0_passes.frames + 1 ≤ R.frames ∧ 8 + (4 + 11) + rmX0_passes.locals ≤ R.locals) (hC0 : cells + rmX0_passes.cells ≤ R.cells ∧ slots + rmX0_passes.slots ≤ R.slots) 
    (kk2 : ∀ (T : MS) (S1 : Mem) (x : Int32) (H : Heap) (locs : List Loc) (ls : Array Slot), (T, x) = R0 → ag (Xc a h b P0 j) S0 S1 → (∃ pq, RQ S1 a h b po T j pq hq pq ∧ qI T 13 j = nI pq - 1 ∧ pq ≤ 8208) → va_P D vwCl (pW cA S1) H → va_D A (pW cA S1) → va_S A s.heap H locs → W p l e R s m args below meth c H locs cells slots Q (F0 m 50 ls [.int x]))
    (kk : ∀ (T : MS) (S1 : Mem) (x : Int32) (H : Heap) (locs : List Loc) (ls : Array Slot), (T, x) = R0 → ag (Xc a h b P0 j) S0 S1 → (∃ pq, RQ S1 a h b po T j pq hq pq ∧ qI T 13 j = nI pq - 1 ∧ pq ≤ 8208) → va_P D vwCl (pW cA S1) H → va_D A (pW cA S1) → va_S A s.heap H locs → lv_has ls 6 [(5, .int x)] → W p l e R s m args below meth c H locs cells slots Q (F0 m 67 ls [])) :
    ∀ (d i : Nat) (P : MS) (S : Mem) (pl bb : Nat), i + d = M → bb + d < 2 ^ 30 → RQ S a h b po P j pl hq pl → RB S a h B P j pB → bInv P j N bb → qI P 14 j = 0 → qI P 13 j = nI pl - 1 → pl ≤ 8208 → p0 ≤ pl → rgA S r v g u N → RV S v g N P p0 fr → qI P 9 j = qI P0 9 j → ag (Xc a h b P0 j) S0 S → bt far j N B d i P = R0 → ∀ (H : Heap) (locs : List Loc) (ls : Array Slot), va_P D vwCl (pW cA S) H → va_D A (pW cA S) → va_S A s.heap H locs → lv_has ls 6 [(5, .int (nI i)), (0, .ref a), (1, .ref r), (2, .long (eL fr)), (4, .int (nI M))] → W p l e R s m args below meth c H locs cells slots Q (F0 m 7 ls []) := by
  have hx := cx_x C
  have hb := cx_b C
  intro d
  induction d with
  | zero =>
    intro i P S pl bb hi hbb hQ0 hB0 hI h14 hpl hp8 hp0 hg hV h9 hX hR H locs ls hP hD hS hl
    have hi : i = M := hi
    have hR : (P, nI i) = R0 := hR
    refine lv_iload hx hb dX0_goThrough_7 (lv_at hl 0 rfl) ?_
    refine lv_iload hx hb dX0_goThrough_9 (lv_at hl 4 rfl) ?_
    refine lv_icmp_ge (tgt := 67) hx hb dX0_goThrough_11 (by decide) (fun _ => ?_) (fun h9 => absurd (by rw [hi]; exact Int32.le_refl _) h9)
    exact kk _ _ _ H locs ls hR hX ⟨pl, hQ0, hpl, hp8⟩ hP hD hS (lv_sub hl [0] rfl)
  | succ d ih =>
    intro i P S pl bb hi hbb hQ0 hB0 hI h14 hpl hp8 hp0 hg hV h9 hX hR H locs ls hP hD hS hl
    have hev : qI P 13 j + 1 = nI pl := by rw [hpl, nIm_1]
    have heO : evO P j = pl := by rw [evO, hev]; exact nI_clamp (by omega)
    rw [bt] at hR
    by_cases hgo : pl < fr
    · rw [if_pos ⟨by rw [hpl, hfar]; exact (nIm_lm (by omega) (by omega)).mpr hgo, h14⟩, heO] at hR
      have nv : ¬ Xc a h b P0 j v := by rw [← Xc_P h9]; exact Xc_k hQ0.1.1.2 hQ0.2 (Or.inl hg.2.2.1.2.1)
      have ng : ¬ Xc a h b P0 j g := by rw [← Xc_P h9]; exact Xc_k hQ0.1.1.2 hQ0.2 (Or.inr (Or.inl hg.2.2.2.1.2.1))
      by_cases hho : hB P j pl N = true
      · rw [if_pos hho] at hR
        refine lv_iload hx hb dX0_goThrough_7 (lv_at hl 0 rfl) ?_
        refine lv_iload hx hb dX0_goThrough_9 (lv_at hl 4 rfl) ?_
        refine lv_icmp_ge (tgt := 67) hx hb dX0_goThrough_11 (by decide) (fun h9 => absurd h9 (nI_ge (by omega) (by omega))) (fun _ => ?_)
        refine lv_aload_n hx hb dX0_goThrough_14 rfl (lv_at hl 1 rfl) ?_
        refine gv_0_4 (v := eL pl) C hP hQ0.1.1.1 hQ0.1.1.2 (hQ0.1.2.2.2.2.2.1) tm_294 dX0_goThrough_15 ?_
        refine lv_lload_n hx hb dX0_goThrough_18 rfl (lv_at hl 3 rfl) ?_
        refine W.lcmp hx hb dX0_goThrough_19 ?_
        refine lv_if_ge (tgt := 67) hx hb dX0_goThrough_20 (by decide) (fun h9 => absurd h9 (fun q => absurd ((lg_cmp_ge ..).mp q) (Int64.not_le.mpr ((eL_lt (by omega) (by omega)).mpr hgo)))) (fun _ => ?_)
        refine lv_aload_n hx hb dX0_goThrough_23 rfl (lv_at hl 1 rfl) ?_
        refine lv_aload_n hx hb dX0_goThrough_24 rfl (lv_at hl 2 rfl) ?_
        refine lv_aload_n hx hb dX0_goThrough_25 rfl (lv_at hl 1 rfl) ?_
        refine gv_0_4 (v := eL pl) C hP hQ0.1.1.1 hQ0.1.1.2 (hQ0.1.2.2.2.2.2.1) tm_294 dX0_goThrough_26 ?_
        refine lv_lconst (v := 1) hx hb dX0_goThrough_29 (by decide) ?_
        refine lv_ladd hx hb dX0_goThrough_30 ?_
        rw [eL_1]
        refine pc_V (As := [.ref r, .long (lN pl)]) (rest := []) (r := some (.int 1)) C (p_y (S := S) (P := P) (ev := pl) (bb := bb) (w := pl) hG hQ0.1 hQ0.2 hg (hV.1 pl) (hV.2 pl hp0 hgo) hI (by omega) (by omega) hho h14) tm_464 tm_466 tm_885 tm_9 tm_467 hdX0_passes hR0 (rcv_0 C hP hQ0.1.1.1 hQ0.1.1.2) hl.1 rfl (Nat.le_of_ble_eq_true rfl) dX0_goThrough_31 hC0 hP hD hS (fun S1 H locs hQ hP hD hS => ?_)
        have hX1 : ag (Xc a h b P0 j) S S1 := by rw [← Xc_P h9]; exact hQ.1
        have hQo : a ∈ mL S1 ∧ mK S1 a = 0 := hQ.2.1.1.1
        have f4 : mJ S1 4 a = eL pl := hQ.2.1.1.2.2.2.2.2.1
        refine lv_if_ne (tgt := 51) hx hb dX0_goThrough_34 (by decide) (fun _ => ?_) (fun h9 => absurd h9 (by decide))
        refine lv_aload_n hx hb dX0_goThrough_51 rfl (lv_at hl 1 rfl) ?_
        refine lv_dup hx hb dX0_goThrough_52 rfl ?_
        refine gv_0_4 (v := eL pl) C hP hQo.1 hQo.2 (f4) tm_294 dX0_goThrough_53 ?_
        refine lv_lconst (v := 1) hx hb dX0_goThrough_56 (by decide) ?_
        refine lv_ladd hx hb dX0_goThrough_57 ?_
        refine pf_0_4 (v := (eL pl) + 1) C hP hD hS hQo.1 hQo.2 tm_294 dX0_goThrough_58 (fun H locs hP hD hS => ?_)
        refine lv_iinc (v := nI i + 1) (lv' := [(5, .int (nI i + 1)), (0, .ref a), (1, .ref r), (2, .long (eL fr)), (4, .int (nI M))]) hx hb dX0_goThrough_61 hl (k := 0) rfl (by first | rfl | decide) (by decide) rfl (fun ls hl => ?_)
        refine lv_goto (tgt := 7) hx hb dX0_goThrough_64 (by decide) ?_
        rw [nI_1] at hl
        have hX2 : ag (fun q => q = a) S1 (uJ S1 4 a (eL pl + 1)) := ag_uJ rfl
        have hX3 : ag (Xc a h b P0 j) S (uJ S1 4 a (eL pl + 1)) := ag_tr hX1 (ag_mo hX2 (fun q e => Or.inl e))
        exact ih (i + 1) (stq (hSf P j pl N) j 0 0 1) _ (pl + 1) (bb + 1) (by omega) (by omega) (go_back hQ.2.1 (Nat.le_succ _)) (go_RB hQ.2.1 (hQ.2.2 B pB hB0)) (bInv_stq (bInv_h hI (by omega) hho)) stq_14 (stq_13 ((congrFun (hS_k (P := P) (j := j) (ev := pl) (sl := N) (k := 13) (by decide) (by decide) (by decide)) j)) hev) (by omega) (by omega) (rgA_ag hX3 hg) (RV_ag hX3 nv ng ((congrFun stq_J 5).trans (hS_J)) ((stq_k (by decide) (by decide) (by decide)).trans (hS_k (by decide) (by decide) (by decide))) hV) (((congrFun (stq_k (by decide) (by decide) (by decide)) j).trans ((congrFun (hS_k (P := P) (j := j) (ev := pl) (sl := N) (k := 9) (by decide) (by decide) (by decide)) j))).trans h9) (ag_tr hX hX3) hR H locs ls hP hD hS (lv_sub hl [0, 1, 2, 3, 4] rfl)
      have hho : hB P j pl N = false := by cases q : hB P j pl N with
        | true => exact absurd q hho
        | false => rfl
      rw [if_neg (by rw [hho]; decide)] at hR
      by_cases hp1 : qI P 11 j = 1
      · rw [if_pos hp1] at hR
        refine lv_iload hx hb dX0_goThrough_7 (lv_at hl 0 rfl) ?_
        refine lv_iload hx hb dX0_goThrough_9 (lv_at hl 4 rfl) ?_
        refine lv_icmp_ge (tgt := 67) hx hb dX0_goThrough_11 (by decide) (fun h9 => absurd h9 (nI_ge (by omega) (by omega))) (fun _ => ?_)
        refine lv_aload_n hx hb dX0_goThrough_14 rfl (lv_at hl 1 rfl) ?_
        refine gv_0_4 (v := eL pl) C hP hQ0.1.1.1 hQ0.1.1.2 (hQ0.1.2.2.2.2.2.1) tm_294 dX0_goThrough_15 ?_
        refine lv_lload_n hx hb dX0_goThrough_18 rfl (lv_at hl 3 rfl) ?_
        refine W.lcmp hx hb dX0_goThrough_19 ?_
        refine lv_if_ge (tgt := 67) hx hb dX0_goThrough_20 (by decide) (fun h9 => absurd h9 (fun q => absurd ((lg_cmp_ge ..).mp q) (Int64.not_le.mpr ((eL_lt (by omega) (by omega)).mpr hgo)))) (fun _ => ?_)
        refine lv_aload_n hx hb dX0_goThrough_23 rfl (lv_at hl 1 rfl) ?_
        refine lv_aload_n hx hb dX0_goThrough_24 rfl (lv_at hl 2 rfl) ?_
        refine lv_aload_n hx hb dX0_goThrough_25 rfl (lv_at hl 1 rfl) ?_
        refine gv_0_4 (v := eL pl) C hP hQ0.1.1.1 hQ0.1.1.2 (hQ0.1.2.2.2.2.2.1) tm_294 dX0_goThrough_26 ?_
        refine lv_lconst (v := 1) hx hb dX0_goThrough_29 (by decide) ?_
        refine lv_ladd hx hb dX0_goThrough_30 ?_
        rw [eL_1]
        refine pc_V (As := [.ref r, .long (lN pl)]) (rest := []) (r := some (.int 0)) C (p_h (S := S) (P := P) (ev := pl) (bb := bb) (w := pl) hG hQ0.1 hQ0.2 hg (hV.1 pl) (hV.2 pl hp0 hgo) hI (by omega) (by omega) hho hp1) tm_464 tm_466 tm_885 tm_9 tm_467 hdX0_passes hR0 (rcv_0 C hP hQ0.1.1.1 hQ0.1.1.2) hl.1 rfl (Nat.le_of_ble_eq_true rfl) dX0_goThrough_31 hC0 hP hD hS (fun S1 H locs hQ hP hD hS => ?_)
        have hX1 : ag (Xc a h b P0 j) S S1 := by rw [← Xc_P h9]; exact hQ.1
        have f9 : mI S1 9 a = 1 := hQ.2.1.1.2.2.2.2.2.2.2.2.2.2.1.trans (st2_14 (b := 1))
        have hQo : a ∈ mL S1 ∧ mK S1 a = 0 := hQ.2.1.1.1
        have f4 : mJ S1 4 a = eL pl := hQ.2.1.1.2.2.2.2.2.1
        refine lv_if_ne (tgt := 51) hx hb dX0_goThrough_34 (by decide) (fun h9 => absurd rfl h9) (fun _ => ?_)
        refine lv_aload_n hx hb dX0_goThrough_37 rfl (lv_at hl 1 rfl) ?_
        refine gv_0_9 (v := 1) C hP hQo.1 hQo.2 (f9) tm_303 dX0_goThrough_38 ?_
        refine lv_if_eq (tgt := 49) hx hb dX0_goThrough_41 (by decide) (fun h9 => absurd h9 (by decide)) (fun _ => ?_)
        refine lv_iload hx hb dX0_goThrough_44 (lv_at hl 0 rfl) ?_
        refine lv_goto (tgt := 50) hx hb dX0_goThrough_46 (by decide) ?_
        exact kk2 _ _ _ H locs ls hR (ag_tr hX hX1) ⟨pl, go_halt hQ.2.1, stq_13h hpl, hp8⟩ hP hD hS
      rw [if_neg hp1] at hR
      by_cases hp2 : qI P 11 j = 2
      · rw [if_pos hp2] at hR
        by_cases ht3 : tmS P j (nI pl) < 3
        · rw [if_pos ht3] at hR
          refine lv_iload hx hb dX0_goThrough_7 (lv_at hl 0 rfl) ?_
          refine lv_iload hx hb dX0_goThrough_9 (lv_at hl 4 rfl) ?_
          refine lv_icmp_ge (tgt := 67) hx hb dX0_goThrough_11 (by decide) (fun h9 => absurd h9 (nI_ge (by omega) (by omega))) (fun _ => ?_)
          refine lv_aload_n hx hb dX0_goThrough_14 rfl (lv_at hl 1 rfl) ?_
          refine gv_0_4 (v := eL pl) C hP hQ0.1.1.1 hQ0.1.1.2 (hQ0.1.2.2.2.2.2.1) tm_294 dX0_goThrough_15 ?_
          refine lv_lload_n hx hb dX0_goThrough_18 rfl (lv_at hl 3 rfl) ?_
          refine W.lcmp hx hb dX0_goThrough_19 ?_
          refine lv_if_ge (tgt := 67) hx hb dX0_goThrough_20 (by decide) (fun h9 => absurd h9 (fun q => absurd ((lg_cmp_ge ..).mp q) (Int64.not_le.mpr ((eL_lt (by omega) (by omega)).mpr hgo)))) (fun _ => ?_)
          refine lv_aload_n hx hb dX0_goThrough_23 rfl (lv_at hl 1 rfl) ?_
          refine lv_aload_n hx hb dX0_goThrough_24 rfl (lv_at hl 2 rfl) ?_
          refine lv_aload_n hx hb dX0_goThrough_25 rfl (lv_at hl 1 rfl) ?_
          refine gv_0_4 (v := eL pl) C hP hQ0.1.1.1 hQ0.1.1.2 (hQ0.1.2.2.2.2.2.1) tm_294 dX0_goThrough_26 ?_
          refine lv_lconst (v := 1) hx hb dX0_goThrough_29 (by decide) ?_
          refine lv_ladd hx hb dX0_goThrough_30 ?_
          rw [eL_1]
          refine pc_V (As := [.ref r, .long (lN pl)]) (rest := []) (r := some (.int 0)) C (p_r (w9 := pB) (S := S) (P := P) (ev := pl) (bb := bb) (w := pl) hG hQ0.1 hQ0.2 hg (hV.1 pl) (hV.2 pl hp0 hgo) hI (by omega) (by omega) hho hp2 (Nat.le_refl _) ht3 hB0) tm_464 tm_466 tm_885 tm_9 tm_467 hdX0_passes hR0 (rcv_0 C hP hQ0.1.1.1 hQ0.1.1.2) hl.1 rfl (Nat.le_of_ble_eq_true rfl) dX0_goThrough_31 hC0 hP hD hS (fun S1 H locs hQ hP hD hS => ?_)
          have hX1 : ag (Xc a h b P0 j) S S1 := by rw [← Xc_P h9]; exact hQ.1
          have f9 : mI S1 9 a = 0 := hQ.2.1.2.2.2.2.2.2.2.2.2.2.1.trans h14
          have hQo : a ∈ mL S1 ∧ mK S1 a = 0 := hQ.2.1.1
          refine lv_if_ne (tgt := 51) hx hb dX0_goThrough_34 (by decide) (fun h9 => absurd rfl h9) (fun _ => ?_)
          refine lv_aload_n hx hb dX0_goThrough_37 rfl (lv_at hl 1 rfl) ?_
          refine gv_0_9 (v := 0) C hP hQo.1 hQo.2 (f9) tm_303 dX0_goThrough_38 ?_
          refine lv_if_eq (tgt := 49) hx hb dX0_goThrough_41 (by decide) (fun _ => ?_) (fun h9 => absurd (by decide) h9)
          refine lv_iconst (v := (-1)) hx hb dX0_goThrough_49 (by decide) ?_
          exact kk2 _ _ _ H locs ls hR (ag_tr hX hX1) ⟨pB, hQ.2, (rw_13 ..).trans hBp, hpB⟩ hP hD hS
        rw [if_neg ht3] at hR
        refine lv_iload hx hb dX0_goThrough_7 (lv_at hl 0 rfl) ?_
        refine lv_iload hx hb dX0_goThrough_9 (lv_at hl 4 rfl) ?_
        refine lv_icmp_ge (tgt := 67) hx hb dX0_goThrough_11 (by decide) (fun h9 => absurd h9 (nI_ge (by omega) (by omega))) (fun _ => ?_)
        refine lv_aload_n hx hb dX0_goThrough_14 rfl (lv_at hl 1 rfl) ?_
        refine gv_0_4 (v := eL pl) C hP hQ0.1.1.1 hQ0.1.1.2 (hQ0.1.2.2.2.2.2.1) tm_294 dX0_goThrough_15 ?_
        refine lv_lload_n hx hb dX0_goThrough_18 rfl (lv_at hl 3 rfl) ?_
        refine W.lcmp hx hb dX0_goThrough_19 ?_
        refine lv_if_ge (tgt := 67) hx hb dX0_goThrough_20 (by decide) (fun h9 => absurd h9 (fun q => absurd ((lg_cmp_ge ..).mp q) (Int64.not_le.mpr ((eL_lt (by omega) (by omega)).mpr hgo)))) (fun _ => ?_)
        refine lv_aload_n hx hb dX0_goThrough_23 rfl (lv_at hl 1 rfl) ?_
        refine lv_aload_n hx hb dX0_goThrough_24 rfl (lv_at hl 2 rfl) ?_
        refine lv_aload_n hx hb dX0_goThrough_25 rfl (lv_at hl 1 rfl) ?_
        refine gv_0_4 (v := eL pl) C hP hQ0.1.1.1 hQ0.1.1.2 (hQ0.1.2.2.2.2.2.1) tm_294 dX0_goThrough_26 ?_
        refine lv_lconst (v := 1) hx hb dX0_goThrough_29 (by decide) ?_
        refine lv_ladd hx hb dX0_goThrough_30 ?_
        rw [eL_1]
        refine pc_V (As := [.ref r, .long (lN pl)]) (rest := []) (r := some (.int 1)) C (p_i (S := S) (P := P) (ev := pl) (bb := bb) (w := pl) hG hQ0.1 hQ0.2 hg (hV.1 pl) (hV.2 pl hp0 hgo) hI (by omega) (by omega) hho hp2 (Nat.le_refl _) ht3 h14) tm_464 tm_466 tm_885 tm_9 tm_467 hdX0_passes hR0 (rcv_0 C hP hQ0.1.1.1 hQ0.1.1.2) hl.1 rfl (Nat.le_of_ble_eq_true rfl) dX0_goThrough_31 hC0 hP hD hS (fun S1 H locs hQ hP hD hS => ?_)
        have hX1 : ag (Xc a h b P0 j) S S1 := by rw [← Xc_P h9]; exact hQ.1
        have hQo : a ∈ mL S1 ∧ mK S1 a = 0 := hQ.2.1.1.1
        have f4 : mJ S1 4 a = eL pl := hQ.2.1.1.2.2.2.2.2.1
        refine lv_if_ne (tgt := 51) hx hb dX0_goThrough_34 (by decide) (fun _ => ?_) (fun h9 => absurd h9 (by decide))
        refine lv_aload_n hx hb dX0_goThrough_51 rfl (lv_at hl 1 rfl) ?_
        refine lv_dup hx hb dX0_goThrough_52 rfl ?_
        refine gv_0_4 (v := eL pl) C hP hQo.1 hQo.2 (f4) tm_294 dX0_goThrough_53 ?_
        refine lv_lconst (v := 1) hx hb dX0_goThrough_56 (by decide) ?_
        refine lv_ladd hx hb dX0_goThrough_57 ?_
        refine pf_0_4 (v := (eL pl) + 1) C hP hD hS hQo.1 hQo.2 tm_294 dX0_goThrough_58 (fun H locs hP hD hS => ?_)
        refine lv_iinc (v := nI i + 1) (lv' := [(5, .int (nI i + 1)), (0, .ref a), (1, .ref r), (2, .long (eL fr)), (4, .int (nI M))]) hx hb dX0_goThrough_61 hl (k := 0) rfl (by first | rfl | decide) (by decide) rfl (fun ls hl => ?_)
        refine lv_goto (tgt := 7) hx hb dX0_goThrough_64 (by decide) ?_
        rw [nI_1] at hl
        have hX2 : ag (fun q => q = a) S1 (uJ S1 4 a (eL pl + 1)) := ag_uJ rfl
        have hX3 : ag (Xc a h b P0 j) S (uJ S1 4 a (eL pl + 1)) := ag_tr hX1 (ag_mo hX2 (fun q e => Or.inl e))
        exact ih (i + 1) (stq (sI (anS P j (nI pl)) 19 j 0) j 0 1 1) _ (pl + 1) (bb) (by omega) (by omega) (go_back hQ.2.1 (Nat.le_refl _)) (go_RB hQ.2.1 (hQ.2.2 B pB hB0)) (bInv_stq (bInv_an hI)) stq_14 (stq_13 (rfl) hev) (by omega) (by omega) (rgA_ag hX3 hg) (RV_ag hX3 nv ng ((congrFun stq_J 5).trans (rfl)) ((stq_k (by decide) (by decide) (by decide)).trans (rfl)) hV) (((congrFun (stq_k (by decide) (by decide) (by decide)) j).trans (rfl)).trans h9) (ag_tr hX hX3) hR H locs ls hP hD hS (lv_sub hl [0, 1, 2, 3, 4] rfl)
      rw [if_neg hp2] at hR
      have hpg : qI P 11 j = 0 := hI.2.2.1.resolve_right (fun q => q.elim hp1 hp2)
      refine lv_iload hx hb dX0_goThrough_7 (lv_at hl 0 rfl) ?_
      refine lv_iload hx hb dX0_goThrough_9 (lv_at hl 4 rfl) ?_
      refine lv_icmp_ge (tgt := 67) hx hb dX0_goThrough_11 (by decide) (fun h9 => absurd h9 (nI_ge (by omega) (by omega))) (fun _ => ?_)
      refine lv_aload_n hx hb dX0_goThrough_14 rfl (lv_at hl 1 rfl) ?_
      refine gv_0_4 (v := eL pl) C hP hQ0.1.1.1 hQ0.1.1.2 (hQ0.1.2.2.2.2.2.1) tm_294 dX0_goThrough_15 ?_
      refine lv_lload_n hx hb dX0_goThrough_18 rfl (lv_at hl 3 rfl) ?_
      refine W.lcmp hx hb dX0_goThrough_19 ?_
      refine lv_if_ge (tgt := 67) hx hb dX0_goThrough_20 (by decide) (fun h9 => absurd h9 (fun q => absurd ((lg_cmp_ge ..).mp q) (Int64.not_le.mpr ((eL_lt (by omega) (by omega)).mpr hgo)))) (fun _ => ?_)
      refine lv_aload_n hx hb dX0_goThrough_23 rfl (lv_at hl 1 rfl) ?_
      refine lv_aload_n hx hb dX0_goThrough_24 rfl (lv_at hl 2 rfl) ?_
      refine lv_aload_n hx hb dX0_goThrough_25 rfl (lv_at hl 1 rfl) ?_
      refine gv_0_4 (v := eL pl) C hP hQ0.1.1.1 hQ0.1.1.2 (hQ0.1.2.2.2.2.2.1) tm_294 dX0_goThrough_26 ?_
      refine lv_lconst (v := 1) hx hb dX0_goThrough_29 (by decide) ?_
      refine lv_ladd hx hb dX0_goThrough_30 ?_
      rw [eL_1]
      refine pc_V (As := [.ref r, .long (lN pl)]) (rest := []) (r := some (.int 1)) C (p_g (S := S) (P := P) (ev := pl) (bb := bb) (w := pl) hG hQ0.1 hQ0.2 hg (hV.1 pl) (hV.2 pl hp0 hgo) hI (by omega) (by omega) hho hpg h14) tm_464 tm_466 tm_885 tm_9 tm_467 hdX0_passes hR0 (rcv_0 C hP hQ0.1.1.1 hQ0.1.1.2) hl.1 rfl (Nat.le_of_ble_eq_true rfl) dX0_goThrough_31 hC0 hP hD hS (fun S1 H locs hQ hP hD hS => ?_)
      have hX1 : ag (Xc a h b P0 j) S S1 := by rw [← Xc_P h9]; exact hQ.1
      have hQo : a ∈ mL S1 ∧ mK S1 a = 0 := hQ.2.1.1.1
      have f4 : mJ S1 4 a = eL pl := hQ.2.1.1.2.2.2.2.2.1
      refine lv_if_ne (tgt := 51) hx hb dX0_goThrough_34 (by decide) (fun _ => ?_) (fun h9 => absurd h9 (by decide))
      refine lv_aload_n hx hb dX0_goThrough_51 rfl (lv_at hl 1 rfl) ?_
      refine lv_dup hx hb dX0_goThrough_52 rfl ?_
      refine gv_0_4 (v := eL pl) C hP hQo.1 hQo.2 (f4) tm_294 dX0_goThrough_53 ?_
      refine lv_lconst (v := 1) hx hb dX0_goThrough_56 (by decide) ?_
      refine lv_ladd hx hb dX0_goThrough_57 ?_
      refine pf_0_4 (v := (eL pl) + 1) C hP hD hS hQo.1 hQo.2 tm_294 dX0_goThrough_58 (fun H locs hP hD hS => ?_)
      refine lv_iinc (v := nI i + 1) (lv' := [(5, .int (nI i + 1)), (0, .ref a), (1, .ref r), (2, .long (eL fr)), (4, .int (nI M))]) hx hb dX0_goThrough_61 hl (k := 0) rfl (by first | rfl | decide) (by decide) rfl (fun ls hl => ?_)
      refine lv_goto (tgt := 7) hx hb dX0_goThrough_64 (by decide) ?_
      rw [nI_1] at hl
      have hX2 : ag (fun q => q = a) S1 (uJ S1 4 a (eL pl + 1)) := ag_uJ rfl
      have hX3 : ag (Xc a h b P0 j) S (uJ S1 4 a (eL pl + 1)) := ag_tr hX1 (ag_mo hX2 (fun q e => Or.inl e))
      exact ih (i + 1) (stq P j 0 1 1) _ (pl + 1) (bb) (by omega) (by omega) (go_back hQ.2.1 (Nat.le_succ _)) (go_RB hQ.2.1 (hQ.2.2 B pB hB0)) (bInv_stq (hI)) stq_14 (stq_13 (rfl) hev) (by omega) (by omega) (rgA_ag hX3 hg) (RV_ag hX3 nv ng ((congrFun stq_J 5).trans (rfl)) ((stq_k (by decide) (by decide) (by decide)).trans (rfl)) hV) (((congrFun (stq_k (by decide) (by decide) (by decide)) j).trans (rfl)).trans h9) (ag_tr hX hX3) hR H locs ls hP hD hS (lv_sub hl [0, 1, 2, 3, 4] rfl)
    · rw [if_neg (fun q => hgo (by have := q.1; rw [hpl, hfar] at this; exact (nIm_lm (by omega) (by omega)).mp this))] at hR
      refine lv_iload hx hb dX0_goThrough_7 (lv_at hl 0 rfl) ?_
      refine lv_iload hx hb dX0_goThrough_9 (lv_at hl 4 rfl) ?_
      refine lv_icmp_ge (tgt := 67) hx hb dX0_goThrough_11 (by decide) (fun h9 => absurd h9 (nI_ge (by omega) (by omega))) (fun _ => ?_)
      refine lv_aload_n hx hb dX0_goThrough_14 rfl (lv_at hl 1 rfl) ?_
      refine gv_0_4 (v := eL pl) C hP hQ0.1.1.1 hQ0.1.1.2 (hQ0.1.2.2.2.2.2.1) tm_294 dX0_goThrough_15 ?_
      refine lv_lload_n hx hb dX0_goThrough_18 rfl (lv_at hl 3 rfl) ?_
      refine W.lcmp hx hb dX0_goThrough_19 ?_
      refine lv_if_ge (tgt := 67) hx hb dX0_goThrough_20 (by decide) (fun _ => ?_) (fun h9 => absurd ((lg_cmp_ge ..).mpr ((eL_le (by omega) (by omega)).mpr (by omega))) h9)
      exact kk _ _ _ H locs ls hR hX ⟨pl, hQ0, hpl, hp8⟩ hP hD hS (lv_sub hl [0] rfl)
end Go1
abbrev rmX0_goThrough : Room := { frames := 4, cells := 0, slots := 0, locals := 94 }
set_option maxRecDepth 100000 in
theorem c_go {l : Launch} {s0 : State} {D : va_G} {cA : Nat → ClassId} (hG : cx_G l s0 D cA) {S : Mem} {a h b j pq hq r v g u N M fr bb : Nat} {po : Option Nat} {P : MS} {far : Int32}  (hc : RC S a h po P j pq hq pq) (hh : RH S h b P j) (hg : rgA S r v g u N) (hV : RV S v g N P pq fr) (hI : bInv P j N bb) (hbb : bb < 2 ^ 29) (h14 : qI P 14 j = 0) (hpl : qI P 13 j = nI pq - 1) (hp8 : pq ≤ 8208) (hM : M ≤ 20) (hfar : far = nI fr - 1) (hfr : fr ≤ 8208) : PC l s0 D cA yX0_goThrough cX0_goThrough 6 (some .int) rmX0_goThrough [.ref a, .ref r, .long (eL fr), .int (nI M)] S (some (.int (bt far j N P M 0 P).2)) (fun S1 => ag (Xc a h b P j) S S1 ∧ ∃ pq, RQ S1 a h b po (bt far j N P M 0 P).1 j pq hq pq ∧ qI (bt far j N P M 0 P).1 13 j = nI pq - 1 ∧ pq ≤ 8208) := by
  refine Ct.of (cA := cA) hG (by decide +kernel) (Nat.le_of_ble_eq_true rfl) ?_
  intro p e s m below meth c A C hnm hP hD hS ls hl
  have hx := cx_x C
  have hb := cx_b C
  have hl : lv_has ls 6 [(0, .ref a), (1, .ref r), (2, .long (eL fr)), (4, .int (nI M))] := hl
  refine lv_aload_n hx hb dX0_goThrough_0 rfl (lv_at hl 0 rfl) ?_
  refine pc_V (As := []) (rest := []) (r := none) C (c_start (S := S) hG hc hh) tm_445 tm_447 tm_884 tm_9 tm_448 hdX0_startBatch ⟨Nat.le_of_ble_eq_true rfl, Nat.le_of_ble_eq_true rfl⟩ (rcv_0 C hP hc.1.1 hc.1.2) hl.1 rfl (Nat.le_of_ble_eq_true rfl) dX0_goThrough_1 ⟨Nat.le_of_ble_eq_true rfl, Nat.le_of_ble_eq_true rfl⟩ hP hD hS (fun S1 H locs hQ hP hD hS => ?_)
  refine lv_iconst (v := 0) hx hb dX0_goThrough_4 (by decide) ?_
  refine lv_istore (lv' := [(5, .int 0), (0, .ref a), (1, .ref r), (2, .long (eL fr)), (4, .int (nI M))]) hx hb dX0_goThrough_5 hl (by decide) rfl (fun ls hl => ?_)
  refine lp_go (R := rmX0_goThrough) (S0 := S) (P0 := P) (B := P) (hq := hq) (M := M) (fr := fr) (pB := pq) (p0 := pq) (R0 := bt far j N P M 0 P) C hG hM hfar hfr hp8 hpl ⟨Nat.le_of_ble_eq_true rfl, Nat.le_of_ble_eq_true rfl⟩ ⟨Nat.le_of_ble_eq_true rfl, Nat.le_of_ble_eq_true rfl⟩ (fun T S2 x H locs ls hR hX hF hP hD hS => ?_) (fun T S2 x H locs ls hR hX hF hP hD hS hl => ?_) M 0 P S1 pq bb (by omega) (by omega) hQ.2.1 hQ.2.2 hI h14 hpl hp8 (Nat.le_refl _) (rgA_ag hQ.1 hg) (RV_ag hQ.1 (Xc_k hc.1.2 hh (Or.inl hg.2.2.1.2.1)) (Xc_k hc.1.2 hh (Or.inr (Or.inl hg.2.2.2.1.2.1))) rfl rfl hV) rfl hQ.1 rfl _ _ ls hP hD hS (lv_sub hl [0, 1, 2, 3, 4] rfl)
  · exact ct_iret C hS hP hD (⟨by rw [← hR], _, rfl, hX, by rw [← hR]; exact hF⟩) (Nat.le_of_ble_eq_true rfl) (Nat.le_of_ble_eq_true rfl) dX0_goThrough_50
  refine lv_iload hx hb dX0_goThrough_67 (lv_at hl 0 rfl) ?_
  exact ct_iret C hS hP hD (⟨by rw [← hR], _, rfl, hX, by rw [← hR]; exact hF⟩) (Nat.le_of_ble_eq_true rfl) (Nat.le_of_ble_eq_true rfl) dX0_goThrough_69
