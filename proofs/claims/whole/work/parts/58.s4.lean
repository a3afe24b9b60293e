/-! ===== the relation, where one consumer has changed ===== -/
theorem RH_PP {S : Mem} {h b j : Nat} {P T : MS} (h9 : qI T 9 j = qI P 9 j) (h22 : qJ T 22 j = qJ P 22 j) (hF : qF T j = qF P j) (hD : qD T j = qD P j) (h15 : qI T 15 j = qI P 15 j) (h25 : qI T 25 j = qI P 25 j) (h26 : ∀ q, 400 * j ≤ q → q < 400 * j + 400 → qI T 26 q = qI P 26 q) (r : RH S h b P j) : RH S h b T j := by
  unfold RH
  rw [h9, h22, hF, hD, h15, h25]
  rcases r with r | r | r | ⟨k, z, hz, hJ, e, hR⟩
  · exact Or.inl r
  · exact Or.inr (Or.inl r)
  · exact Or.inr (Or.inr (Or.inl r))
  · exact Or.inr (Or.inr (Or.inr ⟨k, z, hz, hJ, e, fun i hi => (hR i hi).trans (h26 _ (by omega) (by omega)).symm⟩))
section S4
variable {K : Nat} {S T : Mem} {P Q : MS} {x r ca pa v g u j t : Nat} {A1 hd bb pt pw sz : Nat → Nat} {wi : Nat → Nat → Nat} {X Z : Nat → Prop}
theorem RSc_one (hx : ag X S T) (F : frJ Z j t P Q) (hZ : ∀ k, k < 13 → ¬ Z k) (hj : j < nC P) (hX : ∀ q, X q → q = A1 j ∨ q = hd j ∨ (qI P 9 j = 3 ∧ q = bb j) ∨ (t < 2 ∧ q = pt t))
    (hq : RC T (A1 j) (hd j) (poZ (zP P j) pt) Q j (zp Q j) (zh Q j) (zp Q j) ∧ RH T (hd j) (bb j) Q j) (hp : t < 2 → zP P j = t + 1 ∧ RP T (pt t) (pw t) (fun k => mI S k (pt t)) t Q (zt Q t)) (h20 : zh Q j ≤ 9000)
    (h : RSc S P ca pa A1 hd bb pt pw sz wi) : RSc T Q ca pa A1 hd bb pt pw sz wi := by
  obtain ⟨F1, F2, F3, F4, F5, F6, F7⟩ := F
  obtain ⟨h1, h2, h3, h4⟩ := h
  have q10 : ∀ i, qI Q 10 i = qI P 10 i := fun i => F3 10 i (Or.inr (hZ 10 (by decide))) (by decide) (by decide)
  have q12 : ∀ i, qI Q 12 i = qI P 12 i := fun i => F3 12 i (Or.inr (hZ 12 (by decide))) (by decide) (by decide)
  have q9 : ∀ i, qI Q 9 i = qI P 9 i := fun i => F3 9 i (Or.inr (hZ 9 (by decide))) (by decide) (by decide)
  have en : nC Q = nC P := by unfold nC; rw [F1]
  have eP : zP Q = zP P := funext fun i => by unfold zP; rw [q12]
  have ep : ∀ i, i ≠ j → zp Q i = zp P i := fun i hi => by unfold zp; rw [F3 13 i (Or.inl hi) (by decide) (by decide)]
  have eh : ∀ i, i ≠ j → zh Q i = zh P i := fun i hi => by unfold zh; rw [F3 20 i (Or.inl hi) (by decide) (by decide)]
  have et : ∀ i, i ≠ t → zt Q i = zt P i := fun i hi => by unfold zt; rw [F4 i hi]
  have kA : ∀ i, i < nC P → mK S (A1 i) = 0 := fun i hi => (h1 i hi).1.1.2
  have kh : ∀ i, i < nC P → mK S (hd i) = 6 ∨ mK S (hd i) = 5 ∨ mK S (hd i) = 2 ∨ mK S (hd i) = 1 := fun i hi => (RH_kind (h1 i hi).2).1
  have kb : ∀ i, i < nC P → qI P 9 i = 3 → mK S (bb i) = 9 := fun i hi => (RH_kind (h1 i hi).2).2
  have kp : t < 2 → mK S (pt t) = 3 := fun ht => by
    rcases h3 t ht with ⟨a, -⟩ | a
    · exact absurd (hp ht).1 (a j hj)
    · exact a.2.1.1.2
  have nA : ∀ i, i < nC P → i ≠ j → ¬ X (A1 i) := fun i hi hij e => by
    have k1 := kA i hi
    rcases hX _ e with e | e | ⟨e1, e⟩ | ⟨e1, e⟩
    · exact (h2 i j hi hj hij).1 e
    · rw [e] at k1; have := kh j hj; omega
    · rw [e] at k1; have := kb j hj e1; omega
    · rw [e] at k1; have := kp e1; omega
  have nh : ∀ i, i < nC P → i ≠ j → ¬ X (hd i) := fun i hi hij e => by
    have k1 := kh i hi
    rcases hX _ e with e | e | ⟨e1, e⟩ | ⟨e1, e⟩
    · rw [e] at k1; have := kA j hj; omega
    · exact (h2 i j hi hj hij).2.1 e
    · rw [e] at k1; have := kb j hj e1; omega
    · rw [e] at k1; have := kp e1; omega
  have nb : ∀ i, i < nC P → i ≠ j → qI P 9 i = 3 → ¬ X (bb i) := fun i hi hij e3 e => by
    have k1 := kb i hi e3
    rcases hX _ e with e | e | ⟨e1, e⟩ | ⟨e1, e⟩
    · rw [e] at k1; have := kA j hj; omega
    · rw [e] at k1; have := kh j hj; omega
    · exact (h2 i j hi hj hij).2.2 e3 e1 e
    · rw [e] at k1; have := kp e1; omega
  refine ⟨?_, ?_, ?_, ?_⟩
  · intro i hi
    rw [en] at hi
    by_cases c : i = j
    · subst c; rw [eP]; exact hq
    · rw [eP, ep i c, eh i c]
      have g := fun k h1 h2 => F3 k i (Or.inl c) h1 h2
      refine ⟨RC_PP (g 10 (by decide) (by decide)) (g 11 (by decide) (by decide)) (g 14 (by decide) (by decide)) (g 15 (by decide) (by decide)) (g 16 (by decide) (by decide)) (g 17 (by decide) (by decide)) (g 18 (by decide) (by decide)) (g 19 (by decide) (by decide)) (RC_ag hx (nA i hi c) (h1 i hi).1), ?_⟩
      exact RH_PP (g 9 (by decide) (by decide)) (F7 i c).1 (F7 i c).2.1 (F7 i c).2.2 (g 15 (by decide) (by decide)) (g 25 (by decide) (by decide)) (fun q a b => F5 q (by omega)) (RH_ag hx (nh i hi c) (nb i hi c) (h1 i hi).2)
  · intro i k hi hk hik
    rw [en] at hi hk
    rw [q9, q9]
    exact h2 i k hi hk hik
  · intro w hw
    rcases h3 w hw with ⟨a, b⟩ | a
    · exact Or.inl ⟨by rw [en, eP]; exact a, by rw [hx.2.2.2.2.1]; exact b⟩
    · right
      obtain ⟨a1, a2, a3, a4, a5, a6⟩ := a
      have key : RP T (pt w) (pw w) (fun k => mI S k (pt w)) w Q (zt Q w) := by
        by_cases c : w = t
        · subst c; exact (hp hw).2
        · rw [et w c]
          refine RP_ag hx (fun e => ?_) (F4 w c) a2
          have k1 := a2.1.2
          rcases hX _ e with e | e | ⟨e1, e⟩ | ⟨e1, e⟩
          · rw [e] at k1; have := kA j hj; omega
          · rw [e] at k1; have := kh j hj; omega
          · rw [e] at k1; have := kb j hj e1; omega
          · have b1 := (h3 t e1).resolve_left (fun q => q.1 j hj (hp e1).1)
            have b2 := b1.1
            have hne : pt 0 ≠ pt 1 := by
              have : (w = 0 ∧ t = 1) ∨ (w = 1 ∧ t = 0) := by omega
              rcases this with ⟨rfl, rfl⟩ | ⟨rfl, rfl⟩
              · exact (h4.2 a1 b2).1
              · exact (h4.2 b2 a1).1
            have : (w = 0 ∧ t = 1) ∨ (w = 1 ∧ t = 0) := by omega
            rcases this with ⟨rfl, rfl⟩ | ⟨rfl, rfl⟩
            · exact hne e
            · exact hne e.symm
      obtain ⟨p1, p2, p3, p4, p5, p6⟩ := key
      refine ⟨by rw [hx.2.2.2.2.1]; exact a1, ⟨p1, p2, p3, p4, p5, fun _ => rfl⟩, ?_, by rw [en]; exact a4, by rw [en, eP]; exact a5, ?_⟩
      · obtain ⟨w1, w2, w3⟩ := a3
        refine ⟨(p6 2).trans w1, w2, fun i hi => ?_⟩
        obtain ⟨c1, ⟨c2, c3⟩, c4, c5⟩ := w3 i hi
        refine ⟨by rw [hx.2.2.2.2.1]; exact c1, ⟨by rw [hx.1]; exact c2, by rw [hx.2.1]; exact c3⟩, ?_⟩
        by_cases c : wi w i = j
        · show mJ T 5 (A1 (wi w i)) = eL (zh Q (wi w i)) ∧ zh Q (wi w i) ≤ 9000
          rw [c]
          exact ⟨hq.1.2.2.2.2.2.2.1, h20⟩
        · show mJ T 5 (A1 (wi w i)) = eL (zh Q (wi w i)) ∧ zh Q (wi w i) ≤ 9000
          rw [eh _ c]
          exact ⟨((hx.2.2.2.2.2 _ (nA _ (a5 i hi).1 c)).2.1 5).trans c4, c5⟩
      · intro i hi e
        rw [en] at hi
        rw [eP] at e
        exact ⟨(a6 i hi e).1, by rw [p6 0, q10]; exact (a6 i hi e).2⟩
  · unfold RA
    rw [hx.2.2.2.2.1]
    exact h4
/-- the rest of the relation, where the ring isn't touched -/
theorem RS_one (hx : ag X S T) (F : frJ Z j t P Q) (hZ : ∀ k, k < 13 → ¬ Z k) (hX : ∀ q, X q → mK S q = 0 ∨ mK S q = 6 ∨ mK S q = 5 ∨ mK S q = 2 ∨ mK S q = 1 ∨ mK S q = 9 ∨ mK S q = 3)
    (hc : RSc T Q ca pa A1 hd bb pt pw sz wi) (h : RS S P x r ca pa v g u A1 hd bb pt pw sz wi) : RS T Q x r ca pa v g u A1 hd bb pt pw sz wi := by
  obtain ⟨F1, F2, F3, F4, F5, F6, F7⟩ := F
  obtain ⟨h1, h2, ⟨h3, h3'⟩, ⟨⟨g1, g2⟩, g3, g4⟩, h5⟩ := h
  have q10 : ∀ i, qI Q 10 i = qI P 10 i := fun i => F3 10 i (Or.inr (hZ 10 (by decide))) (by decide) (by decide)
  have q2 : ∀ i, qI Q 2 i = qI P 2 i := fun i => F3 2 i (Or.inr (hZ 2 (by decide))) (by decide) (by decide)
  have q7 : ∀ i, qI Q 7 i = qI P 7 i := fun i => F3 7 i (Or.inr (hZ 7 (by decide))) (by decide) (by decide)
  have en : nC Q = nC P := by unfold nC; rw [F1]
  have ec : zc Q = zc P := by unfold zc; rw [F1]
  have ea : za Q = za P := by unfold za; rw [F1]
  have eN : zN Q = zN P := by unfold zN; rw [F1]
  have eo : zo Q = zo P := funext fun i => by unfold zo; rw [q10]
  have el : zl Q = zl P := funext fun i => by unfold zl; rw [q7]
  have em : zm Q = zm P := funext fun i => by unfold zm; rw [q2]
  have nx : ¬ X x := fun e => by have := hX _ e; have := h1.1.2; omega
  have nca : ¬ X ca := fun e => by have := hX _ e; have := h1.2.2.1.2.1; omega
  have nr : ¬ X r := fun e => by have := hX _ e; have := h2.1.2; omega
  have nv : ¬ X v := fun e => by have := hX _ e; have := h2.2.2.1.2.1; omega
  have ng : ¬ X g := fun e => by have := hX _ e; have := h2.2.2.2.1.2.1; omega
  have nu : ¬ X u := fun e => by have := hX _ e; have := h2.2.2.2.2.1.2.1; omega
  refine ⟨?_, ?_, ⟨?_, ?_⟩, ⟨⟨?_, ?_⟩, ?_, ?_⟩, hc⟩
  · rw [en]; exact plA_ex (ex_ag hx) nx nca h1
  · rw [eN]; exact rgA_ag hx h2
  · rw [en, eo]; exact ((hx.2.2.2.2.2 x nx).1 4).trans h3
  · rw [F2]; exact ((hx.2.2.2.2.2 x nx).2.1 5).trans h3'
  · rw [ec]; exact ((hx.2.2.2.2.2 r nr).2.1 3).trans g1
  · rw [ea]; exact ((hx.2.2.2.2.2 r nr).2.1 4).trans g2
  · intro i hi
    rw [eN] at hi
    rw [F6, el, (hx.2.2.2.2.2 v nv).2.2.2.2.2, (hx.2.2.2.2.2 u nu).2.2.2.2.2]
    exact g3 i hi
  · intro s hs hs2
    rw [ec] at hs
    rw [ec, eN] at hs2
    rw [em, eN, (hx.2.2.2.2.2 g ng).2.2.2.2.1]
    exact g4 s hs hs2
/-- a journal torn -/
theorem Rep_tear {z : Nat} (hw : WF K P) (hs : RS S P x r ca pa v g u A1 hd bb pt pw sz wi) (hj : j < nC P) (k3 : qI P 9 j = 3) {z0 : Nat} (hJ : jrA S (hd j) (bb j) z0) (hR : JR S (bb j) P j z0) (hz : z ≤ z0) (hz0 : z0 ≤ 400) : Rep (K + 1) (uI S 1 (hd j) (nI z)) (sI P 25 j (nI z)) x := by
  refine ⟨WF_tear hw hj (by omega), r, ca, pa, v, g, u, A1, hd, bb, pt, pw, sz, wi, ?_⟩
  have hx : ag (fun q => q = hd j) S (uI S 1 (hd j) (nI z)) := ag_uI rfl
  have F : frJ (fun k => k = 25) j 2 P (sI P 25 j (nI z)) := frJ_sI rfl (by decide) (by decide)
  have hC := hs.2.2.2.2.1 j hj
  have kA := hC.1.1.2
  refine RS_one hx F (fun k hk => by omega) (fun q e => by rw [e]; exact Or.inr (Or.inr (Or.inr (Or.inr (Or.inl hJ.1.2))))) ?_ hs
  refine RSc_one hx F (fun k hk => by omega) hj (fun q e => Or.inr (Or.inl e)) ⟨?_, ?_⟩ (fun q => absurd q (by decide)) ?_ hs.2.2.2.2
  · have hA : A1 j ≠ hd j := fun e => by have := hJ.1.2; rw [← e] at this; omega
    exact RC_PP (by rw [sI_k (by decide)]) (by rw [sI_k (by decide)]) (by rw [sI_k (by decide)]) (by rw [sI_k (by decide)]) (by rw [sI_k (by decide)]) (by rw [sI_k (by decide)]) (by rw [sI_k (by decide)]) (by rw [sI_k (by decide)]) (RC_ag hx hA hC.1)
  · have hb : bb j ≠ hd j := fun e => by have := hJ.2.2.1.2.1; rw [e, hJ.1.2] at this; exact absurd this (by decide)
    refine Or.inr (Or.inr (Or.inr ⟨by rw [sI_k (by decide)]; exact k3, z, by omega, ⟨hJ.1, hJ.2.1, hJ.2.2.1, mI_s⟩, qI_s, fun i hi => ?_⟩))
    rw [sI_k (by decide)]
    exact hR i (by omega)
  · have := (hw.2.1 j hj).2.2.2.1.2.1
    exact this
end S4
