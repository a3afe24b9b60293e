/-! ===== what always holds stays so: a run ===== -/
section Wf2
variable {K : Nat} {P T : MS} {j t : Nat}
theorem WF_0 {v : Int32} (h : WF K P) : WF K (sS P 0 v) := h
theorem WF_mo {K2 : Nat} (h : WF K P) (hk : K ≤ K2) : WF K2 P := by
  obtain ⟨⟨a1, ⟨a2, a3⟩, a4, a5⟩, b, c⟩ := h
  refine ⟨⟨a1, ⟨a2, by omega⟩, a4, a5⟩, fun j hj => ?_, c⟩
  obtain ⟨b1, b2, b3, b4, b5, b6, b7⟩ := b j hj
  exact ⟨b1, b2, b3, b4, b5, bInv_mo b6 (by omega), b7⟩
theorem WF_run {Z : Nat → Prop} (h : WF K P) (hj : j < nC P) (F : frJ Z j t P T) (hZ : ∀ k, k < 13 → ¬ Z k) (hb : bInv T j (zN P) (20 * (K + 1)))
    (hA : qI T 13 j = nI (zp T j) - 1 ∧ zp T j ≤ za P ∧ ∀ k, k < j → (zo P j).testBit k = true → zP P j = 0 → zp T j ≤ zw P k)
    (hB : qI T 20 j = nI (zh T j) - 1 ∧ zh T j ≤ 9000 ∧ (zP P j ≠ 0 → zh T j ≤ zt T (zP P j - 1)))
    (hC : ∀ i, i < nC P → zw P i ≤ zw T i) (hE : ∀ u, u < 2 → zt P u ≤ zt T u) (hD : ∀ u, u < 2 → W3 T u) : WF (K + 1) T := by
  obtain ⟨F1, F2, F3, F4, F5, F6, F7⟩ := F
  have ec : zc T = zc P := by unfold zc; rw [F1]
  have ea : za T = za P := by unfold za; rw [F1]
  have eN : zN T = zN P := by unfold zN; rw [F1]
  have en : nC T = nC P := by unfold nC; rw [F1]
  have q10 : ∀ i, qI T 10 i = qI P 10 i := fun i => F3 10 i (Or.inr (hZ 10 (by decide))) (by decide) (by decide)
  have q11 : ∀ i, qI T 11 i = qI P 11 i := fun i => F3 11 i (Or.inr (hZ 11 (by decide))) (by decide) (by decide)
  have q12 : ∀ i, qI T 12 i = qI P 12 i := fun i => F3 12 i (Or.inr (hZ 12 (by decide))) (by decide) (by decide)
  have q9 : ∀ i, qI T 9 i = qI P 9 i := fun i => F3 9 i (Or.inr (hZ 9 (by decide))) (by decide) (by decide)
  have q2 : ∀ i, qI T 2 i = qI P 2 i := fun i => F3 2 i (Or.inr (hZ 2 (by decide))) (by decide) (by decide)
  have q6 : ∀ i, qI T 6 i = qI P 6 i := fun i => F3 6 i (Or.inr (hZ 6 (by decide))) (by decide) (by decide)
  have q7 : ∀ i, qI T 7 i = qI P 7 i := fun i => F3 7 i (Or.inr (hZ 7 (by decide))) (by decide) (by decide)
  have eo : zo T = zo P := funext fun i => by unfold zo; rw [q10]
  have eP : zP T = zP P := funext fun i => by unfold zP; rw [q12]
  have el : zl T = zl P := funext fun i => by unfold zl; rw [q7]
  have em : zm T = zm P := funext fun i => by unfold zm; rw [q2]
  have eg : zg T = zg P := funext fun i => by unfold zg; rw [q6]
  have o13 : ∀ i, i ≠ j → qI T 13 i = qI P 13 i := fun i hi => F3 13 i (Or.inl hi) (by decide) (by decide)
  have o20 : ∀ i, i ≠ j → qI T 20 i = qI P 20 i := fun i hi => F3 20 i (Or.inl hi) (by decide) (by decide)
  have ep : ∀ i, i ≠ j → zp T i = zp P i := fun i hi => by unfold zp; rw [o13 i hi]
  have eh : ∀ i, i ≠ j → zh T i = zh P i := fun i hi => by unfold zh; rw [o20 i hi]
  obtain ⟨⟨⟨a1, a2⟩, ⟨a3, a4⟩, ⟨a5, a6⟩, ⟨a7, a8⟩⟩, b, c, d, e, f, ⟨g1, g2⟩, i9⟩ := h
  refine ⟨⟨?_, ?_, ?_, ?_⟩, ?_, hD, ?_, ?_, ?_, ⟨?_, ?_⟩, ?_⟩
  · rw [eN, F1]; exact ⟨a1, a2⟩
  · rw [ec, F1]; exact ⟨a3, by omega⟩
  · rw [ea, ec, F1]; exact ⟨a5, a6⟩
  · rw [en, F1]; exact ⟨a7, a8⟩
  · intro i hi
    rw [en] at hi
    obtain ⟨b1, b2, b3, ⟨b4, b5, b6⟩, b7, b8, b9⟩ := b i hi
    by_cases c1 : i = j
    · subst c1
      unfold W2
      rw [eo, eP, ea, eN, q10, q12, q11]
      exact ⟨b1, b2, ⟨hA.1, hA.2.1⟩, hB, b7, hb, fun k hk hbt h0 => Nat.le_trans (hA.2.2 k hk hbt h0) (hC k (by omega))⟩
    · unfold W2
      rw [eo, eP, ea, eN, q10, q12, q11, o13 i c1, o20 i c1, ep i c1, eh i c1]
      refine ⟨b1, b2, b3, ⟨b4, b5, fun h0 => Nat.le_trans (b6 h0) (hE _ (by have := b2.2; omega))⟩, b7, ?_, fun k hk hbt h0 => Nat.le_trans (b9 k hk hbt h0) (hC k (by omega))⟩
      refine bInv_mo (bInv_of b8 (by rw [F1]) (q9 i) (q11 i) (F7 i c1).2.1 (F7 i c1).2.2 ?_ ?_) (by omega)
      · exact F3 15 i (Or.inl c1) (by decide) (by decide)
      · exact F3 25 i (Or.inl c1) (by decide) (by decide)
  · rw [en, eP, eo]; exact d
  · intro s hs
    rw [ec] at hs
    unfold W6
    rw [q2, em, ea, el, eN]
    exact e s hs
  · intro s hs
    rw [eN] at hs
    unfold W7
    rw [q7, q6, em, el, eN, ec, eg]
    exact f s hs
  · rw [ec, eN, ea]; exact g1
  · intro i hi
    rw [en] at hi
    rw [ec, eN]
    exact Nat.le_trans (g2 i hi) (Nat.add_le_add_left (hC i hi) _)
  · intro i h1 h2
    rw [en] at h1
    have hij : i ≠ j := by omega
    unfold W9
    rw [F3 14 i (Or.inl hij) (by decide) (by decide), F3 15 i (Or.inl hij) (by decide) (by decide), F3 16 i (Or.inl hij) (by decide) (by decide), F3 17 i (Or.inl hij) (by decide) (by decide), F3 19 i (Or.inl hij) (by decide) (by decide), F3 25 i (Or.inl hij) (by decide) (by decide), (F7 i hij).1, (F7 i hij).2.1, (F7 i hij).2.2]
    exact i9 i h1 h2
/-- a batch -/
theorem WF_bt (h : WF K P) (hK : K ≤ 511) (hj : j < nC P) (h0 : zP P j = 0) {M : Nat} (hM : M ≤ 20) : WF (K + 1) (bt (nI (zb P j) - 1) j (zN P) P M 0 P).1 ∧ frJ Zb j 2 P (bt (nI (zb P j) - 1) j (zN P) P M 0 P).1 := by
  have hc := wf_c h (by omega)
  obtain ⟨z1, z2⟩ := zb_le h hj
  obtain ⟨b1, b2, ⟨b3, b3'⟩, ⟨b4, b5, b6⟩, b7, b8, b9⟩ := h.2.1 j hj
  obtain ⟨F, hI, pn, e1, e2, e3⟩ := bt_ok (fr := zb P j) (by omega) (by omega) b3 b8 M 0 P (zp P j) (20 * K) b3 (Nat.le_refl _) (Or.inl rfl) b8 (Nat.le_refl _) (by omega)
  generalize (bt (nI (zb P j) - 1) j (zN P) P M 0 P).1 = T at F hI e1 ⊢
  have hp : zp T j = pn := cl1 e1 (by omega)
  have q20 : ∀ i, qI T 20 i = qI P 20 i := fun i => F.2.2.1 20 i (Or.inr (by unfold Zb; omega)) (by decide) (by decide)
  have q12 : ∀ i, qI T 12 i = qI P 12 i := fun i => F.2.2.1 12 i (Or.inr (by unfold Zb; omega)) (by decide) (by decide)
  have q10 : ∀ i, qI T 10 i = qI P 10 i := fun i => F.2.2.1 10 i (Or.inr (by unfold Zb; omega)) (by decide) (by decide)
  have eh : zh T = zh P := funext fun i => by unfold zh; rw [q20]
  have eP : zP T = zP P := funext fun i => by unfold zP; rw [q12]
  have eo : zo T = zo P := funext fun i => by unfold zo; rw [q10]
  have en : nC T = nC P := by unfold nC; rw [F.1]
  have ea : za T = za P := by unfold za; rw [F.1]
  have et : ∀ u, u < 2 → zt T u = zt P u := fun u hu => by unfold zt; rw [F.2.2.2.1 u (by omega)]
  have mono : ∀ i, i < nC P → zw P i ≤ zw T i := fun i hi => by
    unfold zw
    rw [eP, eh, en]
    by_cases c : zP P i = 0
    · rw [if_pos c, if_pos c]
      by_cases c1 : i = j
      · subst c1; rw [hp]; exact e2
      · unfold zp; rw [F.2.2.1 13 i (Or.inl c1) (by decide) (by decide)]; exact Nat.le_refl _
    · have := (h.2.1 i hi).2.1.2
      rw [if_neg c, if_neg c, et _ (by omega)]; exact Nat.le_refl _
  have tt : ∀ u, u < 2 → zt P u ≤ zt T u := fun u hu => Nat.le_of_eq (et u hu).symm
  refine ⟨WF_run h hj F (fun k hk => by unfold Zb; omega) (bInv_mo hI (by omega)) ⟨by rw [hp]; exact e1, by omega, fun k hk hb _ => ?_⟩ ?_ mono tt (fun u hu => ?_), F⟩
  · have := b9 k hk hb h0
    have := z2 k hk hb
    omega
  · rw [eh, q20]
    exact ⟨b4, b5, fun q => absurd h0 q⟩
  · obtain ⟨w1, w2, w3⟩ := h.2.2.1 u hu
    unfold W3
    rw [et u hu, F.2.2.2.1 u (by omega), en, eP, eh, ea, eo]
    refine ⟨w1, w2, fun e he => ?_⟩
    rcases w3 e he with q | ⟨q1, q2⟩
    · exact Or.inl q
    · exact Or.inr ⟨q1, fun i hi hp k hk hb => Nat.lt_of_lt_of_le (q2 i hi hp k hk hb) (mono k (by omega))⟩
/-- a worker's turn -/
theorem WF_wk (h : WF K P) (hK : K ≤ 511) (hj : j < nC P) (ht : t < 2) (h0 : zP P j = t + 1) {M : Nat} (hM : M ≤ 20) : WF (K + 1) (wk (nI (zb P j) - 1) j t (zN P) M 0 P).1 ∧ frJ Zw j t P (wk (nI (zb P j) - 1) j t (zN P) M 0 P).1 := by
  have hc := wf_c h (by omega)
  obtain ⟨z1, z2⟩ := zb_le h hj
  obtain ⟨b1, b2, ⟨b3, b3'⟩, ⟨b4, b5, b6⟩, b7, b8, b9⟩ := h.2.1 j hj
  obtain ⟨⟨w1, w2⟩, -, w3⟩ := h.2.2.1 t ht
  have ht8 := zt_a h ht
  have b6' : zh P j ≤ zt P t := by have := b6 (by omega); rw [h0] at this; exact this
  obtain ⟨F, hI, hn, tn, e1, e2, e3, e4, e5, e6, e7⟩ := wk_ok (fr := zb P j) (sl := zN P) (by omega) M 0 P (zh P j) (zt P t) (20 * K) b4 w1 b6' (by omega) b8 (by omega)
  generalize (wk (nI (zb P j) - 1) j t (zN P) M 0 P).1 = T at F hI e1 e2 ⊢
  have hp : zh T j = hn := cl1 e1 (by omega)
  have htn : zt T t = tn := cl0 e2 (by omega)
  have q13 : ∀ i, qI T 13 i = qI P 13 i := fun i => F.2.2.1 13 i (Or.inr (by unfold Zw; omega)) (by decide) (by decide)
  have q12 : ∀ i, qI T 12 i = qI P 12 i := fun i => F.2.2.1 12 i (Or.inr (by unfold Zw; omega)) (by decide) (by decide)
  have q10 : ∀ i, qI T 10 i = qI P 10 i := fun i => F.2.2.1 10 i (Or.inr (by unfold Zw; omega)) (by decide) (by decide)
  have ep : zp T = zp P := funext fun i => by unfold zp; rw [q13]
  have eP : zP T = zP P := funext fun i => by unfold zP; rw [q12]
  have eo : zo T = zo P := funext fun i => by unfold zo; rw [q10]
  have en : nC T = nC P := by unfold nC; rw [F.1]
  have ea : za T = za P := by unfold za; rw [F.1]
  have eh : ∀ i, i ≠ j → zh T i = zh P i := fun i hi => by unfold zh; rw [F.2.2.1 20 i (Or.inl hi) (by decide) (by decide)]
  have et : ∀ u, u ≠ t → zt T u = zt P u := fun u hu => by unfold zt; rw [F.2.2.2.1 u hu]
  have tt : ∀ u, u < 2 → zt P u ≤ zt T u := fun u hu => by
    by_cases c : u = t
    · subst c; rw [htn]; exact e4
    · exact Nat.le_of_eq (et u c).symm
  have mono : ∀ i, i < nC P → zw P i ≤ zw T i := fun i hi => by
    unfold zw
    rw [eP, ep, en]
    by_cases c : zP P i = 0
    · rw [if_pos c, if_pos c]; exact Nat.le_refl _
    · have hi2 := (h.2.1 i hi).2.1.2
      rw [if_neg c, if_neg c]
      obtain ⟨m1, m2⟩ := (mh_iff (f := zP P) (q := zh P) (t := zP P i) (tk := zt P (zP P i - 1)) (y := mh (zP P) (zh P) (zP P i) (zt P (zP P i - 1)) (nC P)) (nC P)).mp (Nat.le_refl _)
      refine (mh_iff _).mpr ⟨Nat.le_trans m1 (tt _ (by omega)), fun k hk f1 f2 => ?_⟩
      by_cases ck : k = j
      · subst ck
        have hti : zP P i = t + 1 := by omega
        rw [hti] at m1 m2 ⊢
        have m1' : mh (zP P) (zh P) (t + 1) (zt P (t + 1 - 1)) (nC P) ≤ zt P t := m1
        rw [hp] at f2 ⊢
        rcases e6 with q | q | q
        · omega
        · have := m2 k hk (by omega) (by omega); omega
        · omega
      · rw [eh k ck] at f2 ⊢
        exact m2 k hk f1 f2
  refine ⟨WF_run h hj F (fun k hk => by unfold Zw; omega) (bInv_mo hI (by omega)) ⟨by rw [ep, q13]; exact b3, by rw [ep]; exact b3', fun k hk hb q => by omega⟩ ⟨by rw [hp]; exact e1, by omega, fun _ => by rw [hp, h0]; show hn ≤ zt T t; rw [htn]; exact e3⟩ mono tt (fun u hu => ?_), F⟩
  by_cases c : u = t
  · subst c
    unfold W3
    rw [htn, en, eP, ea, eo]
    refine ⟨⟨e2, by omega⟩, fun q => absurd h0 (q j hj), fun e he => ?_⟩
    rcases e7 e he with ⟨q1, q2⟩ | q | q
    · rcases w3 e q1 with ⟨i, r1, r2, r3⟩ | ⟨r1, r2⟩
      · refine Or.inl ⟨i, r1, r2, ?_⟩
        rw [eh i (fun ei => by subst ei; omega)]; exact r3
      · exact Or.inr ⟨r1, fun i hi hp k hk hb => Nat.lt_of_lt_of_le (r2 i hi hp k hk hb) (mono k (by omega))⟩
    · exact Or.inl ⟨j, hj, h0, by rw [hp]; exact q.symm⟩
    · refine Or.inr ⟨by omega, fun i hi hp k hk hb => ?_⟩
      have hoo := h.2.2.2.1 i j hi hj (by omega) (by omega)
      rw [hoo] at hb
      have hkj : k < j := by
        rcases Nat.lt_or_ge k j with q | q
        · exact q
        · rw [bit_lt b1.2 q] at hb; exact absurd hb (by decide)
      exact Nat.lt_of_lt_of_le q (Nat.le_trans (z2 k hkj hb) (mono k (by omega)))
  · obtain ⟨x1, x2, x3⟩ := h.2.2.1 u hu
    unfold W3
    rw [et u c, F.2.2.2.1 u c, en, eP, ea, eo]
    refine ⟨x1, x2, fun e he => ?_⟩
    rcases x3 e he with ⟨i, r1, r2, r3⟩ | ⟨r1, r2⟩
    · refine Or.inl ⟨i, r1, r2, ?_⟩
      rw [eh i (fun ei => by subst ei; omega)]; exact r3
    · exact Or.inr ⟨r1, fun i hi hp k hk hb => Nat.lt_of_lt_of_le (r2 i hi hp k hk hb) (mono k (by omega))⟩
end Wf2
