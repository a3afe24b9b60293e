/-! ===== what always holds stays so: the other calls ===== -/
theorem sqL_I {P : MS} {g : Int32} {cu k i : Nat} : ∀ M, qI (sqL P g cu M) k i = if k = 2 ∧ cu ≤ i ∧ i < cu + M then gb g else qI P k i
  | 0 => by rw [sqL, if_neg (by omega)]
  | M + 1 => by
    rw [sqL, qI_if, sqL_I M]
    by_cases h : k = 2 ∧ i = cu + M
    · rw [if_pos h, if_pos (by omega)]
    · rw [if_neg h]
      by_cases h2 : k = 2 ∧ cu ≤ i ∧ i < cu + M
      · rw [if_pos h2, if_pos (by omega)]
      · rw [if_neg h2, if_neg (by omega)]
theorem sqL_o {P : MS} {g : Int32} {cu : Nat} : ∀ M, qR (sqL P g cu M) = qR P ∧ qJ (sqL P g cu M) = qJ P ∧ qF (sqL P g cu M) = qF P ∧ qD (sqL P g cu M) = qD P
  | 0 => ⟨rfl, rfl, rfl, rfl⟩
  | M + 1 => sqL_o M
theorem gb_N : ∀ p : Nat, p < 4 → gb (nI p) = nI (1 + p) := by
  have h : ∀ p : Fin 4, gb (nI p.val) = nI (1 + p.val) := by decide +kernel
  exact fun p hp => h ⟨p, hp⟩
theorem gb_8 : ∀ p : Nat, p < 4 → vp_nar .byte ((nI (1 + p) + 8).toInt8.toInt32) = nI (9 + p) := by
  have h : ∀ p : Fin 4, vp_nar .byte ((nI (1 + p.val) + 8).toInt8.toInt32) = nI (9 + p.val) := by decide +kernel
  exact fun p hp => h ⟨p, hp⟩
theorem af_ok {q : Nat → Int32} : ∀ d a, a ≤ af q d a ∧ ∀ s, a ≤ s → s < af q d a → 8 < q s
  | 0, a => ⟨Nat.le_refl _, fun s h1 h2 => absurd h2 (Nat.not_lt.mpr h1)⟩
  | d + 1, a => by
    rw [af]
    by_cases h : 8 < q a
    · rw [if_pos h]
      obtain ⟨i1, i2⟩ := af_ok (q := q) d (a + 1)
      refine ⟨by omega, fun s h1 h2 => ?_⟩
      by_cases e : s = a
      · subst e; exact h
      · exact i2 s (by omega) h2
    · rw [if_neg h]
      exact ⟨Nat.le_refl _, fun s h1 h2 => absurd h2 (Nat.not_lt.mpr h1)⟩
theorem zw_of {P T : MS} (h12 : qI T 12 = qI P 12) (h13 : qI T 13 = qI P 13) (h20 : qI T 20 = qI P 20) (h21 : qI T 21 = qI P 21) (hn : qS T 8 = qS P 8) : zw T = zw P := by
  have eP : zP T = zP P := funext fun i => by unfold zP; rw [h12]
  have ep : zp T = zp P := funext fun i => by unfold zp; rw [h13]
  have eh : zh T = zh P := funext fun i => by unfold zh; rw [h20]
  have et : zt T = zt P := funext fun i => by unfold zt; rw [h21]
  have en : nC T = nC P := by unfold nC; rw [hn]
  exact funext fun i => by unfold zw; rw [eP, ep, eh, et, en]
section Wf3
variable {K : Nat} {P T : MS} {j t : Nat}
theorem WF_R {v : Int64} (h : WF K P) : WF K (sR P v) := h
theorem WF_tear {z : Nat} (h : WF K P) (hj : j < nC P) (hz : z ≤ 400) : WF (K + 1) (sI P 25 j (nI z)) := by
  have e := zw_of (P := P) (T := sI P 25 j (nI z)) (sI_k (by decide)) (sI_k (by decide)) (sI_k (by decide)) (sI_k (by decide)) rfl
  have F : frJ (fun k => k = 25) j 2 P (sI P 25 j (nI z)) := frJ_sI rfl (by decide) (by decide)
  obtain ⟨b1, b2, ⟨b3, b3'⟩, b4, b7, b8, b9⟩ := h.2.1 j hj
  refine WF_run h hj F (fun k hk => by omega) ?_ ⟨?_, ?_, ?_⟩ ?_ (fun i _ => by rw [e]; exact Nat.le_refl _) (fun u _ => Nat.le_of_eq rfl) (fun u hu => ?_)
  · obtain ⟨c1, c2, c3, c4, c5, ⟨q, hq, c6⟩, -⟩ := b8
    exact ⟨c1, c2, c3, c4, c5, ⟨q, by omega, c6⟩, z, hz, qI_s⟩
  · exact b3
  · exact b3'
  · exact b9
  · exact b4
  · have w := h.2.2.1 u hu
    unfold W3
    rw [e]
    exact w
/-- a claim -/
theorem WF_claim {M p : Nat} (h : WF K P) (hK : K ≤ 511) (hM : 1 ≤ M ∧ M ≤ 16) (hp : p < 4) (hr : zc P + M ≤ zN P + zr P) : WF (K + 1) (sS (sqL (sS P 0 0) (nI p) (zc P) M) 3 (qS P 3 + nI M)) := by
  have hc := wf_c h (by omega)
  have I : ∀ k i, qI (sS (sqL (sS P 0 0) (nI p) (zc P) M) 3 (qS P 3 + nI M)) k i = if k = 2 ∧ zc P ≤ i ∧ i < zc P + M then nI (1 + p) else qI P k i := fun k i => by
    rw [← gb_N p hp]; exact sqL_I (P := sS P 0 0) M
  have O := sqL_o (P := sS P 0 0) (g := nI p) (cu := zc P) M
  have S3 : qS (sS (sqL (sS P 0 0) (nI p) (zc P) M) 3 (qS P 3 + nI M)) 3 = qS P 3 + nI M := rfl
  have So : ∀ k, k ≠ 3 → k ≠ 0 → qS (sS (sqL (sS P 0 0) (nI p) (zc P) M) 3 (qS P 3 + nI M)) k = qS P k := fun k h1 h0 => by
    show va_up (qS (sqL (sS P 0 0) (nI p) (zc P) M)) 3 _ k = _
    rw [va_up_ne _ _ h1, sqL_S]
    exact va_up_ne _ _ h0
  have OF : qF (sS (sqL (sS P 0 0) (nI p) (zc P) M) 3 (qS P 3 + nI M)) = qF P := O.2.2.1
  have OD : qD (sS (sqL (sS P 0 0) (nI p) (zc P) M) 3 (qS P 3 + nI M)) = qD P := O.2.2.2
  have OJ : qJ (sS (sqL (sS P 0 0) (nI p) (zc P) M) 3 (qS P 3 + nI M)) = qJ P := O.2.1
  generalize sS (sqL (sS P 0 0) (nI p) (zc P) M) 3 (qS P 3 + nI M) = T at I S3 So OF OD OJ ⊢
  have Ik : ∀ k, k ≠ 2 → qI T k = qI P k := fun k hk => funext fun i => by rw [I, if_neg (fun q => hk q.1)]
  have s3 : qS T 3 = nI (zc P + M) - 1 := by
    rw [S3, h.1.2.1.1, ← nI_add, Int32.sub_eq_add_neg, Int32.sub_eq_add_neg]
    rw [Int32.add_assoc, Int32.add_comm (-1), ← Int32.add_assoc]
  have ec : zc T = zc P + M := cl1 s3 (by omega)
  have ea : za T = za P := by unfold za; rw [So 4 (by decide) (by decide)]
  have eN : zN T = zN P := by unfold zN; rw [So 1 (by decide) (by decide)]
  have en : nC T = nC P := by unfold nC; rw [So 8 (by decide) (by decide)]
  have eo : zo T = zo P := funext fun i => by unfold zo; rw [Ik 10 (by decide)]
  have eP : zP T = zP P := funext fun i => by unfold zP; rw [Ik 12 (by decide)]
  have ep : zp T = zp P := funext fun i => by unfold zp; rw [Ik 13 (by decide)]
  have eh : zh T = zh P := funext fun i => by unfold zh; rw [Ik 20 (by decide)]
  have et : zt T = zt P := funext fun i => by unfold zt; rw [Ik 21 (by decide)]
  have el : zl T = zl P := funext fun i => by unfold zl; rw [Ik 7 (by decide)]
  have eg : zg T = zg P := funext fun i => by unfold zg; rw [Ik 6 (by decide)]
  have ew : zw T = zw P := zw_of (Ik 12 (by decide)) (Ik 13 (by decide)) (Ik 20 (by decide)) (Ik 21 (by decide)) (So 8 (by decide) (by decide))
  have m1 : ∀ s, s < zc P → qI T 2 s = qI P 2 s := fun s hs => by rw [I, if_neg (by omega)]
  have em : ∀ s, s < zc P → zm T s = zm P s := fun s hs => by unfold zm; rw [m1 s hs]
  have hz := (zr_iff h (y := zc P + M - zN P)).mp (by omega)
  have hall : ∀ d i, nC P ≤ i + d → i < nC P → zc P + M ≤ zN P + zw P i := by
    intro d
    induction d with
    | zero => intro i h1 h2; omega
    | succ d ih =>
      intro i h1 h2
      by_cases b : (hgN (zo P) (nC P)).testBit i = true
      · obtain ⟨q, hq, hb⟩ := (hgN_bit (nC P)).mp b
        have hiq : i < q := by
          rcases Nat.lt_or_ge i q with c | c
          · exact c
          · rw [bit_lt (h.2.1 q hq).1.2 c] at hb; exact absurd hb (by decide)
        have := ih q (by omega) hq
        have := (zw_a h hq).2 i hiq hb
        omega
      · have := hz.2 i h2 (Bool.eq_false_iff.mpr b); omega
  obtain ⟨⟨⟨a1, a2⟩, ⟨a3, a4⟩, ⟨a5, a6⟩, ⟨a7, a8⟩⟩, b, c, d, e, f, ⟨g1, g2⟩, i9⟩ := h
  refine ⟨⟨?_, ?_, ?_, ?_⟩, ?_, ?_, ?_, ?_, ?_, ⟨?_, ?_⟩, ?_⟩
  · rw [eN, So 1 (by decide) (by decide)]; exact ⟨a1, a2⟩
  · rw [ec]; exact ⟨s3, by omega⟩
  · rw [ea, ec, So 4 (by decide) (by decide)]; exact ⟨a5, by omega⟩
  · rw [en, So 8 (by decide) (by decide)]; exact ⟨a7, a8⟩
  · intro i hi
    rw [en] at hi
    obtain ⟨b1, b2, b3, b4, b7, b8, b9⟩ := b i hi
    unfold W2
    rw [eo, eP, ep, eh, et, ea, eN, ew, Ik 10 (by decide), Ik 12 (by decide), Ik 13 (by decide), Ik 20 (by decide), Ik 11 (by decide)]
    exact ⟨b1, b2, b3, b4, b7, bInv_mo (bInv_of b8 (So 1 (by decide) (by decide)) (by rw [Ik 9 (by decide)]) (by rw [Ik 11 (by decide)]) (by rw [OF]) (by rw [OD]) (by rw [Ik 15 (by decide)]) (by rw [Ik 25 (by decide)])) (by omega), b9⟩
  · intro u hu
    unfold W3
    rw [et, Ik 21 (by decide), en, eP, eh, ea, eo, ew]
    exact c u hu
  · rw [en, eP, eo]; exact d
  · intro s hs
    rw [ec] at hs
    unfold W6
    rw [ea, el, eN]
    by_cases q : s < zc P
    · rw [m1 s q, em s q]; exact e s q
    · have q2 : qI T 2 s = nI (1 + p) := by rw [I, if_pos (by omega)]
      have q3 : zm T s = 1 + p := cl0 q2 (by omega)
      rw [q3]
      exact ⟨q2, Or.inl (by omega), fun q => by omega, fun q => by omega⟩
  · intro i hi
    rw [eN] at hi
    obtain ⟨⟨f1, f2⟩, f3⟩ := f i hi
    unfold W7
    rw [Ik 7 (by decide), Ik 6 (by decide), el, eN, ec, eg]
    refine ⟨⟨f1, by omega⟩, fun q => ?_⟩
    rw [em _ (by omega)]
    exact f3 q
  · rw [ec, eN, ea]; omega
  · intro i hi
    rw [en] at hi
    rw [ec, eN, ew]
    exact hall (nC P) i (by omega) hi
  · intro i h1 h2
    rw [en] at h1
    unfold W9
    rw [Ik 14 (by decide), Ik 15 (by decide), Ik 16 (by decide), Ik 17 (by decide), Ik 19 (by decide), Ik 25 (by decide), OJ, OF, OD]
    exact i9 i h1 h2
/-- what is published in the slot of an open sequence is older -/
theorem zl_old (h : WF K P) {ev : Nat} (hev : ev < zc P) (ho : zm P ev ≤ 4) : zl P (ev % zN P) ≤ ev := by
  have hN := slN_b h.1.1.2
  have hi : ev % zN P < zN P := Nat.mod_lt _ hN.1
  obtain ⟨⟨f1, f2⟩, f3⟩ := h.2.2.2.2.2.1 _ hi
  by_cases c : zl P (ev % zN P) = 0
  · omega
  · obtain ⟨g1, g2, g3⟩ := f3 c
    have h8 := h.2.2.2.2.2.2.1.1
    rcases Nat.lt_trichotomy (zl P (ev % zN P) - 1) ev with q | q | q
    · omega
    · rw [q] at g3; omega
    · have hd : ev + zN P ≤ zl P (ev % zN P) - 1 := by
        have e1 := Nat.div_add_mod ev (zN P)
        have e2 := Nat.div_add_mod (zl P (ev % zN P) - 1) (zN P)
        rw [g1] at e2
        have : ev / zN P < (zl P (ev % zN P) - 1) / zN P := by
          rcases Nat.lt_or_ge (ev / zN P) ((zl P (ev % zN P) - 1) / zN P) with r | r
          · exact r
          · have := Nat.mul_le_mul_left (zN P) r; omega
        have := Nat.mul_le_mul_left (zN P) this
        rw [Nat.mul_succ] at this
        omega
      have := (h.2.2.2.2.1 ev hev).2.2.1 (by omega)
      omega
end Wf3
