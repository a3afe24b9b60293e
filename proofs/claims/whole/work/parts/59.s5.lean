/-! ===== state, replay, tear, run: class and reference answer alike ===== -/
theorem st_state {l : Launch} {s0 : State} {D : va_G} {cA : Nat → ClassId} {ad : Nat → Nat} {K : Nat} {S : Mem} {P : MS} {x : Nat} (hG : cx_G l s0 D cA) (h : Rep K S P x) (hK : K ≤ 511) (i : Int32) (sq : Int64) : St K S x cd1 Value.long (fun vv Φ => PC l s0 D cA yX8_state cX8_state 4 (some .long) rmX8_state [.ref x, .int i, .long sq] S (some vv) Φ) (fun E => XT l s0 D cA yX8_state cX8_state 4 (some .long) rmT2 [.ref x, .int i, .long sq] S E) (fun vv P1 => MC l s0 D cA ad yX9_state cX9_state 4 (some .long) rmX9_state [.int i, .long sq] P (some vv) P1) := by
  have h0 := h
  obtain ⟨hw, r, ca, pa, v, g, u, A1, hd, bb, pt, pw, sz, wi, hs⟩ := h0
  have hn := hw.1.2.2.2
  have hcc := wf_c hw (by omega)
  have hN := slN_b hcc.2.2.2
  obtain ⟨⟨g1, g2⟩, g3, -⟩ := hs.2.2.2.1
  by_cases i0 : i = 0
  · subst i0
    have hk := k_state_0 (ad := ad) hG sq P
    rw [hw.1.2.1.1, eL_of (by omega)] at hk
    exact Or.inl ⟨(eL (zc P)), sS P 0 0, (c_state0 hG sq hs.1 hs.2.1 g1).mono (fun S1 e => by rw [e]; exact Rep_0 h), hk, rfl⟩
  by_cases i1 : i = 1
  · subst i1
    have hk := k_state_1 (ad := ad) hG sq P
    rw [hw.1.2.2.1.1, eL_of (by omega)] at hk
    exact Or.inl ⟨(eL (za P)), sS P 0 0, (c_state1 hG sq hs.1 hs.2.1 g2).mono (fun S1 e => by rw [e]; exact Rep_0 h), hk, rfl⟩
  by_cases i2 : i = 2
  · subst i2
    by_cases z0 : sq < 0
    · exact Or.inr ⟨"java/lang/IllegalArgumentException", 1, ((0 : Int32).toInt64), sS (sS P 0 0) 0 1, ⟨rfl, rfl⟩, x_state_z hG sq hs.1 hs.2.1 z0, k_state_z hG P (Int64.not_le.mpr z0), rfl, Rep_1 h⟩
    · obtain ⟨k, hk, rfl⟩ := pk_lOf z0
      have hm : k % zN P < zN P := Nat.mod_lt _ hN.1
      have hkk := k_state_2 (ad := ad) hG (z := lN k) (i := k % zN P) P (Int64.not_lt.mp z0) (by rw [hw.1.1.1, nI_l (by omega)]; intro q; rw [show (0 : Int64) = lN 0 by decide, pk_lEQ (by omega) (by omega)] at q; omega) (by rw [hw.1.1.1, nI_l (by omega), pk_lRem hk hN.1 (by omega), lN_i]; exact ix_nI (by omega) (by decide))
      obtain ⟨⟨l1, l2⟩, -⟩ := hw.2.2.2.2.2.1 _ hm
      rw [l1, eL_of (by omega), ← (g3 _ hm).2] at hkk
      exact Or.inl ⟨(maJ S u (k % zN P)), sS P 0 0, (c_state2 hG k hs.1 hs.2.1 hk z0).mono (fun S1 e => by rw [e]; exact Rep_0 h), hkk, rfl⟩
  refine Or.inr ⟨"java/lang/IllegalArgumentException", 1, ((0 : Int32).toInt64), sS (sS P 0 0) 0 1, ⟨rfl, rfl⟩, x_state_no hG i sq hs.1 hs.2.1 i0 i1 i2, k_state_no hG sq P (fun q => ?_), rfl, Rep_1 h⟩
  obtain ⟨a, ha, rfl⟩ := wi_of (n := 3) (by decide) (cn := i) (by rw [show nI 3 - 1 = (2 : Int32) by decide]; exact q)
  have : a = 0 ∨ a = 1 ∨ a = 2 := by omega
  rcases this with rfl | rfl | rfl
  · exact i0 rfl
  · exact i1 rfl
  · exact i2 rfl
theorem st_replayed {l : Launch} {s0 : State} {D : va_G} {cA : Nat → ClassId} {ad : Nat → Nat} {K : Nat} {S : Mem} {P : MS} {x : Nat} (hG : cx_G l s0 D cA) (h : Rep K S P x) (hK : K ≤ 511) : PC l s0 D cA yX8_replayed cX8_replayed 1 (some .long) rmX8_replayed [.ref x] S (some (.long (qR P))) (fun S1 => Rep (K + 1) S1 (sS P 0 0) x) ∧ MC l s0 D cA ad yX9_replayed cX9_replayed 1 (some .long) rmX9_replayed [] P (some (.long (qR P))) (sS P 0 0) := by
  have h0 := h
  obtain ⟨hw, r, ca, pa, v, g, u, A1, hd, bb, pt, pw, sz, wi, hs⟩ := h0
  exact ⟨(c_replayed hG hs.1 hs.2.2.1.2).mono (fun S1 e => by rw [e]; exact Rep_0 h), k_replayed hG P⟩
theorem st_tear {l : Launch} {s0 : State} {D : va_G} {cA : Nat → ClassId} {ad : Nat → Nat} {K : Nat} {S : Mem} {P : MS} {x : Nat} (hG : cx_G l s0 D cA) (h : Rep K S P x) (hK : K ≤ 511) (cn i : Int32) : St K S x cd1 Value.int (fun vv Φ => PC l s0 D cA yX8_tear cX8_tear 4 (some .int) rmX8_tear [.ref x, .int cn, .int i] S (some vv) Φ) (fun E => XT l s0 D cA yX8_tear cX8_tear 4 (some .int) rmT2 [.ref x, .int cn, .int i] S E) (fun vv P1 => MC l s0 D cA ad yX9_tear cX9_tear 3 (some .int) rmX9_tear [.int cn, .int i] P (some vv) P1) := by
  have h0 := h
  obtain ⟨hw, r, ca, pa, v, g, u, A1, hd, bb, pt, pw, sz, wi, hs⟩ := h0
  have hn := hw.1.2.2.2
  by_cases hc : (0 : Int32) ≤ cn ∧ cn ≤ nI (nC P) - 1
  · obtain ⟨j, hj, rfl⟩ := wi_of hn.2 hc
    obtain ⟨hC, hH⟩ := hs.2.2.2.2.1 j hj
    have hd0 := hC.2.1
    rcases hH with ⟨k0, ⟨m1, m2⟩, -⟩ | ⟨k0, ⟨m1, m2⟩, -⟩ | ⟨k0, ⟨m1, m2⟩, -⟩ | ⟨k0, z, hz, hJ, ez, hR⟩
    · exact Or.inr ⟨"java/lang/IllegalArgumentException", 1, 0, sS (sS P 0 0) 0 1, ⟨rfl, rfl⟩, x_tear_k hG i hs.1 hj hd0 m1 (Or.inl m2), k_tear_k hG i P hn.1 hn.2 hj (by rw [k0]; decide), rfl, Rep_1 h⟩
    · exact Or.inr ⟨"java/lang/IllegalArgumentException", 1, 0, sS (sS P 0 0) 0 1, ⟨rfl, rfl⟩, x_tear_k hG i hs.1 hj hd0 m1 (Or.inr (Or.inl m2)), k_tear_k hG i P hn.1 hn.2 hj (by rw [k0]; decide), rfl, Rep_1 h⟩
    · exact Or.inr ⟨"java/lang/IllegalArgumentException", 1, 0, sS (sS P 0 0) 0 1, ⟨rfl, rfl⟩, x_tear_k hG i hs.1 hj hd0 m1 (Or.inr (Or.inr m2)), k_tear_k hG i P hn.1 hn.2 hj (by rw [k0]; decide), rfl, Rep_1 h⟩
    · by_cases hi : (0 : Int32) ≤ i ∧ i ≤ nI z
      · obtain ⟨q, hq, rfl⟩ := wi_ofM (by omega) hi
        have hk := k_tear (ad := ad) hG P hn.1 hn.2 hj k0 (i := nI q) (by rw [ez]; exact hi)
        have hcl := c_tear hG (nI q) hs.1 hj hd0 hJ hi
        rw [ez, nI_sub hq (by omega)] at hk
        rw [nI_sub hq (by omega)] at hcl
        exact Or.inl ⟨(nI (z - q)), sI (sS P 0 0) 25 j (nI (z - q)), hcl.mono (fun S1 e => by rw [e]; exact Rep_tear (P := sS P 0 0) (WF_0 hw) hs hj k0 hJ hR (by omega) hz), hk, rfl⟩
      · exact Or.inr ⟨"java/lang/IllegalArgumentException", 1, 0, sS (sS P 0 0) 0 1, ⟨rfl, rfl⟩, x_tear_i hG i hs.1 hj hd0 hJ hi, k_tear_i hG P hn.1 hn.2 hj k0 (by rw [ez]; exact hi), rfl, Rep_1 h⟩
  · exact Or.inr ⟨"java/lang/IllegalArgumentException", 1, 0, sS (sS P 0 0) 0 1, ⟨rfl, rfl⟩, x_tear_no hG cn i hs.1 hc, k_tear_no hG i P (by rw [hn.1]; exact hc), rfl, Rep_1 h⟩
theorem smF_N {f : Nat → Int32} {s : Nat} : ∀ n, (∀ i, i < n → ∃ k, k < 256 ∧ f (s + i) = nI k) → ∃ k, k ≤ 256 * n ∧ smF f s n = nI k
  | 0, _ => ⟨0, Nat.le_refl _, rfl⟩
  | n + 1, h => by
    obtain ⟨a, ha, ea⟩ := smF_N n (fun i hi => h i (by omega))
    obtain ⟨b, hb, eb⟩ := h n (by omega)
    exact ⟨a + b, by omega, by rw [smF, ea, eb, nI_add]⟩
theorem byf_N {S : Mem} {b i : Nat} : ∃ k, k < 256 ∧ byf S b i = nI k := pk_andE (maI S b i) (m := 255) 8 (by decide)
theorem wh_eq {f f2 : Nat → Int32} {s b : Nat} (hf : ∀ i, i < 13 → f (s + i) = f2 (b + i)) (hN : ∀ i, ∃ k, k < 256 ∧ f i = nI k) : whC f s = whB f2 b := by
  unfold whC whB
  have e0 := hf 0 (by decide)
  have e12 := hf 12 (by decide)
  have es := smF_eq (f := f) (f' := f2) (s := s) (s' := b) 12 (fun i hi => hf i (by omega))
  obtain ⟨k, hk, ek⟩ := smF_N (f := f) (s := s) 12 (fun i _ => hN _)
  have em : smF f s 12 &&& 255 = rm256 (smF f2 b 12) := by
    rw [← es, ek, pk_andN (by omega) 8 (by decide)]
    unfold rm256
    rw [show (256 : Int32) = nI 256 by decide, pk_rem (by omega) (by decide) (by decide)]
  rw [em, ← e12]
  rw [Nat.add_zero] at e0
  rw [e0]
theorem sn_eq {f f2 : Nat → Int32} {b z : Nat} (hf : ∀ i, i < z → f i = f2 (b + i)) (hN : ∀ i, ∃ k, k < 256 ∧ f i = nI k) : ∀ d r, snN f z d r = rpN f2 b z d r
  | 0, _ => rfl
  | d + 1, r => by
    rw [snN, rpN]
    by_cases c : 13 * r + 13 ≤ z
    · rw [wh_eq (f := f) (f2 := f2) (s := 13 * r) (b := b + 13 * r) (fun i hi => by rw [hf _ (by omega)]; exact congrArg f2 (by omega)) hN, sn_eq hf hN d (r + 1)]
    · rw [if_neg (fun q => c q.1), if_neg (fun q => c q.1)]
theorem rv_eq {f f2 : Nat → Int32} {s b : Nat} : ∀ n, (∀ i, i < n → f (s + i) = f2 (b + i)) → rvL f s n = rvL f2 b n
  | 0, _ => rfl
  | n + 1, h => by rw [rvL, rvL, rv_eq n (fun i hi => h i (by omega)), h n (by omega)]
theorem rp_eq {f f2 : Nat → Int32} {b z : Nat} (hf : ∀ i, i < z → f i = f2 (b + i)) : ∀ r, 13 * r ≤ z → rpS f 0 r = rpS f2 b r
  | 0, _ => rfl
  | r + 1, h => by
    rw [rpS, rpS, rp_eq hf r (by omega), rv_eq (f := f) (f2 := f2) (s := 0 + 13 * r + 3) (b := b + 13 * r + 3) 8 (fun i hi => by rw [hf _ (by omega)]; exact congrArg f2 (by omega))]
/-- the sum of a replay, kept -/
theorem Rep_replay {K : Nat} {S : Mem} {P : MS} {x : Nat} {y : Int64} (h : Rep K S P x) : Rep (K + 1) (uJ S 5 x y) (sR P y) x := by
  obtain ⟨hw, r, ca, pa, v, g, u, A1, hd, bb, pt, pw, sz, wi, hs⟩ := h
  refine ⟨WF_mo (WF_R hw) (by omega), r, ca, pa, v, g, u, A1, hd, bb, pt, pw, sz, wi, ?_⟩
  have hx : ag (fun q => q = x) S (uJ S 5 x y) := ag_uJ rfl
  obtain ⟨h1, h2, ⟨h3, h3'⟩, ⟨⟨g1, g2⟩, g3, g4⟩, h5⟩ := hs
  have nr : r ≠ x := fun e => by have := h2.1.2; rw [e, h1.1.2] at this; exact absurd this (by decide)
  have h5' : RSc S P ca pa A1 hd bb pt pw sz wi := h5
  refine ⟨h1, rgA_ag hx h2, ⟨h3, mJ_s⟩, ⟨⟨((hx.2.2.2.2.2 r nr).2.1 3).trans g1, ((hx.2.2.2.2.2 r nr).2.1 4).trans g2⟩, g3, g4⟩, ?_⟩
  exact (RSc_ag hx (fun q e => by rw [e]; exact Or.inr (Or.inl h1.1.2)) h5' : RSc (uJ S 5 x y) P ca pa A1 hd bb pt pw sz wi)
theorem st_replay {l : Launch} {s0 : State} {D : va_G} {cA : Nat → ClassId} {ad : Nat → Nat} {K : Nat} {S : Mem} {P : MS} {x : Nat} (hG : cx_G l s0 D cA) (h : Rep K S P x) (hK : K ≤ 511) (cn : Int32) : St K S x cd1 Value.int (fun vv Φ => PC l s0 D cA yX8_replay cX8_replay 4 (some .int) rmX8_replay [.ref x, .int cn] S (some vv) Φ) (fun E => XT l s0 D cA yX8_replay cX8_replay 4 (some .int) rmT2 [.ref x, .int cn] S E) (fun vv P1 => MC l s0 D cA ad yX9_replay cX9_replay 6 (some .int) rmX9_replay [.int cn] P (some vv) P1) := by
  have h0 := h
  obtain ⟨hw, r, ca, pa, v, g, u, A1, hd, bb, pt, pw, sz, wi, hs⟩ := h0
  have hn := hw.1.2.2.2
  by_cases hc : (0 : Int32) ≤ cn ∧ cn ≤ nI (nC P) - 1
  · obtain ⟨j, hj, rfl⟩ := wi_of hn.2 hc
    obtain ⟨hC, hH⟩ := hs.2.2.2.2.1 j hj
    have hd0 := hC.2.1
    rcases hH with ⟨k0, ⟨m1, m2⟩, -⟩ | ⟨k0, ⟨m1, m2⟩, -⟩ | ⟨k0, ⟨m1, m2⟩, -⟩ | ⟨k0, z, hz, hJ, ez, hR⟩
    · exact Or.inr ⟨"java/lang/IllegalArgumentException", 1, 0, sS (sS P 0 0) 0 1, ⟨rfl, rfl⟩, x_replay_k hG hs.1 hj hd0 m1 (Or.inl m2), k_replay_k hG P hn.1 hn.2 hj (by rw [k0]; decide), rfl, Rep_1 h⟩
    · exact Or.inr ⟨"java/lang/IllegalArgumentException", 1, 0, sS (sS P 0 0) 0 1, ⟨rfl, rfl⟩, x_replay_k hG hs.1 hj hd0 m1 (Or.inr (Or.inl m2)), k_replay_k hG P hn.1 hn.2 hj (by rw [k0]; decide), rfl, Rep_1 h⟩
    · exact Or.inr ⟨"java/lang/IllegalArgumentException", 1, 0, sS (sS P 0 0) 0 1, ⟨rfl, rfl⟩, x_replay_k hG hs.1 hj hd0 m1 (Or.inr (Or.inr m2)), k_replay_k hG P hn.1 hn.2 hj (by rw [k0]; decide), rfl, Rep_1 h⟩
    · have e1 := sn_eq (f := byf S (bb j)) (f2 := qI P 26) (b := 400 * j) (z := z) hR (fun i => byf_N) 31 0
      have e2 := rp_eq (f := byf S (bb j)) (f2 := qI P 26) (b := 400 * j) (z := z) hR (snN (byf S (bb j)) z 31 0) (snN_le 31 0 (by omega))
      have hk := k_replay_ok (ad := ad) hG P hn.1 hn.2 hj k0 ez hz
      rw [← e1, ← e2] at hk
      exact Or.inl ⟨(nI (snN (byf S (bb j)) z 31 0)), sR (sS P 0 0) (rpS (byf S (bb j)) 0 (snN (byf S (bb j)) z 31 0)), (c_replay hG hs.1 hj hd0 hJ hz).mono (fun S1 e => by rw [e]; exact Rep_replay (P := sS P 0 0) ⟨WF_0 hw, h.2⟩), hk, rfl⟩
  · exact Or.inr ⟨"java/lang/IllegalArgumentException", 1, 0, sS (sS P 0 0) 0 1, ⟨rfl, rfl⟩, x_replay_no hG cn hs.1 hc, k_replay_no hG P (by rw [hn.1]; exact hc), rfl, Rep_1 h⟩
