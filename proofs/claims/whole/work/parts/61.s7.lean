/-! ===== claim: class and reference answer alike ===== -/
theorem lX_le {a z M N : Nat} (ha : a < 2 ^ 20) (hz : z < 2 ^ 20) (hM : M < 2 ^ 20) (hN : N < 2 ^ 20) : eL a + lN M - lN N ≤ eL z ↔ a + M ≤ N + z := by
  have e1 := eL_toInt (a := a) (by omega)
  have e2 := pk_lT (n := M) (by omega)
  have e3 := pk_lT (n := N) (by omega)
  have f1 : (eL a + lN M).toInt = (a : Int) - 1 + M := by rw [FP.Core.int64_add (by rw [e1, e2]; omega) (by rw [e1, e2]; omega), e1, e2]
  rw [Int64.le_iff_toInt_le, eL_toInt (by omega), FP.Core.int64_sub (by rw [f1, e3]; omega) (by rw [f1, e3]; omega), f1, e3]
  omega
theorem eL_add {a M : Nat} : eL a + lN M = eL (a + M) := by
  unfold eL
  rw [← lN_add, Int64.sub_eq_add_neg, Int64.sub_eq_add_neg, Int64.add_assoc, Int64.add_comm (-1), ← Int64.add_assoc]
theorem gsL_y {S : Mem} {g N cu i : Nat} {x : Int32} : ∀ M, (∃ m, m < M ∧ (cu + m) % N = i) → maI (gsL S g N cu x M) g i = x
  | 0, ⟨m, h, _⟩ => absurd h (Nat.not_lt_zero _)
  | M + 1, ⟨m, h, e⟩ => by
    rw [gsL]
    by_cases c : (cu + M) % N = i
    · rw [c]; exact maI_s
    · rw [maI_a (fun q => c q.symm)]
      exact gsL_y M ⟨m, by by_cases q : m = M; (subst q; exact absurd e c); omega, e⟩
theorem gsL_n {S : Mem} {g N cu i : Nat} {x : Int32} : ∀ M, (∀ m, m < M → (cu + m) % N ≠ i) → maI (gsL S g N cu x M) g i = maI S g i
  | 0, _ => rfl
  | M + 1, h => by
    rw [gsL, maI_a (fun q => h M (by omega) q.symm)]
    exact gsL_n M (fun m hm => h m (by omega))
theorem ag_gs {X : Nat → Prop} {S : Mem} {g N cu : Nat} {x : Int32} (h : X g) : ∀ M, ag X S (gsL S g N cu x M)
  | 0 => ag_rf
  | M + 1 => ag_tr (ag_gs h M) (ag_uaI h)
theorem Rep_claim {K : Nat} {S : Mem} {P : MS} {x r ca pa v g u : Nat} {A1 hd bb pt pw sz : Nat → Nat} {wi : Nat → Nat → Nat} {M p : Nat} (hw : WF K P) (hs : RS S P x r ca pa v g u A1 hd bb pt pw sz wi) (hK : K ≤ 511) (hM : 1 ≤ M ∧ M ≤ 16) (hMN : M ≤ zN P) (hp : p < 4) (hr : zc P + M ≤ zN P + zr P) : Rep (K + 1) (uJ (gsL S g (zN P) (zc P) (nI p) M) 3 r (eL (zc P) + lN M)) (sS (sqL (sS P 0 0) (nI p) (zc P) M) 3 (qS P 3 + nI M)) x := by
  refine ⟨WF_claim hw hK hM hp hr, r, ca, pa, v, g, u, A1, hd, bb, pt, pw, sz, wi, ?_⟩
  have hc := wf_c hw (by omega)
  have hN := slN_b hc.2.2.2
  obtain ⟨h1, h2, ⟨h3, h3'⟩, ⟨⟨g1, g2⟩, g3, g4⟩, h5⟩ := hs
  have h5' : RSc S P ca pa A1 hd bb pt pw sz wi := h5
  have kg : mK S g = 12 := h2.2.2.2.1.2.1
  have hx0 : ag (fun q => q = g ∨ q = r) S (gsL S g (zN P) (zc P) (nI p) M) := ag_gs (Or.inl rfl) M
  have hx : ag (fun q => q = g ∨ q = r) S (uJ (gsL S g (zN P) (zc P) (nI p) M) 3 r (eL (zc P) + lN M)) := ag_tr hx0 (ag_uJ (Or.inr rfl))
  have hk : ∀ q, (q = g ∨ q = r) → mK S q = 4 ∨ mK S q = 7 ∨ mK S q = 12 ∨ mK S q = 13 := fun q e => by
    rcases e with rfl | rfl
    · exact Or.inr (Or.inr (Or.inl kg))
    · exact Or.inl h2.1.2
  have I : ∀ k i, qI (sS (sqL (sS P 0 0) (nI p) (zc P) M) 3 (qS P 3 + nI M)) k i = if k = 2 ∧ zc P ≤ i ∧ i < zc P + M then nI (1 + p) else qI P k i := fun k i => by
    rw [← gb_N p hp]; exact sqL_I (P := sS P 0 0) M
  have O := sqL_o (P := sS P 0 0) (g := nI p) (cu := zc P) M
  have S3 : qS (sS (sqL (sS P 0 0) (nI p) (zc P) M) 3 (qS P 3 + nI M)) 3 = qS P 3 + nI M := rfl
  have So : ∀ k, k ≠ 3 → k ≠ 0 → qS (sS (sqL (sS P 0 0) (nI p) (zc P) M) 3 (qS P 3 + nI M)) k = qS P k := fun k h1 h0 => by
    show va_up (qS (sqL (sS P 0 0) (nI p) (zc P) M)) 3 _ k = _
    rw [va_up_ne _ _ h1, sqL_S]
    exact va_up_ne _ _ h0
  have OR : qR (sS (sqL (sS P 0 0) (nI p) (zc P) M) 3 (qS P 3 + nI M)) = qR P := O.1
  have OF : qF (sS (sqL (sS P 0 0) (nI p) (zc P) M) 3 (qS P 3 + nI M)) = qF P := O.2.2.1
  have OD : qD (sS (sqL (sS P 0 0) (nI p) (zc P) M) 3 (qS P 3 + nI M)) = qD P := O.2.2.2
  have OJ : qJ (sS (sqL (sS P 0 0) (nI p) (zc P) M) 3 (qS P 3 + nI M)) = qJ P := O.2.1
  generalize sS (sqL (sS P 0 0) (nI p) (zc P) M) 3 (qS P 3 + nI M) = T at I S3 So OF OD OJ OR ⊢
  have Ik : ∀ k, k ≠ 2 → qI T k = qI P k := fun k hk => funext fun i => by rw [I, if_neg (fun q => hk q.1)]
  have s3 : qS T 3 = nI (zc P + M) - 1 := by
    rw [S3, hw.1.2.1.1, ← nI_add, Int32.sub_eq_add_neg, Int32.sub_eq_add_neg]
    rw [Int32.add_assoc, Int32.add_comm (-1), ← Int32.add_assoc]
  have ec : zc T = zc P + M := cl1 s3 (by omega)
  have ea : za T = za P := by unfold za; rw [So 4 (by decide) (by decide)]
  have eN : zN T = zN P := by unfold zN; rw [So 1 (by decide) (by decide)]
  have en : nC T = nC P := by unfold nC; rw [So 8 (by decide) (by decide)]
  have eo : zo T = zo P := funext fun i => by unfold zo; rw [Ik 10 (by decide)]
  have el : zl T = zl P := funext fun i => by unfold zl; rw [Ik 7 (by decide)]
  have nx : ¬ (x = g ∨ x = r) := fun e => by have := hk x e; have := h1.1.2; rcases e with e | e <;> (rw [e] at this; first | (rw [kg] at this; omega) | (rw [h2.1.2] at this; omega))
  have nca : ¬ (ca = g ∨ ca = r) := fun e => by have := hk ca e; have := h1.2.2.1.2.1; omega
  have nv : ¬ (v = g ∨ v = r) := fun e => by have := h2.2.2.1.2.1; rcases e with e | e <;> (rw [e] at this; first | (rw [kg] at this; omega) | (rw [h2.1.2] at this; omega))
  have nu : ¬ (u = g ∨ u = r) := fun e => by have := h2.2.2.2.2.1.2.1; rcases e with e | e <;> (rw [e] at this; first | (rw [kg] at this; omega) | (rw [h2.1.2] at this; omega))
  refine ⟨?_, ?_, ⟨?_, ?_⟩, ⟨⟨?_, ?_⟩, ?_, ?_⟩, ?_⟩
  · rw [en]; exact plA_ex (ex_ag hx) nx nca h1
  · rw [eN]; exact rgA_ag hx h2
  · rw [en, eo]; exact ((hx.2.2.2.2.2 x nx).1 4).trans h3
  · rw [OR]; exact ((hx.2.2.2.2.2 x nx).2.1 5).trans h3'
  · rw [ec, ← eL_add]; exact mJ_s
  · rw [ea]
    refine (mJ_k (S := gsL S g (zN P) (zc P) (nI p) M) (k := 3) (a := r) (i := 4) (b := r) (v := eL (zc P) + lN M) (by decide)).trans ?_
    rw [gsL_J]; exact g2
  · intro i hi
    rw [eN] at hi
    rw [OJ, el, (hx.2.2.2.2.2 v nv).2.2.2.2.2, (hx.2.2.2.2.2 u nu).2.2.2.2.2]
    exact g3 i hi
  · intro s hs1 hs2
    rw [ec] at hs1
    rw [ec, eN] at hs2
    rw [eN]
    show maI (gsL S g (zN P) (zc P) (nI p) M) g (s % zN P) = nI ((zm T s - 1) % 8)
    by_cases c : zc P ≤ s
    · have e1 : zm T s = 1 + p := cl0 (by rw [I, if_pos (by omega)]) (by omega)
      rw [gsL_y M ⟨s - zc P, by omega, congrArg (· % zN P) (by omega)⟩, e1]
      congr 1
      omega
    · have e1 : zm T s = zm P s := by unfold zm; rw [I, if_neg (by omega)]
      rw [gsL_n M (fun m hm q => ?_), e1]
      · exact g4 s (by omega) (by omega)
      · have := mod_gap hN.1 q.symm (by omega); omega
  · exact (RSc_PP (fun k hk => Ik k (by omega)) (by rw [OJ]) OF OD (So 8 (by decide) (by decide)) (RSc_ag hx hk h5') : RSc (uJ (gsL S g (zN P) (zc P) (nI p) M) 3 r (eL (zc P) + lN M)) T ca pa A1 hd bb pt pw sz wi)
theorem st_claim {l : Launch} {s0 : State} {D : va_G} {cA : Nat → ClassId} {ad : Nat → Nat} {K : Nat} {S : Mem} {P : MS} {x : Nat} (hG : cx_G l s0 D cA) (h : Rep K S P x) (hK : K ≤ 511) (k i : Int32) : St K S x cdS Value.long (fun vv Φ => PC l s0 D cA yX8_claim cX8_claim 3 (some .long) rmX8_claim [.ref x, .int k, .int i] S (some vv) Φ) (fun E => XT l s0 D cA yX8_claim cX8_claim 3 (some .long) rmT2 [.ref x, .int k, .int i] S E) (fun vv P1 => MC l s0 D cA ad yX9_claim cX9_claim 7 (some .long) rmX9_claim [.int k, .int i] P (some vv) P1) := by
  have h0 := h
  obtain ⟨hw, r, ca, pa, v, g, u, A1, hd, bb, pt, pw, sz, wi, hs⟩ := h0
  have hn := hw.1.2.2.2
  have hcc := wf_c hw (by omega)
  have hN := slN_b hcc.2.2.2
  have hre := rs_re hG hw (by omega) hs
  by_cases h1 : (0 : Int32) ≤ k ∧ k ≤ 3
  rotate_left
  · exact Or.inr ⟨"java/lang/IllegalArgumentException", 1, ((0 : Int32).toInt64), sS (sS P 0 0) 0 1, Or.inl ⟨rfl, rfl⟩, x_claim_p hG k i hs.1 hs.2.1 h1, k_claim_p hG k i P h1, rfl, Rep_1 h⟩
  by_cases h2 : (1 : Int32) ≤ i ∧ i ≤ nI (zN P)
  rotate_left
  · exact Or.inr ⟨"java/lang/IllegalArgumentException", 1, ((0 : Int32).toInt64), sS (sS P 0 0) 0 1, Or.inl ⟨rfl, rfl⟩, x_claim_n hG k i hs.1 hs.2.1 h1 h2, k_claim_n hG k i P h1 (by rw [hw.1.1.1]; exact h2), rfl, Rep_1 h⟩
  obtain ⟨M, hM, rfl⟩ := wi_ofM (n := zN P) (by omega) (cn := i) ⟨Int32.le_trans (by decide) h2.1, h2.2⟩
  have hM1 : 1 ≤ M := by
    have := h2.1
    rw [show (1 : Int32) = nI 1 by decide, nI_leI (by omega) (by omega)] at this
    exact this
  obtain ⟨p, hp, rfl⟩ := wi_of (n := 4) (by decide) (cn := k) (by rw [show nI 4 - 1 = (3 : Int32) by decide]; exact h1)
  have hrm := rmR_eq hw (by omega) (M := M) (by omega)
  have hzr : zr P ≤ za P := ((zr_iff hw).mp (Nat.le_refl _)).1
  have hrC := lX_le (a := zc P) (z := zr P) (M := M) (N := zN P) (by omega) (by omega) (by omega) (by omega)
  by_cases c : zc P + M ≤ zN P + zr P
  · have hk := k_claim_k (ad := ad) (N := M) (cu := zc P) hG (nI p) P hn.1 hn.2 (wf_q hw) h1 (by rw [hw.1.1.1]; exact h2) (by omega) hw.1.2.1.1 (by omega) (hrm.mpr c)
    rw [nI_l (by omega)] at hk
    have hcl := c_claim (pl := zw P) (av := za P) (cu := zc P) (M := M) (k := nI p) (hu := nI (hgN (zo P) (nC P))) hG hs.1 hs.2.1 hs.2.2.1.1 hs.2.2.2.1.1.2 (by omega) hre hs.2.2.2.1.1.1 (by omega) (by omega) h1 h2 (by rw [nI_l (by omega), nI_l (by omega)]; exact hrC.mpr c)
    exact Or.inl ⟨(lN (zc P)), _, hcl.mono (fun S1 e => by rw [e]; exact Rep_claim hw hs hK ⟨hM1, by omega⟩ hM hp c), hk, by show va_up (qS (sqL (sS P 0 0) (nI p) (zc P) M)) 3 (qS P 3 + nI M) 0 = 0; rw [va_up_ne _ _ (by decide), sqL_S]; rfl⟩
  · exact Or.inr ⟨"java/lang/IllegalStateException", 2, ((0 : Int32).toInt64), sS (sS P 0 0) 0 2, Or.inr ⟨rfl, rfl⟩, x_claim_r (pl := zw P) (av := za P) (cu := zc P) (hu := nI (hgN (zo P) (nC P))) hG (nI p) (nI M) hs.1 hs.2.1 hs.2.2.1.1 hs.2.2.2.1.1.2 (by omega) hre hs.2.2.2.1.1.1 h1 h2 (by rw [nI_l (by omega), nI_l (by omega)]; exact fun q => c (hrC.mp q)), k_claim_r hG (nI p) (nI M) P hn.1 hn.2 (wf_q hw) h1 (by rw [hw.1.1.1]; exact h2) (Decidable.byContradiction (fun q => c (hrm.mp q))), rfl, Rep_1 h⟩
