/-! ===== what always holds stays so: publish, consumer; the beginning ===== -/
section Wf4
variable {K : Nat} {P T : MS} {j t : Nat}
theorem puS_I {ev j p : Nat} {v : Int64} (hp : p < 4) (h2 : qI P 2 ev = nI (1 + p)) (k i : Nat) : qI (puS P ev j (nI p) v) k i = if k = 2 ∧ i = ev then nI (9 + p) else if k = 6 ∧ i = j then nI p else if k = 7 ∧ i = j then nI ev else qI P k i := by
  rw [puS, qI_if, qI_if, h2, gb_8 p hp]
  show (if k = 7 ∧ i = j then nI ev else if k = 6 ∧ i = j then nI p else qI (sI (sS P 0 0) 2 ev (nI (9 + p))) k i) = _
  rw [qI_if]
  show (if k = 7 ∧ i = j then nI ev else if k = 6 ∧ i = j then nI p else if k = 2 ∧ i = ev then nI (9 + p) else qI P k i) = _
  by_cases c1 : k = 2 ∧ i = ev
  · rw [if_neg (by omega), if_neg (by omega), if_pos c1, if_pos c1]
  · rw [if_neg c1, if_neg c1]
    by_cases c2 : k = 6 ∧ i = j
    · rw [if_neg (by omega), if_pos c2, if_pos c2]
    · rw [if_neg c2, if_neg c2]
def puA (P : MS) (ev p : Nat) (v : Int64) : Nat := af (qI (puS P ev (ev % zN P) (nI p) v) 2) (zc P - za P) (za P)
theorem WF_pub {ev p : Nat} {v : Int64} (h : WF K P) (hK : K ≤ 511) (hp : p < 4) (hev : ev < zc P) (hm : qI P 2 ev = nI (1 + p)) : WF (K + 1) (sS (puS P ev (ev % zN P) (nI p) v) 4 (nI (puA P ev p v) - 1)) := by
  have hc := wf_c h (by omega)
  have hN := slN_b hc.2.2.2
  have hmm : zm P ev = 1 + p := cl0 hm (by omega)
  have hold := zl_old h hev (by omega)
  have A := af_ok (q := qI (puS P ev (ev % zN P) (nI p) v) 2) (zc P - za P) (za P)
  have Al := af_le (q := qI (puS P ev (ev % zN P) (nI p) v) 2) (zc P - za P) (za P)
  have I := puS_I (P := P) (ev := ev) (j := ev % zN P) (v := v) hp hm
  have OS : ∀ k, k ≠ 4 → k ≠ 0 → qS (sS (puS P ev (ev % zN P) (nI p) v) 4 (nI (puA P ev p v) - 1)) k = qS P k := fun k h4 h0 => by
    show va_up (va_up (qS P) 0 0) 4 _ k = _
    rw [va_up_ne _ _ h4, va_up_ne _ _ h0]
  have S4 : qS (sS (puS P ev (ev % zN P) (nI p) v) 4 (nI (puA P ev p v) - 1)) 4 = nI (puA P ev p v) - 1 := rfl
  have OF : qF (sS (puS P ev (ev % zN P) (nI p) v) 4 (nI (puA P ev p v) - 1)) = qF P := rfl
  have OD : qD (sS (puS P ev (ev % zN P) (nI p) v) 4 (nI (puA P ev p v) - 1)) = qD P := rfl
  have OJ : ∀ i, qJ (sS (puS P ev (ev % zN P) (nI p) v) 4 (nI (puA P ev p v) - 1)) 22 i = qJ P 22 i := fun i => by
    show qJ (sJ (sI (sS P 0 0) 2 ev _) 5 (ev % zN P) v) 22 i = _
    rw [qJ_if, if_neg (by omega)]; rfl
  have J : ∀ k i, qI (sS (puS P ev (ev % zN P) (nI p) v) 4 (nI (puA P ev p v) - 1)) k i = if k = 2 ∧ i = ev then nI (9 + p) else if k = 6 ∧ i = ev % zN P then nI p else if k = 7 ∧ i = ev % zN P then nI ev else qI P k i := I
  have eA : puA P ev p v = af (qI (puS P ev (ev % zN P) (nI p) v) 2) (zc P - za P) (za P) := rfl
  rw [← eA] at A Al
  have A2 : ∀ s, za P ≤ s → s < puA P ev p v → 8 < qI (sS (puS P ev (ev % zN P) (nI p) v) 4 (nI (puA P ev p v) - 1)) 2 s := A.2
  replace A := A.1
  clear I eA
  generalize puA P ev p v = a at OS S4 OF OD OJ J A A2 Al ⊢
  generalize sS (puS P ev (ev % zN P) (nI p) v) 4 (nI a - 1) = T at OS S4 OF OD OJ J A2 ⊢
  have Ik : ∀ k, k ≠ 2 → k ≠ 6 → k ≠ 7 → qI T k = qI P k := fun k h2 h6 h7 => funext fun i => by rw [J, if_neg (fun q => h2 q.1), if_neg (fun q => h6 q.1), if_neg (fun q => h7 q.1)]
  have m1 : ∀ s, s ≠ ev → qI T 2 s = qI P 2 s := fun s hs => by rw [J, if_neg (fun q => hs q.2), if_neg (by omega), if_neg (by omega)]
  have m2 : qI T 2 ev = nI (9 + p) := by rw [J, if_pos ⟨rfl, rfl⟩]
  have l1 : ∀ i, i ≠ ev % zN P → qI T 7 i = qI P 7 i := fun i hi => by rw [J, if_neg (by omega), if_neg (by omega), if_neg (fun q => hi q.2)]
  have l2 : qI T 7 (ev % zN P) = nI (ev + 1) - 1 := by rw [J, if_neg (by omega), if_neg (by omega), if_pos ⟨rfl, rfl⟩, nI_pred]
  have g1' : ∀ i, i ≠ ev % zN P → qI T 6 i = qI P 6 i := fun i hi => by rw [J, if_neg (by omega), if_neg (fun q => hi q.2), if_neg (by omega)]
  have g2' : qI T 6 (ev % zN P) = nI p := by rw [J, if_neg (by omega), if_pos ⟨rfl, rfl⟩]
  have ec : zc T = zc P := by unfold zc; rw [OS 3 (by decide) (by decide)]
  have ea : za T = a := cl1 S4 (by omega)
  have eN : zN T = zN P := by unfold zN; rw [OS 1 (by decide) (by decide)]
  have en : nC T = nC P := by unfold nC; rw [OS 8 (by decide) (by decide)]
  have eo : zo T = zo P := funext fun i => by unfold zo; rw [Ik 10 (by decide) (by decide) (by decide)]
  have eP : zP T = zP P := funext fun i => by unfold zP; rw [Ik 12 (by decide) (by decide) (by decide)]
  have ep : zp T = zp P := funext fun i => by unfold zp; rw [Ik 13 (by decide) (by decide) (by decide)]
  have eh : zh T = zh P := funext fun i => by unfold zh; rw [Ik 20 (by decide) (by decide) (by decide)]
  have et : zt T = zt P := funext fun i => by unfold zt; rw [Ik 21 (by decide) (by decide) (by decide)]
  have ew : zw T = zw P := zw_of (Ik 12 (by decide) (by decide) (by decide)) (Ik 13 (by decide) (by decide) (by decide)) (Ik 20 (by decide) (by decide) (by decide)) (Ik 21 (by decide) (by decide) (by decide)) (OS 8 (by decide) (by decide))
  have em : ∀ s, s ≠ ev → zm T s = zm P s := fun s hs => by unfold zm; rw [m1 s hs]
  have em2 : zm T ev = 9 + p := cl0 m2 (by omega)
  have el : ∀ i, i ≠ ev % zN P → zl T i = zl P i := fun i hi => by unfold zl; rw [l1 i hi]
  have el2 : zl T (ev % zN P) = ev + 1 := cl1 l2 (by omega)
  have eg : ∀ i, i ≠ ev % zN P → zg T i = zg P i := fun i hi => by unfold zg; rw [g1' i hi]
  have eg2 : zg T (ev % zN P) = p := cl0 g2' (by omega)
  obtain ⟨⟨⟨a1, a2⟩, ⟨a3, a4⟩, ⟨a5, a6⟩, ⟨a7, a8⟩⟩, b, c, d, e, f, ⟨g1, g2⟩, i9⟩ := h
  refine ⟨⟨?_, ?_, ?_, ?_⟩, ?_, ?_, ?_, ?_, ?_, ⟨?_, ?_⟩, ?_⟩
  · rw [eN, OS 1 (by decide) (by decide)]; exact ⟨a1, a2⟩
  · rw [ec, OS 3 (by decide) (by decide)]; exact ⟨a3, by omega⟩
  · rw [ea, ec, S4]; exact ⟨rfl, by omega⟩
  · rw [en, OS 8 (by decide) (by decide)]; exact ⟨a7, a8⟩
  · intro i hi
    rw [en] at hi
    obtain ⟨b1, b2, b3, b4, b7, b8, b9⟩ := b i hi
    unfold W2
    rw [eo, eP, ep, eh, et, ea, eN, ew, Ik 10 (by decide) (by decide) (by decide), Ik 12 (by decide) (by decide) (by decide), Ik 13 (by decide) (by decide) (by decide), Ik 20 (by decide) (by decide) (by decide), Ik 11 (by decide) (by decide) (by decide)]
    exact ⟨b1, b2, ⟨b3.1, by have := b3.2; omega⟩, b4, b7, bInv_mo (bInv_of b8 (OS 1 (by decide) (by decide)) (by rw [Ik 9 (by decide) (by decide) (by decide)]) (by rw [Ik 11 (by decide) (by decide) (by decide)]) (by rw [OF]) (by rw [OD]) (by rw [Ik 15 (by decide) (by decide) (by decide)]) (by rw [Ik 25 (by decide) (by decide) (by decide)])) (by omega), b9⟩
  · intro u hu
    obtain ⟨c1, c2, c3⟩ := c u hu
    unfold W3
    rw [et, Ik 21 (by decide) (by decide) (by decide), en, eP, eh, ea, eo, ew]
    refine ⟨c1, c2, fun x hx => ?_⟩
    rcases c3 x hx with q | ⟨q1, q2⟩
    · exact Or.inl q
    · exact Or.inr ⟨by omega, q2⟩
  · rw [en, eP, eo]; exact d
  · intro s hs
    rw [ec] at hs
    obtain ⟨e1, e2, e3, e4⟩ := e s hs
    unfold W6
    rw [ea, eN]
    by_cases q : s = ev
    · subst q
      rw [em2, el2]
      exact ⟨m2, Or.inr (by omega), fun _ => by omega, fun _ => Nat.le_refl _⟩
    · rw [m1 s q, em s q]
      refine ⟨e1, e2, fun hs2 => ?_, fun h9 => ?_⟩
      · by_cases q2 : s < za P
        · exact e3 q2
        · have := A2 s (by omega) hs2
          rw [m1 s q, e1, show (8 : Int32) = nI 8 by decide, nI_ltI (by omega) (by omega)] at this
          omega
      · by_cases q2 : s % zN P = ev % zN P
        · rw [q2, el2]
          have := e4 h9
          rw [q2] at this
          omega
        · rw [el _ q2]; exact e4 h9
  · intro i hi
    rw [eN] at hi
    obtain ⟨⟨f1, f2⟩, f3⟩ := f i hi
    unfold W7
    rw [eN, ec]
    by_cases q : i = ev % zN P
    · subst q
      rw [l2, el2, g2', eg2]
      exact ⟨⟨rfl, by omega⟩, fun _ => ⟨rfl, rfl, by show zm T ev = 9 + p; exact em2⟩⟩
    · rw [l1 i q, el i q, g1' i q, eg i q]
      refine ⟨⟨f1, f2⟩, fun h0 => ?_⟩
      obtain ⟨f4, f5, f6⟩ := f3 h0
      rw [em _ (fun e => q (by rw [← f4, e]))]
      exact ⟨f4, f5, f6⟩
  · rw [ec, eN, ea]; omega
  · intro i hi
    rw [en] at hi
    rw [ec, eN, ew]
    exact g2 i hi
  · intro i h1 h2
    rw [en] at h1
    unfold W9
    rw [Ik 14 (by decide) (by decide) (by decide), Ik 15 (by decide) (by decide) (by decide), Ik 16 (by decide) (by decide) (by decide), Ik 17 (by decide) (by decide) (by decide), Ik 19 (by decide) (by decide) (by decide), Ik 25 (by decide) (by decide) (by decide), OJ, OF, OD]
    exact i9 i h1 h2
/-- the reference's consumer -/
theorem csS_I {n : Nat} {k on how q : Int32} (a i : Nat) : qI (csS P n k on how q) a i = if i = n then (if a = 20 then -1 else if a = 18 then -1 else if a = 13 then -1 else if a = 12 then q else if a = 11 then how else if a = 10 then on else if a = 9 then k else qI P a i) else qI P a i := by
  show qI (sI (sI (sI (sI (sI (sI (sI (sS P 0 0) 9 n k) 10 n on) 11 n how) 12 n q) 13 n (-1)) 18 n (-1)) 20 n (-1)) a i = _
  by_cases c : i = n
  · subst c
    rw [if_pos rfl]
    simp only [qI_if, and_true]
    rfl
  · rw [if_neg c]
    simp only [qI_if, c, and_false, if_false]
    rfl
theorem WF_cons {o w : Nat} {k how : Int32} (h : WF K P) (hn : nC P < 8) (hc : zc P = 0) (hk : k = 0 ∨ k = 1 ∨ k = 2 ∨ k = 3) (ho : o < 2 ^ nC P) (hh : how = 0 ∨ how = 1 ∨ how = 2) (hw : w ≤ 2) (h2 : how = 2 → w = 0) (hs : ∀ i, i < nC P → zP P i = w → w ≠ 0 → zo P i = o) : WF K (csS P (nC P) k (nI o) how (nI w - 1)) := by
  have h256 : (2 : Nat) ^ nC P ≤ 2 ^ 8 := Nat.pow_le_pow_right (by decide) (by omega)
  have J := csS_I (P := P) (n := nC P) (k := k) (on := nI o) (how := how) (q := nI w - 1)
  have S8 : qS (csS P (nC P) k (nI o) how (nI w - 1)) 8 = nI (nC P + 1) := rfl
  have OS : ∀ x, x ≠ 8 → x ≠ 0 → qS (csS P (nC P) k (nI o) how (nI w - 1)) x = qS P x := fun x h8 h0 => by
    show va_up (va_up (qS P) 0 0) 8 _ x = _
    rw [va_up_ne _ _ h8, va_up_ne _ _ h0]
  have OF : qF (csS P (nC P) k (nI o) how (nI w - 1)) = qF P := rfl
  have OD : qD (csS P (nC P) k (nI o) how (nI w - 1)) = qD P := rfl
  have OJ : qJ (csS P (nC P) k (nI o) how (nI w - 1)) = qJ P := rfl
  generalize csS P (nC P) k (nI o) how (nI w - 1) = T at J S8 OS OF OD OJ ⊢
  have hn1 : ∀ a i, i ≠ nC P → qI T a i = qI P a i := fun a i hi => by rw [J, if_neg hi]
  have Ik : ∀ a, a ≠ 9 → a ≠ 10 → a ≠ 11 → a ≠ 12 → a ≠ 13 → a ≠ 18 → a ≠ 20 → qI T a = qI P a := fun a x1 x2 x3 x4 x5 x6 x7 => funext fun i => by
    rw [J]
    by_cases ci : i = nC P
    · rw [if_pos ci, if_neg x7, if_neg x6, if_neg x5, if_neg x4, if_neg x3, if_neg x2, if_neg x1]
    · rw [if_neg ci]
  have t20 : qI T 20 (nC P) = nI 0 - 1 := by rw [J, if_pos rfl, if_pos rfl]; decide
  have t13 : qI T 13 (nC P) = nI 0 - 1 := by rw [J, if_pos rfl, if_neg (by decide), if_neg (by decide), if_pos rfl]; decide
  have t12 : qI T 12 (nC P) = nI w - 1 := by rw [J, if_pos rfl]; rfl
  have t11 : qI T 11 (nC P) = how := by rw [J, if_pos rfl]; rfl
  have t10 : qI T 10 (nC P) = nI o := by rw [J, if_pos rfl]; rfl
  have t9 : qI T 9 (nC P) = k := by rw [J, if_pos rfl]; rfl
  have ec : zc T = zc P := by unfold zc; rw [OS 3 (by decide) (by decide)]
  have ea : za T = za P := by unfold za; rw [OS 4 (by decide) (by decide)]
  have eN : zN T = zN P := by unfold zN; rw [OS 1 (by decide) (by decide)]
  have en : nC T = nC P + 1 := cl0 S8 (by omega)
  have eo : ∀ i, i ≠ nC P → zo T i = zo P i := fun i hi => by unfold zo; rw [hn1 10 i hi]
  have eP : ∀ i, i ≠ nC P → zP T i = zP P i := fun i hi => by unfold zP; rw [hn1 12 i hi]
  have ep : ∀ i, i ≠ nC P → zp T i = zp P i := fun i hi => by unfold zp; rw [hn1 13 i hi]
  have eh : ∀ i, i ≠ nC P → zh T i = zh P i := fun i hi => by unfold zh; rw [hn1 20 i hi]
  have et : zt T = zt P := funext fun i => by unfold zt; rw [Ik 21 (by decide) (by decide) (by decide) (by decide) (by decide) (by decide) (by decide)]
  have no : zo T (nC P) = o := cl0 t10 (by omega)
  have nP : zP T (nC P) = w := cl1 t12 (by omega)
  have np : zp T (nC P) = 0 := cl1 t13 (by omega)
  have nh : zh T (nC P) = 0 := cl1 t20 (by omega)
  obtain ⟨⟨⟨a1, a2⟩, ⟨a3, a4⟩, ⟨a5, a6⟩, ⟨a7, a8⟩⟩, b, c, d, e, f, ⟨g1, g2⟩, i9⟩ := h
  have hza : za P = 0 := by omega
  refine ⟨⟨?_, ?_, ?_, ?_⟩, ?_, ?_, ?_, ?_, ?_, ⟨?_, ?_⟩, ?_⟩
  · rw [eN, OS 1 (by decide) (by decide)]; exact ⟨a1, a2⟩
  · rw [ec, OS 3 (by decide) (by decide)]; exact ⟨a3, a4⟩
  · rw [ea, ec, OS 4 (by decide) (by decide)]; exact ⟨a5, a6⟩
  · rw [en, S8]; exact ⟨rfl, by omega⟩
  · intro i hi
    rw [en] at hi
    by_cases q : i = nC P
    · subst q
      unfold W2
      rw [no, nP, np, nh, t10, t12, t13, t20, t11]
      obtain ⟨n1, n2, n3, n4, n5, n6, n7, n8, n9⟩ := i9 (nC P) (Nat.le_refl _) hn
      refine ⟨⟨rfl, ho⟩, ⟨rfl, hw⟩, ⟨rfl, Nat.zero_le _⟩, ⟨rfl, Nat.zero_le _, fun _ => Nat.zero_le _⟩, h2, ⟨by rw [OS 1 (by decide) (by decide), eN]; exact a1, by rw [t9]; exact hk, by rw [t11]; exact hh, by rw [OF, n8]; exact lvI_0, by rw [OD, n9]; exact mnI_0, ⟨0, Nat.zero_le _, ?_⟩, 0, Nat.zero_le _, ?_⟩, fun _ _ _ _ => Nat.zero_le _⟩
      · rw [Ik 15 (by decide) (by decide) (by decide) (by decide) (by decide) (by decide) (by decide), n2]; rfl
      · rw [Ik 25 (by decide) (by decide) (by decide) (by decide) (by decide) (by decide) (by decide), n6]; rfl
    · obtain ⟨b1, b2, b3, b4, b7, b8, b9⟩ := b i (by omega)
      unfold W2
      rw [eo i q, eP i q, ep i q, eh i q, et, ea, eN, hn1 10 i q, hn1 12 i q, hn1 13 i q, hn1 20 i q, hn1 11 i q]
      exact ⟨b1, b2, b3, b4, b7, bInv_of b8 (OS 1 (by decide) (by decide)) (hn1 9 i q) (hn1 11 i q) (by rw [OF]) (by rw [OD]) (hn1 15 i q) (hn1 25 i q), fun x _ _ _ => by have := b3.2; omega⟩
  · intro u hu
    obtain ⟨c1, c2, c3⟩ := c u hu
    unfold W3
    rw [et, Ik 21 (by decide) (by decide) (by decide) (by decide) (by decide) (by decide) (by decide), en, ea]
    refine ⟨c1, fun q => c2 (fun i hi => by rw [← eP i (by omega)]; exact q i (by omega)), fun x hx => ?_⟩
    rcases c3 x hx with ⟨i, q1, q2, q3⟩ | ⟨q1, -⟩
    · exact Or.inl ⟨i, by omega, by rw [eP i (by omega)]; exact q2, by rw [eh i (by omega)]; exact q3⟩
    · omega
  · intro i x hi hx hz h0
    rw [en] at hi hx
    by_cases q1 : i = nC P
    · by_cases q2 : x = nC P
      · rw [q1, q2]
      · rw [q1, nP, eP x q2] at hz
        rw [q1, nP] at h0
        rw [q1, no, eo x q2]
        exact (hs x (by omega) hz.symm h0).symm
    · by_cases q2 : x = nC P
      · rw [q2, nP, eP i q1] at hz
        rw [eP i q1, hz] at h0
        rw [q2, no, eo i q1]
        exact hs i (by omega) hz h0
      · rw [eP i q1, eP x q2] at hz
        rw [eP i q1] at h0
        rw [eo i q1, eo x q2]
        exact d i x (by omega) (by omega) hz h0
  · intro s hs; rw [ec] at hs; omega
  · intro i hi
    rw [eN] at hi
    obtain ⟨⟨f1, f2⟩, -⟩ := f i hi
    have el : zl T i = zl P i := by unfold zl; rw [Ik 7 (by decide) (by decide) (by decide) (by decide) (by decide) (by decide) (by decide)]
    unfold W7
    rw [el, ec, Ik 7 (by decide) (by decide) (by decide) (by decide) (by decide) (by decide) (by decide)]
    exact ⟨⟨f1, f2⟩, fun q => by omega⟩
  · rw [ec]; omega
  · intro i hi; rw [ec]; omega
  · intro i h1 h3
    rw [en] at h1
    unfold W9
    rw [hn1 14 i (by omega), hn1 15 i (by omega), hn1 16 i (by omega), hn1 17 i (by omega), hn1 19 i (by omega), hn1 25 i (by omega), OJ, OF, OD]
    exact i9 i (by omega) h3
end Wf4
/-- slots, as a natural -/
def slK (x : Int32) : Nat := if x = 4 then 4 else if x = 16 then 16 else 8
theorem slK_ok (x : Int32) : slN (slK x) ∧ slO x = nI (slK x) := by
  unfold slK slO
  by_cases h4 : x = 4
  · rw [if_pos h4, if_pos (Or.inl h4), h4]; exact ⟨Or.inl rfl, rfl⟩
  · rw [if_neg h4]
    by_cases h6 : x = 16
    · rw [if_pos h6, if_pos (Or.inr h6), h6]; exact ⟨Or.inr (Or.inr rfl), rfl⟩
    · rw [if_neg h6, if_neg (fun q => q.elim h4 h6)]; exact ⟨Or.inr (Or.inl rfl), rfl⟩
theorem ltL_I {P : MS} (k i : Nat) : ∀ n, qI (ltL P n) k i = if k = 7 ∧ i < n then -1 else qI P k i
  | 0 => by rw [ltL, if_neg (by omega)]
  | n + 1 => by
    rw [ltL, qI_if, ltL_I k i n]
    by_cases c : k = 7 ∧ i = n
    · rw [if_pos c, if_pos (by omega)]
    · rw [if_neg c]
      by_cases c2 : k = 7 ∧ i < n
      · rw [if_pos c2, if_pos (by omega)]
      · rw [if_neg c2, if_neg (by omega)]
theorem ltL_o {P : MS} : ∀ n, qS (ltL P n) = qS P ∧ qR (ltL P n) = qR P ∧ qJ (ltL P n) = qJ P ∧ qF (ltL P n) = qF P ∧ qD (ltL P n) = qD P
  | 0 => ⟨rfl, rfl, rfl, rfl, rfl⟩
  | n + 1 => ltL_o n
theorem WF_ini (x : Int32) : WF 0 (iniP x) ∧ nC (iniP x) = 0 ∧ zc (iniP x) = 0 ∧ za (iniP x) = 0 ∧ zN (iniP x) = slK x ∧ qR (iniP x) = 0 ∧ (∀ i, qJ (iniP x) 5 i = 0) ∧ ∀ i, i < 16 → zl (iniP x) i = 0 := by
  obtain ⟨O1, O2, O3, O4, O5⟩ := ltL_o (P := ini0 x) 16
  have J := fun k i => ltL_I (P := ini0 x) k i 16
  have J0 : ∀ k i, k ≠ 7 → qI (ltL (ini0 x) 16) k i = 0 := fun k i h => by rw [J, if_neg (fun q => h q.1)]; rfl
  obtain ⟨s1, s2⟩ := slK_ok x
  have hb := slN_b s1
  have S1 : qS (iniP x) 1 = nI (slK x) := by show qS (ltL (ini0 x) 16) 1 = _; rw [O1]; exact s2
  have S3 : qS (iniP x) 3 = nI 0 - 1 := by show qS (ltL (ini0 x) 16) 3 = _; rw [O1]; rfl
  have S4 : qS (iniP x) 4 = nI 0 - 1 := by show qS (ltL (ini0 x) 16) 4 = _; rw [O1]; rfl
  have S8 : qS (iniP x) 8 = nI 0 := by show qS (ltL (ini0 x) 16) 8 = _; rw [O1]; rfl
  have R0 : qR (iniP x) = 0 := O2
  have JJ : ∀ k i, qJ (iniP x) k i = 0 := fun k i => by show qJ (ltL (ini0 x) 16) k i = 0; rw [O3]; rfl
  have FF : ∀ i, qF (iniP x) i = 0 := fun i => by show qF (ltL (ini0 x) 16) i = 0; rw [O4]; rfl
  have DD : ∀ i, qD (iniP x) i = 0 := fun i => by show qD (ltL (ini0 x) 16) i = 0; rw [O5]; rfl
  have I0 : ∀ k i, k ≠ 7 → qI (iniP x) k i = 0 := J0
  have I7 : ∀ i, i < 16 → qI (iniP x) 7 i = nI 0 - 1 := fun i hi => by show qI (ltL (ini0 x) 16) 7 i = _; rw [J, if_pos ⟨rfl, hi⟩]; decide
  generalize iniP x = T at S1 S3 S4 S8 R0 JJ FF DD I0 I7 ⊢
  have ec : zc T = 0 := cl1 S3 (by omega)
  have ea : za T = 0 := cl1 S4 (by omega)
  have eN : zN T = slK x := cl0 S1 (by omega)
  have en : nC T = 0 := cl0 S8 (by omega)
  have et : ∀ u, zt T u = 0 := fun u => cl0 (I0 21 u (by decide)) (by omega)
  have el : ∀ i, i < 16 → zl T i = 0 := fun i hi => cl1 (I7 i hi) (by omega)
  refine ⟨⟨⟨⟨?_, ?_⟩, ⟨?_, ?_⟩, ⟨?_, ?_⟩, ?_, ?_⟩, ?_, ?_, ?_, ?_, ?_, ⟨?_, ?_⟩, ?_⟩, en, ec, ea, eN, R0, JJ 5, el⟩
  · rw [eN]; exact S1
  · rw [eN]; exact s1
  · rw [ec]; exact S3
  · rw [ec]; exact Nat.zero_le _
  · rw [ea]; exact S4
  · rw [ea]; exact Nat.zero_le _
  · rw [en]; exact S8
  · rw [en]; exact Nat.zero_le _
  · intro j hj; rw [en] at hj; exact absurd hj (Nat.not_lt_zero _)
  · intro u hu
    unfold W3
    rw [et u]
    exact ⟨⟨I0 21 u (by decide), Nat.zero_le _⟩, fun _ => rfl, fun e he => absurd he (Nat.not_lt_zero _)⟩
  · intro i j hi; rw [en] at hi; exact absurd hi (Nat.not_lt_zero _)
  · intro s hs; rw [ec] at hs; exact absurd hs (Nat.not_lt_zero _)
  · intro i hi
    rw [eN] at hi
    unfold W7
    rw [el i (by omega), I7 i (by omega)]
    exact ⟨⟨rfl, Nat.zero_le _⟩, fun q => absurd rfl q⟩
  · rw [ec]; exact Nat.zero_le _
  · intro j hj; rw [en] at hj; exact absurd hj (Nat.not_lt_zero _)
  · intro j _ _
    exact ⟨I0 14 j (by decide), I0 15 j (by decide), I0 16 j (by decide), I0 17 j (by decide), I0 19 j (by decide), I0 25 j (by decide), JJ 22 j, FF j, DD j⟩
