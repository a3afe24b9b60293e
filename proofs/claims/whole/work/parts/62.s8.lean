/-! ===== publish: class and reference answer alike ===== -/
theorem av_eq {f : Nat → Int64} {q : Nat → Int32} {N : Nat} : ∀ d a, (∀ s, a ≤ s → s < a + d → (f (s % N) = lN s ↔ 8 < q s)) → avC f N d a = af q d a
  | 0, _, _ => rfl
  | d + 1, a, h => by
    rw [avC, af]
    have h0 := h a (Nat.le_refl _) (by omega)
    by_cases c : 8 < q a
    · rw [if_pos c, if_pos (h0.mpr c)]
      exact av_eq d (a + 1) (fun s h1 h2 => h s (by omega) (by omega))
    · rw [if_neg c, if_neg (fun e => c (h0.mp e))]
section Pub
variable {K : Nat} {S : Mem} {P : MS} {x r ca pa v g u : Nat} {A1 hd bb pt pw sz : Nat → Nat} {wi : Nat → Nat → Nat}
/-- an open sequence: in class and reference -/
theorem open_iff (hw : WF K P) (hs : RS S P x r ca pa v g u A1 hd bb pt pw sz wi) (hK : K ≤ 511) {k : Nat} (hk : k < zc P) (p9 : Int32) : (maJ S u (k % zN P) < lN k ∧ maI S g (k % zN P) = p9) ↔ ∃ p, p < 4 ∧ p9 = nI p ∧ qI P 2 k = nI (1 + p) := by
  have hc := wf_c hw (by omega)
  have hN := slN_b hc.2.2.2
  have hm : k % zN P < zN P := Nat.mod_lt _ hN.1
  obtain ⟨-, g3, g4⟩ := hs.2.2.2.1
  obtain ⟨e1, e2, e3, e4⟩ := hw.2.2.2.2.1 k hk
  have h8 := hw.2.2.2.2.2.2.1.1
  have hl := (hw.2.2.2.2.2.1 _ hm).1.2
  rw [(g3 _ hm).2, ← eL_S (a := k), eL_lt (by omega) (by omega)]
  constructor
  · rintro ⟨a, b⟩
    have n9 : ¬ 9 ≤ zm P k := fun q => by have := e4 q; omega
    have hza : ¬ k < za P := fun q => n9 (e3 q)
    have e5 := g4 k hk (by omega)
    rw [e5] at b
    refine ⟨zm P k - 1, by omega, ?_, by rw [e1]; congr 1; omega⟩
    rw [← b]; congr 1; omega
  · rintro ⟨p, hp, rfl, e⟩
    have ez : zm P k = 1 + p := cl0 e (by omega)
    have ho := zl_old hw hk (by omega)
    have hza : ¬ k < za P := fun q => by have := e3 q; omega
    refine ⟨by omega, ?_⟩
    rw [g4 k hk (by omega), ez]; congr 1; omega
theorem Rep_pub {ev p : Nat} {y : Int64} (hw : WF K P) (hs : RS S P x r ca pa v g u A1 hd bb pt pw sz wi) (hK : K ≤ 511) (hp : p < 4) (hev : ev < zc P) (hm : qI P 2 ev = nI (1 + p)) :
    avC (maJ (wrS S v u (ev % zN P) y (lN ev)) u) (zN P) (zc P - za P) (za P) = puA P ev p y ∧ Rep (K + 1) (uJ (wrS S v u (ev % zN P) y (lN ev)) 4 r (eL (puA P ev p y))) (sS (puS P ev (ev % zN P) (nI p) y) 4 (nI (puA P ev p y) - 1)) x := by
  have hW := WF_pub (v := y) hw hK hp hev hm
  have hc := wf_c hw (by omega)
  have hN := slN_b hc.2.2.2
  have hmm : zm P ev = 1 + p := cl0 hm (by omega)
  have h8 := hw.2.2.2.2.2.2.1.1
  have Al : puA P ev p y ≤ za P + (zc P - za P) := af_le (q := qI (puS P ev (ev % zN P) (nI p) y) 2) (zc P - za P) (za P)
  have eA : puA P ev p y = af (qI (puS P ev (ev % zN P) (nI p) y) 2) (zc P - za P) (za P) := rfl
  have J : ∀ k i, qI (sS (puS P ev (ev % zN P) (nI p) y) 4 (nI (puA P ev p y) - 1)) k i = if k = 2 ∧ i = ev then nI (9 + p) else if k = 6 ∧ i = ev % zN P then nI p else if k = 7 ∧ i = ev % zN P then nI ev else qI P k i := puS_I (P := P) (ev := ev) (j := ev % zN P) (v := y) hp hm
  have q2 : qI (puS P ev (ev % zN P) (nI p) y) 2 = qI (sS (puS P ev (ev % zN P) (nI p) y) 4 (nI (puA P ev p y) - 1)) 2 := rfl
  have OS : ∀ k, k ≠ 4 → k ≠ 0 → qS (sS (puS P ev (ev % zN P) (nI p) y) 4 (nI (puA P ev p y) - 1)) k = qS P k := fun k h4 h0 => by
    show va_up (va_up (qS P) 0 0) 4 _ k = _
    rw [va_up_ne _ _ h4, va_up_ne _ _ h0]
  have S4 : qS (sS (puS P ev (ev % zN P) (nI p) y) 4 (nI (puA P ev p y) - 1)) 4 = nI (puA P ev p y) - 1 := rfl
  have OR : qR (sS (puS P ev (ev % zN P) (nI p) y) 4 (nI (puA P ev p y) - 1)) = qR P := rfl
  have OF : qF (sS (puS P ev (ev % zN P) (nI p) y) 4 (nI (puA P ev p y) - 1)) = qF P := rfl
  have OD : qD (sS (puS P ev (ev % zN P) (nI p) y) 4 (nI (puA P ev p y) - 1)) = qD P := rfl
  have OJ : ∀ k i, qJ (sS (puS P ev (ev % zN P) (nI p) y) 4 (nI (puA P ev p y) - 1)) k i = if k = 5 ∧ i = ev % zN P then y else qJ P k i := fun k i => by
    show qJ (sJ (sI (sS P 0 0) 2 ev _) 5 (ev % zN P) y) k i = _
    rw [qJ_if]; rfl
  rw [q2] at eA
  generalize puA P ev p y = a at hW J OS S4 OR OF OD OJ Al eA ⊢
  clear q2
  generalize sS (puS P ev (ev % zN P) (nI p) y) 4 (nI a - 1) = T at hW J OS S4 OR OF OD OJ eA ⊢
  have Ik : ∀ k, k ≠ 2 → k ≠ 6 → k ≠ 7 → qI T k = qI P k := fun k h2 h6 h7 => funext fun i => by rw [J, if_neg (fun q => h2 q.1), if_neg (fun q => h6 q.1), if_neg (fun q => h7 q.1)]
  have ec : zc T = zc P := by unfold zc; rw [OS 3 (by decide) (by decide)]
  have ea : za T = a := cl1 S4 (by omega)
  have eN : zN T = zN P := by unfold zN; rw [OS 1 (by decide) (by decide)]
  have en : nC T = nC P := by unfold nC; rw [OS 8 (by decide) (by decide)]
  have eo : zo T = zo P := funext fun i => by unfold zo; rw [Ik 10 (by decide) (by decide) (by decide)]
  have el : ∀ i, i ≠ ev % zN P → zl T i = zl P i := fun i hi => by unfold zl; rw [J, if_neg (by omega), if_neg (by omega), if_neg (fun q => hi q.2)]
  have el2 : zl T (ev % zN P) = ev + 1 := cl1 (by rw [J, if_neg (by omega), if_neg (by omega), if_pos ⟨rfl, rfl⟩, nI_pred]) (by omega)
  have em : ∀ s, s ≠ ev → zm T s = zm P s := fun s hs => by unfold zm; rw [J, if_neg (fun q => hs q.2), if_neg (by omega), if_neg (by omega)]
  have em2 : zm T ev = 9 + p := cl0 (by rw [J, if_pos ⟨rfl, rfl⟩]) (by omega)
  obtain ⟨h1, h2, ⟨h3, h3'⟩, ⟨⟨g1, g2⟩, g3, g4⟩, h5⟩ := hs
  have h5' : RSc S P ca pa A1 hd bb pt pw sz wi := h5
  have hvu : v ≠ u := h2.2.2.2.2.2.1
  have U : ∀ i, i < zN P → maJ (wrS S v u (ev % zN P) y (lN ev)) u i = eL (zl T i) := fun i hi => by
    unfold wrS
    by_cases c : i = ev % zN P
    · rw [c, el2, eL_S]; exact maJ_s
    · rw [el i c, maJ_a c, maJ_k (Ne.symm hvu)]; exact (g3 i hi).2
  have V : ∀ i, i < zN P → maJ (wrS S v u (ev % zN P) y (lN ev)) v i = qJ T 5 i := fun i hi => by
    unfold wrS
    rw [maJ_k hvu, OJ]
    by_cases c : i = ev % zN P
    · rw [if_pos ⟨rfl, c⟩, c]; exact maJ_s
    · rw [if_neg (fun q => c q.2), maJ_a c]; exact (g3 i hi).1
  have hav : avC (maJ (wrS S v u (ev % zN P) y (lN ev)) u) (zN P) (zc P - za P) (za P) = a := by
    rw [eA]
    refine av_eq _ _ (fun s hs1 hs2 => ?_)
    have hi : s % zN P < zN P := Nat.mod_lt _ hN.1
    have hl := (hW.2.2.2.2.2.1 (s % zN P) (by rw [eN]; exact hi))
    obtain ⟨e1, e2, -, -⟩ := hW.2.2.2.2.1 s (by rw [ec]; omega)
    have e2' : zm T s ≤ 12 := by omega
    rw [U _ hi, ← eL_S (a := s), eL_eq (by have := hl.1.2; omega) (by omega), e1, show (8 : Int32) = nI 8 by decide, nI_ltI (by omega) (by omega)]
    constructor
    · intro e
      obtain ⟨-, -, f3⟩ := hl.2 (by omega)
      rw [e] at f3
      have f3' : zm T s = 9 + zg T (s % zN P) := f3
      omega
    · intro e
      have := zl_now hW (y := s) (by rw [ec]; omega) (by omega) (by rw [ec, eN]; omega)
      rw [eN] at this
      exact this
  refine ⟨hav, hW, r, ca, pa, v, g, u, A1, hd, bb, pt, pw, sz, wi, ?_⟩
  have kv : mK S v = 13 := h2.2.2.1.2.1
  have ku : mK S u = 13 := h2.2.2.2.2.1.2.1
  have kr : mK S r = 4 := h2.1.2
  have hx : ag (fun q => q = v ∨ q = u ∨ q = r) S (uJ (wrS S v u (ev % zN P) y (lN ev)) 4 r (eL a)) := ag_tr (ag_tr (ag_uaJ (Or.inl rfl)) (ag_uaJ (Or.inr (Or.inl rfl)))) (ag_uJ (Or.inr (Or.inr rfl)))
  have hk : ∀ q, (q = v ∨ q = u ∨ q = r) → mK S q = 4 ∨ mK S q = 13 := fun q e => by
    rcases e with rfl | rfl | rfl
    · exact Or.inr kv
    · exact Or.inr ku
    · exact Or.inl kr
  have nx : ¬ (x = v ∨ x = u ∨ x = r) := fun e => by have := hk x e; have := h1.1.2; omega
  have nca : ¬ (ca = v ∨ ca = u ∨ ca = r) := fun e => by have := hk ca e; have := h1.2.2.1.2.1; omega
  have ng : ¬ (g = v ∨ g = u ∨ g = r) := fun e => by have := hk g e; have := h2.2.2.2.1.2.1; omega
  refine ⟨?_, ?_, ⟨?_, ?_⟩, ⟨⟨?_, ?_⟩, ?_, ?_⟩, ?_⟩
  · rw [en]; exact plA_ex (ex_ag hx) nx nca h1
  · rw [eN]; exact rgA_ag hx h2
  · rw [en, eo]; exact ((hx.2.2.2.2.2 x nx).1 4).trans h3
  · rw [OR]; exact ((hx.2.2.2.2.2 x nx).2.1 5).trans h3'
  · rw [ec]; exact (mJ_k (S := wrS S v u (ev % zN P) y (lN ev)) (k := 4) (a := r) (i := 3) (b := r) (v := eL a) (by decide)).trans g1
  · rw [ea]; exact mJ_s
  · intro i hi
    rw [eN] at hi
    exact ⟨V i hi, U i hi⟩
  · intro s hs1 hs2
    rw [ec] at hs1
    rw [ec, eN] at hs2
    rw [eN, (hx.2.2.2.2.2 g ng).2.2.2.2.1, g4 s hs1 hs2]
    by_cases c : s = ev
    · subst c; rw [em2, hmm]; congr 1; omega
    · rw [em s c]
  · exact (RSc_PP (fun k hk => Ik k (by omega) (by omega) (by omega)) (funext fun i => by rw [OJ, if_neg (by omega)]) OF OD (OS 8 (by decide) (by decide)) (RSc_ag hx (fun q e => by have := hk q e; omega) h5') : RSc (uJ (wrS S v u (ev % zN P) y (lN ev)) 4 r (eL a)) T ca pa A1 hd bb pt pw sz wi)
end Pub
theorem st_publish {l : Launch} {s0 : State} {D : va_G} {cA : Nat → ClassId} {ad : Nat → Nat} {K : Nat} {S : Mem} {P : MS} {x : Nat} (hG : cx_G l s0 D cA) (h : Rep K S P x) (hK : K ≤ 511) (p9 : Int32) (sq y : Int64) : St K S x cdN Value.int (fun vv Φ => PC l s0 D cA yX8_publish cX8_publish 6 (some .boolean) rmX8_publish [.ref x, .int p9, .long sq, .long y] S (some vv) Φ) (fun E => XT l s0 D cA yX8_publish cX8_publish 6 (some .boolean) rmT2 [.ref x, .int p9, .long sq, .long y] S E) (fun vv P1 => MC l s0 D cA ad yX9_publish cX9_publish 8 (some .boolean) rmX9_publish [.int p9, .long sq, .long y] P (some vv) P1) := by
  have h0 := h
  obtain ⟨hw, r, ca, pa, v, g, u, A1, hd, bb, pt, pw, sz, wi, hs⟩ := h0
  have hn := hw.1.2.2.2
  have hcc := wf_c hw (by omega)
  have hN := slN_b hcc.2.2.2
  obtain ⟨⟨g1, g2⟩, g3, g4⟩ := hs.2.2.2.1
  have eS3 : (qS P 3).toInt64 = eL (zc P) := by rw [hw.1.2.1.1, eL_of (by omega)]
  by_cases z0 : sq < 0
  · have ho := c_open_l hG p9 sq hs.2.1 g1 z0
    by_cases hg : (0 : Int32) ≤ p9 ∧ p9 ≤ 3
    · exact Or.inr ⟨"java/util/NoSuchElementException", 1, 0, sS (sS P 0 0) 0 1, ⟨rfl, rfl⟩, x_publish hG p9 _ y hs.1 hs.2.1 (ho), k_pub_l hG p9 sq y P hg z0, rfl, Rep_1 h⟩
    · exact Or.inr ⟨"java/util/NoSuchElementException", 1, 0, sS (sS P 0 0) 0 1, ⟨rfl, rfl⟩, x_publish hG p9 _ y hs.1 hs.2.1 (ho), k_pub_p hG p9 sq y P hg, rfl, Rep_1 h⟩
  obtain ⟨k, hk, rfl⟩ := pk_lOf z0
  by_cases hkc : k < zc P
  rotate_left
  · have h1 : ¬ lN k ≤ eL (zc P) := fun q => by
      rw [Int64.le_iff_toInt_le, pk_lT hk, eL_toInt (by omega)] at q
      omega
    have ho := c_open_h hG p9 (lN k) hs.2.1 g1 z0 h1
    by_cases hg : (0 : Int32) ≤ p9 ∧ p9 ≤ 3
    · exact Or.inr ⟨"java/util/NoSuchElementException", 1, 0, sS (sS P 0 0) 0 1, ⟨rfl, rfl⟩, x_publish hG p9 _ y hs.1 hs.2.1 (ho), k_pub_h hG p9 (lN k) y P hg z0 (by rw [eS3]; exact h1), rfl, Rep_1 h⟩
    · exact Or.inr ⟨"java/util/NoSuchElementException", 1, 0, sS (sS P 0 0) 0 1, ⟨rfl, rfl⟩, x_publish hG p9 _ y hs.1 hs.2.1 (ho), k_pub_p hG p9 (lN k) y P hg, rfl, Rep_1 h⟩
  have h1 : lN k ≤ eL (zc P) := (lN_leE (by omega) (by omega)).mpr hkc
  have hop := open_iff hw hs hK hkc p9
  have ho := c_open_k hG p9 k hs.2.1 g1 hk z0 h1
  by_cases c : maJ S u (k % zN P) < lN k ∧ maI S g (k % zN P) = p9
  · obtain ⟨p, hp, rfl, em⟩ := hop.mp c
    obtain ⟨ha, hR⟩ := Rep_pub (y := y) hw hs hK hp hkc em
    have hp3 : (0 : Int32) ≤ nI p ∧ nI p ≤ 3 := by have := wi_ok (n := 4) hp (by decide); rw [show nI 4 - 1 = (3 : Int32) by decide] at this; exact this
    have hkk := k_pub_k (ad := ad) (ev := k) (cu := zc P) (a := za P) (sl := zN P) hG (nI p) (lN k) y P hp3 z0 (by rw [eS3]; exact h1) (lN_i k) (by omega) (by rw [em, ← nI_add]; rfl) hw.1.1.1 hN.1 hN.2 hw.1.2.1.1 hw.1.2.2.1.1 hcc.2.1 (by omega)
    have hcl := c_publish (cu := zc P) (a := za P) hG (nI p) k y hs.1 hs.2.1 (by omega) g1 (by omega) g2 hcc.2.1 z0 h1 c
    rw [ha] at hcl
    exact Or.inl ⟨_, _, hcl.mono (fun S1 e => by rw [e]; exact hR), hkk, rfl⟩
  · rw [if_neg c] at ho
    by_cases hg : (0 : Int32) ≤ p9 ∧ p9 ≤ 3
    · refine Or.inr ⟨"java/util/NoSuchElementException", 1, 0, sS (sS P 0 0) 0 1, ⟨rfl, rfl⟩, x_publish hG p9 _ y hs.1 hs.2.1 (ho), k_pub_x hG p9 (lN k) y P hg z0 (by rw [eS3]; exact h1) (lN_i k) (by omega) (fun e => c (hop.mpr ?_)), rfl, Rep_1 h⟩
      obtain ⟨p, hp, rfl⟩ := wi_of (n := 4) (by decide) (cn := p9) (by rw [show nI 4 - 1 = (3 : Int32) by decide]; exact hg)
      exact ⟨p, hp, rfl, by rw [e, ← nI_add]; rfl⟩
    · exact Or.inr ⟨"java/util/NoSuchElementException", 1, 0, sS (sS P 0 0) 0 1, ⟨rfl, rfl⟩, x_publish hG p9 _ y hs.1 hs.2.1 (ho), k_pub_p hG p9 (lN k) y P hg, rfl, Rep_1 h⟩
