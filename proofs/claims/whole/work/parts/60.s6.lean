/-! ===== run: class and reference answer alike ===== -/
theorem mod_gap {a b N : Nat} (hN : 0 < N) (h : a % N = b % N) (hl : a < b) : a + N ≤ b := by
  have e1 := Nat.div_add_mod a N
  have e2 := Nat.div_add_mod b N
  have : a / N < b / N := by
    rcases Nat.lt_or_ge (a / N) (b / N) with r | r
    · exact r
    · have := Nat.mul_le_mul_left N r; omega
  have := Nat.mul_le_mul_left N this
  rw [Nat.mul_succ] at this
  omega
/-- a published event that isn't overtaken is the latest of its slot -/
theorem zl_now {K : Nat} {P : MS} (h : WF K P) {y : Nat} (hy : y < zc P) (h9 : 9 ≤ zm P y) (hw : zc P ≤ zN P + y) : zl P (y % zN P) = y + 1 := by
  have hN := slN_b h.1.1.2
  have hi : y % zN P < zN P := Nat.mod_lt _ hN.1
  obtain ⟨-, -, -, e4⟩ := h.2.2.2.2.1 y hy
  obtain ⟨⟨f1, f2⟩, f3⟩ := h.2.2.2.2.2.1 _ hi
  have e5 := e4 h9
  obtain ⟨g1, -, -⟩ := f3 (by omega)
  rcases Nat.lt_or_ge y (zl P (y % zN P) - 1) with q | q
  · have := mod_gap hN.1 g1.symm q; omega
  · omega
theorem rv_ok {K : Nat} {S : Mem} {P : MS} {r v g u p f : Nat} (h : WF K P) (hg : RG S P r v g u) (hf : f ≤ za P) (hp : zc P ≤ zN P + p) : RV S v g (zN P) P p f := by
  have hN := slN_b h.1.1.2
  have hac := h.1.2.2.1.2
  refine ⟨fun y => (hg.2.1 _ (Nat.mod_lt _ hN.1)).1, fun y h1 h2 => ?_⟩
  obtain ⟨e1, e2, e3, -⟩ := h.2.2.2.2.1 y (by omega)
  have h9 := e3 (by omega)
  have hz := zl_now h (by omega) h9 (by omega)
  obtain ⟨-, f3⟩ := h.2.2.2.2.2.1 _ (Nat.mod_lt y hN.1)
  obtain ⟨-, g2, g3⟩ := f3 (by omega)
  have g3' : zm P y = 9 + zg P (y % zN P) := by rw [hz] at g3; exact g3
  rw [hg.2.2 y (by omega) (by omega), g2]
  congr 1
  omega
theorem st_run {l : Launch} {s0 : State} {D : va_G} {cA : Nat → ClassId} {ad : Nat → Nat} {K : Nat} {S : Mem} {P : MS} {x : Nat} (hG : cx_G l s0 D cA) (h : Rep K S P x) (hK : K ≤ 511) (cn i : Int32) : St K S x cdS Value.int (fun vv Φ => PC l s0 D cA yX8_run cX8_run 4 (some .int) rmX8_run [.ref x, .int cn, .int i] S (some vv) Φ) (fun E => XT l s0 D cA yX8_run cX8_run 4 (some .int) rmT2 [.ref x, .int cn, .int i] S E) (fun vv P1 => MC l s0 D cA ad yX9_run cX9_run 3 (some .int) rmX9_run [.int cn, .int i] P (some vv) P1) := by
  have h0 := h
  obtain ⟨hw, r, ca, pa, v, g, u, A1, hd, bb, pt, pw, sz, wi, hs⟩ := h0
  have hn := hw.1.2.2.2
  have hcc := wf_c hw (by omega)
  have hN := slN_b hcc.2.2.2
  by_cases hc : (0 : Int32) ≤ cn ∧ cn ≤ nI (nC P) - 1
  rotate_left
  · exact Or.inr ⟨"java/lang/IllegalArgumentException", 1, 0, sS (sS P 0 0) 0 1, Or.inl ⟨rfl, rfl⟩, x_run_no hG cn i hs.1 hc, k_run_no hG i P (by rw [hn.1]; exact hc), rfl, Rep_1 h⟩
  obtain ⟨j, hj, rfl⟩ := wi_of hn.2 hc
  obtain ⟨hC, hH⟩ := hs.2.2.2.2.1 j hj
  by_cases hm : (1 : Int32) ≤ i ∧ i ≤ 20
  rotate_left
  · exact Or.inr ⟨"java/lang/IllegalArgumentException", 1, 0, sS (sS P 0 0) 0 1, Or.inl ⟨rfl, rfl⟩, x_run_m hG i hs.1 hj hm, k_run_m hG i P hn.1 hn.2 hj hm, rfl, Rep_1 h⟩
  obtain ⟨-, -, -, -, -, -, -, -, -, -, i9, -⟩ := hC
  by_cases h14 : qI P 14 j = 0
  rotate_left
  · exact Or.inr ⟨"java/lang/IllegalStateException", 2, 0, sS (sS P 0 0) 0 2, Or.inr ⟨rfl, rfl⟩, x_run_h hG i hs.1 hj hm (by rw [i9]; exact h14), k_run_h hG i P hn.1 hn.2 hj hm h14, rfl, Rep_1 h⟩
  obtain ⟨hC, -⟩ := hs.2.2.2.2.1 j hj
  obtain ⟨M, hM, rfl⟩ := wi_ofM (n := 20) (by decide) (cn := i) ⟨Int32.le_trans (by decide) hm.1, by rw [show nI 20 = (20 : Int32) by decide]; exact hm.2⟩
  have hw0 : WF K (sS P 0 0) := WF_0 hw
  have hzb : zb P j ≤ za P := (zb_le hw hj).1
  have hbd := bdR_eq hw0 (by omega) (j := j) hj
  have ezb : zb (sS P 0 0) j = zb P j := rfl
  rw [ezb] at hbd
  obtain ⟨b1, b2, ⟨b3, b3'⟩, ⟨b4, b5, b6⟩, b7, b8, b9⟩ := hw.2.1 j hj
  have hre := rs_re hG hw (by omega) hs
  have h8 := hw.2.2.2.2.2.2.1.2 j hj
  by_cases c0 : zP P j = 0
  · have ew : zw P j = zp P j := by unfold zw; rw [if_pos c0]
    have hC0 : RC S (A1 j) (hd j) none (sS P 0 0) j (zp P j) (zh P j) (zp P j) := by have q := hC; rw [c0] at q; exact q
    have hk := k_run_b (ad := ad) (sl := zN P) (b := 20 * K) (fr := zb P j) hG P hn.1 hn.2 hj (wf_q hw) hm hN.1 hN.2 hM b8 (by omega) hbd (by omega) h14 (by rw [b2.1, c0]; decide) ⟨zp P j, by omega, b3⟩
    rw [hbd] at hk
    have hcl := c_run_n (P := sS P 0 0) (hd := hd j) (b := bb j) (bb := 20 * K) (pl := zw P) (fr := zb P j) (av := za P) (M := M) hG hs.1 hs.2.1 hj hC0 hH hs.2.2.2.1.1.2 (by omega) hre rfl (rv_ok hw hs.2.2.2.1 hzb (by omega)) b8 (by omega) h14 hM hm b3 (by omega)
    obtain ⟨hWT, F⟩ := WF_bt hw0 hK hj c0 hM
    have eN0 : zN (sS P 0 0) = zN P := rfl
    rw [ezb, eN0] at hWT F
    refine Or.inl ⟨_, _, hcl.mono (fun S1 q => ?_), hk, by rw [F.1]; rfl⟩
    obtain ⟨hx, pn, hQ, e13, e8⟩ := q
    generalize (bt (nI (zb P j) - 1) j (zN P) (sS P 0 0) M 0 (sS P 0 0)).1 = T at hWT F hQ e13
    have ep : zp T j = pn := cl1 e13 (by omega)
    have eh : zh T j = zh P j := by unfold zh; rw [F.2.2.1 20 j (Or.inr (by unfold Zb; omega)) (by decide) (by decide)]; rfl
    have kh := RH_kind hH
    have hX : ∀ q, Xc (A1 j) (hd j) (bb j) (sS P 0 0) j q → q = A1 j ∨ q = hd j ∨ (qI P 9 j = 3 ∧ q = bb j) := fun q e => e.elim Or.inl (fun e => Or.inr (e.elim Or.inl Or.inr))
    refine ⟨hWT, r, ca, pa, v, g, u, A1, hd, bb, pt, pw, sz, wi, RS_one (P := sS P 0 0) hx F (fun k hk => by unfold Zb; omega) (fun q e => ?_) (RSc_one (P := sS P 0 0) hx F (fun k hk => by unfold Zb; omega) hj (fun q e => ?_) ⟨?_, hQ.2⟩ (fun q => absurd q (by decide)) (by rw [eh]; exact b5) hs.2.2.2.2) hs⟩
    · rcases hX q e with rfl | rfl | ⟨q1, rfl⟩
      · exact Or.inl hC.1.2
      · rcases kh.1 with q | q | q | q <;> omega
      · have := kh.2 q1; omega
    · rcases hX q e with q | q | q
      · exact Or.inl q
      · exact Or.inr (Or.inl q)
      · exact Or.inr (Or.inr (Or.inl q))
    · have e0 : poZ (zP (sS P 0 0) j) pt = none := by show poZ (zP P j) pt = none; rw [c0]; rfl
      rw [e0, ep, eh]; exact hQ.1
  · obtain ⟨t, ht⟩ : ∃ t, zP P j = t + 1 := ⟨zP P j - 1, by omega⟩
    have ht2 : t < 2 := by omega
    have hL := (hs.2.2.2.2.2.2.1 t ht2).resolve_left (fun q => q.1 j hj ht)
    have hC0 : RC S (A1 j) (hd j) (some (pt t)) (sS P 0 0) j (zp P j) (zh P j) (zp P j) := by have q := hC; rw [ht] at q; exact q
    obtain ⟨⟨w1, w2⟩, -, -⟩ := hw.2.2.1 t ht2
    have ht8 := zt_a hw ht2
    have ew : zw P j = mh (zP P) (zh P) (t + 1) (zt P t) (nC P) := by unfold zw; rw [if_neg c0, ht]; rfl
    obtain ⟨m1, m2⟩ := (mh_iff (f := zP P) (q := zh P) (t := t + 1) (tk := zt P t) (y := zw P j) (nC P)).mp (Nat.le_of_eq ew)
    have hp2 : ¬ qI P 11 j = 2 := fun q => c0 (b7 q)
    have e12 : qI P 12 j = nI t := by rw [b2.1, ht, nI_pred]
    have hwi : qI P 20 j = -1 ∨ ∃ e, e < 2 ^ 30 ∧ qI P 20 j = nI e := by
      by_cases c : zh P j = 0
      · exact Or.inl (by rw [b4, c]; decide)
      · exact Or.inr ⟨zh P j - 1, by omega, by rw [b4, nIm_S (by omega)]⟩
    have hk := k_run_w (ad := ad) (sl := zN P) (b := 20 * K) (fr := zb P j) (t := t) hG P hn.1 hn.2 hj (wf_q hw) hm hN.1 hN.2 hM b8 (by omega) hbd (by omega) h14 e12 ht2 ⟨hwi, ⟨zt P t, by omega, w1⟩, e12, hp2⟩
    rw [hbd] at hk
    have hcl := c_run_p (P := sS P 0 0) (hd := hd j) (b := bb j) (bb := 20 * K) (pl := zw P) (fr := zb P j) (av := za P) (M := M) (p0 := zw P j) (t := t) (tk := zt P t) hG hs.1 hs.2.1 hj hC0 hH hL.2.1 hs.2.2.2.1.1.2 (by omega) hre rfl (rv_ok hw hs.2.2.2.1 hzb h8) b8 (by omega) h14 hM hm hp2 m1 (by omega) b4 b5 (by by_cases c : zh P j = 0; exact Or.inl c; exact Or.inr (by have := m2 j hj ht (by omega); omega))
    obtain ⟨hWT, F⟩ := WF_wk hw0 hK hj ht2 ht hM
    have eN0 : zN (sS P 0 0) = zN P := rfl
    rw [ezb, eN0] at hWT F
    refine Or.inl ⟨_, _, hcl.mono (fun S1 q => ?_), hk, by rw [F.1]; rfl⟩
    obtain ⟨hx, hq, tk, hQ, hRP, e20, e9, e8⟩ := q
    generalize (wk (nI (zb P j) - 1) j t (zN P) M 0 (sS P 0 0)).1 = T at hWT F hQ hRP e20
    have eh : zh T j = hq := cl1 e20 (by omega)
    have et : zt T t = tk := cl0 hRP.2.2.2.2.1 (by omega)
    have ep : zp T j = zp P j := by unfold zp; rw [F.2.2.1 13 j (Or.inr (by unfold Zw; omega)) (by decide) (by decide)]; rfl
    have kh := RH_kind hH
    have hX : ∀ q, Xs (A1 j) (hd j) (bb j) (sS P 0 0) j (pt t) q → q = A1 j ∨ q = hd j ∨ (qI P 9 j = 3 ∧ q = bb j) ∨ q = pt t := fun q e => e.elim (fun e => Or.inr (Or.inr (Or.inr e))) (fun e => e.elim Or.inl (fun e => Or.inr (e.elim Or.inl (fun e => Or.inr (Or.inl e)))))
    refine ⟨hWT, r, ca, pa, v, g, u, A1, hd, bb, pt, pw, sz, wi, RS_one (P := sS P 0 0) hx F (fun k hk => by unfold Zw; omega) (fun q e => ?_) (RSc_one (P := sS P 0 0) hx F (fun k hk => by unfold Zw; omega) hj (fun q e => ?_) ⟨?_, hQ.2⟩ (fun _ => ⟨ht, by rw [et]; exact hRP⟩) (by rw [eh]; exact e9) hs.2.2.2.2) hs⟩
    · rcases hX q e with rfl | rfl | ⟨q1, rfl⟩ | rfl
      · exact Or.inl hC.1.2
      · rcases kh.1 with q | q | q | q <;> omega
      · have := kh.2 q1; omega
      · have := hL.2.1.1.2; omega
    · rcases hX q e with q | q | q | q
      · exact Or.inl q
      · exact Or.inr (Or.inl q)
      · exact Or.inr (Or.inr (Or.inl q))
      · exact Or.inr (Or.inr (Or.inr ⟨ht2, q⟩))
    · have e0 : poZ (zP (sS P 0 0) j) pt = some (pt t) := by show poZ (zP P j) pt = some (pt t); rw [ht]; rfl
      rw [e0, ep, eh]; exact hQ.1
