/-! ===== consumer: class and reference answer alike ===== -/
theorem on_iff {n : Nat} (hn : n ≤ 8) (on : Int32) : (on.toUInt32 >>> ((nI n).toUInt32 &&& Int32.toUInt32 31)).toInt32 = 0 ↔ ∃ o, o < 2 ^ n ∧ on = nI o := by
  have hs : ∀ n : Fin 9, ((nI n.val).toUInt32 &&& Int32.toUInt32 31).toNat % 32 = n.val := by decide +kernel
  have h1 := hs ⟨n, by omega⟩
  simp only at h1
  have hv : (on.toUInt32 >>> ((nI n).toUInt32 &&& Int32.toUInt32 31)).toNat = on.toUInt32.toNat / 2 ^ n := by
    rw [UInt32.toNat_shiftRight, h1, Nat.shiftRight_eq_div_pow]
  have hon : on = nI on.toUInt32.toNat := by
    apply Int32.toBitVec_inj.mp
    show on.toUInt32.toBitVec = BitVec.ofNat 32 on.toUInt32.toBitVec.toNat
    rw [BitVec.ofNat_toNat, BitVec.setWidth_eq]
  constructor
  · intro h
    have h2 : (on.toUInt32 >>> ((nI n).toUInt32 &&& Int32.toUInt32 31)).toNat = 0 := by
      have := congrArg (fun z : Int32 => z.toUInt32.toNat) h
      exact this
    rw [hv] at h2
    exact ⟨on.toUInt32.toNat, (Nat.div_eq_zero_iff.mp h2).resolve_left (by have := Nat.two_pow_pos n; omega), hon⟩
  · rintro ⟨o, ho, rfl⟩
    have hlt : (2 : Nat) ^ n ≤ 2 ^ 8 := Nat.pow_le_pow_right (by decide) hn
    have e : (nI o).toUInt32.toNat = o := by
      show (BitVec.ofNat 32 o).toNat = o
      rw [BitVec.toNat_ofNat]
      exact Nat.mod_eq_of_lt (by omega)
    rw [e, Nat.div_eq_of_lt ho] at hv
    have h3 : nI o = nI o := rfl
    have : (nI o).toUInt32 >>> ((nI n).toUInt32 &&& Int32.toUInt32 31) = 0 := UInt32.toNat_inj.mp hv
    rw [this]; rfl
theorem on_iff2 {n : Nat} (hn : n ≤ 8) (on : Int32) : (¬ on < 0 ∧ ¬ (1 : Int32) <<< (nI n &&& 31) ≤ on) ↔ ∃ o, o < 2 ^ n ∧ on = nI o := by
  have hs : ∀ n : Fin 9, (1 : Int32) <<< (nI n.val &&& 31) = nI (2 ^ n.val) := by decide +kernel
  have h1 := hs ⟨n, by omega⟩
  simp only at h1
  have hlt : (2 : Nat) ^ n ≤ 2 ^ 8 := Nat.pow_le_pow_right (by decide) hn
  rw [h1]
  constructor
  · rintro ⟨a, b⟩
    obtain ⟨o, ho, rfl⟩ := nI_of a
    refine ⟨o, ?_, rfl⟩
    rcases Nat.lt_or_ge o (2 ^ n) with c | c
    · exact c
    · exact absurd ((nI_leI (by omega) ho).mpr c) b
  · rintro ⟨o, ho, rfl⟩
    exact ⟨nI_pos (by omega), fun c => by have := (nI_leI (by omega) (by omega)).mp c; omega⟩
theorem fo_spec {pl : Nat → Int32} {q : Int32} : ∀ (n : Nat) (f : Int32), (fo pl q n f = f ∧ ∀ i, i < n → ¬ (0 ≤ q ∧ pl i = q)) ∨ (∃ i, i < n ∧ fo pl q n f = nI i ∧ 0 ≤ q ∧ pl i = q)
  | 0, f => Or.inl ⟨rfl, fun i hi => absurd hi (Nat.not_lt_zero _)⟩
  | k + 1, f => by
    rw [fo]
    by_cases h : 0 ≤ q ∧ pl k = q
    · rw [if_pos h]
      rcases fo_spec (pl := pl) (q := q) k (nI k) with ⟨h1, -⟩ | ⟨i, hi, h1, h2⟩
      · exact Or.inr ⟨k, by omega, h1, h⟩
      · exact Or.inr ⟨i, by omega, h1, h2⟩
    · rw [if_neg h]
      rcases fo_spec (pl := pl) (q := q) k f with ⟨h1, h2⟩ | ⟨i, hi, h1, h2⟩
      · refine Or.inl ⟨h1, fun i hi => ?_⟩
        by_cases e : i = k
        · rw [e]; exact h
        · exact h2 i (by omega)
      · exact Or.inr ⟨i, by omega, h1, h2⟩
theorem k03 {k : Int32} (h : (0 : Int32) ≤ k ∧ k ≤ 3) : k = 0 ∨ k = 1 ∨ k = 2 ∨ k = 3 := by
  obtain ⟨j, hj, rfl⟩ := wi_of (n := 4) (by decide) (cn := k) (by rw [show nI 4 - 1 = (3 : Int32) by decide]; exact h)
  have : j = 0 ∨ j = 1 ∨ j = 2 ∨ j = 3 := by omega
  rcases this with rfl | rfl | rfl | rfl
  · exact Or.inl rfl
  · exact Or.inr (Or.inl rfl)
  · exact Or.inr (Or.inr (Or.inl rfl))
  · exact Or.inr (Or.inr (Or.inr rfl))
theorem k02 {k : Int32} (h : (0 : Int32) ≤ k ∧ k ≤ 2) : k = 0 ∨ k = 1 ∨ k = 2 := by
  obtain ⟨j, hj, rfl⟩ := wi_of (n := 3) (by decide) (cn := k) (by rw [show nI 3 - 1 = (2 : Int32) by decide]; exact h)
  have : j = 0 ∨ j = 1 ∨ j = 2 := by omega
  rcases this with rfl | rfl | rfl
  · exact Or.inl rfl
  · exact Or.inr (Or.inl rfl)
  · exact Or.inr (Or.inr rfl)
set_option maxRecDepth 4000 in
theorem st_consumer {l : Launch} {s0 : State} {D : va_G} {cA : Nat → ClassId} {ad : Nat → Nat} {K : Nat} {S : Mem} {P : MS} {x : Nat} (hG : cx_G l s0 D cA) (h : Rep K S P x) (hK : K ≤ 511) (k on how q : Int32) : St K S x cdS Value.int (fun vv Φ => PC l s0 D cA yX8_consumer cX8_consumer 5 (some .int) rmX8_consumer [.ref x, .int k, .int on, .int how, .int q] S (some vv) Φ) (fun E => XT l s0 D cA yX8_consumer cX8_consumer 5 (some .int) rmT2 [.ref x, .int k, .int on, .int how, .int q] S E) (fun vv P1 => MC l s0 D cA ad yX9_consumer cX9_consumer 6 (some .int) rmX9_consumer [.int k, .int on, .int how, .int q] P (some vv) P1) := by
  have h0 := h
  obtain ⟨hw, r, ca, pa, v, g, u, A1, hd, bb, pt, pw, sz, wi, hs⟩ := h0
  have hn := hw.1.2.2.2
  have hcc := wf_c hw (by omega)
  obtain ⟨⟨g1, -⟩, -⟩ := hs.2.2.2.1
  have h4 := hs.2.2.1.1
  have s3 := hw.1.2.1.1
  by_cases hk : (0 : Int32) ≤ k ∧ k ≤ 3
  rotate_left
  · exact Or.inr ⟨"java/lang/IllegalArgumentException", 1, 0, sS (sS P 0 0) 0 1, Or.inl ⟨rfl, rfl⟩, x_cons_k hG k on how q hs.1 hk, k_cons_b hG _ _ _ _ P hn.1 hn.2 (fun g => hk g.1), rfl, Rep_1 h⟩
  by_cases hh : (0 : Int32) ≤ how ∧ how ≤ 2
  rotate_left
  · exact Or.inr ⟨"java/lang/IllegalArgumentException", 1, 0, sS (sS P 0 0) 0 1, Or.inl ⟨rfl, rfl⟩, x_cons_h hG k on how q hs.1 hk hh, k_cons_b hG _ _ _ _ P hn.1 hn.2 (fun g => hh g.2.2.1), rfl, Rep_1 h⟩
  by_cases hon : (on.toUInt32 >>> ((nI (nC P)).toUInt32 &&& Int32.toUInt32 31)).toInt32 = 0
  rotate_left
  · exact Or.inr ⟨"java/lang/IllegalArgumentException", 1, 0, sS (sS P 0 0) 0 1, Or.inl ⟨rfl, rfl⟩, x_cons_o hG k on how q hs.1 hk hh hon, k_cons_b hG _ _ _ _ P hn.1 hn.2 (fun g => hon ((on_iff hn.2 on).mpr ((on_iff2 hn.2 on).mp (by have := g.2.1; rw [hn.1] at this; exact this)))), rfl, Rep_1 h⟩
  obtain ⟨o, ho, rfl⟩ := (on_iff hn.2 on).mp hon
  have hon2 : ¬ nI o < 0 ∧ ¬ (1 : Int32) <<< (qS P 8 &&& 31) ≤ nI o := by rw [hn.1]; exact (on_iff2 hn.2 (nI o)).mpr ⟨o, ho, rfl⟩
  have hk4 := k03 hk
  have hh3 := k02 hh
  by_cases hq : q = -1
  · subst hq
    have gd : cGood P (nC P) k (nI o) how (-1) := by
      refine ⟨hk, hon2, hh, ⟨by decide, by decide⟩, Or.inl (by decide), Or.inl ?_⟩
      rcases fo_spec (pl := qI P 12) (q := -1) (nC P) (-1) with ⟨e, -⟩ | ⟨i, -, -, e, -⟩
      · rw [e]; decide
      · exact absurd e (by decide)
    by_cases hn8 : nC P < 8
    rotate_left
    · have e8 : nC P = 8 := by omega
      exact Or.inr ⟨"java/lang/IllegalStateException", 2, 0, sS (sS P 0 0) 0 2, Or.inr ⟨rfl, rfl⟩, x_cons_8n hG k (nI o) how hs.1 hs.2.1 hk hh hon e8, k_cons_f hG _ _ _ _ P hn.1 hn.2 gd (Or.inl (by rw [hn.1, e8]; rfl)), rfl, Rep_1 h⟩
    by_cases hc : zc P = 0
    rotate_left
    · exact Or.inr ⟨"java/lang/IllegalStateException", 2, 0, sS (sS P 0 0) 0 2, Or.inr ⟨rfl, rfl⟩, x_cons_cn (cq := eL (zc P)) hG k (nI o) how hs.1 hs.2.1 hk hh hon hn8 g1 (fun c => by rw [Int64.lt_iff_toInt_lt, eL_toInt (by omega), show (0 : Int64).toInt = 0 by decide] at c; omega), k_cons_f hG _ _ _ _ P hn.1 hn.2 gd (Or.inr (by rw [s3]; exact (nIm_pos (by omega)).mpr (by omega))), rfl, Rep_1 h⟩
    have hkk := k_cons_k (ad := ad) hG k (nI o) how (-1) P hn.1 hn.2 gd hn8 (by rw [s3, hc]; decide)
    refine Or.inl ⟨(nI (nC P)), csS P (nC P) k (nI o) how (-1), (c_cons_n (cq := eL (zc P)) (hu := nI (hgN (zo P) (nC P))) hG k (nI o) how hs.1 hs.2.1 hk hh hon hn8 g1 (by rw [hc]; decide +kernel) h4).mono (fun S1 e => ?_), hkk, rfl⟩
    obtain ⟨q0, M0, q1, M1, M3, e1, e2, e3, e4, e5⟩ := e
    exact Rep_cons_n hw hs hn8 hc hk4 ho hh3 e1 e2 e3 e4 e5
  by_cases hq2 : (0 : Int32) ≤ q ∧ q ≤ 1
  rotate_left
  · refine Or.inr ⟨"java/lang/IllegalArgumentException", 1, 0, sS (sS P 0 0) 0 1, Or.inl ⟨rfl, rfl⟩, x_cons_p hG k (nI o) how q hs.1 hk hh hon hq (c_mj_x hG q (nI o) how hs.1 hq2), k_cons_b hG _ _ _ _ P hn.1 hn.2 (fun g => hq2 ⟨Int32.not_lt.mp (fun c => hq ?_), g.2.2.2.1.2⟩), rfl, Rep_1 h⟩
    have c1 := g.2.2.2.1.1
    rw [Int32.le_iff_toInt_le, show (-1 : Int32).toInt = -1 by decide] at c1
    rw [Int32.lt_iff_toInt_lt, show (0 : Int32).toInt = 0 by decide] at c
    exact Int32.toInt_inj.mp (by rw [show (-1 : Int32).toInt = -1 by decide]; omega)
  obtain ⟨t, ht, rfl⟩ := wi_of (n := 2) (by decide) (cn := q) (by rw [show nI 2 - 1 = (1 : Int32) by decide]; exact hq2)
  by_cases h2 : how = 2
  · exact Or.inr ⟨"java/lang/IllegalArgumentException", 1, 0, sS (sS P 0 0) 0 1, Or.inl ⟨rfl, rfl⟩, x_cons_p hG k (nI o) how (nI t) hs.1 hk hh hon hq (c_mj_p hG (nI o) how hs.1 ht h2), k_cons_b hG _ _ _ _ P hn.1 hn.2 (fun g => g.2.2.2.2.1.elim (nI_pos (by omega)) (fun c => c h2)), rfl, Rep_1 h⟩
  have hL := hs.2.2.2.2.2.2.1 t ht
  have e12 : ∀ i, i < nC P → (qI P 12 i = nI t ↔ zP P i = t + 1) := fun i hi => by
    obtain ⟨a, b⟩ := (hw.2.1 i hi).2.1
    rw [a, nIm_eq (by omega) (by omega)]
  by_cases hbad : ∃ y, maR S (pa) t = some y ∧ ¬ mI S 0 y = nI o
  · obtain ⟨y, f1, f2⟩ := hbad
    have hl := hL.resolve_left (fun b => by rw [b.2] at f1; cases f1)
    obtain rfl : y = pt t := Option.some.inj (f1.symm.trans hl.1)
    refine Or.inr ⟨"java/lang/IllegalArgumentException", 1, 0, sS (sS P 0 0) 0 1, Or.inl ⟨rfl, rfl⟩, x_cons_p hG k (nI o) how (nI t) hs.1 hk hh hon hq (c_mj_0 hG (nI o) how hs.1 ht h2 f1 hl.2.1.1.1 hl.2.1.1.2 rfl f2), k_cons_b hG _ _ _ _ P hn.1 hn.2 (fun g => ?_), rfl, Rep_1 h⟩
    have hex : zP P (wi t 0) = t + 1 ∧ wi t 0 < nC P := ⟨(hl.2.2.2.2.1 0 hl.2.2.2.1.1).2, (hl.2.2.2.2.1 0 hl.2.2.2.1.1).1⟩
    rcases fo_spec (pl := qI P 12) (q := nI t) (nC P) (-1) with ⟨-, e⟩ | ⟨i, hi, e, -, ei⟩
    · exact e _ hex.2 ⟨hq2.1, (e12 _ hex.2).mpr hex.1⟩
    · have gl := g.2.2.2.2.2
      rw [e] at gl
      rcases gl with c | c
      · exact absurd c (nI_pos (by omega))
      · rw [nI_clamp (by omega)] at c
        exact f2 ((hl.2.2.2.2.2 i hi ((e12 i hi).mp ei)).2.trans c)
  have hp1 : ∀ y, maR S pa t = some y → (y ∈ mL S ∧ mK S y = 3) ∧ mI S 0 y = nI o := fun y e => by
    have hl := hL.resolve_left (fun b => by rw [b.2] at e; cases e)
    obtain rfl : y = pt t := Option.some.inj (e.symm.trans hl.1)
    exact ⟨hl.2.1.1, Decidable.byContradiction (fun c => hbad ⟨_, e, c⟩)⟩
  have hmj := c_mj hG (nI o) how hs.1 ht h2 hp1
  have gd : cGood P (nC P) k (nI o) how (nI t) := by
    refine ⟨hk, hon2, hh, ⟨Int32.le_trans (by decide) hq2.1, hq2.2⟩, Or.inr h2, ?_⟩
    rcases fo_spec (pl := qI P 12) (q := nI t) (nC P) (-1) with ⟨e, -⟩ | ⟨i, hi, e, -, ei⟩
    · rw [e]; exact Or.inl (by decide)
    · right
      rw [e, nI_clamp (by omega)]
      have hz := (e12 i hi).mp ei
      have hl := hL.resolve_left (fun b => b.1 i hi hz)
      rw [← (hl.2.2.2.2.2 i hi hz).2]
      exact (hp1 _ hl.1).2
  by_cases hn8 : nC P < 8
  rotate_left
  · have e8 : nC P = 8 := by omega
    exact Or.inr ⟨"java/lang/IllegalStateException", 2, 0, sS (sS P 0 0) 0 2, Or.inr ⟨rfl, rfl⟩, x_cons_8p hG k (nI o) how (nI t) hs.1 hs.2.1 hk hh hon hq hmj e8, k_cons_f hG _ _ _ _ P hn.1 hn.2 gd (Or.inl (by rw [hn.1, e8]; rfl)), rfl, Rep_1 h⟩
  by_cases hc : zc P = 0
  rotate_left
  · exact Or.inr ⟨"java/lang/IllegalStateException", 2, 0, sS (sS P 0 0) 0 2, Or.inr ⟨rfl, rfl⟩, x_cons_cp (cq := eL (zc P)) hG k (nI o) how (nI t) hs.1 hs.2.1 hk hh hon hq hmj hn8 g1 (fun c => by rw [Int64.lt_iff_toInt_lt, eL_toInt (by omega), show (0 : Int64).toInt = 0 by decide] at c; omega), k_cons_f hG _ _ _ _ P hn.1 hn.2 gd (Or.inr (by rw [s3]; exact (nIm_pos (by omega)).mpr (by omega))), rfl, Rep_1 h⟩
  have hp0 : ∀ y, maR S pa t = some y → ∃ w z, poA S y w z := fun y e => by
    have hl := hL.resolve_left (fun b => by rw [b.2] at e; cases e)
    obtain rfl : y = pt t := Option.some.inj (e.symm.trans hl.1)
    exact ⟨pw t, sz t, hl.2.1.1, hl.2.1.2.1, hl.2.1.2.2.1, hl.2.2.1.1, by have := hl.2.2.2.1.2; omega⟩
  have hkk := k_cons_k (ad := ad) hG k (nI o) how (nI t) P hn.1 hn.2 gd hn8 (by rw [s3, hc]; decide)
  refine Or.inl ⟨(nI (nC P)), csS P (nC P) k (nI o) how (nI t), (c_cons_p (cq := eL (zc P)) (hu := nI (hgN (zo P) (nC P))) hG k (nI o) how hs.1 hs.2.1 hk hh hon hn8 g1 (by rw [hc]; decide +kernel) h4 ht h2 hp1 hp0).mono (fun S1 e => ?_), hkk, rfl⟩
  obtain ⟨q0, M0, q1, M1, y, M2, w, z, M3, e1, e2, e3, e4, e5, e6, e7⟩ := e
  exact Rep_cons_p hw hs hn8 hc hk4 ho hh3 h2 ht e1 e2 e3 e4 e5 e6 (fun e => (hp1 _ e).2) hp0 e7
