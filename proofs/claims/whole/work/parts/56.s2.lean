/-! ===== the calls that look: class and reference answer alike ===== -/
def cd1 (E : String) (k : Int32) : Prop := E = "java/lang/IllegalArgumentException" ∧ k = 1
def cdS (E : String) (k : Int32) : Prop := (E = "java/lang/IllegalArgumentException" ∧ k = 1) ∨ (E = "java/lang/IllegalStateException" ∧ k = 2)
def cdO (E : String) (k : Int32) : Prop := (E = "java/lang/IllegalArgumentException" ∧ k = 1) ∨ (E = "java/lang/IndexOutOfBoundsException" ∧ k = 2)
def cdN (E : String) (k : Int32) : Prop := E = "java/util/NoSuchElementException" ∧ k = 1
theorem wf_q {K : Nat} {P : MS} (h : WF K P) : ∀ k, k < nC P → qI P 12 k = -1 ∨ ∃ t, t < 2 ∧ qI P 12 k = nI t := fun k hk => by
  obtain ⟨e1, e2⟩ := (h.2.1 k hk).2.1
  by_cases c : zP P k = 0
  · exact Or.inl (by rw [e1, c]; decide)
  · exact Or.inr ⟨zP P k - 1, by omega, by rw [e1, nIm_S (by omega)]⟩
theorem wi_ofN {cn : Int32} {n : Nat} (hn : n < 2 ^ 30) (h : (0 : Int32) ≤ cn ∧ cn ≤ nI n - 1) : ∃ j, j < n ∧ cn = nI j := by
  obtain ⟨j, hj, rfl⟩ := nI_of (Int32.not_lt.mpr h.1)
  refine ⟨j, ?_, rfl⟩
  have := h.2
  rw [Int32.le_iff_toInt_le, nI_toInt hj, nIm hn] at this
  omega
theorem wi_ofM {cn : Int32} {n : Nat} (hn : n < 2 ^ 30) (h : (0 : Int32) ≤ cn ∧ cn ≤ nI n) : ∃ j, j ≤ n ∧ cn = nI j := by
  obtain ⟨j, hj, rfl⟩ := nI_of (Int32.not_lt.mpr h.1)
  refine ⟨j, ?_, rfl⟩
  have := h.2
  rw [Int32.le_iff_toInt_le, nI_toInt hj, nI_toInt (by omega)] at this
  omega
theorem st_place {l : Launch} {s0 : State} {D : va_G} {cA : Nat → ClassId} {ad : Nat → Nat} {K : Nat} {S : Mem} {P : MS} {x : Nat} (hG : cx_G l s0 D cA) (h : Rep K S P x) (hK : K ≤ 511) (cn : Int32) : St K S x cd1 Value.long (fun vv Φ => PC l s0 D cA yX8_place cX8_place 2 (some .long) rmX8_place [.ref x, .int cn] S (some vv) Φ) (fun E => XT l s0 D cA yX8_place cX8_place 2 (some .long) rmT2 [.ref x, .int cn] S E) (fun vv P1 => MC l s0 D cA ad yX9_place cX9_place 2 (some .long) rmX9_place [.int cn] P (some vv) P1) := by
  have h0 := h
  obtain ⟨hw, r, ca, pa, v, g, u, A1, hd, bb, pt, pw, sz, wi, hs⟩ := h0
  have hn := hw.1.2.2.2
  by_cases hc : (0 : Int32) ≤ cn ∧ cn ≤ nI (nC P) - 1
  · obtain ⟨j, hj, rfl⟩ := wi_of hn.2 hc
    have h9 := (zw_a hw hj).1
    have hcc := wf_c hw (by omega)
    refine Or.inl ⟨(eL (zw P j)), sS P 0 0, (c_Place hG hs.1 hj (rs_re hG hw (by omega) hs j hj).1).mono (fun S1 e => by rw [e]; exact Rep_0 h), ?_, rfl⟩
    have := k_Place (ad := ad) hG P hn.1 hn.2 hj (wf_q hw)
    rw [plO_eq hw hj, eL_of (by omega)] at this
    exact this
  · exact Or.inr ⟨"java/lang/IllegalArgumentException", 1, ((0 : Int32).toInt64), sS (sS P 0 0) 0 1, ⟨rfl, rfl⟩, x_place hG cn hs.1 hc, k_Place_no hG P (by rw [hn.1]; exact hc), rfl, Rep_1 h⟩
theorem st_total {l : Launch} {s0 : State} {D : va_G} {cA : Nat → ClassId} {ad : Nat → Nat} {K : Nat} {S : Mem} {P : MS} {x : Nat} (hG : cx_G l s0 D cA) (h : Rep K S P x) (hK : K ≤ 511) (cn : Int32) : St K S x cd1 Value.long (fun vv Φ => PC l s0 D cA yX8_total cX8_total 2 (some .long) rmX8_total [.ref x, .int cn] S (some vv) Φ) (fun E => XT l s0 D cA yX8_total cX8_total 2 (some .long) rmT2 [.ref x, .int cn] S E) (fun vv P1 => MC l s0 D cA ad yX9_total cX9_total 2 (some .long) rmX9_total [.int cn] P (some vv) P1) := by
  have h0 := h
  obtain ⟨hw, r, ca, pa, v, g, u, A1, hd, bb, pt, pw, sz, wi, hs⟩ := h0
  have hn := hw.1.2.2.2
  by_cases hc : (0 : Int32) ≤ cn ∧ cn ≤ nI (nC P) - 1
  · obtain ⟨j, hj, rfl⟩ := wi_of hn.2 hc
    obtain ⟨hC, hH⟩ := hs.2.2.2.2.1 j hj
    have hd0 := hC.2.1
    rcases hH with ⟨k0, ⟨m1, m2⟩, e⟩ | ⟨k0, ⟨m1, m2⟩, -⟩ | ⟨k0, ⟨m1, m2⟩, -⟩ | ⟨k0, z, hz, hJ, ez, -⟩
    · exact Or.inl ⟨(qJ P 22 j), sS P 0 0, by rw [← e]; exact (c_total_sum hG hs.1 hj hd0 m1 m2).mono (fun S1 e => by rw [e]; exact Rep_0 h), k_total_0 hG P hn.1 hn.2 hj k0, rfl⟩
    · exact Or.inl ⟨0, sS P 0 0, (c_total_smo hG hs.1 hj hd0 m1 m2).mono (fun S1 e => by rw [e]; exact Rep_0 h), k_total_x hG P hn.1 hn.2 hj (by rw [k0]; decide) (by rw [k0]; decide), rfl⟩
    · exact Or.inl ⟨0, sS P 0 0, (c_total_mea hG hs.1 hj hd0 m1 m2).mono (fun S1 e => by rw [e]; exact Rep_0 h), k_total_x hG P hn.1 hn.2 hj (by rw [k0]; decide) (by rw [k0]; decide), rfl⟩
    · exact Or.inl ⟨(nI z).toInt64, sS P 0 0, (c_total_jou hG hs.1 hj hd0 hJ).mono (fun S1 e => by rw [e]; exact Rep_0 h), by have := k_total_3 (ad := ad) hG P hn.1 hn.2 hj k0; rw [ez] at this; exact this, rfl⟩
  · exact Or.inr ⟨"java/lang/IllegalArgumentException", 1, ((0 : Int32).toInt64), sS (sS P 0 0) 0 1, ⟨rfl, rfl⟩, x_total hG cn hs.1 hc, k_total_no hG P (by rw [hn.1]; exact hc), rfl, Rep_1 h⟩
theorem lz32 : lvI (FP.i2f (0 : Int32)) := by rw [show FP.i2f (0 : Int32) = 0 by decide +kernel]; exact lvI_0
theorem lz64 : mnI (FP.i2d (0 : Int32)) := by rw [show FP.i2d (0 : Int32) = 0 by decide +kernel]; exact mnI_0
theorem st_level {l : Launch} {s0 : State} {D : va_G} {cA : Nat → ClassId} {ad : Nat → Nat} {K : Nat} {S : Mem} {P : MS} {x : Nat} (hG : cx_G l s0 D cA) (h : Rep K S P x) (hK : K ≤ 511) (cn : Int32) : St K S x cd1 (fun (v : {v : UInt32 // lvI v}) => Value.float v.1) (fun vv Φ => PC l s0 D cA yX8_level cX8_level 4 (some .float) rmX8_level [.ref x, .int cn] S (some vv) Φ) (fun E => XT l s0 D cA yX8_level cX8_level 4 (some .float) rmT2 [.ref x, .int cn] S E) (fun vv P1 => MC l s0 D cA ad yX9_level cX9_level 2 (some .float) rmX9_level [.int cn] P (some vv) P1) := by
  have h0 := h
  obtain ⟨hw, r, ca, pa, v, g, u, A1, hd, bb, pt, pw, sz, wi, hs⟩ := h0
  have hn := hw.1.2.2.2
  by_cases hc : (0 : Int32) ≤ cn ∧ cn ≤ nI (nC P) - 1
  · obtain ⟨j, hj, rfl⟩ := wi_of hn.2 hc
    obtain ⟨hC, hH⟩ := hs.2.2.2.2.1 j hj
    have hd0 := hC.2.1
    rcases hH with ⟨k0, ⟨m1, m2⟩, -⟩ | ⟨k0, ⟨m1, m2⟩, e⟩ | ⟨k0, ⟨m1, m2⟩, -⟩ | ⟨k0, z, hz, hJ, ez, -⟩
    · exact Or.inr ⟨"java/lang/IllegalArgumentException", 1, ⟨_, lz32⟩, sS (sS P 0 0) 0 1, ⟨rfl, rfl⟩, x_level_k hG hs.1 hj hd0 m1 (Or.inl m2), k_level_k hG P hn.1 hn.2 hj (by rw [k0]; decide), rfl, Rep_1 h⟩
    · have hcl := c_level hG hs.1 hj hd0 m1 m2
      rw [e] at hcl
      exact Or.inl ⟨⟨qF P j, (hw.2.1 j hj).2.2.2.2.2.1.2.2.2.1⟩, sS P 0 0, hcl.mono (fun S1 e => by rw [e]; exact Rep_0 h), k_level hG P hn.1 hn.2 hj k0, rfl⟩
    · exact Or.inr ⟨"java/lang/IllegalArgumentException", 1, ⟨_, lz32⟩, sS (sS P 0 0) 0 1, ⟨rfl, rfl⟩, x_level_k hG hs.1 hj hd0 m1 (Or.inr (Or.inl m2)), k_level_k hG P hn.1 hn.2 hj (by rw [k0]; decide), rfl, Rep_1 h⟩
    · exact Or.inr ⟨"java/lang/IllegalArgumentException", 1, ⟨_, lz32⟩, sS (sS P 0 0) 0 1, ⟨rfl, rfl⟩, x_level_k hG hs.1 hj hd0 hJ.1.1 (Or.inr (Or.inr hJ.1.2)), k_level_k hG P hn.1 hn.2 hj (by rw [k0]; decide), rfl, Rep_1 h⟩
  · exact Or.inr ⟨"java/lang/IllegalArgumentException", 1, ⟨_, lz32⟩, sS (sS P 0 0) 0 1, ⟨rfl, rfl⟩, x_level_no hG cn hs.1 hc, k_level_no hG P (by rw [hn.1]; exact hc), rfl, Rep_1 h⟩
theorem st_mean {l : Launch} {s0 : State} {D : va_G} {cA : Nat → ClassId} {ad : Nat → Nat} {K : Nat} {S : Mem} {P : MS} {x : Nat} (hG : cx_G l s0 D cA) (h : Rep K S P x) (hK : K ≤ 511) (cn : Int32) : St K S x cd1 (fun (v : {v : UInt64 // mnI v}) => Value.double v.1) (fun vv Φ => PC l s0 D cA yX8_mean cX8_mean 4 (some .double) rmX8_mean [.ref x, .int cn] S (some vv) Φ) (fun E => XT l s0 D cA yX8_mean cX8_mean 4 (some .double) rmT2 [.ref x, .int cn] S E) (fun vv P1 => MC l s0 D cA ad yX9_mean cX9_mean 2 (some .double) rmX9_mean [.int cn] P (some vv) P1) := by
  have h0 := h
  obtain ⟨hw, r, ca, pa, v, g, u, A1, hd, bb, pt, pw, sz, wi, hs⟩ := h0
  have hn := hw.1.2.2.2
  by_cases hc : (0 : Int32) ≤ cn ∧ cn ≤ nI (nC P) - 1
  · obtain ⟨j, hj, rfl⟩ := wi_of hn.2 hc
    obtain ⟨hC, hH⟩ := hs.2.2.2.2.1 j hj
    have hd0 := hC.2.1
    rcases hH with ⟨k0, ⟨m1, m2⟩, -⟩ | ⟨k0, ⟨m1, m2⟩, -⟩ | ⟨k0, ⟨m1, m2⟩, e, -⟩ | ⟨k0, z, hz, hJ, ez, -⟩
    · exact Or.inr ⟨"java/lang/IllegalArgumentException", 1, ⟨_, lz64⟩, sS (sS P 0 0) 0 1, ⟨rfl, rfl⟩, x_mean_k hG hs.1 hj hd0 m1 (Or.inl m2), k_mean_k hG P hn.1 hn.2 hj (by rw [k0]; decide), rfl, Rep_1 h⟩
    · exact Or.inr ⟨"java/lang/IllegalArgumentException", 1, ⟨_, lz64⟩, sS (sS P 0 0) 0 1, ⟨rfl, rfl⟩, x_mean_k hG hs.1 hj hd0 m1 (Or.inr (Or.inl m2)), k_mean_k hG P hn.1 hn.2 hj (by rw [k0]; decide), rfl, Rep_1 h⟩
    · have hcl := c_mean hG hs.1 hj hd0 m1 m2
      rw [e] at hcl
      exact Or.inl ⟨⟨qD P j, (hw.2.1 j hj).2.2.2.2.2.1.2.2.2.2.1⟩, sS P 0 0, hcl.mono (fun S1 e => by rw [e]; exact Rep_0 h), k_mean hG P hn.1 hn.2 hj k0, rfl⟩
    · exact Or.inr ⟨"java/lang/IllegalArgumentException", 1, ⟨_, lz64⟩, sS (sS P 0 0) 0 1, ⟨rfl, rfl⟩, x_mean_k hG hs.1 hj hd0 hJ.1.1 (Or.inr (Or.inr hJ.1.2)), k_mean_k hG P hn.1 hn.2 hj (by rw [k0]; decide), rfl, Rep_1 h⟩
  · exact Or.inr ⟨"java/lang/IllegalArgumentException", 1, ⟨_, lz64⟩, sS (sS P 0 0) 0 1, ⟨rfl, rfl⟩, x_mean_no hG cn hs.1 hc, k_mean_no hG P (by rw [hn.1]; exact hc), rfl, Rep_1 h⟩
theorem st_count {l : Launch} {s0 : State} {D : va_G} {cA : Nat → ClassId} {ad : Nat → Nat} {K : Nat} {S : Mem} {P : MS} {x : Nat} (hG : cx_G l s0 D cA) (h : Rep K S P x) (hK : K ≤ 511) (cn i : Int32) : St K S x cd1 Value.int (fun vv Φ => PC l s0 D cA yX8_count cX8_count 4 (some .int) rmX8_count [.ref x, .int cn, .int i] S (some vv) Φ) (fun E => XT l s0 D cA yX8_count cX8_count 4 (some .int) rmT2 [.ref x, .int cn, .int i] S E) (fun vv P1 => MC l s0 D cA ad yX9_count cX9_count 3 (some .int) rmX9_count [.int cn, .int i] P (some vv) P1) := by
  have h0 := h
  obtain ⟨hw, r, ca, pa, v, g, u, A1, hd, bb, pt, pw, sz, wi, hs⟩ := h0
  have hn := hw.1.2.2.2
  by_cases hc : (0 : Int32) ≤ cn ∧ cn ≤ nI (nC P) - 1
  · obtain ⟨j, hj, rfl⟩ := wi_of hn.2 hc
    obtain ⟨hC, -⟩ := hs.2.2.2.2.1 j hj
    obtain ⟨-, -, -, -, -, -, -, i6, i7, i8, i9, -⟩ := hC
    by_cases hi : (0 : Int32) ≤ i ∧ i ≤ 3
    · obtain ⟨q, hq, rfl⟩ := wi_of (n := 4) (by decide) (cn := i) (by rw [show nI 4 - 1 = (3 : Int32) by decide]; exact hi)
      have : q = 0 ∨ q = 1 ∨ q = 2 ∨ q = 3 := by omega
      rcases this with rfl | rfl | rfl | rfl
      · exact Or.inl ⟨(qI P 15 j), sS P 0 0, by rw [← i6]; exact (c_count0 hG hs.1 hj).mono (fun S1 e => by rw [e]; exact Rep_0 h), k_count_0 hG P hn.1 hn.2 hj, rfl⟩
      · exact Or.inl ⟨(qI P 16 j), sS P 0 0, by rw [← i7]; exact (c_count1 hG hs.1 hj).mono (fun S1 e => by rw [e]; exact Rep_0 h), k_count_1 hG P hn.1 hn.2 hj, rfl⟩
      · exact Or.inl ⟨(qI P 17 j), sS P 0 0, by rw [← i8]; exact (c_count2 hG hs.1 hj).mono (fun S1 e => by rw [e]; exact Rep_0 h), k_count_2 hG P hn.1 hn.2 hj, rfl⟩
      · have hk := k_count_3 (ad := ad) hG P hn.1 hn.2 hj
        by_cases c9 : qI P 14 j = 0
        · rw [if_pos c9] at hk
          exact Or.inl ⟨0, sS P 0 0, (c_count3_0 hG hs.1 hj (i9.trans c9)).mono (fun S1 e => by rw [e]; exact Rep_0 h), hk, rfl⟩
        · rw [if_neg c9] at hk
          exact Or.inl ⟨1, sS P 0 0, (c_count3_1 hG hs.1 hj (by rw [i9]; exact c9)).mono (fun S1 e => by rw [e]; exact Rep_0 h), hk, rfl⟩
    · refine Or.inr ⟨"java/lang/IllegalArgumentException", 1, 0, sS (sS P 0 0) 0 1, ⟨rfl, rfl⟩, x_count_i hG i hs.1 hj ?_, k_count_i hG P hn.1 hn.2 hj hi, rfl, Rep_1 h⟩
      rw [Int32.le_iff_toInt_le, Int32.le_iff_toInt_le, show (0 : Int32).toInt = 0 by decide, show (3 : Int32).toInt = 3 by decide] at hi
      omega
  · exact Or.inr ⟨"java/lang/IllegalArgumentException", 1, 0, sS (sS P 0 0) 0 1, ⟨rfl, rfl⟩, x_count_no hG cn i hs.1 hc, k_count_no hG i P (by rw [hn.1]; exact hc), rfl, Rep_1 h⟩
theorem st_octet {l : Launch} {s0 : State} {D : va_G} {cA : Nat → ClassId} {ad : Nat → Nat} {K : Nat} {S : Mem} {P : MS} {x : Nat} (hG : cx_G l s0 D cA) (h : Rep K S P x) (hK : K ≤ 511) (cn i : Int32) : St K S x cdO Value.int (fun vv Φ => PC l s0 D cA yX8_octet cX8_octet 4 (some .int) rmX8_octet [.ref x, .int cn, .int i] S (some vv) Φ) (fun E => XT l s0 D cA yX8_octet cX8_octet 4 (some .int) rmT2 [.ref x, .int cn, .int i] S E) (fun vv P1 => MC l s0 D cA ad yX9_octet cX9_octet 3 (some .int) rmX9_octet [.int cn, .int i] P (some vv) P1) := by
  have h0 := h
  obtain ⟨hw, r, ca, pa, v, g, u, A1, hd, bb, pt, pw, sz, wi, hs⟩ := h0
  have hn := hw.1.2.2.2
  by_cases hc : (0 : Int32) ≤ cn ∧ cn ≤ nI (nC P) - 1
  · obtain ⟨j, hj, rfl⟩ := wi_of hn.2 hc
    obtain ⟨hC, hH⟩ := hs.2.2.2.2.1 j hj
    have hd0 := hC.2.1
    rcases hH with ⟨k0, ⟨m1, m2⟩, -⟩ | ⟨k0, ⟨m1, m2⟩, -⟩ | ⟨k0, ⟨m1, m2⟩, -⟩ | ⟨k0, z, hz, hJ, ez, hR⟩
    · exact Or.inr ⟨"java/lang/IllegalArgumentException", 1, 0, sS (sS P 0 0) 0 1, Or.inl ⟨rfl, rfl⟩, x_octet_k hG i hs.1 hj hd0 m1 (Or.inl m2), k_octet_k hG i P hn.1 hn.2 hj (by rw [k0]; decide), rfl, Rep_1 h⟩
    · exact Or.inr ⟨"java/lang/IllegalArgumentException", 1, 0, sS (sS P 0 0) 0 1, Or.inl ⟨rfl, rfl⟩, x_octet_k hG i hs.1 hj hd0 m1 (Or.inr (Or.inl m2)), k_octet_k hG i P hn.1 hn.2 hj (by rw [k0]; decide), rfl, Rep_1 h⟩
    · exact Or.inr ⟨"java/lang/IllegalArgumentException", 1, 0, sS (sS P 0 0) 0 1, Or.inl ⟨rfl, rfl⟩, x_octet_k hG i hs.1 hj hd0 m1 (Or.inr (Or.inr m2)), k_octet_k hG i P hn.1 hn.2 hj (by rw [k0]; decide), rfl, Rep_1 h⟩
    · by_cases hi : (0 : Int32) ≤ i ∧ i ≤ nI z - 1
      · obtain ⟨q, hq, rfl⟩ := wi_ofN (by omega) hi
        have hk := k_octet (ad := ad) hG P hn.1 hn.2 hj k0 (i := q) (by rw [ez]; exact hi) (by omega)
        rw [← hR q hq] at hk
        exact Or.inl ⟨(byf S (bb j) q), sS P 0 0, (c_octet hG hs.1 hj hd0 hJ hz hq hi).mono (fun S1 e => by rw [e]; exact Rep_0 h), hk, rfl⟩
      · exact Or.inr ⟨"java/lang/IndexOutOfBoundsException", 2, 0, sS (sS P 0 0) 0 2, Or.inr ⟨rfl, rfl⟩, x_octet_i hG i hs.1 hj hd0 hJ hi, k_octet_i hG P hn.1 hn.2 hj k0 (by rw [ez]; exact hi), rfl, Rep_1 h⟩
  · exact Or.inr ⟨"java/lang/IllegalArgumentException", 1, 0, sS (sS P 0 0) 0 1, Or.inl ⟨rfl, rfl⟩, x_octet_no hG cn i hs.1 hc, k_octet_no hG i P (by rw [hn.1]; exact hc), rfl, Rep_1 h⟩
