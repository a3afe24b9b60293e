/-! ===== what always holds of the reference, after K calls ===== -/
/-- how far consumer j has come (one more than its place) -/
def zw (P : MS) (j : Nat) : Nat := if zP P j = 0 then zp P j else mh (zP P) (zh P) (zP P j) (zt P (zP P j - 1)) (nC P)
def W1 (K : Nat) (P : MS) : Prop := (qS P 1 = nI (zN P) ∧ slN (zN P)) ∧ (qS P 3 = nI (zc P) - 1 ∧ zc P ≤ 16 * K) ∧ (qS P 4 = nI (za P) - 1 ∧ za P ≤ zc P) ∧ (qS P 8 = nI (nC P) ∧ nC P ≤ 8)
def W2 (K : Nat) (P : MS) (j : Nat) : Prop := (qI P 10 j = nI (zo P j) ∧ zo P j < 2 ^ j) ∧ (qI P 12 j = nI (zP P j) - 1 ∧ zP P j ≤ 2) ∧ (qI P 13 j = nI (zp P j) - 1 ∧ zp P j ≤ za P) ∧ (qI P 20 j = nI (zh P j) - 1 ∧ zh P j ≤ 9000 ∧ (zP P j ≠ 0 → zh P j ≤ zt P (zP P j - 1))) ∧ (qI P 11 j = 2 → zP P j = 0) ∧ bInv P j (zN P) (20 * K) ∧ (∀ k, k < j → (zo P j).testBit k = true → zP P j = 0 → zp P j ≤ zw P k)
def W3 (P : MS) (t : Nat) : Prop := (qI P 21 t = nI (zt P t) ∧ zt P t ≤ 9000) ∧ ((∀ j, j < nC P → zP P j ≠ t + 1) → zt P t = 0) ∧ ∀ e, e < zt P t → (∃ j, j < nC P ∧ zP P j = t + 1 ∧ zh P j = e + 1) ∨ (e < za P ∧ ∀ j, j < nC P → zP P j = t + 1 → ∀ k, k < j → (zo P j).testBit k = true → e < zw P k)
def W6 (P : MS) (s : Nat) : Prop := qI P 2 s = nI (zm P s) ∧ ((1 ≤ zm P s ∧ zm P s ≤ 4) ∨ (9 ≤ zm P s ∧ zm P s ≤ 12)) ∧ (s < za P → 9 ≤ zm P s) ∧ (9 ≤ zm P s → s + 1 ≤ zl P (s % zN P))
def W7 (P : MS) (i : Nat) : Prop := (qI P 7 i = nI (zl P i) - 1 ∧ zl P i ≤ zc P) ∧ (zl P i ≠ 0 → (zl P i - 1) % zN P = i ∧ qI P 6 i = nI (zg P i) ∧ zm P (zl P i - 1) = 9 + zg P i)
def W9 (P : MS) (j : Nat) : Prop := qI P 14 j = 0 ∧ qI P 15 j = 0 ∧ qI P 16 j = 0 ∧ qI P 17 j = 0 ∧ qI P 19 j = 0 ∧ qI P 25 j = 0 ∧ qJ P 22 j = 0 ∧ qF P j = 0 ∧ qD P j = 0
def WF (K : Nat) (P : MS) : Prop := W1 K P ∧ (∀ j, j < nC P → W2 K P j) ∧ (∀ t, t < 2 → W3 P t) ∧ (∀ i j, i < nC P → j < nC P → zP P i = zP P j → zP P i ≠ 0 → zo P i = zo P j) ∧ (∀ s, s < zc P → W6 P s) ∧ (∀ i, i < zN P → W7 P i) ∧ (zc P ≤ zN P + za P ∧ ∀ j, j < nC P → zc P ≤ zN P + zw P j) ∧ ∀ j, nC P ≤ j → j < 8 → W9 P j
theorem nIm_eq {a b : Nat} (ha : a < 2 ^ 30) (hb : b < 2 ^ 30) : nI a - 1 = nI b ↔ a = b + 1 := by
  rw [← Int32.toInt_inj, nIm ha, nI_toInt (by omega)]; omega
theorem nIm_pos {a : Nat} (ha : a < 2 ^ 30) : 0 ≤ nI a - 1 ↔ 0 < a := by
  rw [Int32.le_iff_toInt_le, nIm ha]
  have : (0 : Int32).toInt = 0 := by decide
  rw [this]; omega
theorem nIm_S {a : Nat} (h : 0 < a) : nI a - 1 = nI (a - 1) := by
  obtain ⟨q, rfl⟩ : ∃ q, a = q + 1 := ⟨a - 1, by omega⟩
  rw [nI_pred]; rfl
theorem i32_sub {x y : Int32} (h1 : -2147483648 ≤ x.toInt - y.toInt) (h2 : x.toInt - y.toInt < 2147483648) : (x - y).toInt = x.toInt - y.toInt := by
  rw [Int32.toInt_sub]
  exact Int.bmod_eq_of_le (by omega) (by omega)
theorem i32_add {x y : Int32} (h1 : -2147483648 ≤ x.toInt + y.toInt) (h2 : x.toInt + y.toInt < 2147483648) : (x + y).toInt = x.toInt + y.toInt := by
  rw [Int32.toInt_add]
  exact Int.bmod_eq_of_le (by omega) (by omega)
section Wf1
variable {K : Nat} {P : MS}
theorem wf_c (h : WF K P) (hK : K ≤ 512) : zc P ≤ 8192 ∧ za P ≤ zc P ∧ nC P ≤ 8 ∧ slN (zN P) := ⟨by have := h.1.2.1.2; omega, h.1.2.2.1.2, h.1.2.2.2.2, h.1.1.2⟩
theorem lsR_eq {t tk : Nat} (hp : ∀ k, k < nC P → (qI P 12 k = nI (zP P k) - 1 ∧ zP P k ≤ 2) ∧ qI P 20 k = nI (zh P k) - 1 ∧ zh P k ≤ 9000) (ht : t < 2) (htk : tk ≤ 9000) : ∀ k, k ≤ nC P → lsR (qI P 12) (qI P 20) (nI t) (nI tk) k = nI (mh (zP P) (zh P) (t + 1) tk k) ∧ mh (zP P) (zh P) (t + 1) tk k ≤ tk
  | 0, _ => ⟨rfl, Nat.le_refl _⟩
  | k + 1, hk => by
    obtain ⟨ih, ihl⟩ := lsR_eq hp ht htk k (by omega)
    obtain ⟨⟨e1, e2⟩, e3, e4⟩ := hp k (by omega)
    rw [lsR, mh, ih, e1, e3]
    by_cases c : zP P k = t + 1 ∧ 0 < zh P k ∧ zh P k - 1 < mh (zP P) (zh P) (t + 1) tk k
    · rw [if_pos c, if_pos ⟨(nIm_eq (by omega) (by omega)).mpr c.1, (nIm_pos (by omega)).mpr c.2.1, (nIm_lt (by omega) (by omega)).mpr (by omega)⟩, nIm_S c.2.1]
      exact ⟨rfl, by omega⟩
    · rw [if_neg c, if_neg (fun q => c ⟨(nIm_eq (by omega) (by omega)).mp q.1, (nIm_pos (by omega)).mp q.2.1, by have := (nIm_lt (by omega) (by omega)).mp q.2.2; have := (nIm_pos (by omega)).mp q.2.1; omega⟩)]
      exact ⟨rfl, ihl⟩
theorem wf_hp (h : WF K P) : ∀ k, k < nC P → (qI P 12 k = nI (zP P k) - 1 ∧ zP P k ≤ 2) ∧ qI P 20 k = nI (zh P k) - 1 ∧ zh P k ≤ 9000 := fun k hk => by
  obtain ⟨-, a, -, ⟨b, c, -⟩, -⟩ := h.2.1 k hk
  exact ⟨a, b, c⟩
theorem plO_eq (h : WF K P) {j : Nat} (hj : j < nC P) : plO P j = nI (zw P j) - 1 := by
  obtain ⟨-, ⟨e1, e2⟩, ⟨e3, -⟩, -⟩ := h.2.1 j hj
  unfold plO zw
  by_cases c : zP P j = 0
  · rw [if_pos c, if_neg (by rw [e1, c]; decide), e3]
  · obtain ⟨t, ht⟩ : ∃ t, zP P j = t + 1 := ⟨zP P j - 1, by omega⟩
    rw [if_neg c, e1, ht, nI_pred, if_pos (nI_pos' (by omega)), nI_clamp (by omega)]
    obtain ⟨⟨f1, f2⟩, -⟩ := h.2.2.1 t (by omega)
    rw [f1, (lsR_eq (wf_hp h) (by omega) f2 (nC P) (Nat.le_refl _)).1]
    rfl
theorem zw_a (h : WF K P) {j : Nat} (hj : j < nC P) : zw P j ≤ za P ∧ ∀ k, k < j → (zo P j).testBit k = true → zw P j ≤ zw P k := by
  obtain ⟨-, ⟨e1, e2⟩, ⟨-, e4⟩, -, -, -, e5⟩ := h.2.1 j hj
  by_cases c : zP P j = 0
  · have hw : zw P j = zp P j := by unfold zw; rw [if_pos c]
    rw [hw]
    exact ⟨e4, fun k hk hb => e5 k hk hb c⟩
  · obtain ⟨t, ht⟩ : ∃ t, zP P j = t + 1 := ⟨zP P j - 1, by omega⟩
    have hw : zw P j = mh (zP P) (zh P) (t + 1) (zt P t) (nC P) := by unfold zw; rw [if_neg c, ht]; rfl
    obtain ⟨-, -, cov⟩ := h.2.2.1 t (by omega)
    obtain ⟨m1, m2⟩ := (mh_iff (f := zP P) (q := zh P) (t := t + 1) (tk := zt P t) (y := zw P j) (nC P)).mp (Nat.le_of_eq hw)
    refine ⟨?_, fun k hk hb => ?_⟩
    · rcases Nat.lt_or_ge (za P) (zw P j) with hl | hl
      · rcases cov (za P) (by omega) with ⟨i, h1, h2, h3⟩ | ⟨h1, -⟩
        · have := m2 i h1 h2 (by omega); omega
        · omega
      · exact hl
    · rcases Nat.lt_or_ge (zw P k) (zw P j) with hl | hl
      · rcases cov (zw P k) (by omega) with ⟨i, h1, h2, h3⟩ | ⟨-, h2⟩
        · have := m2 i h1 h2 (by omega); omega
        · exact absurd (h2 j hj ht k hk hb) (Nat.lt_irrefl _)
      · exact hl
theorem zt_a (h : WF K P) {t : Nat} (ht : t < 2) : zt P t ≤ za P + 8 := by
  refine pigeon 8 (zh P) (za P) (zt P t) (fun e h1 h2 => ?_)
  rcases (h.2.2.1 t ht).2.2 e h2 with ⟨j, hj, -, hq⟩ | ⟨h3, -⟩
  · exact ⟨j, Nat.lt_of_lt_of_le hj h.1.2.2.2.2, hq⟩
  · omega
theorem bit_on (h : WF K P) {j : Nat} (hj : j < nC P) : zo P j < 256 := by
  have h1 := (h.2.1 j hj).1.2
  have h2 : (2 : Nat) ^ j ≤ 2 ^ 8 := Nat.pow_le_pow_right (by decide) (by have := h.1.2.2.2.2; omega)
  omega
theorem bdR_k (h : WF K P) (hK : K ≤ 512) {j : Nat} (hj : j < nC P) : ∀ k, k ≤ j → bdR P j k = nI (lpN (za P) (zw P) (qI P 10 j) k) - 1
  | 0, _ => h.1.2.2.1.1
  | k + 1, hk => by
    have ih := bdR_k h hK hj k (by omega)
    have hc := wf_c h hK
    have hle := lpN_le (av := za P) (pl := zw P) (bits := qI P 10 j) k
    have hz := (zw_a h (j := k) (by omega)).1
    have ho := bit_on h hj
    have e10 := (h.2.1 j hj).1.1
    rw [bdR, lpN, ih, plO_eq h (by omega)]
    by_cases c : (zo P j).testBit k = true
    · have b1 : ((qI P 10 j >>> (nI k &&& 31)) &&& 1) = 1 := by rw [e10, bit_R _ ho k (by omega)]; exact c
      have b2 : ¬ bC (qI P 10 j) k = 0 := by rw [e10, bit_C _ ho k (by omega), c]; decide
      rw [if_pos b1, if_neg b2]
      by_cases d : zw P k < lpN (za P) (zw P) (qI P 10 j) k
      · rw [if_pos d, if_pos ((nIm_lm (by omega) (by omega)).mpr d)]
      · rw [if_neg d, if_neg (fun q => d ((nIm_lm (by omega) (by omega)).mp q))]
    · have b1 : ¬ ((qI P 10 j >>> (nI k &&& 31)) &&& 1) = 1 := by rw [e10, bit_R _ ho k (by omega)]; exact c
      have b2 : bC (qI P 10 j) k = 0 := by rw [e10, bit_C _ ho k (by omega)]; exact Bool.eq_false_iff.mpr c
      rw [if_neg b1, if_pos b2]
      split <;> rfl
/-- how far consumer j may go -/
def zb (P : MS) (j : Nat) : Nat := lpN (za P) (zw P) (qI P 10 j) (nC P)
theorem zb_j (h : WF K P) {j : Nat} (hj : j < nC P) : zb P j = lpN (za P) (zw P) (qI P 10 j) j := by
  have ho := bit_on h hj
  obtain ⟨e10, e11⟩ := (h.2.1 j hj).1
  have hn := h.1.2.2.2.2
  refine le_all fun y => ?_
  unfold zb
  rw [lpN_iff, lpN_iff]
  constructor
  · rintro ⟨a, b⟩
    exact ⟨a, fun i hi => b i (by omega)⟩
  · rintro ⟨a, b⟩
    refine ⟨a, fun i hi hb => ?_⟩
    by_cases c : i < j
    · exact b i c hb
    · exact absurd (by rw [e10, bit_C _ ho i (by omega)]; exact bit_lt e11 (by omega)) hb
theorem bdR_eq (h : WF K P) (hK : K ≤ 512) {j : Nat} (hj : j < nC P) : bdR P j j = nI (zb P j) - 1 := by
  rw [zb_j h hj]; exact bdR_k h hK hj j (Nat.le_refl _)
theorem zb_le (h : WF K P) {j : Nat} (hj : j < nC P) : zb P j ≤ za P ∧ ∀ k, k < j → (zo P j).testBit k = true → zb P j ≤ zw P k := by
  have ho := bit_on h hj
  have e10 := (h.2.1 j hj).1.1
  obtain ⟨a, b⟩ := (lpN_iff (av := za P) (pl := zw P) (bits := qI P 10 j) (y := zb P j) (nC P)).mp (Nat.le_refl _)
  have hn := h.1.2.2.2.2
  exact ⟨a, fun k hk hb => b k (by omega) (by rw [e10, bit_C _ ho k (by omega), hb]; decide)⟩
/-! who hangs on whom -/
def hgN (f : Nat → Nat) : Nat → Nat
  | 0 => 0
  | k + 1 => hgN f k ||| f k
theorem hgN_bit {f : Nat → Nat} {k : Nat} : ∀ n, (hgN f n).testBit k = true ↔ ∃ j, j < n ∧ (f j).testBit k = true
  | 0 => by simp [hgN]
  | n + 1 => by
    rw [hgN, Nat.testBit_or, Bool.or_eq_true, hgN_bit n]
    constructor
    · rintro (⟨j, h1, h2⟩ | h)
      · exact ⟨j, by omega, h2⟩
      · exact ⟨n, by omega, h⟩
    · rintro ⟨j, h1, h2⟩
      by_cases e : j = n
      · subst e; exact Or.inr h2
      · exact Or.inl ⟨j, by omega, h2⟩
theorem hgN_lt {f : Nat → Nat} : ∀ n, n ≤ 8 → (∀ j, j < n → f j < 256) → hgN f n < 256
  | 0, _, _ => by show (0 : Nat) < 256; decide
  | n + 1, hn, h => Nat.or_lt_two_pow (n := 8) (hgN_lt n (by omega) (fun j hj => h j (by omega))) (h n (by omega))
theorem hgR_eq (h : WF K P) : ∀ k, k ≤ nC P → hgR P k = nI (hgN (zo P) k)
  | 0, _ => rfl
  | k + 1, hk => by rw [hgR, hgN, hgR_eq h k (by omega), (h.2.1 k (by omega)).1.1, nI_or]
/-- the room that a claim finds -/
def zr (P : MS) : Nat := lpN (za P) (zw P) (mkN (nC P) (hgN (zo P) (nC P))) (nC P)
theorem zr_iff (h : WF K P) {y : Nat} : y ≤ zr P ↔ y ≤ za P ∧ ∀ k, k < nC P → (hgN (zo P) (nC P)).testBit k = false → y ≤ zw P k := by
  have hn := h.1.2.2.2.2
  have hl := hgN_lt (f := zo P) (nC P) hn (fun j hj => bit_on h hj)
  unfold zr
  rw [lpN_iff]
  constructor
  · rintro ⟨a, b⟩
    refine ⟨a, fun k hk hb => b k hk ?_⟩
    rw [bit_M _ (by omega) _ hl k hk, hb]; decide
  · rintro ⟨a, b⟩
    refine ⟨a, fun k hk hb => b k hk ?_⟩
    rw [bit_M _ (by omega) _ hl k hk] at hb
    exact Bool.eq_false_iff.mpr hb
/-- the last of all is hung on by none -/
theorem last_free (h : WF K P) (h0 : 0 < nC P) : (hgN (zo P) (nC P)).testBit (nC P - 1) = false := by
  refine Bool.eq_false_iff.mpr (fun c => ?_)
  obtain ⟨j, hj, hb⟩ := (hgN_bit (nC P)).mp c
  have := bit_lt (h.2.1 j hj).1.2 (k := nC P - 1) (by omega)
  rw [this] at hb
  exact absurd hb (by decide)
theorem X_lt {a cu M N : Nat} (ha : a < 2 ^ 20) (hc : cu < 2 ^ 20) (hM : M < 2 ^ 20) (hN : N < 2 ^ 20) : nI a - 1 < nI cu - 1 + nI M - nI N ↔ a + N < cu + M := by
  have e1 := nIm (a := cu) (by omega)
  have e2 := nI_toInt (n := M) (by omega)
  have e3 := nI_toInt (n := N) (by omega)
  have f1 : (nI cu - 1 + nI M).toInt = (cu : Int) - 1 + M := by rw [i32_add (by rw [e1, e2]; omega) (by rw [e1, e2]; omega), e1, e2]
  rw [Int32.lt_iff_toInt_lt, nIm (by omega), i32_sub (by rw [f1, e3]; omega) (by rw [f1, e3]; omega), f1, e3]
  omega
theorem rmR_k (h : WF K P) (hK : K ≤ 512) {M : Nat} (hM : M ≤ 16) : ∀ k, k ≤ nC P → (¬ rmR P (nC P) (qS P 3 + nI M - qS P 1) k = 0 ↔ (0 < nC P ∨ zc P + M ≤ zN P + za P) ∧ ∀ i, i < k → (hgN (zo P) (nC P)).testBit i = false → zc P + M ≤ zN P + zw P i)
  | 0, _ => by
    have hc := wf_c h hK
    have hN := slN_b hc.2.2.2
    rw [rmR, h.1.2.2.2.1, h.1.2.1.1, h.1.1.1, h.1.2.2.1.1]
    by_cases c : 0 < nC P
    · rw [if_pos (by rw [show (0 : Int32) = nI 0 by decide]; exact nI_lt c (by omega))]
      exact ⟨fun _ => ⟨Or.inl c, fun i hi => absurd hi (Nat.not_lt_zero _)⟩, fun _ => by decide⟩
    · rw [if_neg (by rw [show (0 : Int32) = nI 0 by decide]; exact nI_nlt (by omega) (by omega))]
      by_cases d : za P + zN P < zc P + M
      · rw [if_pos ((X_lt (by omega) (by omega) (by omega) (by omega)).mpr d)]
        exact ⟨fun q => absurd rfl q, fun q => by rcases q.1 with q | q <;> omega⟩
      · rw [if_neg (fun q => d ((X_lt (by omega) (by omega) (by omega) (by omega)).mp q))]
        exact ⟨fun _ => ⟨Or.inr (by omega), fun i hi => absurd hi (Nat.not_lt_zero _)⟩, fun _ => by decide⟩
  | k + 1, hk => by
    have ih := rmR_k h hK hM k (by omega)
    have hc := wf_c h hK
    have hN := slN_b hc.2.2.2
    have hl := hgN_lt (f := zo P) (nC P) hc.2.2.1 (fun j hj => bit_on h hj)
    have hz := (zw_a h (j := k) (by omega)).1
    rw [rmR]
    by_cases c : rmR P (nC P) (qS P 3 + nI M - qS P 1) k = 0
    · rw [if_pos c]
      refine ⟨fun q => absurd rfl q, fun q => absurd c (ih.mpr ⟨q.1, fun i hi => q.2 i (by omega)⟩)⟩
    · rw [if_neg c, hgR_eq h _ (Nat.le_refl _), plO_eq h (by omega), h.1.2.1.1, h.1.1.1]
      obtain ⟨i1, i2⟩ := ih.mp c
      by_cases b : (hgN (zo P) (nC P)).testBit k = true
      · rw [if_pos (by rw [bit_R _ hl k (by omega)]; exact b)]
        refine ⟨fun _ => ⟨i1, fun i hi hb => ?_⟩, fun _ => by decide⟩
        by_cases e : i = k
        · subst e; rw [b] at hb; exact absurd hb (by decide)
        · exact i2 i (by omega) hb
      · rw [if_neg (by rw [bit_R _ hl k (by omega)]; exact b)]
        by_cases d : zw P k + zN P < zc P + M
        · rw [if_pos ((X_lt (by omega) (by omega) (by omega) (by omega)).mpr d)]
          exact ⟨fun q => absurd rfl q, fun q => by have := q.2 k (by omega) (Bool.eq_false_iff.mpr b); omega⟩
        · rw [if_neg (fun q => d ((X_lt (by omega) (by omega) (by omega) (by omega)).mp q))]
          refine ⟨fun _ => ⟨i1, fun i hi hb => ?_⟩, fun _ => by decide⟩
          by_cases e : i = k
          · subst e; omega
          · exact i2 i (by omega) hb
theorem rmR_eq (h : WF K P) (hK : K ≤ 512) {M : Nat} (hM : M ≤ 16) : ¬ rmR P (nC P) (qS P 3 + nI M - qS P 1) (nC P) = 0 ↔ zc P + M ≤ zN P + zr P := by
  rw [rmR_k h hK hM (nC P) (Nat.le_refl _)]
  have hz := zr_iff h (y := zc P + M - zN P)
  constructor
  · rintro ⟨a, b⟩
    have : zc P + M - zN P ≤ zr P := by
      refine hz.mpr ⟨?_, fun k hk hb => ?_⟩
      · rcases a with a | a
        · have := b (nC P - 1) (by omega) (last_free h a)
          have := (zw_a h (j := nC P - 1) (by omega)).1
          omega
        · omega
      · have := b k hk hb; omega
    omega
  · intro a
    obtain ⟨b, c⟩ := hz.mp (by omega)
    exact ⟨Or.inr (by omega), fun i hi hb => by have := c i hi hb; omega⟩
end Wf1
