/-! ===== the reference's numbers, as naturals ===== -/
def zc (P : MS) : Nat := (qS P 3 + 1).toNatClampNeg
def za (P : MS) : Nat := (qS P 4 + 1).toNatClampNeg
def zN (P : MS) : Nat := (qS P 1).toNatClampNeg
def zo (P : MS) (j : Nat) : Nat := (qI P 10 j).toNatClampNeg
def zP (P : MS) (j : Nat) : Nat := (qI P 12 j + 1).toNatClampNeg
def zp (P : MS) (j : Nat) : Nat := (qI P 13 j + 1).toNatClampNeg
def zh (P : MS) (j : Nat) : Nat := (qI P 20 j + 1).toNatClampNeg
def zt (P : MS) (t : Nat) : Nat := (qI P 21 t).toNatClampNeg
def zl (P : MS) (i : Nat) : Nat := (qI P 7 i + 1).toNatClampNeg
def zm (P : MS) (s : Nat) : Nat := (qI P 2 s).toNatClampNeg
def zg (P : MS) (i : Nat) : Nat := (qI P 6 i).toNatClampNeg
theorem cl1 {x : Int32} {k : Nat} (h : x = nI k - 1) (hk : k < 2 ^ 31) : (x + 1).toNatClampNeg = k := by rw [h, nIm_1, nI_clamp hk]
theorem cl0 {x : Int32} {k : Nat} (h : x = nI k) (hk : k < 2 ^ 31) : x.toNatClampNeg = k := by rw [h, nI_clamp hk]
/-- the least of tk and of what the workers of pool t (one more than its number) have taken -/
def mh (f q : Nat → Nat) (t tk : Nat) : Nat → Nat
  | 0 => tk
  | k + 1 => if f k = t ∧ 0 < q k ∧ q k - 1 < mh f q t tk k then q k - 1 else mh f q t tk k
theorem mh_iff {f q : Nat → Nat} {t tk y : Nat} : ∀ k, y ≤ mh f q t tk k ↔ y ≤ tk ∧ ∀ i, i < k → f i = t → 0 < q i → y ≤ q i - 1
  | 0 => by simp [mh]
  | k + 1 => by
    have ih := mh_iff (f := f) (q := q) (t := t) (tk := tk) (y := y) k
    rw [mh]
    by_cases h : f k = t ∧ 0 < q k ∧ q k - 1 < mh f q t tk k
    · rw [if_pos h]
      constructor
      · intro hy
        obtain ⟨a, b⟩ := ih.mp (by omega)
        refine ⟨a, fun i hi e1 e2 => ?_⟩
        by_cases e : i = k
        · subst e; exact hy
        · exact b i (by omega) e1 e2
      · rintro ⟨-, b⟩
        exact b k (by omega) h.1 h.2.1
    · rw [if_neg h, ih]
      constructor
      · rintro ⟨a, b⟩
        refine ⟨a, fun i hi e1 e2 => ?_⟩
        by_cases e : i = k
        · subst e
          have := ih.mpr ⟨a, b⟩
          have : ¬ (q i - 1 < mh f q t tk i) := fun z => h ⟨e1, e2, z⟩
          omega
        · exact b i (by omega) e1 e2
      · rintro ⟨a, b⟩
        exact ⟨a, fun i hi => b i (by omega)⟩
theorem lpN_iff {av : Nat} {pl : Nat → Nat} {bits : Int32} {y : Nat} : ∀ k, y ≤ lpN av pl bits k ↔ y ≤ av ∧ ∀ i, i < k → ¬ bC bits i = 0 → y ≤ pl i
  | 0 => by simp [lpN]
  | k + 1 => by
    have ih := lpN_iff (av := av) (pl := pl) (bits := bits) (y := y) k
    rw [lpN]
    by_cases h : bC bits k = 0
    · rw [if_pos h, ih]
      constructor
      · rintro ⟨a, b⟩
        refine ⟨a, fun i hi e1 => ?_⟩
        by_cases e : i = k
        · subst e; exact absurd h e1
        · exact b i (by omega) e1
      · rintro ⟨a, b⟩
        exact ⟨a, fun i hi => b i (by omega)⟩
    · rw [if_neg h]
      constructor
      · intro hy
        have h2 : y ≤ lpN av pl bits k ∧ y ≤ pl k := by split at hy <;> omega
        obtain ⟨a, b⟩ := ih.mp h2.1
        refine ⟨a, fun i hi e1 => ?_⟩
        by_cases e : i = k
        · subst e; exact h2.2
        · exact b i (by omega) e1
      · rintro ⟨a, b⟩
        have h1 := ih.mpr ⟨a, fun i hi => b i (by omega)⟩
        have h2 := b k (by omega) h
        split <;> omega
theorem rcN_iff {tk : Nat} {q : Nat → Nat} {y : Nat} : ∀ k, y ≤ rcN tk q k ↔ y ≤ tk ∧ ∀ i, i < k → 0 < q i → y ≤ q i - 1
  | 0 => by simp [rcN]
  | k + 1 => by
    have ih := rcN_iff (tk := tk) (q := q) (y := y) k
    rw [rcN]
    by_cases h : q k = 0
    · rw [if_pos h, ih]
      constructor
      · rintro ⟨a, b⟩
        refine ⟨a, fun i hi e1 => ?_⟩
        by_cases e : i = k
        · subst e; omega
        · exact b i (by omega) e1
      · rintro ⟨a, b⟩
        exact ⟨a, fun i hi => b i (by omega)⟩
    · rw [if_neg h]
      constructor
      · intro hy
        have h2 : y ≤ rcN tk q k ∧ y ≤ q k - 1 := by split at hy <;> omega
        obtain ⟨a, b⟩ := ih.mp h2.1
        refine ⟨a, fun i hi e1 => ?_⟩
        by_cases e : i = k
        · subst e; exact h2.2
        · exact b i (by omega) e1
      · rintro ⟨a, b⟩
        have h1 := ih.mpr ⟨a, fun i hi => b i (by omega)⟩
        have h2 := b k (by omega) (by omega)
        split <;> omega
theorem le_all {a b : Nat} (h : ∀ y, y ≤ a ↔ y ≤ b) : a = b := Nat.le_antisymm ((h a).mp (Nat.le_refl _)) ((h b).mpr (Nat.le_refl _))
/-- at most m events are held by m workers -/
theorem pigeon : ∀ (m : Nat) (q : Nat → Nat) (lo hi : Nat), (∀ e, lo ≤ e → e < hi → ∃ j, j < m ∧ q j = e + 1) → hi ≤ lo + m
  | 0, q, lo, hi, h => by
    rcases Nat.lt_or_ge lo hi with h1 | h1
    · obtain ⟨j, hj, -⟩ := h lo (Nat.le_refl _) h1
      exact absurd hj (Nat.not_lt_zero _)
    · omega
  | m + 1, q, lo, hi, h => by
    by_cases hr : lo + 1 ≤ q m ∧ q m ≤ hi
    · have := pigeon m (fun j => if q m < q j then q j - 1 else q j) lo (hi - 1) (fun e h1 h2 => by
        by_cases he : e + 1 < q m
        · obtain ⟨j, hj, hq⟩ := h e h1 (by omega)
          have hjm : j ≠ m := fun e1 => by subst e1; omega
          exact ⟨j, by omega, by show (if q m < q j then q j - 1 else q j) = e + 1; rw [if_neg (by omega)]; exact hq⟩
        · obtain ⟨j, hj, hq⟩ := h (e + 1) (by omega) (by omega)
          have hjm : j ≠ m := fun e1 => by subst e1; omega
          exact ⟨j, by omega, by show (if q m < q j then q j - 1 else q j) = e + 1; rw [if_pos (by omega)]; omega⟩)
      omega
    · have := pigeon m q lo hi (fun e h1 h2 => by
        obtain ⟨j, hj, hq⟩ := h e h1 h2
        have hjm : j ≠ m := fun e1 => by subst e1; omega
        exact ⟨j, by omega, hq⟩)
      omega
/-! bits -/
theorem bit_C : ∀ o : Nat, o < 256 → ∀ k : Nat, k < 8 → ((bC (nI o) k = 0) = (o.testBit k = false)) := by
  have h : ∀ o : Fin 256, ∀ k : Fin 8, (decide (bC (nI o.val) k.val = 0)) = !(o.val.testBit k.val) := by decide +kernel
  intro o ho k hk
  have := h ⟨o, ho⟩ ⟨k, hk⟩
  simp only at this
  by_cases h2 : o.testBit k = true <;> simp_all
theorem bit_R : ∀ o : Nat, o < 256 → ∀ k : Nat, k < 8 → ((((nI o >>> (nI k &&& 31)) &&& 1) = 1) = (o.testBit k = true)) := by
  have h : ∀ o : Fin 256, ∀ k : Fin 8, (decide (((nI o.val >>> (nI k.val &&& 31)) &&& 1) = 1)) = (o.val.testBit k.val) := by decide +kernel
  intro o ho k hk
  have := h ⟨o, ho⟩ ⟨k, hk⟩
  simp only at this
  by_cases h2 : o.testBit k = true <;> simp_all
theorem nI_or (a b : Nat) : nI a ||| nI b = nI (a ||| b) := by
  apply Int32.toBitVec_inj.mp
  show (nI a ||| nI b).toBitVec = (nI (a ||| b)).toBitVec
  rw [Int32.toBitVec_or]
  show BitVec.ofNat 32 a ||| BitVec.ofNat 32 b = BitVec.ofNat 32 (a ||| b)
  rw [BitVec.ofNat_or]
def mkN (n h : Nat) : Int32 := (1 <<< (nI n &&& 31) - 1) &&& (nI h ^^^ (-1))
theorem bit_M : ∀ n : Nat, n < 9 → ∀ h : Nat, h < 256 → ∀ k : Nat, k < n → ((bC (mkN n h) k = 0) = (h.testBit k = true)) := by
  have h1 : ∀ n : Fin 9, ∀ h : Fin 256, ∀ k : Fin 8, (!(decide (k.val < n.val)) || (decide (bC (mkN n.val h.val) k.val = 0) == (h.val.testBit k.val))) = true := by decide +kernel
  intro n hn h hh k hk
  have := h1 ⟨n, hn⟩ ⟨h, hh⟩ ⟨k, by omega⟩
  simp only [hk, decide_true, Bool.not_true, Bool.false_or, beq_iff_eq] at this
  by_cases h2 : h.testBit k = true <;> simp_all
theorem bit_lt {o j k : Nat} (h : o < 2 ^ j) (hk : j ≤ k) : o.testBit k = false := Nat.testBit_lt_two_pow (Nat.lt_of_lt_of_le h (Nat.pow_le_pow_right (by decide) hk))
