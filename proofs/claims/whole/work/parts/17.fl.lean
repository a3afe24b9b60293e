/-! ===== levels and means are never NaN: they stay between 0 and 2 ^ 64 ===== -/
theorem fl_signed {s : Bool} {m k : Nat} (h : m ≤ k) : (0 ≤ FP.Core.signed s k → 0 ≤ FP.Core.signed s m ∧ FP.Core.signed s m ≤ FP.Core.signed s k) ∧ (FP.Core.signed s k ≤ 0 → FP.Core.signed s k ≤ FP.Core.signed s m ∧ FP.Core.signed s m ≤ 0) := by
  cases s
  · show (0 ≤ (k : Int) → 0 ≤ (m : Int) ∧ (m : Int) ≤ (k : Int)) ∧ ((k : Int) ≤ 0 → (k : Int) ≤ (m : Int) ∧ (m : Int) ≤ 0)
    omega
  · show (0 ≤ -(k : Int) → 0 ≤ -(m : Int) ∧ -(m : Int) ≤ -(k : Int)) ∧ (-(k : Int) ≤ 0 → -(k : Int) ≤ -(m : Int) ∧ -(m : Int) ≤ 0)
    omega
theorem fl_shr {f : FP.Core.Fmt} {d e : FP.Core.Datum} (h1 : FP.Core.sgn e = FP.Core.sgn d) (h2 : FP.Core.zmag f e ≤ FP.Core.zmag f d) : (0 ≤ FP.Core.zval f d → 0 ≤ FP.Core.zval f e ∧ FP.Core.zval f e ≤ FP.Core.zval f d) ∧ (FP.Core.zval f d ≤ 0 → FP.Core.zval f d ≤ FP.Core.zval f e ∧ FP.Core.zval f e ≤ 0) := by
  unfold FP.Core.zval
  rw [h1]
  exact fl_signed h2
theorem fl_zero {f : FP.Core.Fmt} : FP.Core.zval f (.fin false 0 f.qmin) = 0 := by
  show ((0 * _ : Nat) : Int) = 0
  rw [Nat.zero_mul]; rfl
theorem fl_top {s : Bool} {m : Nat} : FP.Core.signed s m ≤ m ∧ -(m : Int) ≤ FP.Core.signed s m ∧ ((m : Int) = FP.Core.signed s m ∨ (m : Int) = -FP.Core.signed s m) := by
  cases s
  · show (m : Int) ≤ m ∧ -(m : Int) ≤ m ∧ ((m : Int) = m ∨ (m : Int) = -m)
    omega
  · show -(m : Int) ≤ m ∧ -(m : Int) ≤ -m ∧ ((m : Int) = -m ∨ (m : Int) = - -m)
    omega
theorem fl_fin {f : FP.Core.Fmt} (hf : FP.Core.Good f) {d V : FP.Core.Datum} (hn : d ≠ .nan) (hV : ∃ s c q, V = .fin s c q) (fV : FP.Core.fits f V) (h1 : FP.Core.zval f d ≤ FP.Core.zval f V) (h2 : -FP.Core.zval f V ≤ FP.Core.zval f d) : ∃ s c q, d = .fin s c q := by
  cases d with
  | nan => exact absurd rfl hn
  | fin s c q => exact ⟨s, c, q, rfl⟩
  | inf s =>
    obtain ⟨t, c, q, rfl⟩ := hV
    have h3 := FP.Core.zmag_lt_top hf fV
    have h4 : FP.Core.zmag f (.inf s) = f.tails * 2 ^ (f.exps - 2) := rfl
    have h5 : FP.Core.zmag f (.fin t c q) = FP.Core.inUnits c q f.qmin := rfl
    unfold FP.Core.zval at h1 h2
    have h6 := fl_top (s := FP.Core.sgn (.inf s)) (m := FP.Core.zmag f (.inf s))
    have h7 := fl_top (s := FP.Core.sgn (.fin t c q)) (m := FP.Core.zmag f (.fin t c q))
    rw [← h4, ← h5] at h3
    omega
/-- the difference of two that are not below 0 -/
theorem fl_sub {f : FP.Core.Fmt} (hf : FP.Core.Good f) {x v : FP.Core.Datum} (hx : ∃ s c q, x = .fin s c q) (hv : ∃ s c q, v = .fin s c q) (fx : FP.Core.fits f x) (fv : FP.Core.fits f v) (x0 : 0 ≤ FP.Core.zval f x) (v0 : 0 ≤ FP.Core.zval f v) :
    -FP.Core.zval f x ≤ FP.Core.zval f (FP.Core.round f (FP.Core.exactSum v (FP.Core.negate x))) ∧ FP.Core.zval f (FP.Core.round f (FP.Core.exactSum v (FP.Core.negate x))) ≤ FP.Core.zval f v ∧ (FP.Core.zval f v ≤ FP.Core.zval f x → FP.Core.zval f (FP.Core.round f (FP.Core.exactSum v (FP.Core.negate x))) ≤ 0) ∧ (FP.Core.zval f x ≤ FP.Core.zval f v → 0 ≤ FP.Core.zval f (FP.Core.round f (FP.Core.exactSum v (FP.Core.negate x)))) := by
  have hnx : ∃ s c q, FP.Core.negate x = .fin s c q := by obtain ⟨s, c, q, rfl⟩ := hx; exact ⟨_, _, _, rfl⟩
  have fnx := FP.Core.negate_fits fx
  have zn := FP.Core.zval_negate f x
  have nn : FP.Core.negate x ≠ .nan := by obtain ⟨s, c, q, h⟩ := hnx; rw [h]; exact fun h => nomatch h
  have nv : v ≠ .nan := by obtain ⟨s, c, q, h⟩ := hv; rw [h]; exact fun h => nomatch h
  refine ⟨?_, ?_, ?_, ?_⟩
  · have h := FP.Core.sum_ge hf hv hnx fv fnx fnx nn (by omega)
    omega
  · exact FP.Core.sum_le hf hv hnx fv fnx fv nv (by omega)
  · intro h
    have h := FP.Core.sum_le hf hv hnx fv fnx (FP.Core.zero_fits hf false) (fun h => nomatch h) (by rw [fl_zero]; omega)
    rw [fl_zero] at h
    exact h
  · intro h
    have h := FP.Core.sum_ge hf hv hnx fv fnx (FP.Core.zero_fits hf false) (fun h => nomatch h) (by rw [fl_zero]; omega)
    rw [fl_zero] at h
    exact h
/-- a step towards v, or part of it -/
theorem fl_step {f : FP.Core.Fmt} (hf : FP.Core.Good f) {x v d e V : FP.Core.Datum} (hx : ∃ s c q, x = .fin s c q) (he : ∃ s c q, e = .fin s c q) (fx : FP.Core.fits f x) (fe : FP.Core.fits f e) (fV : FP.Core.fits f V) (nV : V ≠ .nan) (x0 : 0 ≤ FP.Core.zval f x) (x2 : FP.Core.zval f x ≤ FP.Core.zval f V) (v2 : 2 * FP.Core.zval f v ≤ FP.Core.zval f V)
    (hd : -FP.Core.zval f x ≤ FP.Core.zval f d ∧ FP.Core.zval f d ≤ FP.Core.zval f v ∧ (FP.Core.zval f v ≤ FP.Core.zval f x → FP.Core.zval f d ≤ 0) ∧ (FP.Core.zval f x ≤ FP.Core.zval f v → 0 ≤ FP.Core.zval f d))
    (hs : (0 ≤ FP.Core.zval f d → 0 ≤ FP.Core.zval f e ∧ FP.Core.zval f e ≤ FP.Core.zval f d) ∧ (FP.Core.zval f d ≤ 0 → FP.Core.zval f d ≤ FP.Core.zval f e ∧ FP.Core.zval f e ≤ 0)) :
    0 ≤ FP.Core.zval f (FP.Core.round f (FP.Core.exactSum x e)) ∧ FP.Core.zval f (FP.Core.round f (FP.Core.exactSum x e)) ≤ FP.Core.zval f V := by
  refine ⟨?_, ?_⟩
  · have h := FP.Core.sum_ge hf hx he fx fe (FP.Core.zero_fits hf false) (fun h => nomatch h) (by rw [fl_zero]; omega)
    rw [fl_zero] at h
    exact h
  · exact FP.Core.sum_le hf hx he fx fe fV nV (by omega)
theorem fl_mul {f : FP.Core.Fmt} (hf : FP.Core.Good f) {d y : FP.Core.Datum} (hd : ∃ s c q, d = .fin s c q) (hy : ∃ c q, y = .fin false c q) (fd : FP.Core.fits f d) (fy : FP.Core.fits f y) (h : FP.Core.zmag f y ≤ 2 ^ (-f.qmin).toNat) : FP.Core.sgn (FP.Core.round f (FP.Core.exactProduct d y)) = FP.Core.sgn d ∧ FP.Core.zmag f (FP.Core.round f (FP.Core.exactProduct d y)) ≤ FP.Core.zmag f d ∧ FP.Core.round f (FP.Core.exactProduct d y) ≠ .nan := by
  obtain ⟨s, c, q, rfl⟩ := hd
  obtain ⟨c2, r, rfl⟩ := hy
  obtain ⟨h1, h2, h3⟩ := FP.Core.product_units fd fy
  rw [h1]
  have hq := FP.Core.qmin_neg hf
  refine ⟨(FP.Core.sgn_roundRatio f _ _ _ _).trans (by cases s <;> rfl), ?_, FP.Core.roundRatio_ne_nan f _ _ _ _⟩
  refine FP.Core.zmag_roundRatio_le hf (by decide) fd (fun h => nomatch h) (e0 := 2 * f.qmin) (by omega) h2 ?_
  rw [h3, Nat.mul_one, show (f.qmin - 2 * f.qmin).toNat = (-f.qmin).toNat by omega]
  exact Nat.mul_le_mul_left _ h
theorem fl_div {f : FP.Core.Fmt} (hf : FP.Core.Good f) {d y : FP.Core.Datum} (hd : ∃ s c q, d = .fin s c q) (hy : ∃ c q, y = .fin false c q) (fd : FP.Core.fits f d) (fy : FP.Core.fits f y) (h : 2 ^ (-f.qmin).toNat ≤ FP.Core.zmag f y) : FP.Core.sgn (FP.Core.quotient f d y) = FP.Core.sgn d ∧ FP.Core.zmag f (FP.Core.quotient f d y) ≤ FP.Core.zmag f d ∧ FP.Core.quotient f d y ≠ .nan := by
  obtain ⟨s, c, q, rfl⟩ := hd
  obtain ⟨c2, r, rfl⟩ := hy
  have hp := Nat.two_pow_pos (-f.qmin).toNat
  have hc : ¬ c2 = 0 := by
    rintro rfl
    have : FP.Core.zmag f (.fin false 0 r) = 0 := Nat.zero_mul _
    omega
  have h1 : FP.Core.quotient f (.fin s c q) (.fin false c2 r) = FP.Core.roundRatio f (s != false) c c2 (q - r) := by
    simp only [FP.Core.quotient, if_neg hc]
  rw [h1]
  have hq := FP.Core.qmin_neg hf
  have hx1 := fd.2.1
  have hy1 := fy.2.1
  refine ⟨(FP.Core.sgn_roundRatio f _ _ _ _).trans (by cases s <;> rfl), ?_, FP.Core.roundRatio_ne_nan f _ _ _ _⟩
  refine FP.Core.zmag_roundRatio_le hf (by omega) fd (fun h => nomatch h) (e0 := 2 * f.qmin - r) (by omega) (by omega) ?_
  have e1 : FP.Core.inUnits c (q - r) (2 * f.qmin - r) = FP.Core.zmag f (.fin s c q) * 2 ^ (-f.qmin).toNat := by
    show c * _ = c * _ * _
    rw [Nat.mul_assoc, ← Nat.pow_add]; congr 2; omega
  have e2 : 2 ^ (f.qmin - (2 * f.qmin - r)).toNat * c2 = FP.Core.zmag f (.fin false c2 r) := by
    show _ = c2 * _
    rw [Nat.mul_comm]; congr 2; omega
  rw [e1, Nat.mul_assoc, e2]
  exact Nat.mul_le_mul_left _ h
theorem fl_int {f : FP.Core.Fmt} (hf : FP.Core.Good f) {i : Int} {V : FP.Core.Datum} (fV : FP.Core.fits f V) (nV : V ≠ .nan) (h0 : 0 ≤ i) (h : i * ((2 ^ (-f.qmin).toNat : Nat) : Int) ≤ FP.Core.zval f V) : 0 ≤ FP.Core.zval f (FP.Core.round f (FP.Core.ofInt i)) ∧ FP.Core.zval f (FP.Core.round f (FP.Core.ofInt i)) ≤ FP.Core.zval f V := by
  have hq := FP.Core.qmin_neg hf
  have h1 := FP.Core.ofInt_units f i
  have h2 : 0 ≤ i * ((2 ^ (-f.qmin).toNat : Nat) : Int) := Int.mul_nonneg h0 (Int.natCast_nonneg _)
  refine ⟨?_, ?_⟩
  · have h := FP.Core.zval_round_ge hf (FP.Core.zero_fits hf false) (fun h => nomatch h) (s := decide (i < 0)) (c := i.natAbs) (q := 0) (e0 := f.qmin) (Int.le_refl _) (by omega) (by rw [fl_zero, h1, Int.zero_mul]; exact h2)
    rw [fl_zero] at h
    exact h
  · exact FP.Core.zval_round_le hf fV nV (s := decide (i < 0)) (c := i.natAbs) (q := 0) (e0 := f.qmin) (Int.le_refl _) (by omega) (by rw [h1, Int.sub_self]; show _ ≤ _ * ((1 : Nat) : Int); omega)
def lvI (x : UInt32) : Prop := FP.Core.FFin x ∧ 0 ≤ FP.Core.zval FP.Core.b32 (FP.Core.val32 x) ∧ FP.Core.zval FP.Core.b32 (FP.Core.val32 x) ≤ FP.Core.zval FP.Core.b32 (FP.Core.val32 1602224128)
def mnI (x : UInt64) : Prop := FP.Core.DFin x ∧ 0 ≤ FP.Core.zval FP.Core.b64 (FP.Core.val64 x) ∧ FP.Core.zval FP.Core.b64 (FP.Core.val64 x) ≤ FP.Core.zval FP.Core.b64 (FP.Core.val64 4895412794951729152)
theorem fl_n32 {x : UInt32} (h : FP.Core.FFin x) : vf_n32 x := by
  have h := (FP.Core.fin_bits32 x).mp h
  unfold vf_n32
  rw [UInt32.le_iff_toNat_le, FP.Core.mask_toNat32]
  exact Nat.le_of_lt h
theorem fl_n64 {x : UInt64} (h : FP.Core.DFin x) : vf_n64 x := by
  have h := (FP.Core.fin_bits x).mp h
  unfold vf_n64
  rw [UInt64.le_iff_toNat_le, FP.Core.mask_toNat]
  exact Nat.le_of_lt h
theorem fl_b32 : 2 * FP.Core.zval FP.Core.b32 (FP.Core.val32 1593835520) = FP.Core.zval FP.Core.b32 (FP.Core.val32 1602224128) := by decide +kernel
theorem fl_c32 : FP.Core.zval FP.Core.b32 (FP.Core.val32 1593835520) = 9223372036854775808 * ((2 ^ (-FP.Core.b32.qmin).toNat : Nat) : Int) := by decide +kernel
theorem fl_q32 : FP.Core.val32 1048576000 = .fin false 8388608 (-25) ∧ FP.Core.zmag FP.Core.b32 (FP.Core.val32 1048576000) ≤ 2 ^ (-FP.Core.b32.qmin).toNat := by decide +kernel
theorem fl_b64 : 2 * FP.Core.zval FP.Core.b64 (FP.Core.val64 4890909195324358656) = FP.Core.zval FP.Core.b64 (FP.Core.val64 4895412794951729152) := by decide +kernel
theorem fl_c64 : FP.Core.zval FP.Core.b64 (FP.Core.val64 4890909195324358656) = 9223372036854775808 * ((2 ^ (-FP.Core.b64.qmin).toNat : Nat) : Int) := by decide +kernel
theorem fl_f32 : FP.Core.FFin 1602224128 ∧ FP.Core.FFin 1593835520 := ⟨(FP.Core.fin_bits32 _).mpr (by decide), (FP.Core.fin_bits32 _).mpr (by decide)⟩
theorem fl_f64 : FP.Core.DFin 4895412794951729152 ∧ FP.Core.DFin 4890909195324358656 := ⟨(FP.Core.fin_bits _).mpr (by decide), (FP.Core.fin_bits _).mpr (by decide)⟩
theorem fl_v {v : Int64} (h : 0 ≤ v) : 0 ≤ v.toInt ∧ v.toInt < 9223372036854775808 := ⟨Int64.le_iff_toInt_le.mp h, v.toInt_lt⟩
theorem lvI_0 : lvI 0 := by
  refine ⟨(FP.Core.fin_bits32 _).mpr (by decide), ?_, ?_⟩ <;> decide +kernel
theorem mnI_0 : mnI 0 := by
  refine ⟨(FP.Core.fin_bits _).mpr (by decide), ?_, ?_⟩ <;> decide +kernel
theorem lvI_step {x : UInt32} {v : Int64} (h : lvI x) (h0 : 0 ≤ v) : lvOk x v ∧ lvI (lvN x v) := by
  obtain ⟨hx, x0, x2⟩ := h
  have hv := fl_v h0
  have gf := FP.Core.good_b32
  have hl : 0 ≤ FP.Core.zval FP.Core.b32 (FP.Core.val32 (FP.Core.l2f v)) ∧ FP.Core.zval FP.Core.b32 (FP.Core.val32 (FP.Core.l2f v)) ≤ FP.Core.zval FP.Core.b32 (FP.Core.val32 1593835520) := by
    rw [FP.Core.val32_l2f]
    refine fl_int gf (FP.Core.val32_fits _) fl_f32.2.ne_nan hv.1 ?_
    rw [fl_c32]
    exact Int.mul_le_mul_of_nonneg_right (Int.le_of_lt hv.2) (Int.natCast_nonneg _)
  have hlf := FP.Core.l2f_fin v
  have hd := fl_sub gf hx hlf (FP.Core.val32_fits x) (FP.Core.val32_fits _) x0 hl.1
  rw [← FP.Core.val32_fsub] at hd
  have b2 := fl_b32
  have hdf : FP.Core.FFin (FP.Core.fsub (FP.Core.l2f v) x) := by
    refine fl_fin gf ?_ fl_f32.1 (FP.Core.val32_fits _) (by omega) (by omega)
    rw [FP.Core.val32_fsub]
    intro h
    rcases (FP.Core.exactSum_nan _ _).mp (FP.Core.round_nan.mp h) with h | h | ⟨s, h, _⟩
    · exact hlf.ne_nan h
    · exact hx.ne_nan ((FP.Core.negate_nan _).mp h)
    · exact hlf.ne_inf s h
  have hm := fl_mul gf hdf ⟨_, _, fl_q32.1⟩ (FP.Core.val32_fits _) (FP.Core.val32_fits _) fl_q32.2
  rw [← FP.Core.val32_fmul] at hm
  have hs := fl_shr hm.1 hm.2.1
  have hmf : FP.Core.FFin (FP.Core.fmul (FP.Core.fsub (FP.Core.l2f v) x) 1048576000) := by
    refine fl_fin gf hm.2.2 fl_f32.1 (FP.Core.val32_fits _) ?_ ?_ <;>
    · rcases Int.le_total 0 (FP.Core.zval FP.Core.b32 (FP.Core.val32 (FP.Core.fsub (FP.Core.l2f v) x))) with h | h
      · have := hs.1 h; omega
      · have := hs.2 h; omega
  have ht := fl_step gf hx hmf (FP.Core.val32_fits x) (FP.Core.val32_fits _) (FP.Core.val32_fits 1602224128) fl_f32.1.ne_nan x0 x2 (by omega) hd hs
  rw [← FP.Core.val32_fadd] at ht
  have htf : FP.Core.FFin (FP.Core.fadd x (FP.Core.fmul (FP.Core.fsub (FP.Core.l2f v) x) 1048576000)) := by
    refine fl_fin gf ?_ fl_f32.1 (FP.Core.val32_fits _) ht.2 (by omega)
    rw [FP.Core.val32_fadd]
    intro h
    rcases (FP.Core.exactSum_nan _ _).mp (FP.Core.round_nan.mp h) with h | h | ⟨s, h, _⟩
    · exact hx.ne_nan h
    · exact hmf.ne_nan h
    · exact hx.ne_inf s h
  exact ⟨⟨fl_n32 hdf, fl_n32 hmf, fl_n32 htf⟩, htf, ht⟩
theorem mnI_step {x : UInt64} {v : Int64} {n : Int32} (h : mnI x) (h0 : 0 ≤ v) (hn : 1 ≤ n.toInt) : mnOk x v n ∧ mnI (mnN x v n) := by
  obtain ⟨hx, x0, x2⟩ := h
  have hv := fl_v h0
  have gf := FP.Core.good_b64
  have hl : 0 ≤ FP.Core.zval FP.Core.b64 (FP.Core.val64 (FP.Core.l2d v)) ∧ FP.Core.zval FP.Core.b64 (FP.Core.val64 (FP.Core.l2d v)) ≤ FP.Core.zval FP.Core.b64 (FP.Core.val64 4890909195324358656) := by
    rw [FP.Core.val64_l2d]
    refine fl_int gf (FP.Core.val64_fits _) fl_f64.2.ne_nan hv.1 ?_
    rw [fl_c64]
    exact Int.mul_le_mul_of_nonneg_right (Int.le_of_lt hv.2) (Int.natCast_nonneg _)
  have hlf := FP.Core.l2d_fin v
  have hd := fl_sub gf hx hlf (FP.Core.val64_fits x) (FP.Core.val64_fits _) x0 hl.1
  rw [← FP.Core.val64_dsub] at hd
  have b2 := fl_b64
  have hdf : FP.Core.DFin (FP.Core.dsub (FP.Core.l2d v) x) := by
    refine fl_fin gf ?_ fl_f64.1 (FP.Core.val64_fits _) (by omega) (by omega)
    rw [FP.Core.val64_dsub]
    intro h
    rcases (FP.Core.exactSum_nan _ _).mp (FP.Core.round_nan.mp h) with h | h | ⟨s, h, _⟩
    · exact hlf.ne_nan h
    · exact hx.ne_nan ((FP.Core.negate_nan _).mp h)
    · exact hlf.ne_inf s h
  have hy : (∃ c q, FP.Core.val64 (FP.Core.i2d n) = .fin false c q) ∧ 2 ^ (-FP.Core.b64.qmin).toNat ≤ FP.Core.zmag FP.Core.b64 (FP.Core.val64 (FP.Core.i2d n)) := by
    have h1 := FP.Core.DInt_zval (FP.Core.i2d_int n)
    obtain ⟨s, c, q, h2⟩ := FP.Core.i2d_fin n
    have h3 := FP.Core.one64_pos
    have h4 : (FP.Core.one64 : Int) ≤ n.toInt * (FP.Core.one64 : Int) := by
      have := Int.mul_le_mul_of_nonneg_right hn (Int.natCast_nonneg FP.Core.one64)
      rw [Int.one_mul] at this
      exact this
    rw [← h1] at h4
    rw [FP.Core.pow_qmin64]
    have h5 := fl_top (s := FP.Core.sgn (FP.Core.val64 (FP.Core.i2d n))) (m := FP.Core.zmag FP.Core.b64 (FP.Core.val64 (FP.Core.i2d n)))
    have h6 : FP.Core.zval FP.Core.b64 (FP.Core.val64 (FP.Core.i2d n)) = FP.Core.signed (FP.Core.sgn (FP.Core.val64 (FP.Core.i2d n))) (FP.Core.zmag FP.Core.b64 (FP.Core.val64 (FP.Core.i2d n))) := rfl
    refine ⟨?_, by omega⟩
    cases s with
    | false => exact ⟨c, q, h2⟩
    | true =>
      rw [h2] at h4
      have h7 : FP.Core.zval FP.Core.b64 (.fin true c q) = -((FP.Core.zmag FP.Core.b64 (.fin true c q) : Nat) : Int) := rfl
      omega
  have hm := fl_div gf hdf hy.1 (FP.Core.val64_fits _) (FP.Core.val64_fits _) hy.2
  rw [← FP.Core.val64_ddiv] at hm
  have hs := fl_shr hm.1 hm.2.1
  have hmf : FP.Core.DFin (FP.Core.ddiv (FP.Core.dsub (FP.Core.l2d v) x) (FP.Core.i2d n)) := by
    refine fl_fin gf hm.2.2 fl_f64.1 (FP.Core.val64_fits _) ?_ ?_ <;>
    · rcases Int.le_total 0 (FP.Core.zval FP.Core.b64 (FP.Core.val64 (FP.Core.dsub (FP.Core.l2d v) x))) with h | h
      · have := hs.1 h; omega
      · have := hs.2 h; omega
  have ht := fl_step gf hx hmf (FP.Core.val64_fits x) (FP.Core.val64_fits _) (FP.Core.val64_fits 4895412794951729152) fl_f64.1.ne_nan x0 x2 (by omega) hd hs
  rw [← FP.Core.val64_dadd] at ht
  have htf : FP.Core.DFin (FP.Core.dadd x (FP.Core.ddiv (FP.Core.dsub (FP.Core.l2d v) x) (FP.Core.i2d n))) := by
    refine fl_fin gf ?_ fl_f64.1 (FP.Core.val64_fits _) ht.2 (by omega)
    rw [FP.Core.val64_dadd]
    intro h
    rcases (FP.Core.exactSum_nan _ _).mp (FP.Core.round_nan.mp h) with h | h | ⟨s, h, _⟩
    · exact hx.ne_nan h
    · exact hmf.ne_nan h
    · exact hx.ne_inf s h
  exact ⟨⟨fl_n64 hdf, fl_n64 hmf, fl_n64 htf⟩, htf, ht⟩
