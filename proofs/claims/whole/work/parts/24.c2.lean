/-! ===== the class: its ring ===== -/
theorem lN_and {k : Nat} (q : Nat) (hk : k < 2 ^ 63) (hq : q ≤ 30) : lN k &&& lN (2 ^ q - 1) = lN (k % 2 ^ q) := by
  have hp := Nat.two_pow_pos q
  have hq2 : 2 ^ q ≤ 2 ^ 30 := Nat.pow_le_pow_right (by decide) hq
  have hm : k % 2 ^ q < 2 ^ q := Nat.mod_lt _ hp
  refine Int64.toBitVec_inj.mp (BitVec.eq_of_toNat_eq ?_)
  rw [Int64.toBitVec_and, BitVec.toNat_and]
  show (BitVec.ofNat 64 k).toNat &&& (BitVec.ofNat 64 (2 ^ q - 1)).toNat = (BitVec.ofNat 64 (k % 2 ^ q)).toNat
  rw [BitVec.toNat_ofNat, BitVec.toNat_ofNat, BitVec.toNat_ofNat, Nat.mod_eq_of_lt (a := k) (by omega), Nat.mod_eq_of_lt (a := 2 ^ q - 1) (by omega), Nat.mod_eq_of_lt (a := k % 2 ^ q) (by omega), Nat.and_two_pow_sub_one_eq_mod]
def slN (N : Nat) : Prop := N = 4 ∨ N = 8 ∨ N = 16
theorem slN_b {N : Nat} (h : slN N) : 0 < N ∧ N ≤ 16 := by rcases h with rfl | rfl | rfl <;> decide
theorem sl_and {k N : Nat} (h : slN N) (hk : k < 2 ^ 63) : (lN k &&& (nI N - 1).toInt64).toInt32 = nI (k % N) := by
  rcases h with rfl | rfl | rfl
  · rw [show (nI 4 - 1).toInt64 = lN (2 ^ 2 - 1) by decide +kernel, lN_and 2 hk (by decide), lN_i]
  · rw [show (nI 8 - 1).toInt64 = lN (2 ^ 3 - 1) by decide +kernel, lN_and 3 hk (by decide), lN_i]
  · rw [show (nI 16 - 1).toInt64 = lN (2 ^ 4 - 1) by decide +kernel, lN_and 4 hk (by decide), lN_i]
/-- the long of an event's number: a - 1 -/
def eL (a : Nat) : Int64 := lN a - 1
theorem eL_toInt {a : Nat} (h : a < 2 ^ 62) : (eL a).toInt = (a : Int) - 1 := by
  have h1 := pk_lT (n := a) (by omega)
  have h2 : (1 : Int64).toInt = 1 := by decide
  unfold eL
  rw [FP.Core.int64_sub (by rw [h1, h2]; omega) (by rw [h1, h2]; omega), h1, h2]
theorem eL_1 {a : Nat} : eL a + 1 = lN a := Int64.sub_add_cancel ..
theorem eL_S {a : Nat} : eL (a + 1) = lN a := by unfold eL; rw [← lN_1]; exact Int64.add_sub_cancel ..
theorem eL_of {a : Nat} (h : a < 2 ^ 30) : (nI a - 1).toInt64 = eL a := Int64.toInt_inj.mp (by rw [Int32.toInt_toInt64, nIm h, eL_toInt (by omega)])
theorem eL_le {a b : Nat} (ha : a < 2 ^ 62) (hb : b < 2 ^ 62) : eL a ≤ eL b ↔ a ≤ b := by rw [Int64.le_iff_toInt_le, eL_toInt ha, eL_toInt hb]; omega
theorem eL_lt {a b : Nat} (ha : a < 2 ^ 62) (hb : b < 2 ^ 62) : eL a < eL b ↔ a < b := by rw [Int64.lt_iff_toInt_lt, eL_toInt ha, eL_toInt hb]; omega
theorem eL_eq {a b : Nat} (ha : a < 2 ^ 62) (hb : b < 2 ^ 62) : eL a = eL b ↔ a = b := by rw [← Int64.toInt_inj, eL_toInt ha, eL_toInt hb]; omega
theorem lN_leE {a b : Nat} (ha : a < 2 ^ 61) (hb : b < 2 ^ 62) : lN a ≤ eL b ↔ a < b := by rw [← eL_S, eL_le (by omega) hb]; omega
theorem eL_0 : eL 0 = -1 := by decide +kernel
/-- the ring's object and its arrays -/
def rgA (S : Mem) (r v g u N : Nat) : Prop := (r ∈ mL S ∧ mK S r = 4) ∧ (mR S 0 r = some v ∧ mR S 1 r = some g ∧ mR S 2 r = some u) ∧ (v ∈ mL S ∧ mK S v = 13 ∧ mN S v = N) ∧ (g ∈ mL S ∧ mK S g = 12 ∧ mN S g = N) ∧ (u ∈ mL S ∧ mK S u = 13 ∧ mN S u = N) ∧ v ≠ u ∧ slN N
/-- the producers of n sequences from cu on -/
def gsL (S : Mem) (g N cu : Nat) (x : Int32) : Nat → Mem
  | 0 => S
  | i + 1 => uaI (gsL S g N cu x i) g ((cu + i) % N) x
theorem gsL_r {S : Mem} {r v g u N cu g9 M9 : Nat} {x : Int32} (h : rgA S r v g u N) : ∀ i, rgA (gsL S g9 M9 cu x i) r v g u N
  | 0 => h
  | i + 1 => gsL_r h i
theorem gsL_J {S : Mem} {g N cu : Nat} {x : Int32} : ∀ i, mJ (gsL S g N cu x i) = mJ S
  | 0 => rfl
  | i + 1 => gsL_J i
/-- how far it is published without a gap, by what its slots hold -/
def avC (f : Nat → Int64) (N : Nat) : Nat → Nat → Nat
  | 0, a => a
  | d + 1, a => if f (a % N) = lN a then avC f N d (a + 1) else a
theorem uJ_uJ {S : Mem} {k a : Nat} {x z : Int64} : uJ (uJ S k a x) k a z = uJ S k a z := by
  show (mL S, mK S, mI S, up2 (up2 (mJ S) k a x) k a z, _) = (mL S, mK S, mI S, up2 (mJ S) k a z, _)
  rw [show up2 (up2 (mJ S) k a x) k a z = up2 (mJ S) k a z from funext fun i => funext fun b => by unfold up2; split <;> rfl]
  rfl
theorem uJ_self {S : Mem} {k a : Nat} {x : Int64} (h : mJ S k a = x) : uJ S k a x = S := by
  subst h
  show (mL S, mK S, mI S, up2 (mJ S) k a (mJ S k a), mR S, mF S, mE S, mN S, maI S, maJ S, maR S) = S
  rw [show up2 (mJ S) k a (mJ S k a) = mJ S from funext fun i => funext fun b => by unfold up2; split <;> simp_all]
  rfl
def wrS (S : Mem) (v u j : Nat) (x e9 : Int64) : Mem := uaJ (uaJ S v j x) u j e9
def mnL (x z : Int64) : Int64 := if z < x then z else x
section Min1
variable {p : Program} {l : Launch} {e : Env} {R : Room} {s : State} {m : MethodId} {args : Array Value} {below : List Frame} {meth : Method} {c : Code} {H : Heap} {locs : List Loc} {cells slots : Nat} {Q : State → Prop}
variable {s0 : State} {D : va_G} {cA : Nat → ClassId} {A : Nat → Prop} {cc : ByteArray} {nL : Nat} {ret : Option FieldType} {own : String} {pc idx : Nat} {ls : Array Slot} {rest : List Value}
theorem ct_min {x z : Int64} (C : cx_C p l s m args meth c s0 D cA cc nL ret own A) (hl : ls.size = nL) (h1 : Cond.methodLink own idx ⟨"java/lang/Math", "min", "(JJ)J"⟩ ∈ TB) (hf : 1 ≤ R.frames) (hlo : (rest.map fun v => v.category).sum + 15 ≤ R.locals) (hc : cells ≤ R.cells) (hs : slots ≤ R.slots) (d : decode cc pc = .ok (.invokestatic idx, 3)) (kk : W p l e R s m args below meth c H locs cells slots Q (F0 m (pc + 3) ls (.long (mnL x z) :: rest))) : W p l e R s m args below meth c H locs cells slots Q (F0 m pc ls (.long z :: .long x :: rest)) :=
  va_mmin_long (cx_x C) (cx_b C) (by rw [cx_ml C]; exact hl.symm) (cx_own C) (cx_t C _ h1) (cx_t C _ tm_379) (cx_t C _ tm_16) (cx_t C _ tm_380) hf hlo hc hs d kk
end Min1
abbrev rmX5_slots : Room := { frames := 0, cells := 0, slots := 0, locals := 0 }
abbrev rmX5_slotOf : Room := { frames := 0, cells := 0, slots := 0, locals := 0 }
set_option maxRecDepth 100000 in
theorem c_slots {l : Launch} {s0 : State} {D : va_G} {cA : Nat → ClassId} (hG : cx_G l s0 D cA) {S : Mem} {r v g u N : Nat}  (h : rgA S r v g u N) : PC l s0 D cA yX5_slots cX5_slots 1 (some .int) rmX5_slots [.ref r] S (some (.int (nI N))) (fun S1 => S1 = S) := by
  refine Ct.of (cA := cA) hG (by decide +kernel) (Nat.le_of_ble_eq_true rfl) ?_
  intro p e s m below meth c A C hnm hP hD hS ls hl
  have hx := cx_x C
  have hb := cx_b C
  have hl : lv_has ls 1 [(0, .ref r)] := hl
  refine lv_aload_n hx hb dX5_slots_0 rfl (lv_at hl 0 rfl) ?_
  refine gf_5_0s (b := v) C hP h.1.1 h.1.2 (h.2.1.1) tm_38 dX5_slots_1 ?_
  refine anv_J (N := N) C hP h.2.2.1.1 h.2.2.1.2.1 (h.2.2.1.2.2) dX5_slots_4 ?_
  exact ct_iret C hS hP hD (⟨rfl, _, rfl, rfl⟩) (Nat.le_of_ble_eq_true rfl) (Nat.le_of_ble_eq_true rfl) dX5_slots_5
set_option maxRecDepth 100000 in
theorem c_slotOf {l : Launch} {s0 : State} {D : va_G} {cA : Nat → ClassId} (hG : cx_G l s0 D cA) {S : Mem} {r v g u N : Nat} (k : Nat)  (h : rgA S r v g u N) (hk : k < 2 ^ 63) : PC l s0 D cA yX5_slotOf cX5_slotOf 3 (some .int) rmX5_slotOf [.ref r, .long (lN k)] S (some (.int (nI (k % N)))) (fun S1 => S1 = S) := by
  refine Ct.of (cA := cA) hG (by decide +kernel) (Nat.le_of_ble_eq_true rfl) ?_
  intro p e s m below meth c A C hnm hP hD hS ls hl
  have hx := cx_x C
  have hb := cx_b C
  have hl : lv_has ls 3 [(0, .ref r), (1, .long (lN k))] := hl
  refine lv_lload_n hx hb dX5_slotOf_0 rfl (lv_at hl 1 rfl) ?_
  refine lv_aload_n hx hb dX5_slotOf_1 rfl (lv_at hl 0 rfl) ?_
  refine gf_5_0s (b := v) C hP h.1.1 h.1.2 (h.2.1.1) tm_38 dX5_slotOf_2 ?_
  refine anv_J (N := N) C hP h.2.2.1.1 h.2.2.1.2.1 (h.2.2.1.2.2) dX5_slotOf_5 ?_
  refine lv_iconst (v := 1) hx hb dX5_slotOf_6 (by decide) ?_
  refine lv_isub hx hb dX5_slotOf_7 ?_
  refine lv_i2l (v := ((nI N) - 1).toInt64) hx hb dX5_slotOf_8 rfl ?_
  refine lv_land hx hb dX5_slotOf_9 ?_
  refine lv_l2i (v := ((lN k) &&& (((nI N) - 1).toInt64)).toInt32) hx hb dX5_slotOf_10 rfl ?_
  exact ct_iret C hS hP hD (⟨by rw [sl_and h.2.2.2.2.2.2 hk], _, rfl, rfl⟩) (Nat.le_of_ble_eq_true rfl) (Nat.le_of_ble_eq_true rfl) dX5_slotOf_11
abbrev rmX5_publishedInSlotOf : Room := { frames := 1, cells := 0, slots := 0, locals := 22 }
set_option maxRecDepth 100000 in
theorem c_publishedInSlotOf {l : Launch} {s0 : State} {D : va_G} {cA : Nat → ClassId} (hG : cx_G l s0 D cA) {S : Mem} {r v g u N : Nat} (k : Nat)  (h : rgA S r v g u N) (hk : k < 2 ^ 63) : PC l s0 D cA yX5_publishedInSlotOf cX5_publishedInSlotOf 3 (some .long) rmX5_publishedInSlotOf [.ref r, .long (lN k)] S (some (.long (maJ S u (k % N)))) (fun S1 => S1 = S) := by
  refine Ct.of (cA := cA) hG (by decide +kernel) (Nat.le_of_ble_eq_true rfl) ?_
  intro p e s m below meth c A C hnm hP hD hS ls hl
  have hx := cx_x C
  have hb := cx_b C
  have hl : lv_has ls 3 [(0, .ref r), (1, .long (lN k))] := hl
  refine lv_aload_n hx hb dX5_publishedInSlotOf_0 rfl (lv_at hl 0 rfl) ?_
  refine gf_5_2s (b := u) C hP h.1.1 h.1.2 (h.2.1.2.2) tm_40 dX5_publishedInSlotOf_1 ?_
  refine lv_aload_n hx hb dX5_publishedInSlotOf_4 rfl (lv_at hl 0 rfl) ?_
  refine lv_lload_n hx hb dX5_publishedInSlotOf_5 rfl (lv_at hl 1 rfl) ?_
  refine pc_V (As := [.long (lN k)]) (rest := [.ref u]) (r := some (.int (nI (k % N)))) C (c_slotOf (S := S) (N := N) hG k h (hk)) tm_387 tm_388 tm_389 tm_2 tm_390 hdX5_slotOf ⟨Nat.le_of_ble_eq_true rfl, Nat.le_of_ble_eq_true rfl⟩ (rcv_5 C hP h.1.1 h.1.2) hl.1 rfl (Nat.le_of_ble_eq_true rfl) dX5_publishedInSlotOf_6 ⟨Nat.le_of_ble_eq_true rfl, Nat.le_of_ble_eq_true rfl⟩ hP hD hS (fun S1 H locs hQ hP hD hS => ?_)
  rw [hQ] at hP hD
  refine av_J (j := k % N) (v := maJ S u (k % N)) C hP h.2.2.2.2.1.1 h.2.2.2.2.1.2.1 (ixN h.2.2.2.2.1.2.2 (ix_nI (Nat.lt_of_lt_of_le (Nat.mod_lt _ (slN_b h.2.2.2.2.2.2).1) (Nat.le_refl _)) (Nat.lt_of_le_of_lt (slN_b h.2.2.2.2.2.2).2 (by decide)))) (rfl) dX5_publishedInSlotOf_9 ?_
  exact ct_lret C hS hP hD (⟨rfl, _, rfl, rfl⟩) (Nat.le_of_ble_eq_true rfl) (Nat.le_of_ble_eq_true rfl) dX5_publishedInSlotOf_10
abbrev rmX5_valueOf : Room := { frames := 1, cells := 0, slots := 0, locals := 22 }
set_option maxRecDepth 100000 in
theorem c_valueOf {l : Launch} {s0 : State} {D : va_G} {cA : Nat → ClassId} (hG : cx_G l s0 D cA) {S : Mem} {r v g u N : Nat} (k : Nat)  (h : rgA S r v g u N) (hk : k < 2 ^ 63) : PC l s0 D cA yX5_valueOf cX5_valueOf 3 (some .long) rmX5_valueOf [.ref r, .long (lN k)] S (some (.long (maJ S v (k % N)))) (fun S1 => S1 = S) := by
  refine Ct.of (cA := cA) hG (by decide +kernel) (Nat.le_of_ble_eq_true rfl) ?_
  intro p e s m below meth c A C hnm hP hD hS ls hl
  have hx := cx_x C
  have hb := cx_b C
  have hl : lv_has ls 3 [(0, .ref r), (1, .long (lN k))] := hl
  refine lv_aload_n hx hb dX5_valueOf_0 rfl (lv_at hl 0 rfl) ?_
  refine gf_5_0s (b := v) C hP h.1.1 h.1.2 (h.2.1.1) tm_38 dX5_valueOf_1 ?_
  refine lv_aload_n hx hb dX5_valueOf_4 rfl (lv_at hl 0 rfl) ?_
  refine lv_lload_n hx hb dX5_valueOf_5 rfl (lv_at hl 1 rfl) ?_
  refine pc_V (As := [.long (lN k)]) (rest := [.ref v]) (r := some (.int (nI (k % N)))) C (c_slotOf (S := S) (N := N) hG k h (hk)) tm_387 tm_388 tm_389 tm_2 tm_390 hdX5_slotOf ⟨Nat.le_of_ble_eq_true rfl, Nat.le_of_ble_eq_true rfl⟩ (rcv_5 C hP h.1.1 h.1.2) hl.1 rfl (Nat.le_of_ble_eq_true rfl) dX5_valueOf_6 ⟨Nat.le_of_ble_eq_true rfl, Nat.le_of_ble_eq_true rfl⟩ hP hD hS (fun S1 H locs hQ hP hD hS => ?_)
  rw [hQ] at hP hD
  refine av_J (j := k % N) (v := maJ S v (k % N)) C hP h.2.2.1.1 h.2.2.1.2.1 (ixN h.2.2.1.2.2 (ix_nI (Nat.lt_of_lt_of_le (Nat.mod_lt _ (slN_b h.2.2.2.2.2.2).1) (Nat.le_refl _)) (Nat.lt_of_le_of_lt (slN_b h.2.2.2.2.2.2).2 (by decide)))) (rfl) dX5_valueOf_9 ?_
  exact ct_lret C hS hP hD (⟨rfl, _, rfl, rfl⟩) (Nat.le_of_ble_eq_true rfl) (Nat.le_of_ble_eq_true rfl) dX5_valueOf_10
abbrev rmX5_producerOf : Room := { frames := 1, cells := 0, slots := 0, locals := 22 }
set_option maxRecDepth 100000 in
theorem c_producerOf {l : Launch} {s0 : State} {D : va_G} {cA : Nat → ClassId} (hG : cx_G l s0 D cA) {S : Mem} {r v g u N : Nat} (k : Nat)  (h : rgA S r v g u N) (hk : k < 2 ^ 63) : PC l s0 D cA yX5_producerOf cX5_producerOf 3 (some .int) rmX5_producerOf [.ref r, .long (lN k)] S (some (.int (maI S g (k % N)))) (fun S1 => S1 = S) := by
  refine Ct.of (cA := cA) hG (by decide +kernel) (Nat.le_of_ble_eq_true rfl) ?_
  intro p e s m below meth c A C hnm hP hD hS ls hl
  have hx := cx_x C
  have hb := cx_b C
  have hl : lv_has ls 3 [(0, .ref r), (1, .long (lN k))] := hl
  refine lv_aload_n hx hb dX5_producerOf_0 rfl (lv_at hl 0 rfl) ?_
  refine gf_5_1s (b := g) C hP h.1.1 h.1.2 (h.2.1.2.1) tm_39 dX5_producerOf_1 ?_
  refine lv_aload_n hx hb dX5_producerOf_4 rfl (lv_at hl 0 rfl) ?_
  refine lv_lload_n hx hb dX5_producerOf_5 rfl (lv_at hl 1 rfl) ?_
  refine pc_V (As := [.long (lN k)]) (rest := [.ref g]) (r := some (.int (nI (k % N)))) C (c_slotOf (S := S) (N := N) hG k h (hk)) tm_387 tm_388 tm_389 tm_2 tm_390 hdX5_slotOf ⟨Nat.le_of_ble_eq_true rfl, Nat.le_of_ble_eq_true rfl⟩ (rcv_5 C hP h.1.1 h.1.2) hl.1 rfl (Nat.le_of_ble_eq_true rfl) dX5_producerOf_6 ⟨Nat.le_of_ble_eq_true rfl, Nat.le_of_ble_eq_true rfl⟩ hP hD hS (fun S1 H locs hQ hP hD hS => ?_)
  rw [hQ] at hP hD
  refine av_I (j := k % N) (v := maI S g (k % N)) C hP h.2.2.2.1.1 h.2.2.2.1.2.1 (ixN h.2.2.2.1.2.2 (ix_nI (Nat.lt_of_lt_of_le (Nat.mod_lt _ (slN_b h.2.2.2.2.2.2).1) (Nat.le_refl _)) (Nat.lt_of_le_of_lt (slN_b h.2.2.2.2.2.2).2 (by decide)))) (rfl) dX5_producerOf_9 ?_
  exact ct_iret C hS hP hD (⟨rfl, _, rfl, rfl⟩) (Nat.le_of_ble_eq_true rfl) (Nat.le_of_ble_eq_true rfl) dX5_producerOf_10
abbrev rmX5_isOpen : Room := { frames := 1, cells := 0, slots := 0, locals := 22 }
set_option maxRecDepth 100000 in
theorem c_open_l {l : Launch} {s0 : State} {D : va_G} {cA : Nat → ClassId} (hG : cx_G l s0 D cA) {S : Mem} {r v g u N : Nat} {cu : Int64} (x : Int32) (sq : Int64)  (h : rgA S r v g u N) (hcu : mJ S 3 r = cu) (h0 : sq < 0) : PC l s0 D cA yX5_isOpen cX5_isOpen 5 (some .boolean) rmX5_isOpen [.ref r, .int x, .long sq] S (some (.int 0)) (fun S1 => S1 = S) := by
  refine Ct.of (cA := cA) hG (by decide +kernel) (Nat.le_of_ble_eq_true rfl) ?_
  intro p e s m below meth c A C hnm hP hD hS ls hl
  have hx := cx_x C
  have hb := cx_b C
  have hl : lv_has ls 5 [(0, .ref r), (1, .int x), (2, .long sq)] := hl
  refine lv_lload_n hx hb dX5_isOpen_0 rfl (lv_at hl 2 rfl) ?_
  refine lv_lconst (v := 0) hx hb dX5_isOpen_1 (by decide) ?_
  refine W.lcmp hx hb dX5_isOpen_2 ?_
  refine lv_if_lt (tgt := 15) hx hb dX5_isOpen_3 (by decide) (fun _ => ?_) (fun h9 => absurd ((lg_cmp_lt ..).mpr h0) h9)
  refine lv_iconst (v := 0) hx hb dX5_isOpen_15 (by decide) ?_
  exact ct_zret C (by first | rfl | decide) hS hP hD (⟨rfl, _, rfl, rfl⟩) (Nat.le_of_ble_eq_true rfl) (Nat.le_of_ble_eq_true rfl) dX5_isOpen_16
set_option maxRecDepth 100000 in
theorem c_open_h {l : Launch} {s0 : State} {D : va_G} {cA : Nat → ClassId} (hG : cx_G l s0 D cA) {S : Mem} {r v g u N : Nat} {cu : Int64} (x : Int32) (sq : Int64)  (h : rgA S r v g u N) (hcu : mJ S 3 r = cu) (h0 : ¬ sq < 0) (h1 : ¬ sq ≤ cu) : PC l s0 D cA yX5_isOpen cX5_isOpen 5 (some .boolean) rmX5_isOpen [.ref r, .int x, .long sq] S (some (.int 0)) (fun S1 => S1 = S) := by
  refine Ct.of (cA := cA) hG (by decide +kernel) (Nat.le_of_ble_eq_true rfl) ?_
  intro p e s m below meth c A C hnm hP hD hS ls hl
  have hx := cx_x C
  have hb := cx_b C
  have hl : lv_has ls 5 [(0, .ref r), (1, .int x), (2, .long sq)] := hl
  refine lv_lload_n hx hb dX5_isOpen_0 rfl (lv_at hl 2 rfl) ?_
  refine lv_lconst (v := 0) hx hb dX5_isOpen_1 (by decide) ?_
  refine W.lcmp hx hb dX5_isOpen_2 ?_
  refine lv_if_lt (tgt := 15) hx hb dX5_isOpen_3 (by decide) (fun h9 => absurd h9 (fun h => h0 ((lg_cmp_lt ..).mp h))) (fun _ => ?_)
  refine lv_lload_n hx hb dX5_isOpen_6 rfl (lv_at hl 2 rfl) ?_
  refine lv_aload_n hx hb dX5_isOpen_7 rfl (lv_at hl 0 rfl) ?_
  refine gv_5_3 (v := cu) C hP h.1.1 h.1.2 (hcu) tm_41 dX5_isOpen_8 ?_
  refine W.lcmp hx hb dX5_isOpen_11 ?_
  refine lv_if_le (tgt := 17) hx hb dX5_isOpen_12 (by decide) (fun h9 => absurd h9 (fun h => h1 ((lg_cmp_le ..).mp h))) (fun _ => ?_)
  refine lv_iconst (v := 0) hx hb dX5_isOpen_15 (by decide) ?_
  exact ct_zret C (by first | rfl | decide) hS hP hD (⟨rfl, _, rfl, rfl⟩) (Nat.le_of_ble_eq_true rfl) (Nat.le_of_ble_eq_true rfl) dX5_isOpen_16
set_option maxRecDepth 100000 in
theorem c_open_k {l : Launch} {s0 : State} {D : va_G} {cA : Nat → ClassId} (hG : cx_G l s0 D cA) {S : Mem} {r v g u N : Nat} {cu : Int64} (x : Int32) (k : Nat)  (h : rgA S r v g u N) (hcu : mJ S 3 r = cu) (hk : k < 2 ^ 63) (h0 : ¬ lN k < 0) (h1 : lN k ≤ cu) : PC l s0 D cA yX5_isOpen cX5_isOpen 5 (some .boolean) rmX5_isOpen [.ref r, .int x, .long (lN k)] S (some (.int (if maJ S u (k % N) < lN k ∧ maI S g (k % N) = x then 1 else 0))) (fun S1 => S1 = S) := by
  refine Ct.of (cA := cA) hG (by decide +kernel) (Nat.le_of_ble_eq_true rfl) ?_
  intro p e s m below meth c A C hnm hP hD hS ls hl
  have hx := cx_x C
  have hb := cx_b C
  have hl : lv_has ls 5 [(0, .ref r), (1, .int x), (2, .long (lN k))] := hl
  refine lv_lload_n hx hb dX5_isOpen_0 rfl (lv_at hl 2 rfl) ?_
  refine lv_lconst (v := 0) hx hb dX5_isOpen_1 (by decide) ?_
  refine W.lcmp hx hb dX5_isOpen_2 ?_
  refine lv_if_lt (tgt := 15) hx hb dX5_isOpen_3 (by decide) (fun h9 => absurd h9 (fun h => h0 ((lg_cmp_lt ..).mp h))) (fun _ => ?_)
  refine lv_lload_n hx hb dX5_isOpen_6 rfl (lv_at hl 2 rfl) ?_
  refine lv_aload_n hx hb dX5_isOpen_7 rfl (lv_at hl 0 rfl) ?_
  refine gv_5_3 (v := cu) C hP h.1.1 h.1.2 (hcu) tm_41 dX5_isOpen_8 ?_
  refine W.lcmp hx hb dX5_isOpen_11 ?_
  refine lv_if_le (tgt := 17) hx hb dX5_isOpen_12 (by decide) (fun _ => ?_) (fun h9 => absurd ((lg_cmp_le ..).mpr h1) h9)
  refine lv_aload_n hx hb dX5_isOpen_17 rfl (lv_at hl 0 rfl) ?_
  refine lv_lload_n hx hb dX5_isOpen_18 rfl (lv_at hl 2 rfl) ?_
  refine pc_V (As := [.long (lN k)]) (rest := []) (r := some (.int (nI (k % N)))) C (c_slotOf (S := S) (N := N) hG k h (hk)) tm_387 tm_388 tm_389 tm_2 tm_390 hdX5_slotOf ⟨Nat.le_of_ble_eq_true rfl, Nat.le_of_ble_eq_true rfl⟩ (rcv_5 C hP h.1.1 h.1.2) hl.1 rfl (Nat.le_of_ble_eq_true rfl) dX5_isOpen_19 ⟨Nat.le_of_ble_eq_true rfl, Nat.le_of_ble_eq_true rfl⟩ hP hD hS (fun S1 H locs hQ hP hD hS => ?_)
  rw [hQ] at hP hD
  refine lv_istore (lv' := [(4, .int (nI (k % N))), (0, .ref r), (1, .int x), (2, .long (lN k))]) hx hb dX5_isOpen_22 hl (by decide) rfl (fun ls hl => ?_)
  refine lv_aload_n hx hb dX5_isOpen_24 rfl (lv_at hl 1 rfl) ?_
  refine gf_5_2s (b := u) C hP h.1.1 h.1.2 (h.2.1.2.2) tm_40 dX5_isOpen_25 ?_
  refine lv_iload hx hb dX5_isOpen_28 (lv_at hl 0 rfl) ?_
  refine av_J (j := k % N) (v := maJ S u (k % N)) C hP h.2.2.2.2.1.1 h.2.2.2.2.1.2.1 (ixN h.2.2.2.2.1.2.2 (ix_nI (Nat.lt_of_lt_of_le (Nat.mod_lt _ (slN_b h.2.2.2.2.2.2).1) (Nat.le_refl _)) (Nat.lt_of_le_of_lt (slN_b h.2.2.2.2.2.2).2 (by decide)))) (rfl) dX5_isOpen_30 ?_
  refine lv_lload_n hx hb dX5_isOpen_31 rfl (lv_at hl 3 rfl) ?_
  refine W.lcmp hx hb dX5_isOpen_32 ?_
  refine lv_if_ge (tgt := 51) hx hb dX5_isOpen_33 (by decide) (fun c33 => ?_) (fun c33 => ?_)
  · rw [lg_cmp_ge] at c33
    refine lv_iconst (v := 0) hx hb dX5_isOpen_51 (by decide) ?_
    exact ct_zret C (by first | rfl | decide) hS hP hD (⟨by rw [if_neg (fun h => by first | exact c44 h.2 | exact absurd h.1 (Int64.not_lt.mpr c33))], _, rfl, rfl⟩) (Nat.le_of_ble_eq_true rfl) (Nat.le_of_ble_eq_true rfl) dX5_isOpen_52
  rw [lg_cmp_ge] at c33
  refine lv_aload_n hx hb dX5_isOpen_36 rfl (lv_at hl 1 rfl) ?_
  refine gf_5_1s (b := g) C hP h.1.1 h.1.2 (h.2.1.2.1) tm_39 dX5_isOpen_37 ?_
  refine lv_iload hx hb dX5_isOpen_40 (lv_at hl 0 rfl) ?_
  refine av_I (j := k % N) (v := maI S g (k % N)) C hP h.2.2.2.1.1 h.2.2.2.1.2.1 (ixN h.2.2.2.1.2.2 (ix_nI (Nat.lt_of_lt_of_le (Nat.mod_lt _ (slN_b h.2.2.2.2.2.2).1) (Nat.le_refl _)) (Nat.lt_of_le_of_lt (slN_b h.2.2.2.2.2.2).2 (by decide)))) (rfl) dX5_isOpen_42 ?_
  refine lv_iload_n hx hb dX5_isOpen_43 rfl (lv_at hl 2 rfl) ?_
  refine lv_icmp_ne (tgt := 51) hx hb dX5_isOpen_44 (by decide) (fun c44 => ?_) (fun c44 => ?_)
  · refine lv_iconst (v := 0) hx hb dX5_isOpen_51 (by decide) ?_
    exact ct_zret C (by first | rfl | decide) hS hP hD (⟨by rw [if_neg (fun h => by first | exact c44 h.2 | exact absurd h.1 (Int64.not_lt.mpr c33))], _, rfl, rfl⟩) (Nat.le_of_ble_eq_true rfl) (Nat.le_of_ble_eq_true rfl) dX5_isOpen_52
  refine lv_iconst (v := 1) hx hb dX5_isOpen_47 (by decide) ?_
  refine lv_goto (tgt := 52) hx hb dX5_isOpen_48 (by decide) ?_
  exact ct_zret C (by first | rfl | decide) hS hP hD (⟨by rw [if_pos ⟨by first | exact c33 | exact Int64.not_le.mp c33, c44⟩], _, rfl, rfl⟩) (Nat.le_of_ble_eq_true rfl) (Nat.le_of_ble_eq_true rfl) dX5_isOpen_52
section Ring1
variable {p : Program} {l : Launch} {e : Env} {R : Room} {s : State} {m : MethodId} {args : Array Value} {below : List Frame} {meth : Method} {c : Code} {H : Heap} {locs : List Loc} {cells slots : Nat} {Q : State → Prop}
variable {s0 : State} {D : va_G} {cA : Nat → ClassId} {A : Nat → Prop} {ad : Nat → Nat}
set_option maxRecDepth 100000 in
theorem lp_res (C : cx_C p l s m args meth c s0 D cA cX5_reserve 6 (some .long) RX5 A) (hG : cx_G l s0 D cA) {S : Mem} {r v g u N cu M : Nat} {x : Int32} (h : rgA S r v g u N) (hM : M ≤ 16) (hcu : cu ≤ 10000) (hR0 : rmX5_slotOf.frames + 1 ≤ R.frames ∧ 8 + (3 + 11) + rmX5_slotOf.locals ≤ R.locals) (hC0 : cells + rmX5_slotOf.cells ≤ R.cells ∧ slots + rmX5_slotOf.slots ≤ R.slots) 
    (kk : ∀ (H : Heap) (locs : List Loc) (ls : Array Slot), va_P D vwCl (pW cA (gsL S g N cu x M)) H → va_D A (pW cA (gsL S g N cu x M)) → va_S A s.heap H locs → lv_has ls 6 [(3, .long (lN cu)), (0, .ref r), (1, .int x), (2, .int (nI M))] → W p l e R s m args below meth c H locs cells slots Q (F0 m 37 ls [])) :
    ∀ d i : Nat, i + d = M → ∀ T : Mem, T = gsL S g N cu x i → ∀ (H : Heap) (locs : List Loc) (ls : Array Slot), va_P D vwCl (pW cA T) H → va_D A (pW cA T) → va_S A s.heap H locs → lv_has ls 6 [(5, .int (nI i)), (3, .long (lN cu)), (0, .ref r), (1, .int x), (2, .int (nI M))] → W p l e R s m args below meth c H locs cells slots Q (F0 m 10 ls []) := by
  have hx := cx_x C
  have hb := cx_b C
  intro d
  induction d with
  | zero =>
    intro i hi T hT H locs ls hP hD hS hl
    have hi : i = M := hi
    subst hi
    subst hT
    refine lv_iload hx hb dX5_reserve_10 (lv_at hl 0 rfl) ?_
    refine lv_iload_n hx hb dX5_reserve_12 rfl (lv_at hl 4 rfl) ?_
    refine lv_icmp_ge (tgt := 37) hx hb dX5_reserve_13 (by decide) (fun _ => ?_) (fun h9 => absurd (Int32.le_refl _) h9)
    exact kk H locs ls hP hD hS (lv_sub hl [1, 2, 3, 4] rfl)
  | succ d ih =>
    intro i hi T hT H locs ls hP hD hS hl
    have h : rgA T r v g u N := by rw [hT]; exact gsL_r h i
    have hk : cu + i < 2 ^ 63 := by omega
    refine lv_iload hx hb dX5_reserve_10 (lv_at hl 0 rfl) ?_
    refine lv_iload_n hx hb dX5_reserve_12 rfl (lv_at hl 4 rfl) ?_
    refine lv_icmp_ge (tgt := 37) hx hb dX5_reserve_13 (by decide) (fun h9 => absurd h9 (nI_ge (by omega) (by omega))) (fun _ => ?_)
    refine lv_aload_n hx hb dX5_reserve_16 rfl (lv_at hl 2 rfl) ?_
    refine gf_5_1s (b := g) C hP h.1.1 h.1.2 (h.2.1.2.1) tm_39 dX5_reserve_17 ?_
    refine lv_aload_n hx hb dX5_reserve_20 rfl (lv_at hl 2 rfl) ?_
    refine lv_lload_n hx hb dX5_reserve_21 rfl (lv_at hl 1 rfl) ?_
    refine lv_iload hx hb dX5_reserve_22 (lv_at hl 0 rfl) ?_
    refine lv_i2l (v := (nI i).toInt64) hx hb dX5_reserve_24 rfl ?_
    refine lv_ladd hx hb dX5_reserve_25 ?_
    rw [nI_l (show i < 2 ^ 31 by omega), lN_add]
    refine pc_V (As := [.long (lN (cu + i))]) (rest := [.ref g]) (r := some (.int (nI ((cu + i) % N)))) C (c_slotOf (S := T) (N := N) hG (cu + i) h (hk)) tm_387 tm_388 tm_389 tm_2 tm_390 hdX5_slotOf hR0 (rcv_5 C hP h.1.1 h.1.2) hl.1 rfl (Nat.le_of_ble_eq_true rfl) dX5_reserve_26 hC0 hP hD hS (fun S1 H locs hQ hP hD hS => ?_)
    rw [hQ] at hP hD
    refine lv_iload_n hx hb dX5_reserve_29 rfl (lv_at hl 3 rfl) ?_
    refine as_I (x := x) (j := (cu + i) % N) C hP hD hS h.2.2.2.1.1 h.2.2.2.1.2.1 (ixN h.2.2.2.1.2.2 (ix_nI (Nat.lt_of_lt_of_le (Nat.mod_lt _ (slN_b h.2.2.2.2.2.2).1) (Nat.le_refl _)) (Nat.lt_of_le_of_lt (slN_b h.2.2.2.2.2.2).2 (by decide)))) dX5_reserve_30 (fun H locs hP hD hS => ?_)
    refine lv_iinc (v := nI i + 1) (lv' := [(5, .int (nI i + 1)), (3, .long (lN cu)), (0, .ref r), (1, .int x), (2, .int (nI M))]) hx hb dX5_reserve_31 hl (k := 0) rfl (by first | rfl | decide) (by decide) rfl (fun ls hl => ?_)
    refine lv_goto (tgt := 10) hx hb dX5_reserve_34 (by decide) ?_
    rw [nI_1] at hl
    exact ih (i + 1) (by omega) _ (by rw [gsL, ← hT]) H locs ls hP hD hS (lv_sub hl [0, 1, 2, 3, 4] rfl)
set_option maxRecDepth 100000 in
theorem lp_wr {d0 a0 : Nat} (C : cx_C p l s m args meth c s0 D cA cX5_write 7 none RX5 A) (hG : cx_G l s0 D cA) {S : Mem} {r v g u N cu : Nat} (h : rgA S r v g u N) (hcu : mJ S 3 r = eL cu) (hc9 : cu ≤ 10000) (hR0 : rmX5_slotOf.frames + 1 ≤ R.frames ∧ 8 + (3 + 11) + rmX5_slotOf.locals ≤ R.locals) (hC0 : cells + rmX5_slotOf.cells ≤ R.cells ∧ slots + rmX5_slotOf.slots ≤ R.slots) 
    (kk : ∀ (H : Heap) (locs : List Loc) (ls : Array Slot), va_P D vwCl (pW cA (uJ S 4 r (eL (avC (maJ S u) N d0 a0)))) H → va_D A (pW cA (uJ S 4 r (eL (avC (maJ S u) N d0 a0)))) → va_S A s.heap H locs → W p l e R s m args below meth c H locs cells slots Q (F0 m 75 ls [])) :
    ∀ d a : Nat, a + d = cu → avC (maJ S u) N d a = avC (maJ S u) N d0 a0 → ∀ T : Mem, T = uJ S 4 r (eL a) → ∀ (H : Heap) (locs : List Loc) (ls : Array Slot), va_P D vwCl (pW cA T) H → va_D A (pW cA T) → va_S A s.heap H locs → lv_has ls 7 [(5, .long (lN a)), (0, .ref r)] → W p l e R s m args below meth c H locs cells slots Q (F0 m 30 ls []) := by
  have hx := cx_x C
  have hb := cx_b C
  intro d
  induction d with
  | zero =>
    intro a ha hv T hT H locs ls hP hD hS hl
    have ha : a = cu := ha
    have hv : a = avC (maJ S u) N d0 a0 := hv
    rw [← hv] at kk
    have hr : rgA T r v g u N := by rw [hT]; exact h
    have hcT : mJ T 3 r = eL cu := by rw [hT]; exact (mJ_k (by decide)).trans hcu
    refine lv_lload hx hb dX5_write_30 (lv_at hl 0 rfl) ?_
    refine lv_aload_n hx hb dX5_write_32 rfl (lv_at hl 1 rfl) ?_
    refine gv_5_3 (v := eL cu) C hP hr.1.1 hr.1.2 (hcT) tm_41 dX5_write_33 ?_
    refine W.lcmp hx hb dX5_write_36 ?_
    refine lv_if_gt (tgt := 75) hx hb dX5_write_37 (by decide) (fun _ => ?_) (fun h9 => absurd ((lg_cmp_gt ..).mpr (by rw [ha]; exact Int64.not_le.mp fun q => absurd ((lN_leE (by omega) (by omega)).mp q) (by omega))) h9)
    subst hT
    exact kk H locs ls hP hD hS
  | succ d ih =>
    intro a ha hv T hT H locs ls hP hD hS hl
    have hr : rgA T r v g u N := by rw [hT]; exact h
    have hcT : mJ T 3 r = eL cu := by rw [hT]; exact (mJ_k (by decide)).trans hcu
    have hu : maJ T u (a % N) = maJ S u (a % N) := by rw [hT]; rfl
    have hk : a < 2 ^ 63 := by omega
    rw [avC] at hv
    refine lv_lload hx hb dX5_write_30 (lv_at hl 0 rfl) ?_
    refine lv_aload_n hx hb dX5_write_32 rfl (lv_at hl 1 rfl) ?_
    refine gv_5_3 (v := eL cu) C hP hr.1.1 hr.1.2 (hcT) tm_41 dX5_write_33 ?_
    refine W.lcmp hx hb dX5_write_36 ?_
    refine lv_if_gt (tgt := 75) hx hb dX5_write_37 (by decide) (fun h9 => absurd h9 (fun q => absurd ((lg_cmp_gt ..).mp q) (Int64.not_lt.mpr ((lN_leE (by omega) (by omega)).mpr (by omega))))) (fun _ => ?_)
    refine lv_aload_n hx hb dX5_write_40 rfl (lv_at hl 1 rfl) ?_
    refine gf_5_2s (b := u) C hP hr.1.1 hr.1.2 (hr.2.1.2.2) tm_40 dX5_write_41 ?_
    refine lv_aload_n hx hb dX5_write_44 rfl (lv_at hl 1 rfl) ?_
    refine lv_lload hx hb dX5_write_45 (lv_at hl 0 rfl) ?_
    refine pc_V (As := [.long (lN a)]) (rest := [.ref u]) (r := some (.int (nI (a % N)))) C (c_slotOf (S := T) (N := N) hG a hr (hk)) tm_387 tm_388 tm_389 tm_2 tm_390 hdX5_slotOf hR0 (rcv_5 C hP hr.1.1 hr.1.2) hl.1 rfl (Nat.le_of_ble_eq_true rfl) dX5_write_47 hC0 hP hD hS (fun S1 H locs hQ hP hD hS => ?_)
    rw [hQ] at hP hD
    refine av_J (j := a % N) (v := maJ S u (a % N)) C hP hr.2.2.2.2.1.1 hr.2.2.2.2.1.2.1 (ixN hr.2.2.2.2.1.2.2 (ix_nI (Nat.lt_of_lt_of_le (Nat.mod_lt _ (slN_b hr.2.2.2.2.2.2).1) (Nat.le_refl _)) (Nat.lt_of_le_of_lt (slN_b hr.2.2.2.2.2.2).2 (by decide)))) (hu) dX5_write_50 ?_
    refine lv_lload hx hb dX5_write_51 (lv_at hl 0 rfl) ?_
    refine W.lcmp hx hb dX5_write_53 ?_
    refine lv_if_eq (tgt := 60) hx hb dX5_write_54 (by decide) (fun c54 => ?_) (fun c54 => ?_)
    · rw [lg_cmp_eq] at c54
      refine lv_aload_n hx hb dX5_write_60 rfl (lv_at hl 1 rfl) ?_
      refine lv_lload hx hb dX5_write_61 (lv_at hl 0 rfl) ?_
      refine pf_5_4 (v := lN a) C hP hD hS hr.1.1 hr.1.2 tm_43 dX5_write_63 (fun H locs hP hD hS => ?_)
      refine lv_lload hx hb dX5_write_66 (lv_at hl 0 rfl) ?_
      refine lv_lconst (v := 1) hx hb dX5_write_68 (by decide) ?_
      refine lv_ladd hx hb dX5_write_69 ?_
      refine lv_lstore (lv' := [(5, .long ((lN a) + 1)), (0, .ref r)]) hx hb dX5_write_70 hl (by decide) rfl (fun ls hl => ?_)
      refine lv_goto (tgt := 30) hx hb dX5_write_72 (by decide) ?_
      rw [lN_1] at hl
      rw [if_pos c54] at hv
      exact ih (a + 1) (by omega) hv _ (by rw [hT, uJ_uJ, eL_S]) H locs ls hP hD hS (lv_sub hl [0, 1] rfl)
    rw [lg_cmp_eq] at c54
    refine lv_goto (tgt := 75) hx hb dX5_write_57 (by decide) ?_
    rw [if_neg c54] at hv
    have hv : a = avC (maJ S u) N d0 a0 := hv
    rw [← hv] at kk
    subst hT
    exact kk H locs ls hP hD hS
end Ring1
abbrev rmX5_reserve : Room := { frames := 1, cells := 0, slots := 0, locals := 22 }
abbrev rmX5_write : Room := { frames := 1, cells := 0, slots := 0, locals := 22 }
set_option maxRecDepth 100000 in
theorem c_reserve {l : Launch} {s0 : State} {D : va_G} {cA : Nat → ClassId} (hG : cx_G l s0 D cA) {S : Mem} {r v g u N : Nat} {cu M : Nat} (x : Int32)  (h : rgA S r v g u N) (hcu : mJ S 3 r = eL cu) (hc9 : cu ≤ 10000) (hM : M ≤ 16) : PC l s0 D cA yX5_reserve cX5_reserve 6 (some .long) rmX5_reserve [.ref r, .int x, .int (nI M)] S (some (.long (lN cu))) (fun S1 => S1 = uJ (gsL S g N cu x M) 3 r (eL cu + lN M)) := by
  refine Ct.of (cA := cA) hG (by decide +kernel) (Nat.le_of_ble_eq_true rfl) ?_
  intro p e s m below meth c A C hnm hP hD hS ls hl
  have hx := cx_x C
  have hb := cx_b C
  have hl : lv_has ls 6 [(0, .ref r), (1, .int x), (2, .int (nI M))] := hl
  refine lv_aload_n hx hb dX5_reserve_0 rfl (lv_at hl 0 rfl) ?_
  refine gv_5_3 (v := eL cu) C hP (by first | exact h.1.1 | exact h2.1.1) (by first | exact h.1.2 | exact h2.1.2) ((by first | exact hcu | exact hcT)) tm_41 dX5_reserve_1 ?_
  refine lv_lconst (v := 1) hx hb dX5_reserve_4 (by decide) ?_
  refine lv_ladd hx hb dX5_reserve_5 ?_
  refine lv_lstore_n (lv' := [(3, .long ((eL cu) + 1)), (0, .ref r), (1, .int x), (2, .int (nI M))]) hx hb dX5_reserve_6 rfl hl (by decide) rfl (fun ls hl => ?_)
  refine lv_iconst (v := 0) hx hb dX5_reserve_7 (by decide) ?_
  refine lv_istore (lv' := [(5, .int 0), (3, .long ((eL cu) + 1)), (0, .ref r), (1, .int x), (2, .int (nI M))]) hx hb dX5_reserve_8 hl (by decide) rfl (fun ls hl => ?_)
  rw [eL_1] at hl
  refine lp_res (R := rmX5_reserve) (N := N) (M := M) C hG h hM hc9 ⟨Nat.le_of_ble_eq_true rfl, Nat.le_of_ble_eq_true rfl⟩ ⟨Nat.le_of_ble_eq_true rfl, Nat.le_of_ble_eq_true rfl⟩ (fun H locs ls hP hD hS hl => ?_) M 0 (by omega) _ rfl _ _ ls hP hD hS (lv_sub hl [0, 1, 2, 3, 4] rfl)
  have h2 := gsL_r (cu := cu) (g9 := g) (M9 := N) (x := x) h M
  have hcT : mJ (gsL S g N cu x M) 3 r = eL cu := by rw [gsL_J]; exact hcu
  refine lv_aload_n hx hb dX5_reserve_37 rfl (lv_at hl 1 rfl) ?_
  refine lv_dup hx hb dX5_reserve_38 rfl ?_
  refine gv_5_3 (v := eL cu) C hP (by first | exact h.1.1 | exact h2.1.1) (by first | exact h.1.2 | exact h2.1.2) ((by first | exact hcu | exact hcT)) tm_41 dX5_reserve_39 ?_
  refine lv_iload_n hx hb dX5_reserve_42 rfl (lv_at hl 3 rfl) ?_
  refine lv_i2l (v := (nI M).toInt64) hx hb dX5_reserve_43 rfl ?_
  refine lv_ladd hx hb dX5_reserve_44 ?_
  refine pf_5_3 (v := (eL cu) + ((nI M).toInt64)) C hP hD hS (by first | exact h.1.1 | exact h2.1.1) (by first | exact h.1.2 | exact h2.1.2) tm_41 dX5_reserve_45 (fun H locs hP hD hS => ?_)
  refine lv_lload_n hx hb dX5_reserve_48 rfl (lv_at hl 0 rfl) ?_
  exact ct_lret C hS hP hD (⟨rfl, _, rfl, by rw [nI_l (show M < 2 ^ 31 by omega)]⟩) (Nat.le_of_ble_eq_true rfl) (Nat.le_of_ble_eq_true rfl) dX5_reserve_49
set_option maxRecDepth 100000 in
theorem c_write {l : Launch} {s0 : State} {D : va_G} {cA : Nat → ClassId} (hG : cx_G l s0 D cA) {S : Mem} {r v g u N : Nat} {cu a : Nat} (k : Nat) (x : Int64)  (h : rgA S r v g u N) (hk : k < 2 ^ 63) (hcu : mJ S 3 r = eL cu) (hc9 : cu ≤ 10000) (ha : mJ S 4 r = eL a) (hac : a ≤ cu) : PC l s0 D cA yX5_write cX5_write 7 none rmX5_write [.ref r, .long (lN k), .long x] S (none) (fun S1 => S1 = uJ (wrS S v u (k % N) x (lN k)) 4 r (eL (avC (maJ (wrS S v u (k % N) x (lN k)) u) N (cu - a) a))) := by
  refine Ct.of (cA := cA) hG (by decide +kernel) (Nat.le_of_ble_eq_true rfl) ?_
  intro p e s m below meth c A C hnm hP hD hS ls hl
  have hx := cx_x C
  have hb := cx_b C
  have hl : lv_has ls 7 [(0, .ref r), (1, .long (lN k)), (3, .long x)] := hl
  refine lv_aload_n hx hb dX5_write_0 rfl (lv_at hl 0 rfl) ?_
  refine gf_5_0s (b := v) C hP h.1.1 h.1.2 (h.2.1.1) tm_38 dX5_write_1 ?_
  refine lv_aload_n hx hb dX5_write_4 rfl (lv_at hl 0 rfl) ?_
  refine lv_lload_n hx hb dX5_write_5 rfl (lv_at hl 1 rfl) ?_
  refine pc_V (As := [.long (lN k)]) (rest := [.ref v]) (r := some (.int (nI (k % N)))) C (c_slotOf (S := S) (N := N) hG k h (hk)) tm_387 tm_388 tm_389 tm_2 tm_390 hdX5_slotOf ⟨Nat.le_of_ble_eq_true rfl, Nat.le_of_ble_eq_true rfl⟩ (rcv_5 C hP h.1.1 h.1.2) hl.1 rfl (Nat.le_of_ble_eq_true rfl) dX5_write_6 ⟨Nat.le_of_ble_eq_true rfl, Nat.le_of_ble_eq_true rfl⟩ hP hD hS (fun S1 H locs hQ hP hD hS => ?_)
  rw [hQ] at hP hD
  refine lv_lload_n hx hb dX5_write_9 rfl (lv_at hl 2 rfl) ?_
  refine as_J (x := x) (j := k % N) C hP hD hS h.2.2.1.1 h.2.2.1.2.1 (ixN h.2.2.1.2.2 (ix_nI (Nat.lt_of_lt_of_le (Nat.mod_lt _ (slN_b h.2.2.2.2.2.2).1) (Nat.le_refl _)) (Nat.lt_of_le_of_lt (slN_b h.2.2.2.2.2.2).2 (by decide)))) dX5_write_10 (fun H locs hP hD hS => ?_)
  refine lv_aload_n hx hb dX5_write_11 rfl (lv_at hl 0 rfl) ?_
  refine gf_5_2s (b := u) C hP h.1.1 h.1.2 (h.2.1.2.2) tm_40 dX5_write_12 ?_
  refine lv_aload_n hx hb dX5_write_15 rfl (lv_at hl 0 rfl) ?_
  refine lv_lload_n hx hb dX5_write_16 rfl (lv_at hl 1 rfl) ?_
  refine pc_V (As := [.long (lN k)]) (rest := [.ref u]) (r := some (.int (nI (k % N)))) C (c_slotOf (S := uaJ S v (k % N) x) (N := N) hG k h (hk)) tm_387 tm_388 tm_389 tm_2 tm_390 hdX5_slotOf ⟨Nat.le_of_ble_eq_true rfl, Nat.le_of_ble_eq_true rfl⟩ (rcv_5 C hP h.1.1 h.1.2) hl.1 rfl (Nat.le_of_ble_eq_true rfl) dX5_write_17 ⟨Nat.le_of_ble_eq_true rfl, Nat.le_of_ble_eq_true rfl⟩ hP hD hS (fun S2 H locs hQ hP hD hS => ?_)
  rw [hQ] at hP hD
  refine lv_lload_n hx hb dX5_write_20 rfl (lv_at hl 1 rfl) ?_
  refine as_J (x := lN k) (j := k % N) C hP hD hS h.2.2.2.2.1.1 h.2.2.2.2.1.2.1 (ixN h.2.2.2.2.1.2.2 (ix_nI (Nat.lt_of_lt_of_le (Nat.mod_lt _ (slN_b h.2.2.2.2.2.2).1) (Nat.le_refl _)) (Nat.lt_of_le_of_lt (slN_b h.2.2.2.2.2.2).2 (by decide)))) dX5_write_21 (fun H locs hP hD hS => ?_)
  refine lv_aload_n hx hb dX5_write_22 rfl (lv_at hl 0 rfl) ?_
  refine gv_5_4 (v := eL a) C hP h.1.1 h.1.2 (ha) tm_43 dX5_write_23 ?_
  refine lv_lconst (v := 1) hx hb dX5_write_26 (by decide) ?_
  refine lv_ladd hx hb dX5_write_27 ?_
  refine lv_lstore (lv' := [(5, .long ((eL a) + 1)), (0, .ref r), (1, .long (lN k)), (3, .long x)]) hx hb dX5_write_28 hl (by decide) rfl (fun ls hl => ?_)
  rw [eL_1] at hl
  refine lp_wr (R := rmX5_write) (S := wrS S v u (k % N) x (lN k)) (N := N) (cu := cu) (d0 := cu - a) (a0 := a) C hG (show rgA (wrS S v u (k % N) x (lN k)) r v g u N from h) hcu hc9 ⟨Nat.le_of_ble_eq_true rfl, Nat.le_of_ble_eq_true rfl⟩ ⟨Nat.le_of_ble_eq_true rfl, Nat.le_of_ble_eq_true rfl⟩ (fun H locs ls hP hD hS => ?_) (cu - a) a (by omega) rfl _ (uJ_self (S := wrS S v u (k % N) x (lN k)) (k := 4) (a := r) (x := eL a) ha).symm _ _ ls hP hD hS (lv_sub hl [0, 1] rfl)
  exact ct_vret C hS hP hD (⟨rfl, _, rfl, rfl⟩) (Nat.le_of_ble_eq_true rfl) (Nat.le_of_ble_eq_true rfl) dX5_write_75
