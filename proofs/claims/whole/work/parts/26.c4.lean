/-! ===== the class and the reference: bytes, handlers ===== -/
/-- T is S but for the data of the objects of X -/
def ag (X : Nat → Prop) (S T : Mem) : Prop := mL T = mL S ∧ mK T = mK S ∧ mN T = mN S ∧ mR T = mR S ∧ maR T = maR S ∧ ∀ b, ¬ X b → (∀ k, mI T k b = mI S k b) ∧ (∀ k, mJ T k b = mJ S k b) ∧ (∀ k, mF T k b = mF S k b) ∧ (∀ k, mE T k b = mE S k b) ∧ maI T b = maI S b ∧ maJ T b = maJ S b
theorem ag_rf {X : Nat → Prop} {S : Mem} : ag X S S := ⟨rfl, rfl, rfl, rfl, rfl, fun _ _ => ⟨fun _ => rfl, fun _ => rfl, fun _ => rfl, fun _ => rfl, rfl, rfl⟩⟩
theorem ag_tr {X : Nat → Prop} {S T U : Mem} (h1 : ag X S T) (h2 : ag X T U) : ag X S U := ⟨h2.1.trans h1.1, h2.2.1.trans h1.2.1, h2.2.2.1.trans h1.2.2.1, h2.2.2.2.1.trans h1.2.2.2.1, h2.2.2.2.2.1.trans h1.2.2.2.2.1, fun b hb => by
  obtain ⟨a1, a2, a3, a4, a5, a6⟩ := h1.2.2.2.2.2 b hb
  obtain ⟨b1, b2, b3, b4, b5, b6⟩ := h2.2.2.2.2.2 b hb
  exact ⟨fun k => (b1 k).trans (a1 k), fun k => (b2 k).trans (a2 k), fun k => (b3 k).trans (a3 k), fun k => (b4 k).trans (a4 k), b5.trans a5, b6.trans a6⟩⟩
theorem ag_mo {X Z : Nat → Prop} {S T : Mem} (h1 : ag X S T) (h : ∀ b, X b → Z b) : ag Z S T := ⟨h1.1, h1.2.1, h1.2.2.1, h1.2.2.2.1, h1.2.2.2.2.1, fun b hb => h1.2.2.2.2.2 b (fun q => hb (h b q))⟩
theorem ag_uI {X : Nat → Prop} {S : Mem} {k a : Nat} {v : Int32} (h : X a) : ag X S (uI S k a v) := ⟨rfl, rfl, rfl, rfl, rfl, fun b hb => ⟨fun _ => mI_a (fun e => hb (e ▸ h)), fun _ => rfl, fun _ => rfl, fun _ => rfl, rfl, rfl⟩⟩
theorem ag_uJ {X : Nat → Prop} {S : Mem} {k a : Nat} {v : Int64} (h : X a) : ag X S (uJ S k a v) := ⟨rfl, rfl, rfl, rfl, rfl, fun b hb => ⟨fun _ => rfl, fun _ => mJ_a (fun e => hb (e ▸ h)), fun _ => rfl, fun _ => rfl, rfl, rfl⟩⟩
theorem ag_uF {X : Nat → Prop} {S : Mem} {k a : Nat} {v : UInt32} (h : X a) : ag X S (uF S k a v) := ⟨rfl, rfl, rfl, rfl, rfl, fun b hb => ⟨fun _ => rfl, fun _ => rfl, fun _ => mF_a (fun e => hb (e ▸ h)), fun _ => rfl, rfl, rfl⟩⟩
theorem ag_uE {X : Nat → Prop} {S : Mem} {k a : Nat} {v : UInt64} (h : X a) : ag X S (uE S k a v) := ⟨rfl, rfl, rfl, rfl, rfl, fun b hb => ⟨fun _ => rfl, fun _ => rfl, fun _ => rfl, fun _ => mE_a (fun e => hb (e ▸ h)), rfl, rfl⟩⟩
theorem ag_uaI {X : Nat → Prop} {S : Mem} {a j : Nat} {v : Int32} (h : X a) : ag X S (uaI S a j v) := ⟨rfl, rfl, rfl, rfl, rfl, fun b hb => ⟨fun _ => rfl, fun _ => rfl, fun _ => rfl, fun _ => rfl, funext fun _ => maI_k (fun e => hb (e ▸ h)), rfl⟩⟩
theorem ag_uaJ {X : Nat → Prop} {S : Mem} {a j : Nat} {v : Int64} (h : X a) : ag X S (uaJ S a j v) := ⟨rfl, rfl, rfl, rfl, rfl, fun b hb => ⟨fun _ => rfl, fun _ => rfl, fun _ => rfl, fun _ => rfl, rfl, funext fun _ => maJ_k (fun e => hb (e ▸ h))⟩⟩
theorem ag_ap {X : Nat → Prop} {S : Mem} {a b z : Nat} {x : Int64} (ha : X a) (hb : X b) : ag X S (apS S a b z x) := ag_tr (ag_uaI hb) (ag_uI ha)
theorem ag_jb {X : Nat → Prop} {a b : Nat} {v : Int64} (ha : X a) (hb : X b) : ∀ (k z : Nat) (S : Mem), ag X S (jbL a b v k z S)
  | 0, _, _ => ag_rf
  | k + 1, z, S => ag_tr (ag_ap ha hb) (ag_jb ha hb k (z + 1) _)
theorem ag_jr {X : Nat → Prop} {S : Mem} {a b z : Nat} {e v : Int64} {g : Int32} (ha : X a) (hb : X b) : ag X S (jrS S a b z e v g) := by
  unfold jrS
  refine ag_tr ?_ (ag_ap ha hb)
  unfold jr9
  exact ag_tr (ag_tr (ag_tr (ag_tr (ag_ap ha hb) (ag_ap ha hb)) (ag_ap ha hb)) (ag_jb ha hb 8 (z + 3) _)) (ag_ap ha hb)
theorem tnm (w : Int32) : (w.toBitVec.toNat : Int) % 256 = w.toInt % 256 := by
  have h : w.toInt = if 2 * w.toBitVec.toNat < 2 ^ 32 then (w.toBitVec.toNat : Int) else (w.toBitVec.toNat : Int) - ((2 ^ 32 : Nat) : Int) := BitVec.toInt_eq_toNat_cond w.toBitVec
  rw [h]
  split <;> omega
theorem a255 {x y : Int32} (h : x.toInt % 256 = y.toInt % 256) : x &&& 255 = y &&& 255 := by
  rw [pk_and x (m := 255) 8 (by decide), pk_and y (m := 255) 8 (by decide)]
  rw [← tnm, ← tnm] at h
  have h2 : x.toBitVec.toNat % 2 ^ 8 = y.toBitVec.toNat % 2 ^ 8 := by omega
  rw [h2]
theorem b255 (z : Int32) : z.toInt8.toInt32 &&& 255 = z &&& 255 := by
  refine a255 ?_
  rw [Int8.toInt_toInt32, Int32.toInt_toInt8]
  exact Int.bmod_emod
theorem shu_eq {V s : Nat} {y : Int32} (hV : V < 2 ^ 63) (hs : (y.toInt64.toUInt64 &&& Int64.toUInt64 63).toNat % 64 = s) : shu (lN V) y = lN (V / 2 ^ s) := by
  have h2 : V / 2 ^ s ≤ V := Nat.div_le_self _ _
  have h1 : (lN V).toUInt64 >>> (y.toInt64.toUInt64 &&& Int64.toUInt64 63) = UInt64.ofNat (V / 2 ^ s) := by
    refine UInt64.toNat_inj.mp ?_
    rw [UInt64.toNat_shiftRight, hs, show (lN V).toUInt64 = UInt64.ofNat V from rfl, UInt64.toNat_ofNat', UInt64.toNat_ofNat', Nat.shiftRight_eq_div_pow, Nat.mod_eq_of_lt (by omega), Nat.mod_eq_of_lt (by omega)]
  unfold shu
  rw [h1]
  rfl
theorem shr64 (a s : Int64) (k : Nat) (hs : (s.toBitVec.smod 64).toNat = k) : (a >>> s).toInt = a.toInt >>> k := by
  show (a.toBitVec.sshiftRight (s.toBitVec.smod 64).toNat).toInt = _
  rw [BitVec.toInt_sshiftRight, hs]
  rfl
theorem shr_eq {V k : Nat} {y : Int64} (hV : V < 2 ^ 63) (hs : (y.toBitVec.smod 64).toNat = k) : lN V >>> y = lN (V / 2 ^ k) := by
  have h2 : V / 2 ^ k ≤ V := Nat.div_le_self _ _
  refine Int64.toInt_inj.mp ?_
  rw [shr64 _ _ k hs, pk_lT hV, pk_lT (by omega), Int.shiftRight_eq_div_pow]
  rfl
theorem sh_k {V k : Nat} (hV : V < 2 ^ 63) (hk : k < 8) : (shu (lN V) (8 * nI k)).toInt32 = (lN V >>> ((8 * nI k).toInt64 &&& 63)).toInt32 := by
  rcases (show k = 0 ∨ k = 1 ∨ k = 2 ∨ k = 3 ∨ k = 4 ∨ k = 5 ∨ k = 6 ∨ k = 7 by omega) with rfl | rfl | rfl | rfl | rfl | rfl | rfl | rfl
  · rw [shu_eq (s := 0) hV (by decide +kernel), shr_eq (k := 0) hV (by decide +kernel)]
  · rw [shu_eq (s := 8) hV (by decide +kernel), shr_eq (k := 8) hV (by decide +kernel)]
  · rw [shu_eq (s := 16) hV (by decide +kernel), shr_eq (k := 16) hV (by decide +kernel)]
  · rw [shu_eq (s := 24) hV (by decide +kernel), shr_eq (k := 24) hV (by decide +kernel)]
  · rw [shu_eq (s := 32) hV (by decide +kernel), shr_eq (k := 32) hV (by decide +kernel)]
  · rw [shu_eq (s := 40) hV (by decide +kernel), shr_eq (k := 40) hV (by decide +kernel)]
  · rw [shu_eq (s := 48) hV (by decide +kernel), shr_eq (k := 48) hV (by decide +kernel)]
  · rw [shu_eq (s := 56) hV (by decide +kernel), shr_eq (k := 56) hV (by decide +kernel)]
/-- the first z bytes are the reference's -/
def JR (S : Mem) (b : Nat) (P : MS) (j z : Nat) : Prop := ∀ i, i < z → byf S b i = qI P 26 (400 * j + i)
theorem JR_s {S : Mem} {a b j z : Nat} {P : MS} {x : Int64} {y : Int32} (h : JR S b P j z) (hx : x.toInt32 &&& 255 = y &&& 255) : JR (apS S a b z x) b (ptS P j z y) j (z + 1) := by
  intro i hi
  show maI (uaI S b z _) b i &&& 255 = _
  rw [ptS_I, if_neg (fun q => absurd q.1 (by decide))]
  by_cases e : i = z
  · subst e
    rw [maI_s, if_pos ⟨rfl, rfl⟩, vp_nar_byte, b255, b255, hx]
  · rw [maI_a e, if_neg (fun q => e (by omega))]
    exact h i (by omega)
theorem JR_b {a b j : Nat} {V : Nat} (hV : V < 2 ^ 63) : ∀ (k z : Nat) (S : Mem) (P : MS), k ≤ 8 → JR S b P j z → JR (jbL a b (lN V) k z S) b (pbL j (lN V) k z P) j (z + k)
  | 0, _, _, _, _, h => h
  | k + 1, z, S, P, hk, h => by
    have := JR_b (a := a) hV k (z + 1) _ _ (by omega) (JR_s (a := a) (x := shu (lN V) (8 * nI k)) (y := (lN V >>> ((8 * nI k).toInt64 &&& 63)).toInt32) h (by rw [sh_k hV (by omega)]))
    rw [show z + (k + 1) = z + 1 + k by omega]
    exact this
theorem smF_eq {f f' : Nat → Int32} {s s' : Nat} : ∀ n, (∀ i, i < n → f (s + i) = f' (s' + i)) → smF f s n = smF f' s' n
  | 0, _ => rfl
  | n + 1, h => by rw [smF, smF, smF_eq n (fun i hi => h i (by omega)), h n (by omega)]
theorem JR_r {S : Mem} {a b j z V ev : Nat} {P : MS} {g : Int32} (hV : V < 2 ^ 63) (hev : ev < 2 ^ 31) (h : JR S b P j z) : JR (jrS S a b z (lN ev) (lN V) g) b (recS P j ev z (lN V) g) j (z + 13) := by
  have e8 : (shu (lN ev) 8).toInt32 &&& 255 = (nI ev >>> ((8 : Int32) &&& 31)) &&& 255 := by
    rw [shu_eq (s := 8) (by omega) (by decide +kernel), lN_i, pk_shrN hev _ 8 (by decide +kernel)]
  have h3 := JR_s (a := a) (x := lN ev) (y := nI ev) (JR_s (a := a) (x := shu (lN ev) 8) (y := nI ev >>> ((8 : Int32) &&& 31)) (JR_s (a := a) (x := 13) (y := 13) h (by decide)) e8) (by rw [lN_i])
  have h8 := JR_b (a := a) hV 8 (z + 3) _ _ (Nat.le_refl _) h3
  have h9 := JR_s (a := a) (x := g.toInt64) (y := g) h8 (by rw [Int32.toInt32_toInt64])
  unfold jrS recS
  refine JR_s (z := z + 12) h9 ?_
  have e9 : smF (byf (jr9 S a b z (lN ev) (lN V) g) b) z 12 = smF (qI (recA P j ev z (lN V) g) 26) (400 * j + z) 12 := smF_eq 12 (fun i hi => by
    have := h9 (z + i) (by omega)
    rw [← Nat.add_assoc] at this
    exact this)
  rw [e9, Int32.toInt32_toInt64]
  rw [Int32.and_assoc]
  rfl
