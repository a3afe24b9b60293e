/-! ===== the law: its world, its calls ===== -/
abbrev Lw (cA : Nat → ClassId) (ad : Nat → Nat) (o oD : Nat) (S : Mem) (P : MS) (f : Nat → Int64) (g : Nat → UInt64) : va_W := (o, .inl (cA 4, 1, .inr (.inl f))) :: (oD, .inl (cA 1, 1, .inr (.inr (.inr (.inl g))))) :: (pW cA S ++ mW cA ad P)
theorem pmL {α : Type} {a b : α} {A B : List α} : (a :: b :: (A ++ B)).Perm ((a :: A) ++ (b :: B)) := List.Perm.cons a List.perm_middle.symm
theorem pmD {α : Type} {a b : α} {A B : List α} : (a :: b :: (A ++ B)).Perm ((b :: A) ++ (a :: B)) := (List.Perm.swap b a _).trans (List.Perm.cons b List.perm_middle.symm)
theorem pmM {α : Type} {a b : α} {A B : List α} : (a :: b :: (A ++ B)).Perm (B ++ (a :: b :: A)) := List.perm_append_comm (l₁ := a :: b :: A) (l₂ := B)
theorem pmC {α : Type} {a b : α} {A B : List α} : (a :: b :: (A ++ B)).Perm (A ++ (a :: b :: B)) := ((List.perm_middle (l₁ := A) (a := a) (l₂ := b :: B)).trans (List.Perm.cons a List.perm_middle)).symm
theorem Rep_x {K : Nat} {S : Mem} {P : MS} {x : Nat} (h : Rep K S P x) : x ∈ mL S ∧ mK S x = 7 := by
  obtain ⟨-, r, ca, pa, v, g, u, A1, hd, bb, pt, pw, sz, wi, hs⟩ := h
  exact hs.1.1
section Lw1
variable {p : Program} {l : Launch} {e : Env} {R : Room} {s : State} {m : MethodId} {args : Array Value} {below : List Frame} {meth : Method} {c : Code} {H : Heap} {locs : List Loc} {cells slots : Nat} {Q : State → Prop}
variable {s0 : State} {D : va_G} {cA : Nat → ClassId} {cc : ByteArray} {nL : Nat} {ret : Option FieldType} {own : String} {A : Nat → Prop} {ad : Nat → Nat} {o oD x : Nat} {S : Mem} {P T : MS} {f : Nat → Int64} {g : Nat → UInt64}
variable {pc : Nat} {ls : Array Slot} {rest : List Value} {idx mL9 : Nat} {y : MethodName} {b : ByteArray} {hh : List (Nat × Nat × Nat × Nat)} {rm : Room} {As st : List Value} {rt : Option FieldType} {r : Option Value} {Φ : Mem → Prop}
/-- a call of the reference -/
theorem lm_V {rv : Value} (C : cx_C p l s m args meth c s0 D cA cc nL ret own A) (hM : MC l s0 D cA ad y b mL9 rt rm As P (some rv) T) (h1 : Cond.methodLink own idx y ∈ TB) (h2 : Cond.instanceMethod y ∈ TB) (h3 : Cond.selects y.cls y y ∈ TB) (h4 : Cond.initialized y.cls ∈ TB) (h5 : Cond.code y b mL9 rt ∈ TB) (hy : y.cls = RX9) (hd : y.cls = y.cls ∧ y.cls ≠ "java/lang/invoke/MethodHandle" ∧ y.cls ≠ "java/lang/invoke/VarHandle" ∧ (parseMethodDescriptor y.desc).map (fun d => d.parameters.length) = some As.length) (hR : rm.frames + 1 ≤ R.frames ∧ 8 + (mL9 + 11) + rm.locals ≤ R.locals) (hz : ls.size = nL) (hst : st = As.reverse ++ .ref (ad 0) :: rest) (hw : (rest.map fun v => v.category).sum ≤ 8) (d : decode cc pc = .ok (.invokevirtual idx, 3)) (hc : cells + rm.cells ≤ R.cells ∧ slots + rm.slots ≤ R.slots) (hP : va_P D vwCl (Lw cA ad o oD S P f g) H) (hD : va_D A (Lw cA ad o oD S P f g)) (hS : va_S A s.heap H locs)
    (kk : ∀ (H1 : Heap) (locs1 : List Loc), va_P D vwCl (Lw cA ad o oD S T f g) H1 → va_D A (Lw cA ad o oD S T f g) → va_S A s.heap H1 locs1 → W p l e R s m args below meth c H1 locs1 (cells + rm.cells) (slots + rm.slots) Q (F0 m (pc + 3) ls (rv :: rest))) : W p l e R s m args below meth c H locs cells slots Q (F0 m pc ls st) := by
  refine ct_V C hM h1 h2 h3 h4 h5 hd hR (by rw [hy]; exact rcv_9 C (wl := []) (pm_P pmM hP)) hz hst hw d hc pmM hP hD hS (fun v w1 H1 locs1 hq hP1 hD1 hS1 => ?_)
  obtain ⟨rfl, rfl⟩ := hq
  exact kk H1 locs1 (pm_P pmM.symm hP1) (pm_D pmM.symm hD1) hS1
/-- a call of the class itself -/
theorem lk_V {rv : Value} (C : cx_C p l s m args meth c s0 D cA cc nL ret own A) (hM : PC l s0 D cA y b mL9 rt rm (.ref x :: As) S (some rv) Φ) (h1 : Cond.methodLink own idx y ∈ TB) (h2 : Cond.instanceMethod y ∈ TB) (h3 : Cond.selects y.cls y y ∈ TB) (h4 : Cond.initialized y.cls ∈ TB) (h5 : Cond.code y b mL9 rt ∈ TB) (hy : y.cls = RX8) (hx1 : x ∈ mL S) (hx2 : mK S x = 7) (hd : y.cls = y.cls ∧ y.cls ≠ "java/lang/invoke/MethodHandle" ∧ y.cls ≠ "java/lang/invoke/VarHandle" ∧ (parseMethodDescriptor y.desc).map (fun d => d.parameters.length) = some As.length) (hR : rm.frames + 1 ≤ R.frames ∧ 8 + (mL9 + 11) + rm.locals ≤ R.locals) (hz : ls.size = nL) (hst : st = As.reverse ++ .ref x :: rest) (hw : (rest.map fun v => v.category).sum ≤ 8) (d : decode cc pc = .ok (.invokevirtual idx, 3)) (hc : cells + rm.cells ≤ R.cells ∧ slots + rm.slots ≤ R.slots) (hP : va_P D vwCl (Lw cA ad o oD S P f g) H) (hD : va_D A (Lw cA ad o oD S P f g)) (hS : va_S A s.heap H locs)
    (kk : ∀ (S1 : Mem) (H1 : Heap) (locs1 : List Loc), Φ S1 → va_P D vwCl (Lw cA ad o oD S1 P f g) H1 → va_D A (Lw cA ad o oD S1 P f g) → va_S A s.heap H1 locs1 → W p l e R s m args below meth c H1 locs1 (cells + rm.cells) (slots + rm.slots) Q (F0 m (pc + 3) ls (rv :: rest))) : W p l e R s m args below meth c H locs cells slots Q (F0 m pc ls st) := by
  have hPc : va_P D vwCl (pW cA S) H := fun k q hk => by
    have h9 := List.mem_append_left (mW cA ad P) (List.mem_of_getElem? hk)
    obtain ⟨i, hi⟩ := List.getElem?_of_mem h9
    exact hP (i + 2) q hi
  refine ct_V C hM h1 h2 h3 h4 h5 hd hR (by rw [hy]; exact rcv_8 C hPc hx1 hx2) hz hst hw d hc pmC hP hD hS (fun v w1 H1 locs1 hq hP1 hD1 hS1 => ?_)
  obtain ⟨rfl, S1, rfl, hΦ⟩ := hq
  exact kk S1 H1 locs1 hΦ (pm_P pmC.symm hP1) (pm_D pmC.symm hD1) hS1
theorem ll_y {cv : Int64} (C : cx_C p l s m args meth c s0 D cA cc nL ret own A) (hM : LC l s0 D y b mL9 hh rm As ((o, .inl (cA 4, 1, .inr (.inl f))) :: pW cA S) (fun rv rw => rv = some (.int 0) ∧ ∃ S1 f1, Φ S1 ∧ f1 0 = cv ∧ rw = (o, .inl (cA 4, 1, .inr (.inl f1))) :: pW cA S1)) (h1 : Cond.methodLink own idx y ∈ TB) (h2 : Cond.static y ∈ TB) (h4 : Cond.initialized y.cls ∈ TB) (h5 : Cond.codeWith y b mL9 (some .int) hh ∈ TB) (hd : y.cls ≠ "java/lang/invoke/MethodHandle" ∧ y.cls ≠ "java/lang/invoke/VarHandle" ∧ (parseMethodDescriptor y.desc).map (fun d => d.parameters.length) = some As.length) (hR : rm.frames + 1 ≤ R.frames ∧ 8 + (mL9 + 11) + rm.locals ≤ R.locals) (hz : ls.size = nL) (hst : st = As.reverse ++ rest) (hw : (rest.map fun v => v.category).sum ≤ 8) (d : decode cc pc = .ok (.invokestatic idx, 3)) (hc : cells + rm.cells ≤ R.cells ∧ slots + rm.slots ≤ R.slots) (hP : va_P D vwCl (Lw cA ad o oD S P f g) H) (hD : va_D A (Lw cA ad o oD S P f g)) (hS : va_S A s.heap H locs)
    (kk : ∀ (S1 : Mem) (f1 : Nat → Int64) (H1 : Heap) (locs1 : List Loc), Φ S1 → f1 0 = cv → va_P D vwCl (Lw cA ad o oD S1 P f1 g) H1 → va_D A (Lw cA ad o oD S1 P f1 g) → va_S A s.heap H1 locs1 → W p l e R s m args below meth c H1 locs1 (cells + rm.cells) (slots + rm.slots) Q (F0 m (pc + 3) ls (.int 0 :: rest))) : W p l e R s m args below meth c H locs cells slots Q (F0 m pc ls st) := by
  refine lc_S C hM h1 h2 h4 h5 hd hR hz hst hw d hc pmL hP hD hS (fun v w1 H1 locs1 hq hP1 hD1 hS1 => ?_)
  obtain ⟨rfl, S1, f1, hΦ, hf, rfl⟩ := hq
  exact kk S1 f1 H1 locs1 hΦ hf (pm_P pmL.symm hP1) (pm_D pmL.symm hD1) hS1
theorem ll_x {k9 : Int32} (C : cx_C p l s m args meth c s0 D cA cc nL ret own A) (hM : LC l s0 D y b mL9 hh rm As ((o, .inl (cA 4, 1, .inr (.inl f))) :: pW cA S) (fun rv rw => rv = some (.int k9) ∧ rw = (o, .inl (cA 4, 1, .inr (.inl f))) :: pW cA S)) (h1 : Cond.methodLink own idx y ∈ TB) (h2 : Cond.static y ∈ TB) (h4 : Cond.initialized y.cls ∈ TB) (h5 : Cond.codeWith y b mL9 (some .int) hh ∈ TB) (hd : y.cls ≠ "java/lang/invoke/MethodHandle" ∧ y.cls ≠ "java/lang/invoke/VarHandle" ∧ (parseMethodDescriptor y.desc).map (fun d => d.parameters.length) = some As.length) (hR : rm.frames + 1 ≤ R.frames ∧ 8 + (mL9 + 11) + rm.locals ≤ R.locals) (hz : ls.size = nL) (hst : st = As.reverse ++ rest) (hw : (rest.map fun v => v.category).sum ≤ 8) (d : decode cc pc = .ok (.invokestatic idx, 3)) (hc : cells + rm.cells ≤ R.cells ∧ slots + rm.slots ≤ R.slots) (hP : va_P D vwCl (Lw cA ad o oD S P f g) H) (hD : va_D A (Lw cA ad o oD S P f g)) (hS : va_S A s.heap H locs)
    (kk : ∀ (H1 : Heap) (locs1 : List Loc), va_P D vwCl (Lw cA ad o oD S P f g) H1 → va_D A (Lw cA ad o oD S P f g) → va_S A s.heap H1 locs1 → W p l e R s m args below meth c H1 locs1 (cells + rm.cells) (slots + rm.slots) Q (F0 m (pc + 3) ls (.int k9 :: rest))) : W p l e R s m args below meth c H locs cells slots Q (F0 m pc ls st) := by
  refine lc_S C hM h1 h2 h4 h5 hd hR hz hst hw d hc pmL hP hD hS (fun v w1 H1 locs1 hq hP1 hD1 hS1 => ?_)
  obtain ⟨rfl, rfl⟩ := hq
  exact kk H1 locs1 (pm_P pmL.symm hP1) (pm_D pmL.symm hD1) hS1
theorem ld_y {cv : UInt64} (C : cx_C p l s m args meth c s0 D cA cc nL ret own A) (hM : LC l s0 D y b mL9 hh rm As ((oD, .inl (cA 1, 1, .inr (.inr (.inr (.inl g))))) :: pW cA S) (fun rv rw => rv = some (.int 0) ∧ ∃ S1 f1, Φ S1 ∧ f1 0 = cv ∧ rw = (oD, .inl (cA 1, 1, .inr (.inr (.inr (.inl f1))))) :: pW cA S1)) (h1 : Cond.methodLink own idx y ∈ TB) (h2 : Cond.static y ∈ TB) (h4 : Cond.initialized y.cls ∈ TB) (h5 : Cond.codeWith y b mL9 (some .int) hh ∈ TB) (hd : y.cls ≠ "java/lang/invoke/MethodHandle" ∧ y.cls ≠ "java/lang/invoke/VarHandle" ∧ (parseMethodDescriptor y.desc).map (fun d => d.parameters.length) = some As.length) (hR : rm.frames + 1 ≤ R.frames ∧ 8 + (mL9 + 11) + rm.locals ≤ R.locals) (hz : ls.size = nL) (hst : st = As.reverse ++ rest) (hw : (rest.map fun v => v.category).sum ≤ 8) (d : decode cc pc = .ok (.invokestatic idx, 3)) (hc : cells + rm.cells ≤ R.cells ∧ slots + rm.slots ≤ R.slots) (hP : va_P D vwCl (Lw cA ad o oD S P f g) H) (hD : va_D A (Lw cA ad o oD S P f g)) (hS : va_S A s.heap H locs)
    (kk : ∀ (S1 : Mem) (f1 : Nat → UInt64) (H1 : Heap) (locs1 : List Loc), Φ S1 → f1 0 = cv → va_P D vwCl (Lw cA ad o oD S1 P f f1) H1 → va_D A (Lw cA ad o oD S1 P f f1) → va_S A s.heap H1 locs1 → W p l e R s m args below meth c H1 locs1 (cells + rm.cells) (slots + rm.slots) Q (F0 m (pc + 3) ls (.int 0 :: rest))) : W p l e R s m args below meth c H locs cells slots Q (F0 m pc ls st) := by
  refine lc_S C hM h1 h2 h4 h5 hd hR hz hst hw d hc pmD hP hD hS (fun v w1 H1 locs1 hq hP1 hD1 hS1 => ?_)
  obtain ⟨rfl, S1, f1, hΦ, hf, rfl⟩ := hq
  exact kk S1 f1 H1 locs1 hΦ hf (pm_P pmD.symm hP1) (pm_D pmD.symm hD1) hS1
theorem ld_x {k9 : Int32} (C : cx_C p l s m args meth c s0 D cA cc nL ret own A) (hM : LC l s0 D y b mL9 hh rm As ((oD, .inl (cA 1, 1, .inr (.inr (.inr (.inl g))))) :: pW cA S) (fun rv rw => rv = some (.int k9) ∧ rw = (oD, .inl (cA 1, 1, .inr (.inr (.inr (.inl g))))) :: pW cA S)) (h1 : Cond.methodLink own idx y ∈ TB) (h2 : Cond.static y ∈ TB) (h4 : Cond.initialized y.cls ∈ TB) (h5 : Cond.codeWith y b mL9 (some .int) hh ∈ TB) (hd : y.cls ≠ "java/lang/invoke/MethodHandle" ∧ y.cls ≠ "java/lang/invoke/VarHandle" ∧ (parseMethodDescriptor y.desc).map (fun d => d.parameters.length) = some As.length) (hR : rm.frames + 1 ≤ R.frames ∧ 8 + (mL9 + 11) + rm.locals ≤ R.locals) (hz : ls.size = nL) (hst : st = As.reverse ++ rest) (hw : (rest.map fun v => v.category).sum ≤ 8) (d : decode cc pc = .ok (.invokestatic idx, 3)) (hc : cells + rm.cells ≤ R.cells ∧ slots + rm.slots ≤ R.slots) (hP : va_P D vwCl (Lw cA ad o oD S P f g) H) (hD : va_D A (Lw cA ad o oD S P f g)) (hS : va_S A s.heap H locs)
    (kk : ∀ (H1 : Heap) (locs1 : List Loc), va_P D vwCl (Lw cA ad o oD S P f g) H1 → va_D A (Lw cA ad o oD S P f g) → va_S A s.heap H1 locs1 → W p l e R s m args below meth c H1 locs1 (cells + rm.cells) (slots + rm.slots) Q (F0 m (pc + 3) ls (.int k9 :: rest))) : W p l e R s m args below meth c H locs cells slots Q (F0 m pc ls st) := by
  refine lc_S C hM h1 h2 h4 h5 hd hR hz hst hw d hc pmD hP hD hS (fun v w1 H1 locs1 hq hP1 hD1 hS1 => ?_)
  obtain ⟨rfl, rfl⟩ := hq
  exact kk H1 locs1 (pm_P pmD.symm hP1) (pm_D pmD.symm hD1) hS1
/-- the script, at i + k -/
theorem sld_k {b9 L i kN : Nat} {xs : Nat → Int32} {k : Int32} (C : cx_C p l s m args meth c s0 D cA cc nL ret own A) (hX : va_X b9 L xs s s.heap) (hbl : b9 < s.heap.size) (hbA : ¬ A b9) (hS : va_S A s.heap H locs) (hk : k = nI kN) (h : i + kN < L) (hL : L ≤ 3073) (d : decode cc pc = .ok (.iaload, 1))
    (kk : W p l e R s m args below meth c H locs cells slots Q (F0 m (pc + 1) ls (.int (xs (i + kN)) :: rest))) : W p l e R s m args below meth c H locs cells slots Q (F0 m pc ls (.int (nI i + k) :: .ref b9 :: rest)) := by
  rw [hk, nI_add]
  refine va_sld (cx_x C) (cx_b C) hX hbl hbA hS (vp_in_nI h (by omega)) d ?_
  rw [nI_clamp (by omega)]
  exact kk
theorem sld_0 {b9 L i : Nat} {xs : Nat → Int32} (C : cx_C p l s m args meth c s0 D cA cc nL ret own A) (hX : va_X b9 L xs s s.heap) (hbl : b9 < s.heap.size) (hbA : ¬ A b9) (hS : va_S A s.heap H locs) (h : i < L) (hL : L ≤ 3073) (d : decode cc pc = .ok (.iaload, 1))
    (kk : W p l e R s m args below meth c H locs cells slots Q (F0 m (pc + 1) ls (.int (xs i) :: rest))) : W p l e R s m args below meth c H locs cells slots Q (F0 m pc ls (.int (nI i) :: .ref b9 :: rest)) := by
  refine va_sld (cx_x C) (cx_b C) hX hbl hbA hS (vp_in_nI h (by omega)) d ?_
  rw [nI_clamp (by omega)]
  exact kk
end Lw1
abbrev rmL_cell : Room := { frames := 0, cells := 0, slots := 0, locals := 0 }
theorem k_cell {l : Launch} {s0 : State} {D : va_G} {cA : Nat → ClassId} (hG : cx_G l s0 D cA) {b L : Nat} {xs : Nat → Int32} (hX : va_X b L xs s0 s0.heap) (hbl : b < s0.heap.size) (hL : L ≤ 3073) : Ct l s0 D yL_cell (.code yL_cell cL_cell 2 (some .int) :: TB) rmL_cell [.ref b, .int 0] [] (fun rv rw => rv = some (.int (if 0 < L then xs 0 else 0)) ∧ rw = []) := by
  refine Ct.of (cA := cA) hG (by decide +kernel) (Nat.le_of_ble_eq_true rfl) ?_
  intro p e s m below meth c A C hnm hP hD hS ls hl
  have hx := cx_x C
  have hb := cx_b C
  have hl : lv_has ls 2 [(0, .ref b), (1, .int 0)] := hl
  have hX2 : va_X b L xs s s.heap := (hX.moved (cx_w C).alike).kept ((cx_o C).2 b hbl)
  have hbl2 : b < s.heap.size := Nat.lt_of_lt_of_le hbl (cx_o C).1
  have hbA : ¬ A b := fun q => absurd (cx_n C b q) (Nat.not_le.mpr hbl)
  refine lv_iload_n hx hb dL_cell_0 rfl (lv_at hl 1 rfl) ?_
  refine lv_aload_n hx hb dL_cell_1 rfl (lv_at hl 0 rfl) ?_
  refine va_slen hx hb hX2 hbl2 hbA hS dL_cell_2 ?_
  by_cases h0 : 0 < L
  · refine lv_icmp_ge (tgt := 12) hx hb dL_cell_3 (by decide) (fun h9 => absurd h9 (nI_ge (a := 0) h0 (by omega))) (fun _ => ?_)
    refine lv_aload_n hx hb dL_cell_6 rfl (lv_at hl 0 rfl) ?_
    refine lv_iload_n hx hb dL_cell_7 rfl (lv_at hl 1 rfl) ?_
    refine sld_0 (i := 0) C hX2 hbl2 hbA hS h0 hL dL_cell_8 ?_
    refine lv_goto (tgt := 13) hx hb dL_cell_9 (by decide) ?_
    exact ct_iret C hS hP hD (⟨by rw [if_pos h0], rfl⟩) (Nat.le_of_ble_eq_true rfl) (Nat.le_of_ble_eq_true rfl) dL_cell_13
  · have e0 : L = 0 := by omega
    refine lv_icmp_ge (tgt := 12) hx hb dL_cell_3 (by decide) (fun _ => ?_) (fun h9 => absurd (by rw [e0]; exact Int32.le_refl _) h9)
    refine lv_iconst (v := 0) hx hb dL_cell_12 (by decide) ?_
    exact ct_iret C hS hP hD (⟨by rw [if_neg h0], rfl⟩) (Nat.le_of_ble_eq_true rfl) (Nat.le_of_ble_eq_true rfl) dL_cell_13
