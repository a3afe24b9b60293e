/-! ===== the law: its wrappers of the class ===== -/
abbrev rmL : Room := { frames := 10, cells := 8, slots := 512, locals := 300 }
/-- the contract of a wrapper: a method with a table of exceptions, which itself throws nothing -/
def LC (l : Launch) (s0 : State) (D : va_G) (y : MethodName) (b : ByteArray) (mL : Nat) (hh : List (Nat × Nat × Nat × Nat)) (rm : Room) (av : List Value) (wc : va_W) (post : Option Value → va_W → Prop) : Prop :=
  ∀ sz : Nat, Met l y (.codeWith y b mL (some .int) hh :: TB) rm (va_Pc av (cx_pre s0 D wc sz)) (cx_post D (va_A wc sz) post) rm.cells rm.slots (va_A wc sz)
theorem gi_SW {own : String} {idx n : Nat} {y : MethodName} {b : ByteArray} {hh : List (Nat × Nat × Nat × Nat)} (h1 : Cond.methodLink own idx y ∈ TB) (h2 : Cond.static y ∈ TB) (h4 : Cond.initialized y.cls ∈ TB) (h5 : Cond.codeWith y b n (some .int) hh ∈ TB) : GoodIn TB (va_wsS own idx y (.codeWith y b n (some .int) hh :: TB)) := by
  refine gi_all fun w hw => ?_
  simp only [va_wsS, List.mem_append, List.mem_cons, List.not_mem_nil, or_false] at hw
  rcases hw with (rfl | rfl | rfl) | rfl | h <;> assumption
section Wr1
variable {p : Program} {l : Launch} {e : Env} {R : Room} {s : State} {m : MethodId} {args : Array Value} {below : List Frame} {meth : Method} {c : Code} {H : Heap} {locs : List Loc} {cells slots : Nat} {Q : State → Prop}
variable {s0 : State} {D : va_G} {cA : Nat → ClassId} {cc : ByteArray} {nL : Nat} {ret : Option FieldType} {own : String} {A : Nat → Prop}
variable {pc : Nat} {ls : Array Slot} {rest : List Value} {idx mL9 x : Nat} {y : MethodName} {b : ByteArray} {hh : List (Nat × Nat × Nat × Nat)} {rm : Room} {As st : List Value} {ws wc wr : va_W} {post : Option Value → va_W → Prop}
theorem LC.of {av : List Value} (hG : cx_G l s0 D cA) (hy : plainName y.cls = true) (hn : (lg_sl av).length ≤ nL)
    (body : ∀ (p : Program) (e : Env) (s : State) (m : MethodId) (below : List Frame) (meth : Method) (c : Code) (A : Nat → Prop), cx_C p l s m av.toArray meth c s0 D cA cc nL (some .int) y.cls A → c.exceptionTable.toList = tableOf hh → va_P D vwCl wc s.heap → va_D A wc → va_S A s.heap s.heap [] → ∀ ls : Array Slot, lv_has ls nL (lv_args 0 av) →
      W p l e rm s m av.toArray below meth c s.heap [] 0 0 (MQ below (cx_post D A post) av.toArray s rm.cells rm.slots A) (F0 m 0 ls [])) :
    LC l s0 D y cc nL hh rm av wc post := by
  intro sz
  refine va_MetW (cc := cc) (maxL := nL) (ret := some .int) (hh := hh) hy rfl ?_
  intro p e s m args below meth c s₁ B hml hv
  obtain ⟨rfl, hsz, hP, hD, hW, hO⟩ := hv
  subst hsz
  have hts := atoms_spec (ws := .codeWith y cc nL (some .int) hh :: TB) B.pre
  have hT : c.exceptionTable.toList = tableOf hh := vx_table (x := y) B (hts _ List.mem_cons_self)
  have hown : s.vm.findClass y.cls = some m.cls := findClass_of_methodNamed B.named
  have hl := lv_entry av hn
  rw [lg_entry_eq]
  refine body p e s m below meth c (va_A wc s.heap.size) ⟨B.exec, B.bytes, hml, hown, fun w h => hts w (List.mem_cons_of_mem _ h), B.returns, B.notSynchronized, hG, hW, hO, va_K.moved hW.alike hG.2.2, fun q h => Or.inr h, ?_⟩ hT hP hD.self va_S.rf _ hl
  rintro q (⟨k, e9, hk⟩ | h)
  · exact hD.2 k _ hk
  · exact Nat.le_trans hO.1 h
/-- a call of a wrapper -/
theorem lc_S (C : cx_C p l s m args meth c s0 D cA cc nL ret own A) (hM : LC l s0 D y b mL9 hh rm As wc post) (h1 : Cond.methodLink own idx y ∈ TB) (h2 : Cond.static y ∈ TB) (h4 : Cond.initialized y.cls ∈ TB) (h5 : Cond.codeWith y b mL9 (some .int) hh ∈ TB)
    (hd : y.cls ≠ "java/lang/invoke/MethodHandle" ∧ y.cls ≠ "java/lang/invoke/VarHandle" ∧ (parseMethodDescriptor y.desc).map (fun d => d.parameters.length) = some As.length) (hR : rm.frames + 1 ≤ R.frames ∧ 8 + (mL9 + 11) + rm.locals ≤ R.locals)
    (hz : ls.size = nL) (hst : st = As.reverse ++ rest) (hw : (rest.map fun v => v.category).sum ≤ 8) (d : decode cc pc = .ok (.invokestatic idx, 3)) (hc : cells + rm.cells ≤ R.cells ∧ slots + rm.slots ≤ R.slots)
    (hp : ws.Perm (wc ++ wr)) (hP : va_P D vwCl ws H) (hD : va_D A ws) (hS : va_S A s.heap H locs)
    (kk : ∀ (v : Option Value) (w1 : va_W) (H1 : Heap) (locs1 : List Loc), post v w1 → va_P D vwCl (w1 ++ wr) H1 → va_D A (w1 ++ wr) → va_S A s.heap H1 locs1 → W p l e R s m args below meth c H1 locs1 (cells + rm.cells) (slots + rm.slots) Q (F0 m (pc + 3) ls (v.toList ++ rest))) :
    W p l e R s m args below meth c H locs cells slots Q (F0 m pc ls st) := by
  subst hst
  exact ct_call C (vx_runSW (As := As) (rest := rest) (hh := hh) (cx_fix C) (hM H.size) (vx_cwSW As.length (cx_t C) (gi_SW h1 h2 h4 h5) rfl rfl rfl hd hR) ⟨cx_blind, fun U hU hW => ⟨rfl, cx_preOf C hp hP hD hS U hU hW⟩⟩ rfl rfl hz rfl (cx_room hw) d hc) hp hP hD hS kk
end Wr1
theorem vp0 : vp_in (0 : Int32) 1 := vp_in_nI (show 0 < 1 by decide) (by decide)
theorem tl_P {D : va_G} {ws : va_W} {q : Nat × va_E} {H : Heap} (h : va_P D vwCl (q :: ws) H) : va_P D vwCl ws H := fun k z hk => h (k + 1) z hk
theorem f2d_D {v : UInt32} (h : lvI v) : FP.Core.DFin (FP.f2d v) := by
  have hn : FP.Core.val32 v ≠ .nan := by obtain ⟨s, c, q, h⟩ := h.1; rw [h]; exact fun h => nomatch h
  rw [FP.f2d_core ((FP.Core.notNaN_iff32 v).mpr hn)]
  exact FP.Core.f2d_fin h.1
set_option maxRecDepth 100000 in
theorem w_consumer_y {l : Launch} {s0 : State} {D : va_G} {cA : Nat → ClassId} (hG : cx_G l s0 D cA) {S : Mem} {x o : Nat} {f : Nat → Int64} {vv : Int32} {Φ : Mem → Prop} (k : Int32) (on : Int32) (how : Int32) (q : Int32) (h1 : x ∈ mL S) (h2 : mK S x = 7) (hM : PC l s0 D cA yX8_consumer cX8_consumer 5 (some .int) rmX8_consumer [.ref x, .int k, .int on, .int how, .int q] S (some (.int vv)) Φ) : LC l s0 D yL_consumer cL_consumer 7 [(0, 14, 17, 13), (0, 14, 21, 15)] rmL [.ref x, .int k, .int on, .int how, .int q, .ref o] ((o, .inl (cA 4, 1, .inr (.inl f))) :: pW cA S) (fun rv rw => rv = some (.int 0) ∧ ∃ S1 f1, Φ S1 ∧ f1 0 = vv.toInt64 ∧ rw = (o, .inl (cA 4, 1, .inr (.inl f1))) :: pW cA S1) := by
  refine LC.of (cA := cA) hG (by decide +kernel) (Nat.le_of_ble_eq_true rfl) ?_
  intro p e s m below meth c A C hT hP hD hS ls hl
  have hx := cx_x C
  have hb := cx_b C
  have hl : lv_has ls 7 [(0, .ref x), (1, .int k), (2, .int on), (3, .int how), (4, .int q), (5, .ref o)] := hl
  refine lv_aload hx hb dL_consumer_0 (lv_at hl 5 rfl) ?_
  refine lv_iconst (v := 0) hx hb dL_consumer_2 (by decide) ?_
  refine lv_aload_n hx hb dL_consumer_3 rfl (lv_at hl 0 rfl) ?_
  refine lv_iload_n hx hb dL_consumer_4 rfl (lv_at hl 1 rfl) ?_
  refine lv_iload_n hx hb dL_consumer_5 rfl (lv_at hl 2 rfl) ?_
  refine lv_iload_n hx hb dL_consumer_6 rfl (lv_at hl 3 rfl) ?_
  refine lv_iload hx hb dL_consumer_7 (lv_at hl 4 rfl) ?_
  refine ct_V (As := [.int k, .int on, .int how, .int q]) (rest := [.int 0, .ref o]) C hM tm_89 tm_90 tm_91 tm_1 tm_92 hdX8_consumer ⟨Nat.le_of_ble_eq_true rfl, Nat.le_of_ble_eq_true rfl⟩ (rcv_8 C (tl_P hP) h1 h2) hl.1 rfl (Nat.le_of_ble_eq_true rfl) dL_consumer_9 ⟨Nat.le_of_ble_eq_true rfl, Nat.le_of_ble_eq_true rfl⟩ (List.perm_append_singleton _ _).symm hP hD hS (fun v9 w9 H locs hQ hP hD hS => ?_)
  obtain ⟨rfl, S1, rfl, hΦ⟩ := hQ
  have hP := pm_P (List.perm_append_singleton _ _) hP
  have hD := pm_D (List.perm_append_singleton _ _) hD
  refine lv_i2l (v := vv.toInt64) hx hb dL_consumer_12 rfl ?_
  refine va_last (x := vv.toInt64) (cx_x C) (cx_b C) (cx_k C) hP hD hS 0 4 rfl rfl vp0 dL_consumer_13 (fun H locs hP hD hS => ?_)
  refine lv_goto (tgt := 25) hx hb dL_consumer_14 (by decide) ?_
  refine lv_iconst (v := 0) hx hb dL_consumer_25 (by decide) ?_
  exact ct_iret C hS hP hD (⟨rfl, S1, _, hΦ, if_pos rfl, rfl⟩) (Nat.le_of_ble_eq_true rfl) (Nat.le_of_ble_eq_true rfl) dL_consumer_26
set_option maxRecDepth 100000 in
theorem w_consumer_x1 {l : Launch} {s0 : State} {D : va_G} {cA : Nat → ClassId} (hG : cx_G l s0 D cA) {S : Mem} {x o : Nat} {f : Nat → Int64} (k : Int32) (on : Int32) (how : Int32) (q : Int32) (h1 : x ∈ mL S) (h2 : mK S x = 7) (hM : XT l s0 D cA yX8_consumer cX8_consumer 5 (some .int) rmT2 [.ref x, .int k, .int on, .int how, .int q] S "java/lang/IllegalArgumentException") : LC l s0 D yL_consumer cL_consumer 7 [(0, 14, 17, 13), (0, 14, 21, 15)] rmL [.ref x, .int k, .int on, .int how, .int q, .ref o] ((o, .inl (cA 4, 1, .inr (.inl f))) :: pW cA S) (fun rv rw => rv = some (.int 1) ∧ rw = (o, .inl (cA 4, 1, .inr (.inl f))) :: pW cA S) := by
  refine LC.of (cA := cA) hG (by decide +kernel) (Nat.le_of_ble_eq_true rfl) ?_
  intro p e s m below meth c A C hT hP hD hS ls hl
  have hx := cx_x C
  have hb := cx_b C
  have hl : lv_has ls 7 [(0, .ref x), (1, .int k), (2, .int on), (3, .int how), (4, .int q), (5, .ref o)] := hl
  refine lv_aload hx hb dL_consumer_0 (lv_at hl 5 rfl) ?_
  refine lv_iconst (v := 0) hx hb dL_consumer_2 (by decide) ?_
  refine lv_aload_n hx hb dL_consumer_3 rfl (lv_at hl 0 rfl) ?_
  refine lv_iload_n hx hb dL_consumer_4 rfl (lv_at hl 1 rfl) ?_
  refine lv_iload_n hx hb dL_consumer_5 rfl (lv_at hl 2 rfl) ?_
  refine lv_iload_n hx hb dL_consumer_6 rfl (lv_at hl 3 rfl) ?_
  refine lv_iload hx hb dL_consumer_7 (lv_at hl 4 rfl) ?_
  refine ct_VX (As := [.int k, .int on, .int how, .int q]) (rest := [.int 0, .ref o]) C hM tm_89 tm_90 tm_91 tm_1 tm_92 hdX8_consumer ⟨Nat.le_of_ble_eq_true rfl, Nat.le_of_ble_eq_true rfl⟩ (rcv_8 C (tl_P hP) h1 h2) hl.1 rfl (Nat.le_of_ble_eq_true rfl) dL_consumer_9 ⟨Nat.le_of_ble_eq_true rfl, Nat.le_of_ble_eq_true rfl⟩ (List.perm_append_singleton _ _).symm hP hD hS (fun E9 ce q9 H locs hX hP hD hS z1 z2 z3 => ?_) (fun v9 w9 H9 l9 hq => hq.elim)
  subst hX
  have hP := pm_P (List.perm_append_singleton _ _) hP
  have hD := pm_D (List.perm_append_singleton _ _) hD
  refine xc_catch (name := "java/lang/IllegalArgumentException") (cx_own C) [] ⟨0, 14, 17, 13⟩ [⟨0, 14, 21, 15⟩] (by rw [hT]; rfl) (fun z hz => absurd hz List.not_mem_nil) (by decide) (by decide) (cx_t C _ tm_87) (va_Nw.use rfl (cx_cast C tn_98)) z1 z2 z3 ?_
  refine lv_astore (lv' := [(6, .ref q9), (0, .ref x), (1, .int k), (2, .int on), (3, .int how), (4, .int q), (5, .ref o)]) hx hb dL_consumer_17 hl (by decide) rfl (fun ls hl => ?_)
  refine lv_iconst (v := 1) hx hb dL_consumer_19 (by decide) ?_
  exact ct_iret C hS hP hD (⟨rfl, rfl⟩) (Nat.le_of_ble_eq_true rfl) (Nat.le_of_ble_eq_true rfl) dL_consumer_20
set_option maxRecDepth 100000 in
theorem w_consumer_x2 {l : Launch} {s0 : State} {D : va_G} {cA : Nat → ClassId} (hG : cx_G l s0 D cA) {S : Mem} {x o : Nat} {f : Nat → Int64} (k : Int32) (on : Int32) (how : Int32) (q : Int32) (h1 : x ∈ mL S) (h2 : mK S x = 7) (hM : XT l s0 D cA yX8_consumer cX8_consumer 5 (some .int) rmT2 [.ref x, .int k, .int on, .int how, .int q] S "java/lang/IllegalStateException") : LC l s0 D yL_consumer cL_consumer 7 [(0, 14, 17, 13), (0, 14, 21, 15)] rmL [.ref x, .int k, .int on, .int how, .int q, .ref o] ((o, .inl (cA 4, 1, .inr (.inl f))) :: pW cA S) (fun rv rw => rv = some (.int 2) ∧ rw = (o, .inl (cA 4, 1, .inr (.inl f))) :: pW cA S) := by
  refine LC.of (cA := cA) hG (by decide +kernel) (Nat.le_of_ble_eq_true rfl) ?_
  intro p e s m below meth c A C hT hP hD hS ls hl
  have hx := cx_x C
  have hb := cx_b C
  have hl : lv_has ls 7 [(0, .ref x), (1, .int k), (2, .int on), (3, .int how), (4, .int q), (5, .ref o)] := hl
  refine lv_aload hx hb dL_consumer_0 (lv_at hl 5 rfl) ?_
  refine lv_iconst (v := 0) hx hb dL_consumer_2 (by decide) ?_
  refine lv_aload_n hx hb dL_consumer_3 rfl (lv_at hl 0 rfl) ?_
  refine lv_iload_n hx hb dL_consumer_4 rfl (lv_at hl 1 rfl) ?_
  refine lv_iload_n hx hb dL_consumer_5 rfl (lv_at hl 2 rfl) ?_
  refine lv_iload_n hx hb dL_consumer_6 rfl (lv_at hl 3 rfl) ?_
  refine lv_iload hx hb dL_consumer_7 (lv_at hl 4 rfl) ?_
  refine ct_VX (As := [.int k, .int on, .int how, .int q]) (rest := [.int 0, .ref o]) C hM tm_89 tm_90 tm_91 tm_1 tm_92 hdX8_consumer ⟨Nat.le_of_ble_eq_true rfl, Nat.le_of_ble_eq_true rfl⟩ (rcv_8 C (tl_P hP) h1 h2) hl.1 rfl (Nat.le_of_ble_eq_true rfl) dL_consumer_9 ⟨Nat.le_of_ble_eq_true rfl, Nat.le_of_ble_eq_true rfl⟩ (List.perm_append_singleton _ _).symm hP hD hS (fun E9 ce q9 H locs hX hP hD hS z1 z2 z3 => ?_) (fun v9 w9 H9 l9 hq => hq.elim)
  subst hX
  have hP := pm_P (List.perm_append_singleton _ _) hP
  have hD := pm_D (List.perm_append_singleton _ _) hD
  refine xc_catch (name := "java/lang/IllegalStateException") (cx_own C) [⟨0, 14, 17, 13⟩] ⟨0, 14, 21, 15⟩ [] (by rw [hT]; rfl) (fun z hz => by rw [List.mem_singleton.mp hz]; exact Or.inr ⟨by decide, "java/lang/IllegalArgumentException", cx_t C _ tm_87, cx_nc C (by decide +kernel)⟩) (by decide) (by decide) (cx_t C _ tm_88) (va_Nw.use rfl (cx_cast C tn_173)) z1 z2 z3 ?_
  refine lv_astore (lv' := [(6, .ref q9), (0, .ref x), (1, .int k), (2, .int on), (3, .int how), (4, .int q), (5, .ref o)]) hx hb dL_consumer_21 hl (by decide) rfl (fun ls hl => ?_)
  refine lv_iconst (v := 2) hx hb dL_consumer_23 (by decide) ?_
  exact ct_iret C hS hP hD (⟨rfl, rfl⟩) (Nat.le_of_ble_eq_true rfl) (Nat.le_of_ble_eq_true rfl) dL_consumer_24
set_option maxRecDepth 100000 in
theorem w_claim_y {l : Launch} {s0 : State} {D : va_G} {cA : Nat → ClassId} (hG : cx_G l s0 D cA) {S : Mem} {x o : Nat} {f : Nat → Int64} {vv : Int64} {Φ : Mem → Prop} (k : Int32) (i : Int32) (h1 : x ∈ mL S) (h2 : mK S x = 7) (hM : PC l s0 D cA yX8_claim cX8_claim 3 (some .long) rmX8_claim [.ref x, .int k, .int i] S (some (.long vv)) Φ) : LC l s0 D yL_claim cL_claim 5 [(0, 9, 12, 13), (0, 9, 16, 15)] rmL [.ref x, .int k, .int i, .ref o] ((o, .inl (cA 4, 1, .inr (.inl f))) :: pW cA S) (fun rv rw => rv = some (.int 0) ∧ ∃ S1 f1, Φ S1 ∧ f1 0 = vv ∧ rw = (o, .inl (cA 4, 1, .inr (.inl f1))) :: pW cA S1) := by
  refine LC.of (cA := cA) hG (by decide +kernel) (Nat.le_of_ble_eq_true rfl) ?_
  intro p e s m below meth c A C hT hP hD hS ls hl
  have hx := cx_x C
  have hb := cx_b C
  have hl : lv_has ls 5 [(0, .ref x), (1, .int k), (2, .int i), (3, .ref o)] := hl
  refine lv_aload_n hx hb dL_claim_0 rfl (lv_at hl 3 rfl) ?_
  refine lv_iconst (v := 0) hx hb dL_claim_1 (by decide) ?_
  refine lv_aload_n hx hb dL_claim_2 rfl (lv_at hl 0 rfl) ?_
  refine lv_iload_n hx hb dL_claim_3 rfl (lv_at hl 1 rfl) ?_
  refine lv_iload_n hx hb dL_claim_4 rfl (lv_at hl 2 rfl) ?_
  refine ct_V (As := [.int k, .int i]) (rest := [.int 0, .ref o]) C hM tm_352 tm_353 tm_354 tm_1 tm_355 hdX8_claim ⟨Nat.le_of_ble_eq_true rfl, Nat.le_of_ble_eq_true rfl⟩ (rcv_8 C (tl_P hP) h1 h2) hl.1 rfl (Nat.le_of_ble_eq_true rfl) dL_claim_5 ⟨Nat.le_of_ble_eq_true rfl, Nat.le_of_ble_eq_true rfl⟩ (List.perm_append_singleton _ _).symm hP hD hS (fun v9 w9 H locs hQ hP hD hS => ?_)
  obtain ⟨rfl, S1, rfl, hΦ⟩ := hQ
  have hP := pm_P (List.perm_append_singleton _ _) hP
  have hD := pm_D (List.perm_append_singleton _ _) hD
  refine va_last (x := vv) (cx_x C) (cx_b C) (cx_k C) hP hD hS 0 4 rfl rfl vp0 dL_claim_8 (fun H locs hP hD hS => ?_)
  refine lv_goto (tgt := 20) hx hb dL_claim_9 (by decide) ?_
  refine lv_iconst (v := 0) hx hb dL_claim_20 (by decide) ?_
  exact ct_iret C hS hP hD (⟨rfl, S1, _, hΦ, if_pos rfl, rfl⟩) (Nat.le_of_ble_eq_true rfl) (Nat.le_of_ble_eq_true rfl) dL_claim_21
set_option maxRecDepth 100000 in
theorem w_claim_x1 {l : Launch} {s0 : State} {D : va_G} {cA : Nat → ClassId} (hG : cx_G l s0 D cA) {S : Mem} {x o : Nat} {f : Nat → Int64} (k : Int32) (i : Int32) (h1 : x ∈ mL S) (h2 : mK S x = 7) (hM : XT l s0 D cA yX8_claim cX8_claim 3 (some .long) rmT2 [.ref x, .int k, .int i] S "java/lang/IllegalArgumentException") : LC l s0 D yL_claim cL_claim 5 [(0, 9, 12, 13), (0, 9, 16, 15)] rmL [.ref x, .int k, .int i, .ref o] ((o, .inl (cA 4, 1, .inr (.inl f))) :: pW cA S) (fun rv rw => rv = some (.int 1) ∧ rw = (o, .inl (cA 4, 1, .inr (.inl f))) :: pW cA S) := by
  refine LC.of (cA := cA) hG (by decide +kernel) (Nat.le_of_ble_eq_true rfl) ?_
  intro p e s m below meth c A C hT hP hD hS ls hl
  have hx := cx_x C
  have hb := cx_b C
  have hl : lv_has ls 5 [(0, .ref x), (1, .int k), (2, .int i), (3, .ref o)] := hl
  refine lv_aload_n hx hb dL_claim_0 rfl (lv_at hl 3 rfl) ?_
  refine lv_iconst (v := 0) hx hb dL_claim_1 (by decide) ?_
  refine lv_aload_n hx hb dL_claim_2 rfl (lv_at hl 0 rfl) ?_
  refine lv_iload_n hx hb dL_claim_3 rfl (lv_at hl 1 rfl) ?_
  refine lv_iload_n hx hb dL_claim_4 rfl (lv_at hl 2 rfl) ?_
  refine ct_VX (As := [.int k, .int i]) (rest := [.int 0, .ref o]) C hM tm_352 tm_353 tm_354 tm_1 tm_355 hdX8_claim ⟨Nat.le_of_ble_eq_true rfl, Nat.le_of_ble_eq_true rfl⟩ (rcv_8 C (tl_P hP) h1 h2) hl.1 rfl (Nat.le_of_ble_eq_true rfl) dL_claim_5 ⟨Nat.le_of_ble_eq_true rfl, Nat.le_of_ble_eq_true rfl⟩ (List.perm_append_singleton _ _).symm hP hD hS (fun E9 ce q9 H locs hX hP hD hS z1 z2 z3 => ?_) (fun v9 w9 H9 l9 hq => hq.elim)
  subst hX
  have hP := pm_P (List.perm_append_singleton _ _) hP
  have hD := pm_D (List.perm_append_singleton _ _) hD
  refine xc_catch (name := "java/lang/IllegalArgumentException") (cx_own C) [] ⟨0, 9, 12, 13⟩ [⟨0, 9, 16, 15⟩] (by rw [hT]; rfl) (fun z hz => absurd hz List.not_mem_nil) (by decide) (by decide) (cx_t C _ tm_87) (va_Nw.use rfl (cx_cast C tn_98)) z1 z2 z3 ?_
  refine lv_astore (lv' := [(4, .ref q9), (0, .ref x), (1, .int k), (2, .int i), (3, .ref o)]) hx hb dL_claim_12 hl (by decide) rfl (fun ls hl => ?_)
  refine lv_iconst (v := 1) hx hb dL_claim_14 (by decide) ?_
  exact ct_iret C hS hP hD (⟨rfl, rfl⟩) (Nat.le_of_ble_eq_true rfl) (Nat.le_of_ble_eq_true rfl) dL_claim_15
set_option maxRecDepth 100000 in
theorem w_claim_x2 {l : Launch} {s0 : State} {D : va_G} {cA : Nat → ClassId} (hG : cx_G l s0 D cA) {S : Mem} {x o : Nat} {f : Nat → Int64} (k : Int32) (i : Int32) (h1 : x ∈ mL S) (h2 : mK S x = 7) (hM : XT l s0 D cA yX8_claim cX8_claim 3 (some .long) rmT2 [.ref x, .int k, .int i] S "java/lang/IllegalStateException") : LC l s0 D yL_claim cL_claim 5 [(0, 9, 12, 13), (0, 9, 16, 15)] rmL [.ref x, .int k, .int i, .ref o] ((o, .inl (cA 4, 1, .inr (.inl f))) :: pW cA S) (fun rv rw => rv = some (.int 2) ∧ rw = (o, .inl (cA 4, 1, .inr (.inl f))) :: pW cA S) := by
  refine LC.of (cA := cA) hG (by decide +kernel) (Nat.le_of_ble_eq_true rfl) ?_
  intro p e s m below meth c A C hT hP hD hS ls hl
  have hx := cx_x C
  have hb := cx_b C
  have hl : lv_has ls 5 [(0, .ref x), (1, .int k), (2, .int i), (3, .ref o)] := hl
  refine lv_aload_n hx hb dL_claim_0 rfl (lv_at hl 3 rfl) ?_
  refine lv_iconst (v := 0) hx hb dL_claim_1 (by decide) ?_
  refine lv_aload_n hx hb dL_claim_2 rfl (lv_at hl 0 rfl) ?_
  refine lv_iload_n hx hb dL_claim_3 rfl (lv_at hl 1 rfl) ?_
  refine lv_iload_n hx hb dL_claim_4 rfl (lv_at hl 2 rfl) ?_
  refine ct_VX (As := [.int k, .int i]) (rest := [.int 0, .ref o]) C hM tm_352 tm_353 tm_354 tm_1 tm_355 hdX8_claim ⟨Nat.le_of_ble_eq_true rfl, Nat.le_of_ble_eq_true rfl⟩ (rcv_8 C (tl_P hP) h1 h2) hl.1 rfl (Nat.le_of_ble_eq_true rfl) dL_claim_5 ⟨Nat.le_of_ble_eq_true rfl, Nat.le_of_ble_eq_true rfl⟩ (List.perm_append_singleton _ _).symm hP hD hS (fun E9 ce q9 H locs hX hP hD hS z1 z2 z3 => ?_) (fun v9 w9 H9 l9 hq => hq.elim)
  subst hX
  have hP := pm_P (List.perm_append_singleton _ _) hP
  have hD := pm_D (List.perm_append_singleton _ _) hD
  refine xc_catch (name := "java/lang/IllegalStateException") (cx_own C) [⟨0, 9, 12, 13⟩] ⟨0, 9, 16, 15⟩ [] (by rw [hT]; rfl) (fun z hz => by rw [List.mem_singleton.mp hz]; exact Or.inr ⟨by decide, "java/lang/IllegalArgumentException", cx_t C _ tm_87, cx_nc C (by decide +kernel)⟩) (by decide) (by decide) (cx_t C _ tm_88) (va_Nw.use rfl (cx_cast C tn_173)) z1 z2 z3 ?_
  refine lv_astore (lv' := [(4, .ref q9), (0, .ref x), (1, .int k), (2, .int i), (3, .ref o)]) hx hb dL_claim_16 hl (by decide) rfl (fun ls hl => ?_)
  refine lv_iconst (v := 2) hx hb dL_claim_18 (by decide) ?_
  exact ct_iret C hS hP hD (⟨rfl, rfl⟩) (Nat.le_of_ble_eq_true rfl) (Nat.le_of_ble_eq_true rfl) dL_claim_19
set_option maxRecDepth 100000 in
theorem w_publish_y {l : Launch} {s0 : State} {D : va_G} {cA : Nat → ClassId} (hG : cx_G l s0 D cA) {S : Mem} {x o : Nat} {f : Nat → Int64} {vv : Int32} {Φ : Mem → Prop} (p9 : Int32) (sq : Int64) (y : Int64) (h1 : x ∈ mL S) (h2 : mK S x = 7) (hM : PC l s0 D cA yX8_publish cX8_publish 6 (some .boolean) rmX8_publish [.ref x, .int p9, .long sq, .long y] S (some (.int vv)) Φ) : LC l s0 D yL_publish cL_publish 8 [(0, 20, 23, 25)] rmL [.ref x, .int p9, .long sq, .long y, .ref o] ((o, .inl (cA 4, 1, .inr (.inl f))) :: pW cA S) (fun rv rw => rv = some (.int 0) ∧ ∃ S1 f1, Φ S1 ∧ f1 0 = (if vv = 0 then 0 else 1) ∧ rw = (o, .inl (cA 4, 1, .inr (.inl f1))) :: pW cA S1) := by
  refine LC.of (cA := cA) hG (by decide +kernel) (Nat.le_of_ble_eq_true rfl) ?_
  intro p e s m below meth c A C hT hP hD hS ls hl
  have hx := cx_x C
  have hb := cx_b C
  have hl : lv_has ls 8 [(0, .ref x), (1, .int p9), (2, .long sq), (4, .long y), (6, .ref o)] := hl
  refine lv_aload hx hb dL_publish_0 (lv_at hl 4 rfl) ?_
  refine lv_iconst (v := 0) hx hb dL_publish_2 (by decide) ?_
  refine lv_aload_n hx hb dL_publish_3 rfl (lv_at hl 0 rfl) ?_
  refine lv_iload_n hx hb dL_publish_4 rfl (lv_at hl 1 rfl) ?_
  refine lv_lload_n hx hb dL_publish_5 rfl (lv_at hl 2 rfl) ?_
  refine lv_lload hx hb dL_publish_6 (lv_at hl 3 rfl) ?_
  refine ct_V (As := [.int p9, .long sq, .long y]) (rest := [.int 0, .ref o]) C hM tm_395 tm_396 tm_397 tm_1 tm_398 hdX8_publish ⟨Nat.le_of_ble_eq_true rfl, Nat.le_of_ble_eq_true rfl⟩ (rcv_8 C (tl_P hP) h1 h2) hl.1 rfl (Nat.le_of_ble_eq_true rfl) dL_publish_8 ⟨Nat.le_of_ble_eq_true rfl, Nat.le_of_ble_eq_true rfl⟩ (List.perm_append_singleton _ _).symm hP hD hS (fun v9 w9 H locs hQ hP hD hS => ?_)
  obtain ⟨rfl, S1, rfl, hΦ⟩ := hQ
  have hP := pm_P (List.perm_append_singleton _ _) hP
  have hD := pm_D (List.perm_append_singleton _ _) hD
  refine lv_if_eq (tgt := 18) hx hb dL_publish_11 (by decide) (fun cz => ?_) (fun cz => ?_)
  · refine lv_lconst (v := 0) hx hb dL_publish_18 (by decide) ?_
    refine va_last (x := 0) (cx_x C) (cx_b C) (cx_k C) hP hD hS 0 4 rfl rfl vp0 dL_publish_19 (fun H locs hP hD hS => ?_)
    refine lv_goto (tgt := 27) hx hb dL_publish_20 (by decide) ?_
    refine lv_iconst (v := 0) hx hb dL_publish_27 (by decide) ?_
    exact ct_iret C hS hP hD (⟨rfl, S1, _, hΦ, (if_pos rfl).trans (if_pos cz).symm, rfl⟩) (Nat.le_of_ble_eq_true rfl) (Nat.le_of_ble_eq_true rfl) dL_publish_28
  refine lv_lconst (v := 1) hx hb dL_publish_14 (by decide) ?_
  refine lv_goto (tgt := 19) hx hb dL_publish_15 (by decide) ?_
  refine va_last (x := 1) (cx_x C) (cx_b C) (cx_k C) hP hD hS 0 4 rfl rfl vp0 dL_publish_19 (fun H locs hP hD hS => ?_)
  refine lv_goto (tgt := 27) hx hb dL_publish_20 (by decide) ?_
  refine lv_iconst (v := 0) hx hb dL_publish_27 (by decide) ?_
  exact ct_iret C hS hP hD (⟨rfl, S1, _, hΦ, (if_pos rfl).trans (if_neg cz).symm, rfl⟩) (Nat.le_of_ble_eq_true rfl) (Nat.le_of_ble_eq_true rfl) dL_publish_28
set_option maxRecDepth 100000 in
theorem w_publish_x1 {l : Launch} {s0 : State} {D : va_G} {cA : Nat → ClassId} (hG : cx_G l s0 D cA) {S : Mem} {x o : Nat} {f : Nat → Int64} (p9 : Int32) (sq : Int64) (y : Int64) (h1 : x ∈ mL S) (h2 : mK S x = 7) (hM : XT l s0 D cA yX8_publish cX8_publish 6 (some .boolean) rmT2 [.ref x, .int p9, .long sq, .long y] S "java/util/NoSuchElementException") : LC l s0 D yL_publish cL_publish 8 [(0, 20, 23, 25)] rmL [.ref x, .int p9, .long sq, .long y, .ref o] ((o, .inl (cA 4, 1, .inr (.inl f))) :: pW cA S) (fun rv rw => rv = some (.int 1) ∧ rw = (o, .inl (cA 4, 1, .inr (.inl f))) :: pW cA S) := by
  refine LC.of (cA := cA) hG (by decide +kernel) (Nat.le_of_ble_eq_true rfl) ?_
  intro p e s m below meth c A C hT hP hD hS ls hl
  have hx := cx_x C
  have hb := cx_b C
  have hl : lv_has ls 8 [(0, .ref x), (1, .int p9), (2, .long sq), (4, .long y), (6, .ref o)] := hl
  refine lv_aload hx hb dL_publish_0 (lv_at hl 4 rfl) ?_
  refine lv_iconst (v := 0) hx hb dL_publish_2 (by decide) ?_
  refine lv_aload_n hx hb dL_publish_3 rfl (lv_at hl 0 rfl) ?_
  refine lv_iload_n hx hb dL_publish_4 rfl (lv_at hl 1 rfl) ?_
  refine lv_lload_n hx hb dL_publish_5 rfl (lv_at hl 2 rfl) ?_
  refine lv_lload hx hb dL_publish_6 (lv_at hl 3 rfl) ?_
  refine ct_VX (As := [.int p9, .long sq, .long y]) (rest := [.int 0, .ref o]) C hM tm_395 tm_396 tm_397 tm_1 tm_398 hdX8_publish ⟨Nat.le_of_ble_eq_true rfl, Nat.le_of_ble_eq_true rfl⟩ (rcv_8 C (tl_P hP) h1 h2) hl.1 rfl (Nat.le_of_ble_eq_true rfl) dL_publish_8 ⟨Nat.le_of_ble_eq_true rfl, Nat.le_of_ble_eq_true rfl⟩ (List.perm_append_singleton _ _).symm hP hD hS (fun E9 ce q9 H locs hX hP hD hS z1 z2 z3 => ?_) (fun v9 w9 H9 l9 hq => hq.elim)
  subst hX
  have hP := pm_P (List.perm_append_singleton _ _) hP
  have hD := pm_D (List.perm_append_singleton _ _) hD
  refine xc_catch (name := "java/util/NoSuchElementException") (cx_own C) [] ⟨0, 20, 23, 25⟩ [] (by rw [hT]; rfl) (fun z hz => absurd hz List.not_mem_nil) (by decide) (by decide) (cx_t C _ tm_394) (va_Nw.use rfl (cx_cast C tn_405)) z1 z2 z3 ?_
  refine lv_astore (lv' := [(7, .ref q9), (0, .ref x), (1, .int p9), (2, .long sq), (4, .long y), (6, .ref o)]) hx hb dL_publish_23 hl (by decide) rfl (fun ls hl => ?_)
  refine lv_iconst (v := 1) hx hb dL_publish_25 (by decide) ?_
  exact ct_iret C hS hP hD (⟨rfl, rfl⟩) (Nat.le_of_ble_eq_true rfl) (Nat.le_of_ble_eq_true rfl) dL_publish_26
set_option maxRecDepth 100000 in
theorem w_run_y {l : Launch} {s0 : State} {D : va_G} {cA : Nat → ClassId} (hG : cx_G l s0 D cA) {S : Mem} {x o : Nat} {f : Nat → Int64} {vv : Int32} {Φ : Mem → Prop} (cn : Int32) (i : Int32) (h1 : x ∈ mL S) (h2 : mK S x = 7) (hM : PC l s0 D cA yX8_run cX8_run 4 (some .int) rmX8_run [.ref x, .int cn, .int i] S (some (.int vv)) Φ) : LC l s0 D yL_run cL_run 5 [(0, 10, 13, 13), (0, 10, 17, 15)] rmL [.ref x, .int cn, .int i, .ref o] ((o, .inl (cA 4, 1, .inr (.inl f))) :: pW cA S) (fun rv rw => rv = some (.int 0) ∧ ∃ S1 f1, Φ S1 ∧ f1 0 = vv.toInt64 ∧ rw = (o, .inl (cA 4, 1, .inr (.inl f1))) :: pW cA S1) := by
  refine LC.of (cA := cA) hG (by decide +kernel) (Nat.le_of_ble_eq_true rfl) ?_
  intro p e s m below meth c A C hT hP hD hS ls hl
  have hx := cx_x C
  have hb := cx_b C
  have hl : lv_has ls 5 [(0, .ref x), (1, .int cn), (2, .int i), (3, .ref o)] := hl
  refine lv_aload_n hx hb dL_run_0 rfl (lv_at hl 3 rfl) ?_
  refine lv_iconst (v := 0) hx hb dL_run_1 (by decide) ?_
  refine lv_aload_n hx hb dL_run_2 rfl (lv_at hl 0 rfl) ?_
  refine lv_iload_n hx hb dL_run_3 rfl (lv_at hl 1 rfl) ?_
  refine lv_iload_n hx hb dL_run_4 rfl (lv_at hl 2 rfl) ?_
  refine ct_V (As := [.int cn, .int i]) (rest := [.int 0, .ref o]) C hM tm_426 tm_427 tm_428 tm_1 tm_429 hdX8_run ⟨Nat.le_of_ble_eq_true rfl, Nat.le_of_ble_eq_true rfl⟩ (rcv_8 C (tl_P hP) h1 h2) hl.1 rfl (Nat.le_of_ble_eq_true rfl) dL_run_5 ⟨Nat.le_of_ble_eq_true rfl, Nat.le_of_ble_eq_true rfl⟩ (List.perm_append_singleton _ _).symm hP hD hS (fun v9 w9 H locs hQ hP hD hS => ?_)
  obtain ⟨rfl, S1, rfl, hΦ⟩ := hQ
  have hP := pm_P (List.perm_append_singleton _ _) hP
  have hD := pm_D (List.perm_append_singleton _ _) hD
  refine lv_i2l (v := vv.toInt64) hx hb dL_run_8 rfl ?_
  refine va_last (x := vv.toInt64) (cx_x C) (cx_b C) (cx_k C) hP hD hS 0 4 rfl rfl vp0 dL_run_9 (fun H locs hP hD hS => ?_)
  refine lv_goto (tgt := 21) hx hb dL_run_10 (by decide) ?_
  refine lv_iconst (v := 0) hx hb dL_run_21 (by decide) ?_
  exact ct_iret C hS hP hD (⟨rfl, S1, _, hΦ, if_pos rfl, rfl⟩) (Nat.le_of_ble_eq_true rfl) (Nat.le_of_ble_eq_true rfl) dL_run_22
set_option maxRecDepth 100000 in
theorem w_run_x1 {l : Launch} {s0 : State} {D : va_G} {cA : Nat → ClassId} (hG : cx_G l s0 D cA) {S : Mem} {x o : Nat} {f : Nat → Int64} (cn : Int32) (i : Int32) (h1 : x ∈ mL S) (h2 : mK S x = 7) (hM : XT l s0 D cA yX8_run cX8_run 4 (some .int) rmT2 [.ref x, .int cn, .int i] S "java/lang/IllegalArgumentException") : LC l s0 D yL_run cL_run 5 [(0, 10, 13, 13), (0, 10, 17, 15)] rmL [.ref x, .int cn, .int i, .ref o] ((o, .inl (cA 4, 1, .inr (.inl f))) :: pW cA S) (fun rv rw => rv = some (.int 1) ∧ rw = (o, .inl (cA 4, 1, .inr (.inl f))) :: pW cA S) := by
  refine LC.of (cA := cA) hG (by decide +kernel) (Nat.le_of_ble_eq_true rfl) ?_
  intro p e s m below meth c A C hT hP hD hS ls hl
  have hx := cx_x C
  have hb := cx_b C
  have hl : lv_has ls 5 [(0, .ref x), (1, .int cn), (2, .int i), (3, .ref o)] := hl
  refine lv_aload_n hx hb dL_run_0 rfl (lv_at hl 3 rfl) ?_
  refine lv_iconst (v := 0) hx hb dL_run_1 (by decide) ?_
  refine lv_aload_n hx hb dL_run_2 rfl (lv_at hl 0 rfl) ?_
  refine lv_iload_n hx hb dL_run_3 rfl (lv_at hl 1 rfl) ?_
  refine lv_iload_n hx hb dL_run_4 rfl (lv_at hl 2 rfl) ?_
  refine ct_VX (As := [.int cn, .int i]) (rest := [.int 0, .ref o]) C hM tm_426 tm_427 tm_428 tm_1 tm_429 hdX8_run ⟨Nat.le_of_ble_eq_true rfl, Nat.le_of_ble_eq_true rfl⟩ (rcv_8 C (tl_P hP) h1 h2) hl.1 rfl (Nat.le_of_ble_eq_true rfl) dL_run_5 ⟨Nat.le_of_ble_eq_true rfl, Nat.le_of_ble_eq_true rfl⟩ (List.perm_append_singleton _ _).symm hP hD hS (fun E9 ce q9 H locs hX hP hD hS z1 z2 z3 => ?_) (fun v9 w9 H9 l9 hq => hq.elim)
  subst hX
  have hP := pm_P (List.perm_append_singleton _ _) hP
  have hD := pm_D (List.perm_append_singleton _ _) hD
  refine xc_catch (name := "java/lang/IllegalArgumentException") (cx_own C) [] ⟨0, 10, 13, 13⟩ [⟨0, 10, 17, 15⟩] (by rw [hT]; rfl) (fun z hz => absurd hz List.not_mem_nil) (by decide) (by decide) (cx_t C _ tm_87) (va_Nw.use rfl (cx_cast C tn_98)) z1 z2 z3 ?_
  refine lv_astore (lv' := [(4, .ref q9), (0, .ref x), (1, .int cn), (2, .int i), (3, .ref o)]) hx hb dL_run_13 hl (by decide) rfl (fun ls hl => ?_)
  refine lv_iconst (v := 1) hx hb dL_run_15 (by decide) ?_
  exact ct_iret C hS hP hD (⟨rfl, rfl⟩) (Nat.le_of_ble_eq_true rfl) (Nat.le_of_ble_eq_true rfl) dL_run_16
set_option maxRecDepth 100000 in
theorem w_run_x2 {l : Launch} {s0 : State} {D : va_G} {cA : Nat → ClassId} (hG : cx_G l s0 D cA) {S : Mem} {x o : Nat} {f : Nat → Int64} (cn : Int32) (i : Int32) (h1 : x ∈ mL S) (h2 : mK S x = 7) (hM : XT l s0 D cA yX8_run cX8_run 4 (some .int) rmT2 [.ref x, .int cn, .int i] S "java/lang/IllegalStateException") : LC l s0 D yL_run cL_run 5 [(0, 10, 13, 13), (0, 10, 17, 15)] rmL [.ref x, .int cn, .int i, .ref o] ((o, .inl (cA 4, 1, .inr (.inl f))) :: pW cA S) (fun rv rw => rv = some (.int 2) ∧ rw = (o, .inl (cA 4, 1, .inr (.inl f))) :: pW cA S) := by
  refine LC.of (cA := cA) hG (by decide +kernel) (Nat.le_of_ble_eq_true rfl) ?_
  intro p e s m below meth c A C hT hP hD hS ls hl
  have hx := cx_x C
  have hb := cx_b C
  have hl : lv_has ls 5 [(0, .ref x), (1, .int cn), (2, .int i), (3, .ref o)] := hl
  refine lv_aload_n hx hb dL_run_0 rfl (lv_at hl 3 rfl) ?_
  refine lv_iconst (v := 0) hx hb dL_run_1 (by decide) ?_
  refine lv_aload_n hx hb dL_run_2 rfl (lv_at hl 0 rfl) ?_
  refine lv_iload_n hx hb dL_run_3 rfl (lv_at hl 1 rfl) ?_
  refine lv_iload_n hx hb dL_run_4 rfl (lv_at hl 2 rfl) ?_
  refine ct_VX (As := [.int cn, .int i]) (rest := [.int 0, .ref o]) C hM tm_426 tm_427 tm_428 tm_1 tm_429 hdX8_run ⟨Nat.le_of_ble_eq_true rfl, Nat.le_of_ble_eq_true rfl⟩ (rcv_8 C (tl_P hP) h1 h2) hl.1 rfl (Nat.le_of_ble_eq_true rfl) dL_run_5 ⟨Nat.le_of_ble_eq_true rfl, Nat.le_of_ble_eq_true rfl⟩ (List.perm_append_singleton _ _).symm hP hD hS (fun E9 ce q9 H locs hX hP hD hS z1 z2 z3 => ?_) (fun v9 w9 H9 l9 hq => hq.elim)
  subst hX
  have hP := pm_P (List.perm_append_singleton _ _) hP
  have hD := pm_D (List.perm_append_singleton _ _) hD
  refine xc_catch (name := "java/lang/IllegalStateException") (cx_own C) [⟨0, 10, 13, 13⟩] ⟨0, 10, 17, 15⟩ [] (by rw [hT]; rfl) (fun z hz => by rw [List.mem_singleton.mp hz]; exact Or.inr ⟨by decide, "java/lang/IllegalArgumentException", cx_t C _ tm_87, cx_nc C (by decide +kernel)⟩) (by decide) (by decide) (cx_t C _ tm_88) (va_Nw.use rfl (cx_cast C tn_173)) z1 z2 z3 ?_
  refine lv_astore (lv' := [(4, .ref q9), (0, .ref x), (1, .int cn), (2, .int i), (3, .ref o)]) hx hb dL_run_17 hl (by decide) rfl (fun ls hl => ?_)
  refine lv_iconst (v := 2) hx hb dL_run_19 (by decide) ?_
  exact ct_iret C hS hP hD (⟨rfl, rfl⟩) (Nat.le_of_ble_eq_true rfl) (Nat.le_of_ble_eq_true rfl) dL_run_20
set_option maxRecDepth 100000 in
theorem w_place_y {l : Launch} {s0 : State} {D : va_G} {cA : Nat → ClassId} (hG : cx_G l s0 D cA) {S : Mem} {x o : Nat} {f : Nat → Int64} {vv : Int64} {Φ : Mem → Prop} (cn : Int32) (h1 : x ∈ mL S) (h2 : mK S x = 7) (hM : PC l s0 D cA yX8_place cX8_place 2 (some .long) rmX8_place [.ref x, .int cn] S (some (.long vv)) Φ) : LC l s0 D yL_place cL_place 4 [(0, 8, 11, 13)] rmL [.ref x, .int cn, .ref o] ((o, .inl (cA 4, 1, .inr (.inl f))) :: pW cA S) (fun rv rw => rv = some (.int 0) ∧ ∃ S1 f1, Φ S1 ∧ f1 0 = vv ∧ rw = (o, .inl (cA 4, 1, .inr (.inl f1))) :: pW cA S1) := by
  refine LC.of (cA := cA) hG (by decide +kernel) (Nat.le_of_ble_eq_true rfl) ?_
  intro p e s m below meth c A C hT hP hD hS ls hl
  have hx := cx_x C
  have hb := cx_b C
  have hl : lv_has ls 4 [(0, .ref x), (1, .int cn), (2, .ref o)] := hl
  refine lv_aload_n hx hb dL_place_0 rfl (lv_at hl 2 rfl) ?_
  refine lv_iconst (v := 0) hx hb dL_place_1 (by decide) ?_
  refine lv_aload_n hx hb dL_place_2 rfl (lv_at hl 0 rfl) ?_
  refine lv_iload_n hx hb dL_place_3 rfl (lv_at hl 1 rfl) ?_
  refine ct_V (As := [.int cn]) (rest := [.int 0, .ref o]) C hM tm_540 tm_541 tm_542 tm_1 tm_543 hdX8_place ⟨Nat.le_of_ble_eq_true rfl, Nat.le_of_ble_eq_true rfl⟩ (rcv_8 C (tl_P hP) h1 h2) hl.1 rfl (Nat.le_of_ble_eq_true rfl) dL_place_4 ⟨Nat.le_of_ble_eq_true rfl, Nat.le_of_ble_eq_true rfl⟩ (List.perm_append_singleton _ _).symm hP hD hS (fun v9 w9 H locs hQ hP hD hS => ?_)
  obtain ⟨rfl, S1, rfl, hΦ⟩ := hQ
  have hP := pm_P (List.perm_append_singleton _ _) hP
  have hD := pm_D (List.perm_append_singleton _ _) hD
  refine va_last (x := vv) (cx_x C) (cx_b C) (cx_k C) hP hD hS 0 4 rfl rfl vp0 dL_place_7 (fun H locs hP hD hS => ?_)
  refine lv_goto (tgt := 14) hx hb dL_place_8 (by decide) ?_
  refine lv_iconst (v := 0) hx hb dL_place_14 (by decide) ?_
  exact ct_iret C hS hP hD (⟨rfl, S1, _, hΦ, if_pos rfl, rfl⟩) (Nat.le_of_ble_eq_true rfl) (Nat.le_of_ble_eq_true rfl) dL_place_15
set_option maxRecDepth 100000 in
theorem w_place_x1 {l : Launch} {s0 : State} {D : va_G} {cA : Nat → ClassId} (hG : cx_G l s0 D cA) {S : Mem} {x o : Nat} {f : Nat → Int64} (cn : Int32) (h1 : x ∈ mL S) (h2 : mK S x = 7) (hM : XT l s0 D cA yX8_place cX8_place 2 (some .long) rmT2 [.ref x, .int cn] S "java/lang/IllegalArgumentException") : LC l s0 D yL_place cL_place 4 [(0, 8, 11, 13)] rmL [.ref x, .int cn, .ref o] ((o, .inl (cA 4, 1, .inr (.inl f))) :: pW cA S) (fun rv rw => rv = some (.int 1) ∧ rw = (o, .inl (cA 4, 1, .inr (.inl f))) :: pW cA S) := by
  refine LC.of (cA := cA) hG (by decide +kernel) (Nat.le_of_ble_eq_true rfl) ?_
  intro p e s m below meth c A C hT hP hD hS ls hl
  have hx := cx_x C
  have hb := cx_b C
  have hl : lv_has ls 4 [(0, .ref x), (1, .int cn), (2, .ref o)] := hl
  refine lv_aload_n hx hb dL_place_0 rfl (lv_at hl 2 rfl) ?_
  refine lv_iconst (v := 0) hx hb dL_place_1 (by decide) ?_
  refine lv_aload_n hx hb dL_place_2 rfl (lv_at hl 0 rfl) ?_
  refine lv_iload_n hx hb dL_place_3 rfl (lv_at hl 1 rfl) ?_
  refine ct_VX (As := [.int cn]) (rest := [.int 0, .ref o]) C hM tm_540 tm_541 tm_542 tm_1 tm_543 hdX8_place ⟨Nat.le_of_ble_eq_true rfl, Nat.le_of_ble_eq_true rfl⟩ (rcv_8 C (tl_P hP) h1 h2) hl.1 rfl (Nat.le_of_ble_eq_true rfl) dL_place_4 ⟨Nat.le_of_ble_eq_true rfl, Nat.le_of_ble_eq_true rfl⟩ (List.perm_append_singleton _ _).symm hP hD hS (fun E9 ce q9 H locs hX hP hD hS z1 z2 z3 => ?_) (fun v9 w9 H9 l9 hq => hq.elim)
  subst hX
  have hP := pm_P (List.perm_append_singleton _ _) hP
  have hD := pm_D (List.perm_append_singleton _ _) hD
  refine xc_catch (name := "java/lang/IllegalArgumentException") (cx_own C) [] ⟨0, 8, 11, 13⟩ [] (by rw [hT]; rfl) (fun z hz => absurd hz List.not_mem_nil) (by decide) (by decide) (cx_t C _ tm_87) (va_Nw.use rfl (cx_cast C tn_98)) z1 z2 z3 ?_
  refine lv_astore_n (lv' := [(3, .ref q9), (0, .ref x), (1, .int cn), (2, .ref o)]) hx hb dL_place_11 rfl hl (by decide) rfl (fun ls hl => ?_)
  refine lv_iconst (v := 1) hx hb dL_place_12 (by decide) ?_
  exact ct_iret C hS hP hD (⟨rfl, rfl⟩) (Nat.le_of_ble_eq_true rfl) (Nat.le_of_ble_eq_true rfl) dL_place_13
set_option maxRecDepth 100000 in
theorem w_total_y {l : Launch} {s0 : State} {D : va_G} {cA : Nat → ClassId} (hG : cx_G l s0 D cA) {S : Mem} {x o : Nat} {f : Nat → Int64} {vv : Int64} {Φ : Mem → Prop} (cn : Int32) (h1 : x ∈ mL S) (h2 : mK S x = 7) (hM : PC l s0 D cA yX8_total cX8_total 2 (some .long) rmX8_total [.ref x, .int cn] S (some (.long vv)) Φ) : LC l s0 D yL_total cL_total 4 [(0, 8, 11, 13)] rmL [.ref x, .int cn, .ref o] ((o, .inl (cA 4, 1, .inr (.inl f))) :: pW cA S) (fun rv rw => rv = some (.int 0) ∧ ∃ S1 f1, Φ S1 ∧ f1 0 = vv ∧ rw = (o, .inl (cA 4, 1, .inr (.inl f1))) :: pW cA S1) := by
  refine LC.of (cA := cA) hG (by decide +kernel) (Nat.le_of_ble_eq_true rfl) ?_
  intro p e s m below meth c A C hT hP hD hS ls hl
  have hx := cx_x C
  have hb := cx_b C
  have hl : lv_has ls 4 [(0, .ref x), (1, .int cn), (2, .ref o)] := hl
  refine lv_aload_n hx hb dL_total_0 rfl (lv_at hl 2 rfl) ?_
  refine lv_iconst (v := 0) hx hb dL_total_1 (by decide) ?_
  refine lv_aload_n hx hb dL_total_2 rfl (lv_at hl 0 rfl) ?_
  refine lv_iload_n hx hb dL_total_3 rfl (lv_at hl 1 rfl) ?_
  refine ct_V (As := [.int cn]) (rest := [.int 0, .ref o]) C hM tm_547 tm_548 tm_549 tm_1 tm_550 hdX8_total ⟨Nat.le_of_ble_eq_true rfl, Nat.le_of_ble_eq_true rfl⟩ (rcv_8 C (tl_P hP) h1 h2) hl.1 rfl (Nat.le_of_ble_eq_true rfl) dL_total_4 ⟨Nat.le_of_ble_eq_true rfl, Nat.le_of_ble_eq_true rfl⟩ (List.perm_append_singleton _ _).symm hP hD hS (fun v9 w9 H locs hQ hP hD hS => ?_)
  obtain ⟨rfl, S1, rfl, hΦ⟩ := hQ
  have hP := pm_P (List.perm_append_singleton _ _) hP
  have hD := pm_D (List.perm_append_singleton _ _) hD
  refine va_last (x := vv) (cx_x C) (cx_b C) (cx_k C) hP hD hS 0 4 rfl rfl vp0 dL_total_7 (fun H locs hP hD hS => ?_)
  refine lv_goto (tgt := 14) hx hb dL_total_8 (by decide) ?_
  refine lv_iconst (v := 0) hx hb dL_total_14 (by decide) ?_
  exact ct_iret C hS hP hD (⟨rfl, S1, _, hΦ, if_pos rfl, rfl⟩) (Nat.le_of_ble_eq_true rfl) (Nat.le_of_ble_eq_true rfl) dL_total_15
set_option maxRecDepth 100000 in
theorem w_total_x1 {l : Launch} {s0 : State} {D : va_G} {cA : Nat → ClassId} (hG : cx_G l s0 D cA) {S : Mem} {x o : Nat} {f : Nat → Int64} (cn : Int32) (h1 : x ∈ mL S) (h2 : mK S x = 7) (hM : XT l s0 D cA yX8_total cX8_total 2 (some .long) rmT2 [.ref x, .int cn] S "java/lang/IllegalArgumentException") : LC l s0 D yL_total cL_total 4 [(0, 8, 11, 13)] rmL [.ref x, .int cn, .ref o] ((o, .inl (cA 4, 1, .inr (.inl f))) :: pW cA S) (fun rv rw => rv = some (.int 1) ∧ rw = (o, .inl (cA 4, 1, .inr (.inl f))) :: pW cA S) := by
  refine LC.of (cA := cA) hG (by decide +kernel) (Nat.le_of_ble_eq_true rfl) ?_
  intro p e s m below meth c A C hT hP hD hS ls hl
  have hx := cx_x C
  have hb := cx_b C
  have hl : lv_has ls 4 [(0, .ref x), (1, .int cn), (2, .ref o)] := hl
  refine lv_aload_n hx hb dL_total_0 rfl (lv_at hl 2 rfl) ?_
  refine lv_iconst (v := 0) hx hb dL_total_1 (by decide) ?_
  refine lv_aload_n hx hb dL_total_2 rfl (lv_at hl 0 rfl) ?_
  refine lv_iload_n hx hb dL_total_3 rfl (lv_at hl 1 rfl) ?_
  refine ct_VX (As := [.int cn]) (rest := [.int 0, .ref o]) C hM tm_547 tm_548 tm_549 tm_1 tm_550 hdX8_total ⟨Nat.le_of_ble_eq_true rfl, Nat.le_of_ble_eq_true rfl⟩ (rcv_8 C (tl_P hP) h1 h2) hl.1 rfl (Nat.le_of_ble_eq_true rfl) dL_total_4 ⟨Nat.le_of_ble_eq_true rfl, Nat.le_of_ble_eq_true rfl⟩ (List.perm_append_singleton _ _).symm hP hD hS (fun E9 ce q9 H locs hX hP hD hS z1 z2 z3 => ?_) (fun v9 w9 H9 l9 hq => hq.elim)
  subst hX
  have hP := pm_P (List.perm_append_singleton _ _) hP
  have hD := pm_D (List.perm_append_singleton _ _) hD
  refine xc_catch (name := "java/lang/IllegalArgumentException") (cx_own C) [] ⟨0, 8, 11, 13⟩ [] (by rw [hT]; rfl) (fun z hz => absurd hz List.not_mem_nil) (by decide) (by decide) (cx_t C _ tm_87) (va_Nw.use rfl (cx_cast C tn_98)) z1 z2 z3 ?_
  refine lv_astore_n (lv' := [(3, .ref q9), (0, .ref x), (1, .int cn), (2, .ref o)]) hx hb dL_total_11 rfl hl (by decide) rfl (fun ls hl => ?_)
  refine lv_iconst (v := 1) hx hb dL_total_12 (by decide) ?_
  exact ct_iret C hS hP hD (⟨rfl, rfl⟩) (Nat.le_of_ble_eq_true rfl) (Nat.le_of_ble_eq_true rfl) dL_total_13
set_option maxRecDepth 100000 in
theorem w_level_y {l : Launch} {s0 : State} {D : va_G} {cA : Nat → ClassId} (hG : cx_G l s0 D cA) {S : Mem} {x o : Nat} {f : Nat → UInt64} {vv : UInt32} {Φ : Mem → Prop} (cn : Int32) (h1 : x ∈ mL S) (h2 : mK S x = 7) (hM : PC l s0 D cA yX8_level cX8_level 4 (some .float) rmX8_level [.ref x, .int cn] S (some (.float vv)) Φ) (hv : lvI vv) : LC l s0 D yL_level cL_level 4 [(0, 9, 12, 13)] rmL [.ref x, .int cn, .ref o] ((o, .inl (cA 1, 1, .inr (.inr (.inr (.inl f))))) :: pW cA S) (fun rv rw => rv = some (.int 0) ∧ ∃ S1 f1, Φ S1 ∧ f1 0 = FP.f2d vv ∧ rw = (o, .inl (cA 1, 1, .inr (.inr (.inr (.inl f1))))) :: pW cA S1) := by
  refine LC.of (cA := cA) hG (by decide +kernel) (Nat.le_of_ble_eq_true rfl) ?_
  intro p e s m below meth c A C hT hP hD hS ls hl
  have hx := cx_x C
  have hb := cx_b C
  have hl : lv_has ls 4 [(0, .ref x), (1, .int cn), (2, .ref o)] := hl
  refine lv_aload_n hx hb dL_level_0 rfl (lv_at hl 2 rfl) ?_
  refine lv_iconst (v := 0) hx hb dL_level_1 (by decide) ?_
  refine lv_aload_n hx hb dL_level_2 rfl (lv_at hl 0 rfl) ?_
  refine lv_iload_n hx hb dL_level_3 rfl (lv_at hl 1 rfl) ?_
  refine ct_V (As := [.int cn]) (rest := [.int 0, .ref o]) C hM tm_566 tm_567 tm_568 tm_1 tm_569 hdX8_level ⟨Nat.le_of_ble_eq_true rfl, Nat.le_of_ble_eq_true rfl⟩ (rcv_8 C (tl_P hP) h1 h2) hl.1 rfl (Nat.le_of_ble_eq_true rfl) dL_level_4 ⟨Nat.le_of_ble_eq_true rfl, Nat.le_of_ble_eq_true rfl⟩ (List.perm_append_singleton _ _).symm hP hD hS (fun v9 w9 H locs hQ hP hD hS => ?_)
  obtain ⟨rfl, S1, rfl, hΦ⟩ := hQ
  have hP := pm_P (List.perm_append_singleton _ _) hP
  have hD := pm_D (List.perm_append_singleton _ _) hD
  refine lv_f2d hx hb dL_level_7 (fl_n64 (f2d_D hv)) ?_
  refine va_dast (x := FP.f2d vv) (cx_x C) (cx_b C) (cx_k C) hP hD hS 0 1 rfl rfl vp0 dL_level_8 (fun H locs hP hD hS => ?_)
  refine lv_goto (tgt := 15) hx hb dL_level_9 (by decide) ?_
  refine lv_iconst (v := 0) hx hb dL_level_15 (by decide) ?_
  exact ct_iret C hS hP hD (⟨rfl, S1, _, hΦ, if_pos rfl, rfl⟩) (Nat.le_of_ble_eq_true rfl) (Nat.le_of_ble_eq_true rfl) dL_level_16
set_option maxRecDepth 100000 in
theorem w_level_x1 {l : Launch} {s0 : State} {D : va_G} {cA : Nat → ClassId} (hG : cx_G l s0 D cA) {S : Mem} {x o : Nat} {f : Nat → UInt64} (cn : Int32) (h1 : x ∈ mL S) (h2 : mK S x = 7) (hM : XT l s0 D cA yX8_level cX8_level 4 (some .float) rmT2 [.ref x, .int cn] S "java/lang/IllegalArgumentException") : LC l s0 D yL_level cL_level 4 [(0, 9, 12, 13)] rmL [.ref x, .int cn, .ref o] ((o, .inl (cA 1, 1, .inr (.inr (.inr (.inl f))))) :: pW cA S) (fun rv rw => rv = some (.int 1) ∧ rw = (o, .inl (cA 1, 1, .inr (.inr (.inr (.inl f))))) :: pW cA S) := by
  refine LC.of (cA := cA) hG (by decide +kernel) (Nat.le_of_ble_eq_true rfl) ?_
  intro p e s m below meth c A C hT hP hD hS ls hl
  have hx := cx_x C
  have hb := cx_b C
  have hl : lv_has ls 4 [(0, .ref x), (1, .int cn), (2, .ref o)] := hl
  refine lv_aload_n hx hb dL_level_0 rfl (lv_at hl 2 rfl) ?_
  refine lv_iconst (v := 0) hx hb dL_level_1 (by decide) ?_
  refine lv_aload_n hx hb dL_level_2 rfl (lv_at hl 0 rfl) ?_
  refine lv_iload_n hx hb dL_level_3 rfl (lv_at hl 1 rfl) ?_
  refine ct_VX (As := [.int cn]) (rest := [.int 0, .ref o]) C hM tm_566 tm_567 tm_568 tm_1 tm_569 hdX8_level ⟨Nat.le_of_ble_eq_true rfl, Nat.le_of_ble_eq_true rfl⟩ (rcv_8 C (tl_P hP) h1 h2) hl.1 rfl (Nat.le_of_ble_eq_true rfl) dL_level_4 ⟨Nat.le_of_ble_eq_true rfl, Nat.le_of_ble_eq_true rfl⟩ (List.perm_append_singleton _ _).symm hP hD hS (fun E9 ce q9 H locs hX hP hD hS z1 z2 z3 => ?_) (fun v9 w9 H9 l9 hq => hq.elim)
  subst hX
  have hP := pm_P (List.perm_append_singleton _ _) hP
  have hD := pm_D (List.perm_append_singleton _ _) hD
  refine xc_catch (name := "java/lang/IllegalArgumentException") (cx_own C) [] ⟨0, 9, 12, 13⟩ [] (by rw [hT]; rfl) (fun z hz => absurd hz List.not_mem_nil) (by decide) (by decide) (cx_t C _ tm_87) (va_Nw.use rfl (cx_cast C tn_98)) z1 z2 z3 ?_
  refine lv_astore_n (lv' := [(3, .ref q9), (0, .ref x), (1, .int cn), (2, .ref o)]) hx hb dL_level_12 rfl hl (by decide) rfl (fun ls hl => ?_)
  refine lv_iconst (v := 1) hx hb dL_level_13 (by decide) ?_
  exact ct_iret C hS hP hD (⟨rfl, rfl⟩) (Nat.le_of_ble_eq_true rfl) (Nat.le_of_ble_eq_true rfl) dL_level_14
set_option maxRecDepth 100000 in
theorem w_mean_y {l : Launch} {s0 : State} {D : va_G} {cA : Nat → ClassId} (hG : cx_G l s0 D cA) {S : Mem} {x o : Nat} {f : Nat → UInt64} {vv : UInt64} {Φ : Mem → Prop} (cn : Int32) (h1 : x ∈ mL S) (h2 : mK S x = 7) (hM : PC l s0 D cA yX8_mean cX8_mean 4 (some .double) rmX8_mean [.ref x, .int cn] S (some (.double vv)) Φ) : LC l s0 D yL_mean cL_mean 4 [(0, 8, 11, 13)] rmL [.ref x, .int cn, .ref o] ((o, .inl (cA 1, 1, .inr (.inr (.inr (.inl f))))) :: pW cA S) (fun rv rw => rv = some (.int 0) ∧ ∃ S1 f1, Φ S1 ∧ f1 0 = vv ∧ rw = (o, .inl (cA 1, 1, .inr (.inr (.inr (.inl f1))))) :: pW cA S1) := by
  refine LC.of (cA := cA) hG (by decide +kernel) (Nat.le_of_ble_eq_true rfl) ?_
  intro p e s m below meth c A C hT hP hD hS ls hl
  have hx := cx_x C
  have hb := cx_b C
  have hl : lv_has ls 4 [(0, .ref x), (1, .int cn), (2, .ref o)] := hl
  refine lv_aload_n hx hb dL_mean_0 rfl (lv_at hl 2 rfl) ?_
  refine lv_iconst (v := 0) hx hb dL_mean_1 (by decide) ?_
  refine lv_aload_n hx hb dL_mean_2 rfl (lv_at hl 0 rfl) ?_
  refine lv_iload_n hx hb dL_mean_3 rfl (lv_at hl 1 rfl) ?_
  refine ct_V (As := [.int cn]) (rest := [.int 0, .ref o]) C hM tm_574 tm_575 tm_576 tm_1 tm_577 hdX8_mean ⟨Nat.le_of_ble_eq_true rfl, Nat.le_of_ble_eq_true rfl⟩ (rcv_8 C (tl_P hP) h1 h2) hl.1 rfl (Nat.le_of_ble_eq_true rfl) dL_mean_4 ⟨Nat.le_of_ble_eq_true rfl, Nat.le_of_ble_eq_true rfl⟩ (List.perm_append_singleton _ _).symm hP hD hS (fun v9 w9 H locs hQ hP hD hS => ?_)
  obtain ⟨rfl, S1, rfl, hΦ⟩ := hQ
  have hP := pm_P (List.perm_append_singleton _ _) hP
  have hD := pm_D (List.perm_append_singleton _ _) hD
  refine va_dast (x := vv) (cx_x C) (cx_b C) (cx_k C) hP hD hS 0 1 rfl rfl vp0 dL_mean_7 (fun H locs hP hD hS => ?_)
  refine lv_goto (tgt := 14) hx hb dL_mean_8 (by decide) ?_
  refine lv_iconst (v := 0) hx hb dL_mean_14 (by decide) ?_
  exact ct_iret C hS hP hD (⟨rfl, S1, _, hΦ, if_pos rfl, rfl⟩) (Nat.le_of_ble_eq_true rfl) (Nat.le_of_ble_eq_true rfl) dL_mean_15
set_option maxRecDepth 100000 in
theorem w_mean_x1 {l : Launch} {s0 : State} {D : va_G} {cA : Nat → ClassId} (hG : cx_G l s0 D cA) {S : Mem} {x o : Nat} {f : Nat → UInt64} (cn : Int32) (h1 : x ∈ mL S) (h2 : mK S x = 7) (hM : XT l s0 D cA yX8_mean cX8_mean 4 (some .double) rmT2 [.ref x, .int cn] S "java/lang/IllegalArgumentException") : LC l s0 D yL_mean cL_mean 4 [(0, 8, 11, 13)] rmL [.ref x, .int cn, .ref o] ((o, .inl (cA 1, 1, .inr (.inr (.inr (.inl f))))) :: pW cA S) (fun rv rw => rv = some (.int 1) ∧ rw = (o, .inl (cA 1, 1, .inr (.inr (.inr (.inl f))))) :: pW cA S) := by
  refine LC.of (cA := cA) hG (by decide +kernel) (Nat.le_of_ble_eq_true rfl) ?_
  intro p e s m below meth c A C hT hP hD hS ls hl
  have hx := cx_x C
  have hb := cx_b C
  have hl : lv_has ls 4 [(0, .ref x), (1, .int cn), (2, .ref o)] := hl
  refine lv_aload_n hx hb dL_mean_0 rfl (lv_at hl 2 rfl) ?_
  refine lv_iconst (v := 0) hx hb dL_mean_1 (by decide) ?_
  refine lv_aload_n hx hb dL_mean_2 rfl (lv_at hl 0 rfl) ?_
  refine lv_iload_n hx hb dL_mean_3 rfl (lv_at hl 1 rfl) ?_
  refine ct_VX (As := [.int cn]) (rest := [.int 0, .ref o]) C hM tm_574 tm_575 tm_576 tm_1 tm_577 hdX8_mean ⟨Nat.le_of_ble_eq_true rfl, Nat.le_of_ble_eq_true rfl⟩ (rcv_8 C (tl_P hP) h1 h2) hl.1 rfl (Nat.le_of_ble_eq_true rfl) dL_mean_4 ⟨Nat.le_of_ble_eq_true rfl, Nat.le_of_ble_eq_true rfl⟩ (List.perm_append_singleton _ _).symm hP hD hS (fun E9 ce q9 H locs hX hP hD hS z1 z2 z3 => ?_) (fun v9 w9 H9 l9 hq => hq.elim)
  subst hX
  have hP := pm_P (List.perm_append_singleton _ _) hP
  have hD := pm_D (List.perm_append_singleton _ _) hD
  refine xc_catch (name := "java/lang/IllegalArgumentException") (cx_own C) [] ⟨0, 8, 11, 13⟩ [] (by rw [hT]; rfl) (fun z hz => absurd hz List.not_mem_nil) (by decide) (by decide) (cx_t C _ tm_87) (va_Nw.use rfl (cx_cast C tn_98)) z1 z2 z3 ?_
  refine lv_astore_n (lv' := [(3, .ref q9), (0, .ref x), (1, .int cn), (2, .ref o)]) hx hb dL_mean_11 rfl hl (by decide) rfl (fun ls hl => ?_)
  refine lv_iconst (v := 1) hx hb dL_mean_12 (by decide) ?_
  exact ct_iret C hS hP hD (⟨rfl, rfl⟩) (Nat.le_of_ble_eq_true rfl) (Nat.le_of_ble_eq_true rfl) dL_mean_13
set_option maxRecDepth 100000 in
theorem w_octet_y {l : Launch} {s0 : State} {D : va_G} {cA : Nat → ClassId} (hG : cx_G l s0 D cA) {S : Mem} {x o : Nat} {f : Nat → Int64} {vv : Int32} {Φ : Mem → Prop} (cn : Int32) (i : Int32) (h1 : x ∈ mL S) (h2 : mK S x = 7) (hM : PC l s0 D cA yX8_octet cX8_octet 4 (some .int) rmX8_octet [.ref x, .int cn, .int i] S (some (.int vv)) Φ) : LC l s0 D yL_octet cL_octet 5 [(0, 10, 13, 13), (0, 10, 17, 49)] rmL [.ref x, .int cn, .int i, .ref o] ((o, .inl (cA 4, 1, .inr (.inl f))) :: pW cA S) (fun rv rw => rv = some (.int 0) ∧ ∃ S1 f1, Φ S1 ∧ f1 0 = vv.toInt64 ∧ rw = (o, .inl (cA 4, 1, .inr (.inl f1))) :: pW cA S1) := by
  refine LC.of (cA := cA) hG (by decide +kernel) (Nat.le_of_ble_eq_true rfl) ?_
  intro p e s m below meth c A C hT hP hD hS ls hl
  have hx := cx_x C
  have hb := cx_b C
  have hl : lv_has ls 5 [(0, .ref x), (1, .int cn), (2, .int i), (3, .ref o)] := hl
  refine lv_aload_n hx hb dL_octet_0 rfl (lv_at hl 3 rfl) ?_
  refine lv_iconst (v := 0) hx hb dL_octet_1 (by decide) ?_
  refine lv_aload_n hx hb dL_octet_2 rfl (lv_at hl 0 rfl) ?_
  refine lv_iload_n hx hb dL_octet_3 rfl (lv_at hl 1 rfl) ?_
  refine lv_iload_n hx hb dL_octet_4 rfl (lv_at hl 2 rfl) ?_
  refine ct_V (As := [.int cn, .int i]) (rest := [.int 0, .ref o]) C hM tm_583 tm_584 tm_585 tm_1 tm_586 hdX8_octet ⟨Nat.le_of_ble_eq_true rfl, Nat.le_of_ble_eq_true rfl⟩ (rcv_8 C (tl_P hP) h1 h2) hl.1 rfl (Nat.le_of_ble_eq_true rfl) dL_octet_5 ⟨Nat.le_of_ble_eq_true rfl, Nat.le_of_ble_eq_true rfl⟩ (List.perm_append_singleton _ _).symm hP hD hS (fun v9 w9 H locs hQ hP hD hS => ?_)
  obtain ⟨rfl, S1, rfl, hΦ⟩ := hQ
  have hP := pm_P (List.perm_append_singleton _ _) hP
  have hD := pm_D (List.perm_append_singleton _ _) hD
  refine lv_i2l (v := vv.toInt64) hx hb dL_octet_8 rfl ?_
  refine va_last (x := vv.toInt64) (cx_x C) (cx_b C) (cx_k C) hP hD hS 0 4 rfl rfl vp0 dL_octet_9 (fun H locs hP hD hS => ?_)
  refine lv_goto (tgt := 21) hx hb dL_octet_10 (by decide) ?_
  refine lv_iconst (v := 0) hx hb dL_octet_21 (by decide) ?_
  exact ct_iret C hS hP hD (⟨rfl, S1, _, hΦ, if_pos rfl, rfl⟩) (Nat.le_of_ble_eq_true rfl) (Nat.le_of_ble_eq_true rfl) dL_octet_22
set_option maxRecDepth 100000 in
theorem w_octet_x1 {l : Launch} {s0 : State} {D : va_G} {cA : Nat → ClassId} (hG : cx_G l s0 D cA) {S : Mem} {x o : Nat} {f : Nat → Int64} (cn : Int32) (i : Int32) (h1 : x ∈ mL S) (h2 : mK S x = 7) (hM : XT l s0 D cA yX8_octet cX8_octet 4 (some .int) rmT2 [.ref x, .int cn, .int i] S "java/lang/IllegalArgumentException") : LC l s0 D yL_octet cL_octet 5 [(0, 10, 13, 13), (0, 10, 17, 49)] rmL [.ref x, .int cn, .int i, .ref o] ((o, .inl (cA 4, 1, .inr (.inl f))) :: pW cA S) (fun rv rw => rv = some (.int 1) ∧ rw = (o, .inl (cA 4, 1, .inr (.inl f))) :: pW cA S) := by
  refine LC.of (cA := cA) hG (by decide +kernel) (Nat.le_of_ble_eq_true rfl) ?_
  intro p e s m below meth c A C hT hP hD hS ls hl
  have hx := cx_x C
  have hb := cx_b C
  have hl : lv_has ls 5 [(0, .ref x), (1, .int cn), (2, .int i), (3, .ref o)] := hl
  refine lv_aload_n hx hb dL_octet_0 rfl (lv_at hl 3 rfl) ?_
  refine lv_iconst (v := 0) hx hb dL_octet_1 (by decide) ?_
  refine lv_aload_n hx hb dL_octet_2 rfl (lv_at hl 0 rfl) ?_
  refine lv_iload_n hx hb dL_octet_3 rfl (lv_at hl 1 rfl) ?_
  refine lv_iload_n hx hb dL_octet_4 rfl (lv_at hl 2 rfl) ?_
  refine ct_VX (As := [.int cn, .int i]) (rest := [.int 0, .ref o]) C hM tm_583 tm_584 tm_585 tm_1 tm_586 hdX8_octet ⟨Nat.le_of_ble_eq_true rfl, Nat.le_of_ble_eq_true rfl⟩ (rcv_8 C (tl_P hP) h1 h2) hl.1 rfl (Nat.le_of_ble_eq_true rfl) dL_octet_5 ⟨Nat.le_of_ble_eq_true rfl, Nat.le_of_ble_eq_true rfl⟩ (List.perm_append_singleton _ _).symm hP hD hS (fun E9 ce q9 H locs hX hP hD hS z1 z2 z3 => ?_) (fun v9 w9 H9 l9 hq => hq.elim)
  subst hX
  have hP := pm_P (List.perm_append_singleton _ _) hP
  have hD := pm_D (List.perm_append_singleton _ _) hD
  refine xc_catch (name := "java/lang/IllegalArgumentException") (cx_own C) [] ⟨0, 10, 13, 13⟩ [⟨0, 10, 17, 49⟩] (by rw [hT]; rfl) (fun z hz => absurd hz List.not_mem_nil) (by decide) (by decide) (cx_t C _ tm_87) (va_Nw.use rfl (cx_cast C tn_98)) z1 z2 z3 ?_
  refine lv_astore (lv' := [(4, .ref q9), (0, .ref x), (1, .int cn), (2, .int i), (3, .ref o)]) hx hb dL_octet_13 hl (by decide) rfl (fun ls hl => ?_)
  refine lv_iconst (v := 1) hx hb dL_octet_15 (by decide) ?_
  exact ct_iret C hS hP hD (⟨rfl, rfl⟩) (Nat.le_of_ble_eq_true rfl) (Nat.le_of_ble_eq_true rfl) dL_octet_16
set_option maxRecDepth 100000 in
theorem w_octet_x2 {l : Launch} {s0 : State} {D : va_G} {cA : Nat → ClassId} (hG : cx_G l s0 D cA) {S : Mem} {x o : Nat} {f : Nat → Int64} (cn : Int32) (i : Int32) (h1 : x ∈ mL S) (h2 : mK S x = 7) (hM : XT l s0 D cA yX8_octet cX8_octet 4 (some .int) rmT2 [.ref x, .int cn, .int i] S "java/lang/IndexOutOfBoundsException") : LC l s0 D yL_octet cL_octet 5 [(0, 10, 13, 13), (0, 10, 17, 49)] rmL [.ref x, .int cn, .int i, .ref o] ((o, .inl (cA 4, 1, .inr (.inl f))) :: pW cA S) (fun rv rw => rv = some (.int 2) ∧ rw = (o, .inl (cA 4, 1, .inr (.inl f))) :: pW cA S) := by
  refine LC.of (cA := cA) hG (by decide +kernel) (Nat.le_of_ble_eq_true rfl) ?_
  intro p e s m below meth c A C hT hP hD hS ls hl
  have hx := cx_x C
  have hb := cx_b C
  have hl : lv_has ls 5 [(0, .ref x), (1, .int cn), (2, .int i), (3, .ref o)] := hl
  refine lv_aload_n hx hb dL_octet_0 rfl (lv_at hl 3 rfl) ?_
  refine lv_iconst (v := 0) hx hb dL_octet_1 (by decide) ?_
  refine lv_aload_n hx hb dL_octet_2 rfl (lv_at hl 0 rfl) ?_
  refine lv_iload_n hx hb dL_octet_3 rfl (lv_at hl 1 rfl) ?_
  refine lv_iload_n hx hb dL_octet_4 rfl (lv_at hl 2 rfl) ?_
  refine ct_VX (As := [.int cn, .int i]) (rest := [.int 0, .ref o]) C hM tm_583 tm_584 tm_585 tm_1 tm_586 hdX8_octet ⟨Nat.le_of_ble_eq_true rfl, Nat.le_of_ble_eq_true rfl⟩ (rcv_8 C (tl_P hP) h1 h2) hl.1 rfl (Nat.le_of_ble_eq_true rfl) dL_octet_5 ⟨Nat.le_of_ble_eq_true rfl, Nat.le_of_ble_eq_true rfl⟩ (List.perm_append_singleton _ _).symm hP hD hS (fun E9 ce q9 H locs hX hP hD hS z1 z2 z3 => ?_) (fun v9 w9 H9 l9 hq => hq.elim)
  subst hX
  have hP := pm_P (List.perm_append_singleton _ _) hP
  have hD := pm_D (List.perm_append_singleton _ _) hD
  refine xc_catch (name := "java/lang/IndexOutOfBoundsException") (cx_own C) [⟨0, 10, 13, 13⟩] ⟨0, 10, 17, 49⟩ [] (by rw [hT]; rfl) (fun z hz => by rw [List.mem_singleton.mp hz]; exact Or.inr ⟨by decide, "java/lang/IllegalArgumentException", cx_t C _ tm_87, cx_nc C (by decide +kernel)⟩) (by decide) (by decide) (cx_t C _ tm_582) (va_Nw.use rfl (cx_cast C tn_594)) z1 z2 z3 ?_
  refine lv_astore (lv' := [(4, .ref q9), (0, .ref x), (1, .int cn), (2, .int i), (3, .ref o)]) hx hb dL_octet_17 hl (by decide) rfl (fun ls hl => ?_)
  refine lv_iconst (v := 2) hx hb dL_octet_19 (by decide) ?_
  exact ct_iret C hS hP hD (⟨rfl, rfl⟩) (Nat.le_of_ble_eq_true rfl) (Nat.le_of_ble_eq_true rfl) dL_octet_20
set_option maxRecDepth 100000 in
theorem w_tear_y {l : Launch} {s0 : State} {D : va_G} {cA : Nat → ClassId} (hG : cx_G l s0 D cA) {S : Mem} {x o : Nat} {f : Nat → Int64} {vv : Int32} {Φ : Mem → Prop} (cn : Int32) (i : Int32) (h1 : x ∈ mL S) (h2 : mK S x = 7) (hM : PC l s0 D cA yX8_tear cX8_tear 4 (some .int) rmX8_tear [.ref x, .int cn, .int i] S (some (.int vv)) Φ) : LC l s0 D yL_tear cL_tear 5 [(0, 10, 13, 13)] rmL [.ref x, .int cn, .int i, .ref o] ((o, .inl (cA 4, 1, .inr (.inl f))) :: pW cA S) (fun rv rw => rv = some (.int 0) ∧ ∃ S1 f1, Φ S1 ∧ f1 0 = vv.toInt64 ∧ rw = (o, .inl (cA 4, 1, .inr (.inl f1))) :: pW cA S1) := by
  refine LC.of (cA := cA) hG (by decide +kernel) (Nat.le_of_ble_eq_true rfl) ?_
  intro p e s m below meth c A C hT hP hD hS ls hl
  have hx := cx_x C
  have hb := cx_b C
  have hl : lv_has ls 5 [(0, .ref x), (1, .int cn), (2, .int i), (3, .ref o)] := hl
  refine lv_aload_n hx hb dL_tear_0 rfl (lv_at hl 3 rfl) ?_
  refine lv_iconst (v := 0) hx hb dL_tear_1 (by decide) ?_
  refine lv_aload_n hx hb dL_tear_2 rfl (lv_at hl 0 rfl) ?_
  refine lv_iload_n hx hb dL_tear_3 rfl (lv_at hl 1 rfl) ?_
  refine lv_iload_n hx hb dL_tear_4 rfl (lv_at hl 2 rfl) ?_
  refine ct_V (As := [.int cn, .int i]) (rest := [.int 0, .ref o]) C hM tm_612 tm_613 tm_614 tm_1 tm_615 hdX8_tear ⟨Nat.le_of_ble_eq_true rfl, Nat.le_of_ble_eq_true rfl⟩ (rcv_8 C (tl_P hP) h1 h2) hl.1 rfl (Nat.le_of_ble_eq_true rfl) dL_tear_5 ⟨Nat.le_of_ble_eq_true rfl, Nat.le_of_ble_eq_true rfl⟩ (List.perm_append_singleton _ _).symm hP hD hS (fun v9 w9 H locs hQ hP hD hS => ?_)
  obtain ⟨rfl, S1, rfl, hΦ⟩ := hQ
  have hP := pm_P (List.perm_append_singleton _ _) hP
  have hD := pm_D (List.perm_append_singleton _ _) hD
  refine lv_i2l (v := vv.toInt64) hx hb dL_tear_8 rfl ?_
  refine va_last (x := vv.toInt64) (cx_x C) (cx_b C) (cx_k C) hP hD hS 0 4 rfl rfl vp0 dL_tear_9 (fun H locs hP hD hS => ?_)
  refine lv_goto (tgt := 17) hx hb dL_tear_10 (by decide) ?_
  refine lv_iconst (v := 0) hx hb dL_tear_17 (by decide) ?_
  exact ct_iret C hS hP hD (⟨rfl, S1, _, hΦ, if_pos rfl, rfl⟩) (Nat.le_of_ble_eq_true rfl) (Nat.le_of_ble_eq_true rfl) dL_tear_18
set_option maxRecDepth 100000 in
theorem w_tear_x1 {l : Launch} {s0 : State} {D : va_G} {cA : Nat → ClassId} (hG : cx_G l s0 D cA) {S : Mem} {x o : Nat} {f : Nat → Int64} (cn : Int32) (i : Int32) (h1 : x ∈ mL S) (h2 : mK S x = 7) (hM : XT l s0 D cA yX8_tear cX8_tear 4 (some .int) rmT2 [.ref x, .int cn, .int i] S "java/lang/IllegalArgumentException") : LC l s0 D yL_tear cL_tear 5 [(0, 10, 13, 13)] rmL [.ref x, .int cn, .int i, .ref o] ((o, .inl (cA 4, 1, .inr (.inl f))) :: pW cA S) (fun rv rw => rv = some (.int 1) ∧ rw = (o, .inl (cA 4, 1, .inr (.inl f))) :: pW cA S) := by
  refine LC.of (cA := cA) hG (by decide +kernel) (Nat.le_of_ble_eq_true rfl) ?_
  intro p e s m below meth c A C hT hP hD hS ls hl
  have hx := cx_x C
  have hb := cx_b C
  have hl : lv_has ls 5 [(0, .ref x), (1, .int cn), (2, .int i), (3, .ref o)] := hl
  refine lv_aload_n hx hb dL_tear_0 rfl (lv_at hl 3 rfl) ?_
  refine lv_iconst (v := 0) hx hb dL_tear_1 (by decide) ?_
  refine lv_aload_n hx hb dL_tear_2 rfl (lv_at hl 0 rfl) ?_
  refine lv_iload_n hx hb dL_tear_3 rfl (lv_at hl 1 rfl) ?_
  refine lv_iload_n hx hb dL_tear_4 rfl (lv_at hl 2 rfl) ?_
  refine ct_VX (As := [.int cn, .int i]) (rest := [.int 0, .ref o]) C hM tm_612 tm_613 tm_614 tm_1 tm_615 hdX8_tear ⟨Nat.le_of_ble_eq_true rfl, Nat.le_of_ble_eq_true rfl⟩ (rcv_8 C (tl_P hP) h1 h2) hl.1 rfl (Nat.le_of_ble_eq_true rfl) dL_tear_5 ⟨Nat.le_of_ble_eq_true rfl, Nat.le_of_ble_eq_true rfl⟩ (List.perm_append_singleton _ _).symm hP hD hS (fun E9 ce q9 H locs hX hP hD hS z1 z2 z3 => ?_) (fun v9 w9 H9 l9 hq => hq.elim)
  subst hX
  have hP := pm_P (List.perm_append_singleton _ _) hP
  have hD := pm_D (List.perm_append_singleton _ _) hD
  refine xc_catch (name := "java/lang/IllegalArgumentException") (cx_own C) [] ⟨0, 10, 13, 13⟩ [] (by rw [hT]; rfl) (fun z hz => absurd hz List.not_mem_nil) (by decide) (by decide) (cx_t C _ tm_87) (va_Nw.use rfl (cx_cast C tn_98)) z1 z2 z3 ?_
  refine lv_astore (lv' := [(4, .ref q9), (0, .ref x), (1, .int cn), (2, .int i), (3, .ref o)]) hx hb dL_tear_13 hl (by decide) rfl (fun ls hl => ?_)
  refine lv_iconst (v := 1) hx hb dL_tear_15 (by decide) ?_
  exact ct_iret C hS hP hD (⟨rfl, rfl⟩) (Nat.le_of_ble_eq_true rfl) (Nat.le_of_ble_eq_true rfl) dL_tear_16
set_option maxRecDepth 100000 in
theorem w_replay_y {l : Launch} {s0 : State} {D : va_G} {cA : Nat → ClassId} (hG : cx_G l s0 D cA) {S : Mem} {x o : Nat} {f : Nat → Int64} {vv : Int32} {Φ : Mem → Prop} (cn : Int32) (h1 : x ∈ mL S) (h2 : mK S x = 7) (hM : PC l s0 D cA yX8_replay cX8_replay 4 (some .int) rmX8_replay [.ref x, .int cn] S (some (.int vv)) Φ) : LC l s0 D yL_replay cL_replay 4 [(0, 9, 12, 13)] rmL [.ref x, .int cn, .ref o] ((o, .inl (cA 4, 1, .inr (.inl f))) :: pW cA S) (fun rv rw => rv = some (.int 0) ∧ ∃ S1 f1, Φ S1 ∧ f1 0 = vv.toInt64 ∧ rw = (o, .inl (cA 4, 1, .inr (.inl f1))) :: pW cA S1) := by
  refine LC.of (cA := cA) hG (by decide +kernel) (Nat.le_of_ble_eq_true rfl) ?_
  intro p e s m below meth c A C hT hP hD hS ls hl
  have hx := cx_x C
  have hb := cx_b C
  have hl : lv_has ls 4 [(0, .ref x), (1, .int cn), (2, .ref o)] := hl
  refine lv_aload_n hx hb dL_replay_0 rfl (lv_at hl 2 rfl) ?_
  refine lv_iconst (v := 0) hx hb dL_replay_1 (by decide) ?_
  refine lv_aload_n hx hb dL_replay_2 rfl (lv_at hl 0 rfl) ?_
  refine lv_iload_n hx hb dL_replay_3 rfl (lv_at hl 1 rfl) ?_
  refine ct_V (As := [.int cn]) (rest := [.int 0, .ref o]) C hM tm_620 tm_621 tm_622 tm_1 tm_623 hdX8_replay ⟨Nat.le_of_ble_eq_true rfl, Nat.le_of_ble_eq_true rfl⟩ (rcv_8 C (tl_P hP) h1 h2) hl.1 rfl (Nat.le_of_ble_eq_true rfl) dL_replay_4 ⟨Nat.le_of_ble_eq_true rfl, Nat.le_of_ble_eq_true rfl⟩ (List.perm_append_singleton _ _).symm hP hD hS (fun v9 w9 H locs hQ hP hD hS => ?_)
  obtain ⟨rfl, S1, rfl, hΦ⟩ := hQ
  have hP := pm_P (List.perm_append_singleton _ _) hP
  have hD := pm_D (List.perm_append_singleton _ _) hD
  refine lv_i2l (v := vv.toInt64) hx hb dL_replay_7 rfl ?_
  refine va_last (x := vv.toInt64) (cx_x C) (cx_b C) (cx_k C) hP hD hS 0 4 rfl rfl vp0 dL_replay_8 (fun H locs hP hD hS => ?_)
  refine lv_goto (tgt := 15) hx hb dL_replay_9 (by decide) ?_
  refine lv_iconst (v := 0) hx hb dL_replay_15 (by decide) ?_
  exact ct_iret C hS hP hD (⟨rfl, S1, _, hΦ, if_pos rfl, rfl⟩) (Nat.le_of_ble_eq_true rfl) (Nat.le_of_ble_eq_true rfl) dL_replay_16
set_option maxRecDepth 100000 in
theorem w_replay_x1 {l : Launch} {s0 : State} {D : va_G} {cA : Nat → ClassId} (hG : cx_G l s0 D cA) {S : Mem} {x o : Nat} {f : Nat → Int64} (cn : Int32) (h1 : x ∈ mL S) (h2 : mK S x = 7) (hM : XT l s0 D cA yX8_replay cX8_replay 4 (some .int) rmT2 [.ref x, .int cn] S "java/lang/IllegalArgumentException") : LC l s0 D yL_replay cL_replay 4 [(0, 9, 12, 13)] rmL [.ref x, .int cn, .ref o] ((o, .inl (cA 4, 1, .inr (.inl f))) :: pW cA S) (fun rv rw => rv = some (.int 1) ∧ rw = (o, .inl (cA 4, 1, .inr (.inl f))) :: pW cA S) := by
  refine LC.of (cA := cA) hG (by decide +kernel) (Nat.le_of_ble_eq_true rfl) ?_
  intro p e s m below meth c A C hT hP hD hS ls hl
  have hx := cx_x C
  have hb := cx_b C
  have hl : lv_has ls 4 [(0, .ref x), (1, .int cn), (2, .ref o)] := hl
  refine lv_aload_n hx hb dL_replay_0 rfl (lv_at hl 2 rfl) ?_
  refine lv_iconst (v := 0) hx hb dL_replay_1 (by decide) ?_
  refine lv_aload_n hx hb dL_replay_2 rfl (lv_at hl 0 rfl) ?_
  refine lv_iload_n hx hb dL_replay_3 rfl (lv_at hl 1 rfl) ?_
  refine ct_VX (As := [.int cn]) (rest := [.int 0, .ref o]) C hM tm_620 tm_621 tm_622 tm_1 tm_623 hdX8_replay ⟨Nat.le_of_ble_eq_true rfl, Nat.le_of_ble_eq_true rfl⟩ (rcv_8 C (tl_P hP) h1 h2) hl.1 rfl (Nat.le_of_ble_eq_true rfl) dL_replay_4 ⟨Nat.le_of_ble_eq_true rfl, Nat.le_of_ble_eq_true rfl⟩ (List.perm_append_singleton _ _).symm hP hD hS (fun E9 ce q9 H locs hX hP hD hS z1 z2 z3 => ?_) (fun v9 w9 H9 l9 hq => hq.elim)
  subst hX
  have hP := pm_P (List.perm_append_singleton _ _) hP
  have hD := pm_D (List.perm_append_singleton _ _) hD
  refine xc_catch (name := "java/lang/IllegalArgumentException") (cx_own C) [] ⟨0, 9, 12, 13⟩ [] (by rw [hT]; rfl) (fun z hz => absurd hz List.not_mem_nil) (by decide) (by decide) (cx_t C _ tm_87) (va_Nw.use rfl (cx_cast C tn_98)) z1 z2 z3 ?_
  refine lv_astore_n (lv' := [(3, .ref q9), (0, .ref x), (1, .int cn), (2, .ref o)]) hx hb dL_replay_12 rfl hl (by decide) rfl (fun ls hl => ?_)
  refine lv_iconst (v := 1) hx hb dL_replay_13 (by decide) ?_
  exact ct_iret C hS hP hD (⟨rfl, rfl⟩) (Nat.le_of_ble_eq_true rfl) (Nat.le_of_ble_eq_true rfl) dL_replay_14
set_option maxRecDepth 100000 in
theorem w_count_y {l : Launch} {s0 : State} {D : va_G} {cA : Nat → ClassId} (hG : cx_G l s0 D cA) {S : Mem} {x o : Nat} {f : Nat → Int64} {vv : Int32} {Φ : Mem → Prop} (cn : Int32) (i : Int32) (h1 : x ∈ mL S) (h2 : mK S x = 7) (hM : PC l s0 D cA yX8_count cX8_count 4 (some .int) rmX8_count [.ref x, .int cn, .int i] S (some (.int vv)) Φ) : LC l s0 D yL_count cL_count 5 [(0, 10, 13, 13)] rmL [.ref x, .int cn, .int i, .ref o] ((o, .inl (cA 4, 1, .inr (.inl f))) :: pW cA S) (fun rv rw => rv = some (.int 0) ∧ ∃ S1 f1, Φ S1 ∧ f1 0 = vv.toInt64 ∧ rw = (o, .inl (cA 4, 1, .inr (.inl f1))) :: pW cA S1) := by
  refine LC.of (cA := cA) hG (by decide +kernel) (Nat.le_of_ble_eq_true rfl) ?_
  intro p e s m below meth c A C hT hP hD hS ls hl
  have hx := cx_x C
  have hb := cx_b C
  have hl : lv_has ls 5 [(0, .ref x), (1, .int cn), (2, .int i), (3, .ref o)] := hl
  refine lv_aload_n hx hb dL_count_0 rfl (lv_at hl 3 rfl) ?_
  refine lv_iconst (v := 0) hx hb dL_count_1 (by decide) ?_
  refine lv_aload_n hx hb dL_count_2 rfl (lv_at hl 0 rfl) ?_
  refine lv_iload_n hx hb dL_count_3 rfl (lv_at hl 1 rfl) ?_
  refine lv_iload_n hx hb dL_count_4 rfl (lv_at hl 2 rfl) ?_
  refine ct_V (As := [.int cn, .int i]) (rest := [.int 0, .ref o]) C hM tm_643 tm_644 tm_645 tm_1 tm_646 hdX8_count ⟨Nat.le_of_ble_eq_true rfl, Nat.le_of_ble_eq_true rfl⟩ (rcv_8 C (tl_P hP) h1 h2) hl.1 rfl (Nat.le_of_ble_eq_true rfl) dL_count_5 ⟨Nat.le_of_ble_eq_true rfl, Nat.le_of_ble_eq_true rfl⟩ (List.perm_append_singleton _ _).symm hP hD hS (fun v9 w9 H locs hQ hP hD hS => ?_)
  obtain ⟨rfl, S1, rfl, hΦ⟩ := hQ
  have hP := pm_P (List.perm_append_singleton _ _) hP
  have hD := pm_D (List.perm_append_singleton _ _) hD
  refine lv_i2l (v := vv.toInt64) hx hb dL_count_8 rfl ?_
  refine va_last (x := vv.toInt64) (cx_x C) (cx_b C) (cx_k C) hP hD hS 0 4 rfl rfl vp0 dL_count_9 (fun H locs hP hD hS => ?_)
  refine lv_goto (tgt := 17) hx hb dL_count_10 (by decide) ?_
  refine lv_iconst (v := 0) hx hb dL_count_17 (by decide) ?_
  exact ct_iret C hS hP hD (⟨rfl, S1, _, hΦ, if_pos rfl, rfl⟩) (Nat.le_of_ble_eq_true rfl) (Nat.le_of_ble_eq_true rfl) dL_count_18
set_option maxRecDepth 100000 in
theorem w_count_x1 {l : Launch} {s0 : State} {D : va_G} {cA : Nat → ClassId} (hG : cx_G l s0 D cA) {S : Mem} {x o : Nat} {f : Nat → Int64} (cn : Int32) (i : Int32) (h1 : x ∈ mL S) (h2 : mK S x = 7) (hM : XT l s0 D cA yX8_count cX8_count 4 (some .int) rmT2 [.ref x, .int cn, .int i] S "java/lang/IllegalArgumentException") : LC l s0 D yL_count cL_count 5 [(0, 10, 13, 13)] rmL [.ref x, .int cn, .int i, .ref o] ((o, .inl (cA 4, 1, .inr (.inl f))) :: pW cA S) (fun rv rw => rv = some (.int 1) ∧ rw = (o, .inl (cA 4, 1, .inr (.inl f))) :: pW cA S) := by
  refine LC.of (cA := cA) hG (by decide +kernel) (Nat.le_of_ble_eq_true rfl) ?_
  intro p e s m below meth c A C hT hP hD hS ls hl
  have hx := cx_x C
  have hb := cx_b C
  have hl : lv_has ls 5 [(0, .ref x), (1, .int cn), (2, .int i), (3, .ref o)] := hl
  refine lv_aload_n hx hb dL_count_0 rfl (lv_at hl 3 rfl) ?_
  refine lv_iconst (v := 0) hx hb dL_count_1 (by decide) ?_
  refine lv_aload_n hx hb dL_count_2 rfl (lv_at hl 0 rfl) ?_
  refine lv_iload_n hx hb dL_count_3 rfl (lv_at hl 1 rfl) ?_
  refine lv_iload_n hx hb dL_count_4 rfl (lv_at hl 2 rfl) ?_
  refine ct_VX (As := [.int cn, .int i]) (rest := [.int 0, .ref o]) C hM tm_643 tm_644 tm_645 tm_1 tm_646 hdX8_count ⟨Nat.le_of_ble_eq_true rfl, Nat.le_of_ble_eq_true rfl⟩ (rcv_8 C (tl_P hP) h1 h2) hl.1 rfl (Nat.le_of_ble_eq_true rfl) dL_count_5 ⟨Nat.le_of_ble_eq_true rfl, Nat.le_of_ble_eq_true rfl⟩ (List.perm_append_singleton _ _).symm hP hD hS (fun E9 ce q9 H locs hX hP hD hS z1 z2 z3 => ?_) (fun v9 w9 H9 l9 hq => hq.elim)
  subst hX
  have hP := pm_P (List.perm_append_singleton _ _) hP
  have hD := pm_D (List.perm_append_singleton _ _) hD
  refine xc_catch (name := "java/lang/IllegalArgumentException") (cx_own C) [] ⟨0, 10, 13, 13⟩ [] (by rw [hT]; rfl) (fun z hz => absurd hz List.not_mem_nil) (by decide) (by decide) (cx_t C _ tm_87) (va_Nw.use rfl (cx_cast C tn_98)) z1 z2 z3 ?_
  refine lv_astore (lv' := [(4, .ref q9), (0, .ref x), (1, .int cn), (2, .int i), (3, .ref o)]) hx hb dL_count_13 hl (by decide) rfl (fun ls hl => ?_)
  refine lv_iconst (v := 1) hx hb dL_count_15 (by decide) ?_
  exact ct_iret C hS hP hD (⟨rfl, rfl⟩) (Nat.le_of_ble_eq_true rfl) (Nat.le_of_ble_eq_true rfl) dL_count_16
set_option maxRecDepth 100000 in
theorem w_state_y {l : Launch} {s0 : State} {D : va_G} {cA : Nat → ClassId} (hG : cx_G l s0 D cA) {S : Mem} {x o : Nat} {f : Nat → Int64} {vv : Int64} {Φ : Mem → Prop} (i : Int32) (sq : Int64) (h1 : x ∈ mL S) (h2 : mK S x = 7) (hM : PC l s0 D cA yX8_state cX8_state 4 (some .long) rmX8_state [.ref x, .int i, .long sq] S (some (.long vv)) Φ) : LC l s0 D yL_state cL_state 6 [(0, 10, 13, 13)] rmL [.ref x, .int i, .long sq, .ref o] ((o, .inl (cA 4, 1, .inr (.inl f))) :: pW cA S) (fun rv rw => rv = some (.int 0) ∧ ∃ S1 f1, Φ S1 ∧ f1 0 = vv ∧ rw = (o, .inl (cA 4, 1, .inr (.inl f1))) :: pW cA S1) := by
  refine LC.of (cA := cA) hG (by decide +kernel) (Nat.le_of_ble_eq_true rfl) ?_
  intro p e s m below meth c A C hT hP hD hS ls hl
  have hx := cx_x C
  have hb := cx_b C
  have hl : lv_has ls 6 [(0, .ref x), (1, .int i), (2, .long sq), (4, .ref o)] := hl
  refine lv_aload hx hb dL_state_0 (lv_at hl 3 rfl) ?_
  refine lv_iconst (v := 0) hx hb dL_state_2 (by decide) ?_
  refine lv_aload_n hx hb dL_state_3 rfl (lv_at hl 0 rfl) ?_
  refine lv_iload_n hx hb dL_state_4 rfl (lv_at hl 1 rfl) ?_
  refine lv_lload_n hx hb dL_state_5 rfl (lv_at hl 2 rfl) ?_
  refine ct_V (As := [.int i, .long sq]) (rest := [.int 0, .ref o]) C hM tm_651 tm_652 tm_653 tm_1 tm_654 hdX8_state ⟨Nat.le_of_ble_eq_true rfl, Nat.le_of_ble_eq_true rfl⟩ (rcv_8 C (tl_P hP) h1 h2) hl.1 rfl (Nat.le_of_ble_eq_true rfl) dL_state_6 ⟨Nat.le_of_ble_eq_true rfl, Nat.le_of_ble_eq_true rfl⟩ (List.perm_append_singleton _ _).symm hP hD hS (fun v9 w9 H locs hQ hP hD hS => ?_)
  obtain ⟨rfl, S1, rfl, hΦ⟩ := hQ
  have hP := pm_P (List.perm_append_singleton _ _) hP
  have hD := pm_D (List.perm_append_singleton _ _) hD
  refine va_last (x := vv) (cx_x C) (cx_b C) (cx_k C) hP hD hS 0 4 rfl rfl vp0 dL_state_9 (fun H locs hP hD hS => ?_)
  refine lv_goto (tgt := 17) hx hb dL_state_10 (by decide) ?_
  refine lv_iconst (v := 0) hx hb dL_state_17 (by decide) ?_
  exact ct_iret C hS hP hD (⟨rfl, S1, _, hΦ, if_pos rfl, rfl⟩) (Nat.le_of_ble_eq_true rfl) (Nat.le_of_ble_eq_true rfl) dL_state_18
set_option maxRecDepth 100000 in
theorem w_state_x1 {l : Launch} {s0 : State} {D : va_G} {cA : Nat → ClassId} (hG : cx_G l s0 D cA) {S : Mem} {x o : Nat} {f : Nat → Int64} (i : Int32) (sq : Int64) (h1 : x ∈ mL S) (h2 : mK S x = 7) (hM : XT l s0 D cA yX8_state cX8_state 4 (some .long) rmT2 [.ref x, .int i, .long sq] S "java/lang/IllegalArgumentException") : LC l s0 D yL_state cL_state 6 [(0, 10, 13, 13)] rmL [.ref x, .int i, .long sq, .ref o] ((o, .inl (cA 4, 1, .inr (.inl f))) :: pW cA S) (fun rv rw => rv = some (.int 1) ∧ rw = (o, .inl (cA 4, 1, .inr (.inl f))) :: pW cA S) := by
  refine LC.of (cA := cA) hG (by decide +kernel) (Nat.le_of_ble_eq_true rfl) ?_
  intro p e s m below meth c A C hT hP hD hS ls hl
  have hx := cx_x C
  have hb := cx_b C
  have hl : lv_has ls 6 [(0, .ref x), (1, .int i), (2, .long sq), (4, .ref o)] := hl
  refine lv_aload hx hb dL_state_0 (lv_at hl 3 rfl) ?_
  refine lv_iconst (v := 0) hx hb dL_state_2 (by decide) ?_
  refine lv_aload_n hx hb dL_state_3 rfl (lv_at hl 0 rfl) ?_
  refine lv_iload_n hx hb dL_state_4 rfl (lv_at hl 1 rfl) ?_
  refine lv_lload_n hx hb dL_state_5 rfl (lv_at hl 2 rfl) ?_
  refine ct_VX (As := [.int i, .long sq]) (rest := [.int 0, .ref o]) C hM tm_651 tm_652 tm_653 tm_1 tm_654 hdX8_state ⟨Nat.le_of_ble_eq_true rfl, Nat.le_of_ble_eq_true rfl⟩ (rcv_8 C (tl_P hP) h1 h2) hl.1 rfl (Nat.le_of_ble_eq_true rfl) dL_state_6 ⟨Nat.le_of_ble_eq_true rfl, Nat.le_of_ble_eq_true rfl⟩ (List.perm_append_singleton _ _).symm hP hD hS (fun E9 ce q9 H locs hX hP hD hS z1 z2 z3 => ?_) (fun v9 w9 H9 l9 hq => hq.elim)
  subst hX
  have hP := pm_P (List.perm_append_singleton _ _) hP
  have hD := pm_D (List.perm_append_singleton _ _) hD
  refine xc_catch (name := "java/lang/IllegalArgumentException") (cx_own C) [] ⟨0, 10, 13, 13⟩ [] (by rw [hT]; rfl) (fun z hz => absurd hz List.not_mem_nil) (by decide) (by decide) (cx_t C _ tm_87) (va_Nw.use rfl (cx_cast C tn_98)) z1 z2 z3 ?_
  refine lv_astore (lv' := [(5, .ref q9), (0, .ref x), (1, .int i), (2, .long sq), (4, .ref o)]) hx hb dL_state_13 hl (by decide) rfl (fun ls hl => ?_)
  refine lv_iconst (v := 1) hx hb dL_state_15 (by decide) ?_
  exact ct_iret C hS hP hD (⟨rfl, rfl⟩) (Nat.le_of_ble_eq_true rfl) (Nat.le_of_ble_eq_true rfl) dL_state_16
