/-! ===== the class: where its methods throw ===== -/
/-- a method that throws an E; nothing has changed -/
def XT (l : Launch) (s0 : State) (D : va_G) (cA : Nat → ClassId) (y : MethodName) (b : ByteArray) (mL : Nat) (rt : Option FieldType) (rm : Room) (As : List Value) (S : Mem) (E : String) : Prop := CtX l s0 D y (.code y b mL rt :: TB) rm As (pW cA S) (fun _ _ => False) (fun X => X = E)
abbrev rmT : Room := { frames := 6, cells := 1, slots := 6, locals := 82 }
abbrev rmT1 : Room := { frames := 7, cells := 1, slots := 6, locals := 120 }
abbrev rmT2 : Room := { frames := 8, cells := 1, slots := 6, locals := 200 }
section Xt1
variable {p : Program} {l : Launch} {e : Env} {R : Room} {s : State} {m : MethodId} {args : Array Value} {below : List Frame} {meth : Method} {c : Code} {H : Heap} {locs : List Loc} {cells slots : Nat} {Q : State → Prop}
variable {s0 : State} {D : va_G} {cA : Nat → ClassId} {cc : ByteArray} {nL : Nat} {ret : Option FieldType} {own : String} {A : Nat → Prop} {post : Option Value → va_W → Prop} {PX : String → Prop}
variable {pc : Nat} {ls : Array Slot} {rest : List Value} {S : Mem} {idx mL9 x mc ms : Nat} {y : MethodName} {b : ByteArray} {rt : Option FieldType} {rm : Room} {As st : List Value} {E : String}
/-- a call that throws: this method throws it too -/
theorem xt_V (C : cx_C p l s m args meth c s0 D cA cc nL ret own A) (hE : ∀ z ∈ c.exceptionTable.toList, False) (hM : XT l s0 D cA y b mL9 rt rm (.ref x :: As) S E) (h1 : Cond.methodLink own idx y ∈ TB) (h2 : Cond.instanceMethod y ∈ TB) (h3 : Cond.selects y.cls y y ∈ TB) (h4 : Cond.initialized y.cls ∈ TB) (h5 : Cond.code y b mL9 rt ∈ TB) (hd : y.cls = y.cls ∧ y.cls ≠ "java/lang/invoke/MethodHandle" ∧ y.cls ≠ "java/lang/invoke/VarHandle" ∧ (parseMethodDescriptor y.desc).map (fun d => d.parameters.length) = some As.length) (hR : rm.frames + 1 ≤ R.frames ∧ 8 + (mL9 + 11) + rm.locals ≤ R.locals) (hr : ∃ cell : Cell, H[x]? = some cell ∧ cell.vm.isStatics = false ∧ s.vm.findClass y.cls = some cell.cls) (hz : ls.size = nL) (hst : st = As.reverse ++ .ref x :: rest) (hw : (rest.map fun v => v.category).sum ≤ 8) (d : decode cc pc = .ok (.invokevirtual idx, 3)) (hc : cells + rm.cells ≤ R.cells ∧ slots + rm.slots ≤ R.slots) (hX : PX E) (hmc : cells + rm.cells ≤ mc ∧ slots + rm.slots ≤ ms)
    (hP : va_P D vwCl (pW cA S) H) (hD : va_D A (pW cA S)) (hS : va_S A s.heap H locs) :
    W p l e R s m args below meth c H locs cells slots (vx_MQ below (cx_post D A post) (cx_X D A (pW cA S) PX) args s mc ms A) (F0 m pc ls st) := by
  refine ct_VX C hM h1 h2 h3 h4 h5 hd hR hr hz hst hw d hc pm_nil hP hD hS (fun E1 ce q H1 locs1 hx hP1 hD1 hS1 g1 g2 g3 => ?_) (fun v w1 H1 locs1 hq => hq.elim)
  subst hx
  rw [List.append_nil] at hP1
  exact cx_out C hE hX hP1 hS1 g1 g2 g3 hmc.1 hmc.2
theorem no_Smooth {hd : Nat} (C : cx_C p l s m args meth c s0 D cA cc nL ret RX8 A) (hP : va_P D vwCl (pW cA S) H) (h1 : hd ∈ mL S) (h2 : mK S hd = 6 ∨ mK S hd = 2 ∨ mK S hd = 1) (hw : Cond.classLink RX8 idx "RingPipeline$Smooth" ∈ TB) (d : decode cc pc = .ok (.instanceof idx, 3)) (kk : W p l e R s m args below meth c H locs cells slots Q (F0 m (pc + 3) ls (.int 0 :: rest))) : W p l e R s m args below meth c H locs cells slots Q (F0 m pc ls (.ref hd :: rest)) := by
  rcases h2 with h2 | h2 | h2
  · exact va_instNo (C := "RingPipeline$Sum") (cx_x C) (cx_b C) (cx_own C) (cx_t C _ hw) (cx_nc C (by decide +kernel)) (rcv_7 C hP h1 h2) d kk
  · exact va_instNo (C := "RingPipeline$Mean") (cx_x C) (cx_b C) (cx_own C) (cx_t C _ hw) (cx_nc C (by decide +kernel)) (rcv_3 C hP h1 h2) d kk
  · exact va_instNo (C := "RingPipeline$Journal") (cx_x C) (cx_b C) (cx_own C) (cx_t C _ hw) (cx_nc C (by decide +kernel)) (rcv_2 C hP h1 h2) d kk
theorem no_Mean {hd : Nat} (C : cx_C p l s m args meth c s0 D cA cc nL ret RX8 A) (hP : va_P D vwCl (pW cA S) H) (h1 : hd ∈ mL S) (h2 : mK S hd = 6 ∨ mK S hd = 5 ∨ mK S hd = 1) (hw : Cond.classLink RX8 idx "RingPipeline$Mean" ∈ TB) (d : decode cc pc = .ok (.instanceof idx, 3)) (kk : W p l e R s m args below meth c H locs cells slots Q (F0 m (pc + 3) ls (.int 0 :: rest))) : W p l e R s m args below meth c H locs cells slots Q (F0 m pc ls (.ref hd :: rest)) := by
  rcases h2 with h2 | h2 | h2
  · exact va_instNo (C := "RingPipeline$Sum") (cx_x C) (cx_b C) (cx_own C) (cx_t C _ hw) (cx_nc C (by decide +kernel)) (rcv_7 C hP h1 h2) d kk
  · exact va_instNo (C := "RingPipeline$Smooth") (cx_x C) (cx_b C) (cx_own C) (cx_t C _ hw) (cx_nc C (by decide +kernel)) (rcv_6 C hP h1 h2) d kk
  · exact va_instNo (C := "RingPipeline$Journal") (cx_x C) (cx_b C) (cx_own C) (cx_t C _ hw) (cx_nc C (by decide +kernel)) (rcv_2 C hP h1 h2) d kk
theorem no_Journal {hd : Nat} (C : cx_C p l s m args meth c s0 D cA cc nL ret RX8 A) (hP : va_P D vwCl (pW cA S) H) (h1 : hd ∈ mL S) (h2 : mK S hd = 6 ∨ mK S hd = 5 ∨ mK S hd = 2) (hw : Cond.classLink RX8 idx "RingPipeline$Journal" ∈ TB) (d : decode cc pc = .ok (.instanceof idx, 3)) (kk : W p l e R s m args below meth c H locs cells slots Q (F0 m (pc + 3) ls (.int 0 :: rest))) : W p l e R s m args below meth c H locs cells slots Q (F0 m pc ls (.ref hd :: rest)) := by
  rcases h2 with h2 | h2 | h2
  · exact va_instNo (C := "RingPipeline$Sum") (cx_x C) (cx_b C) (cx_own C) (cx_t C _ hw) (cx_nc C (by decide +kernel)) (rcv_7 C hP h1 h2) d kk
  · exact va_instNo (C := "RingPipeline$Smooth") (cx_x C) (cx_b C) (cx_own C) (cx_t C _ hw) (cx_nc C (by decide +kernel)) (rcv_6 C hP h1 h2) d kk
  · exact va_instNo (C := "RingPipeline$Mean") (cx_x C) (cx_b C) (cx_own C) (cx_t C _ hw) (cx_nc C (by decide +kernel)) (rcv_3 C hP h1 h2) d kk
end Xt1
set_option maxRecDepth 100000 in
theorem x_exist {l : Launch} {s0 : State} {D : va_G} {cA : Nat → ClassId} (hG : cx_G l s0 D cA) {S : Mem} {x r ca pa n : Nat} {A1 : Nat → Nat} (cn : Int32)  (h : plA S x r ca pa n A1) (hc : ¬ ((0 : Int32) ≤ cn ∧ cn ≤ nI n - 1)) : XT l s0 D cA yX8_existing cX8_existing 3 (some (.object "RingPipeline$Consumer")) rmT [.ref x, .int cn] S "java/lang/IllegalArgumentException" := by
  refine CtX.of (cA := cA) hG (by decide +kernel) (Nat.le_of_ble_eq_true rfl) ?_
  intro p e s m below meth c A C hE hP hD hS ls hl
  have hx := cx_x C
  have hb := cx_b C
  have hl : lv_has ls 3 [(0, .ref x), (1, .int cn)] := hl
  refine lv_iload_n hx hb dX8_existing_0 rfl (lv_at hl 1 rfl) ?_
  refine lv_iconst (v := 0) hx hb dX8_existing_1 (by decide) ?_
  refine lv_aload_n hx hb dX8_existing_2 rfl (lv_at hl 0 rfl) ?_
  refine gv_8_3 (v := nI n) C hP h.1.1 h.1.2 (h.2.2.2.2.1) tm_61 dX8_existing_3 ?_
  refine lv_iconst (v := 1) hx hb dX8_existing_6 (by decide) ?_
  refine lv_isub hx hb dX8_existing_7 ?_
  refine ct_S0 (As := [.int cn, .int 0, .int ((nI n) - 1)]) (rest := []) (r := some (.int 0)) C (w8_0 hG _ _ _ (hc)) tm_93 tm_94 tm_1 tm_95 hdX8_isWithin.2 ⟨Nat.le_of_ble_eq_true rfl, Nat.le_of_ble_eq_true rfl⟩ hl.1 rfl (Nat.le_of_ble_eq_true rfl) dX8_existing_8 ⟨Nat.le_of_ble_eq_true rfl, Nat.le_of_ble_eq_true rfl⟩ hP hD hS (fun H locs hP hD hS => ?_)
  refine lv_if_eq (tgt := 23) hx hb dX8_existing_11 (by decide) (fun _ => ?_) (fun h9 => absurd (by decide) h9)
  refine lv_null hx hb dX8_existing_23 ?_
  refine lv_astore_nN (lv' := [(2, .null), (0, .ref x), (1, .int cn)]) hx hb dX8_existing_24 rfl hl (by decide) rfl (fun ls hl => ?_)
  refine lv_aload_nN hx hb dX8_existing_25 rfl (lv_at hl 0 rfl) ?_
  refine lv_ifnonnullN hx hb dX8_existing_26 ?_
  exact cx_throw (rest := []) C hE (by decide +kernel) (by decide +kernel) tm_96 tm_7 tn_434 tn_98 at_iae rfl hP hS hl.1 dX8_existing_29 dX8_existing_32 dX8_existing_33 dX8_existing_35 dX8_existing_38 (Nat.le_of_ble_eq_true rfl) (Nat.le_of_ble_eq_true rfl) (Nat.le_of_ble_eq_true rfl) (Nat.le_of_ble_eq_true rfl) (Nat.le_of_ble_eq_true rfl) (Nat.le_of_ble_eq_true rfl)
set_option maxRecDepth 100000 in
theorem x_jof_no {l : Launch} {s0 : State} {D : va_G} {cA : Nat → ClassId} (hG : cx_G l s0 D cA) {S : Mem} {x r ca pa n : Nat} {A1 : Nat → Nat} (cn : Int32)  (h : plA S x r ca pa n A1) (hc : ¬ ((0 : Int32) ≤ cn ∧ cn ≤ nI n - 1)) : XT l s0 D cA yX8_journalOf cX8_journalOf 4 (some (.object "RingPipeline$Journal")) rmT1 [.ref x, .int cn] S "java/lang/IllegalArgumentException" := by
  refine CtX.of (cA := cA) hG (by decide +kernel) (Nat.le_of_ble_eq_true rfl) ?_
  intro p e s m below meth c A C hE hP hD hS ls hl
  have hx := cx_x C
  have hb := cx_b C
  have hl : lv_has ls 4 [(0, .ref x), (1, .int cn)] := hl
  refine lv_aload_n hx hb dX8_journalOf_0 rfl (lv_at hl 0 rfl) ?_
  refine lv_iload_n hx hb dX8_journalOf_1 rfl (lv_at hl 1 rfl) ?_
  exact xt_V (As := [.int cn]) (rest := []) C hE (x_exist hG cn h hc) tm_430 tm_432 tm_882 tm_1 tm_433 hdX8_existing ⟨Nat.le_of_ble_eq_true rfl, Nat.le_of_ble_eq_true rfl⟩ (rcv_8 C hP h.1.1 h.1.2) hl.1 rfl (Nat.le_of_ble_eq_true rfl) dX8_journalOf_2 ⟨Nat.le_of_ble_eq_true rfl, Nat.le_of_ble_eq_true rfl⟩ rfl ⟨Nat.le_of_ble_eq_true rfl, Nat.le_of_ble_eq_true rfl⟩ hP hD hS
set_option maxRecDepth 100000 in
theorem x_jof_k {l : Launch} {s0 : State} {D : va_G} {cA : Nat → ClassId} (hG : cx_G l s0 D cA) {S : Mem} {x r ca pa n : Nat} {A1 : Nat → Nat} {j hd : Nat}  (h : plA S x r ca pa n A1) (hj : j < n) (hd0 : mR S 0 (A1 j) = some hd) (h1 : hd ∈ mL S) (h2 : mK S hd = 6 ∨ mK S hd = 5 ∨ mK S hd = 2) : XT l s0 D cA yX8_journalOf cX8_journalOf 4 (some (.object "RingPipeline$Journal")) rmT1 [.ref x, .int (nI j)] S "java/lang/IllegalArgumentException" := by
  refine CtX.of (cA := cA) hG (by decide +kernel) (Nat.le_of_ble_eq_true rfl) ?_
  intro p e s m below meth c A C hE hP hD hS ls hl
  have hx := cx_x C
  have hb := cx_b C
  have hl : lv_has ls 4 [(0, .ref x), (1, .int (nI j))] := hl
  refine lv_aload_n hx hb dX8_journalOf_0 rfl (lv_at hl 0 rfl) ?_
  refine lv_iload_n hx hb dX8_journalOf_1 rfl (lv_at hl 1 rfl) ?_
  refine pc_V (As := [.int (nI j)]) (rest := []) (r := some (.ref (A1 j))) C (c_exist (S := S) hG h hj) tm_430 tm_432 tm_882 tm_1 tm_433 hdX8_existing ⟨Nat.le_of_ble_eq_true rfl, Nat.le_of_ble_eq_true rfl⟩ (rcv_8 C hP h.1.1 h.1.2) hl.1 rfl (Nat.le_of_ble_eq_true rfl) dX8_journalOf_2 ⟨Nat.le_of_ble_eq_true rfl, Nat.le_of_ble_eq_true rfl⟩ hP hD hS (fun S1 H locs hQ hP hD hS => ?_)
  rw [hQ] at hP hD
  refine gf_0_0s (b := hd) C hP (h.2.2.2.2.2.2 j (hj)).2.1 (h.2.2.2.2.2.2 j (hj)).2.2 (hd0) tm_288 dX8_journalOf_5 ?_
  refine lv_astore_n (lv' := [(3, .ref hd), (0, .ref x), (1, .int (nI j))]) hx hb dX8_journalOf_8 rfl hl (by decide) rfl (fun ls hl => ?_)
  refine lv_aload_n hx hb dX8_journalOf_9 rfl (lv_at hl 0 rfl) ?_
  refine no_Journal C hP h1 h2 tm_241 dX8_journalOf_10 ?_
  refine lv_if_eq (tgt := 23) hx hb dX8_journalOf_13 (by decide) (fun _ => ?_) (fun h9 => absurd (by decide) h9)
  exact cx_throw (rest := []) C hE (by decide +kernel) (by decide +kernel) tm_96 tm_7 tn_591 tn_98 at_iae rfl hP hS hl.1 dX8_journalOf_23 dX8_journalOf_26 dX8_journalOf_27 dX8_journalOf_29 dX8_journalOf_32 (Nat.le_of_ble_eq_true rfl) (Nat.le_of_ble_eq_true rfl) (Nat.le_of_ble_eq_true rfl) (Nat.le_of_ble_eq_true rfl) (Nat.le_of_ble_eq_true rfl) (Nat.le_of_ble_eq_true rfl)
set_option maxRecDepth 100000 in
theorem x_place {l : Launch} {s0 : State} {D : va_G} {cA : Nat → ClassId} (hG : cx_G l s0 D cA) {S : Mem} {x r ca pa n : Nat} {A1 : Nat → Nat} (cn : Int32)  (h : plA S x r ca pa n A1) (hc : ¬ ((0 : Int32) ≤ cn ∧ cn ≤ nI n - 1)) : XT l s0 D cA yX8_place cX8_place 2 (some .long) rmT2 [.ref x, .int cn] S "java/lang/IllegalArgumentException" := by
  refine CtX.of (cA := cA) hG (by decide +kernel) (Nat.le_of_ble_eq_true rfl) ?_
  intro p e s m below meth c A C hE hP hD hS ls hl
  have hx := cx_x C
  have hb := cx_b C
  have hl : lv_has ls 2 [(0, .ref x), (1, .int cn)] := hl
  refine lv_aload_n hx hb dX8_place_0 rfl (lv_at hl 0 rfl) ?_
  refine lv_iload_n hx hb dX8_place_1 rfl (lv_at hl 1 rfl) ?_
  exact xt_V (As := [.int cn]) (rest := []) C hE (x_exist hG cn h hc) tm_430 tm_432 tm_882 tm_1 tm_433 hdX8_existing ⟨Nat.le_of_ble_eq_true rfl, Nat.le_of_ble_eq_true rfl⟩ (rcv_8 C hP h.1.1 h.1.2) hl.1 rfl (Nat.le_of_ble_eq_true rfl) dX8_place_2 ⟨Nat.le_of_ble_eq_true rfl, Nat.le_of_ble_eq_true rfl⟩ rfl ⟨Nat.le_of_ble_eq_true rfl, Nat.le_of_ble_eq_true rfl⟩ hP hD hS
set_option maxRecDepth 100000 in
theorem x_total {l : Launch} {s0 : State} {D : va_G} {cA : Nat → ClassId} (hG : cx_G l s0 D cA) {S : Mem} {x r ca pa n : Nat} {A1 : Nat → Nat} (cn : Int32)  (h : plA S x r ca pa n A1) (hc : ¬ ((0 : Int32) ≤ cn ∧ cn ≤ nI n - 1)) : XT l s0 D cA yX8_total cX8_total 2 (some .long) rmT2 [.ref x, .int cn] S "java/lang/IllegalArgumentException" := by
  refine CtX.of (cA := cA) hG (by decide +kernel) (Nat.le_of_ble_eq_true rfl) ?_
  intro p e s m below meth c A C hE hP hD hS ls hl
  have hx := cx_x C
  have hb := cx_b C
  have hl : lv_has ls 2 [(0, .ref x), (1, .int cn)] := hl
  refine lv_aload_n hx hb dX8_total_0 rfl (lv_at hl 0 rfl) ?_
  refine lv_iload_n hx hb dX8_total_1 rfl (lv_at hl 1 rfl) ?_
  exact xt_V (As := [.int cn]) (rest := []) C hE (x_exist hG cn h hc) tm_430 tm_432 tm_882 tm_1 tm_433 hdX8_existing ⟨Nat.le_of_ble_eq_true rfl, Nat.le_of_ble_eq_true rfl⟩ (rcv_8 C hP h.1.1 h.1.2) hl.1 rfl (Nat.le_of_ble_eq_true rfl) dX8_total_2 ⟨Nat.le_of_ble_eq_true rfl, Nat.le_of_ble_eq_true rfl⟩ rfl ⟨Nat.le_of_ble_eq_true rfl, Nat.le_of_ble_eq_true rfl⟩ hP hD hS
set_option maxRecDepth 100000 in
theorem x_level_no {l : Launch} {s0 : State} {D : va_G} {cA : Nat → ClassId} (hG : cx_G l s0 D cA) {S : Mem} {x r ca pa n : Nat} {A1 : Nat → Nat} (cn : Int32)  (h : plA S x r ca pa n A1) (hc : ¬ ((0 : Int32) ≤ cn ∧ cn ≤ nI n - 1)) : XT l s0 D cA yX8_level cX8_level 4 (some .float) rmT2 [.ref x, .int cn] S "java/lang/IllegalArgumentException" := by
  refine CtX.of (cA := cA) hG (by decide +kernel) (Nat.le_of_ble_eq_true rfl) ?_
  intro p e s m below meth c A C hE hP hD hS ls hl
  have hx := cx_x C
  have hb := cx_b C
  have hl : lv_has ls 4 [(0, .ref x), (1, .int cn)] := hl
  refine lv_aload_n hx hb dX8_level_0 rfl (lv_at hl 0 rfl) ?_
  refine lv_iload_n hx hb dX8_level_1 rfl (lv_at hl 1 rfl) ?_
  exact xt_V (As := [.int cn]) (rest := []) C hE (x_exist hG cn h hc) tm_430 tm_432 tm_882 tm_1 tm_433 hdX8_existing ⟨Nat.le_of_ble_eq_true rfl, Nat.le_of_ble_eq_true rfl⟩ (rcv_8 C hP h.1.1 h.1.2) hl.1 rfl (Nat.le_of_ble_eq_true rfl) dX8_level_2 ⟨Nat.le_of_ble_eq_true rfl, Nat.le_of_ble_eq_true rfl⟩ rfl ⟨Nat.le_of_ble_eq_true rfl, Nat.le_of_ble_eq_true rfl⟩ hP hD hS
set_option maxRecDepth 100000 in
theorem x_level_k {l : Launch} {s0 : State} {D : va_G} {cA : Nat → ClassId} (hG : cx_G l s0 D cA) {S : Mem} {x r ca pa n : Nat} {A1 : Nat → Nat} {j hd : Nat}  (h : plA S x r ca pa n A1) (hj : j < n) (hd0 : mR S 0 (A1 j) = some hd) (h1 : hd ∈ mL S) (h2 : mK S hd = 6 ∨ mK S hd = 2 ∨ mK S hd = 1) : XT l s0 D cA yX8_level cX8_level 4 (some .float) rmT2 [.ref x, .int (nI j)] S "java/lang/IllegalArgumentException" := by
  refine CtX.of (cA := cA) hG (by decide +kernel) (Nat.le_of_ble_eq_true rfl) ?_
  intro p e s m below meth c A C hE hP hD hS ls hl
  have hx := cx_x C
  have hb := cx_b C
  have hl : lv_has ls 4 [(0, .ref x), (1, .int (nI j))] := hl
  refine lv_aload_n hx hb dX8_level_0 rfl (lv_at hl 0 rfl) ?_
  refine lv_iload_n hx hb dX8_level_1 rfl (lv_at hl 1 rfl) ?_
  refine pc_V (As := [.int (nI j)]) (rest := []) (r := some (.ref (A1 j))) C (c_exist (S := S) hG h hj) tm_430 tm_432 tm_882 tm_1 tm_433 hdX8_existing ⟨Nat.le_of_ble_eq_true rfl, Nat.le_of_ble_eq_true rfl⟩ (rcv_8 C hP h.1.1 h.1.2) hl.1 rfl (Nat.le_of_ble_eq_true rfl) dX8_level_2 ⟨Nat.le_of_ble_eq_true rfl, Nat.le_of_ble_eq_true rfl⟩ hP hD hS (fun S1 H locs hQ hP hD hS => ?_)
  rw [hQ] at hP hD
  refine gf_0_0s (b := hd) C hP (h.2.2.2.2.2.2 j (hj)).2.1 (h.2.2.2.2.2.2 j (hj)).2.2 (hd0) tm_288 dX8_level_5 ?_
  refine lv_astore_n (lv' := [(3, .ref hd), (0, .ref x), (1, .int (nI j))]) hx hb dX8_level_8 rfl hl (by decide) rfl (fun ls hl => ?_)
  refine lv_aload_n hx hb dX8_level_9 rfl (lv_at hl 0 rfl) ?_
  refine no_Smooth C hP h1 h2 tm_207 dX8_level_10 ?_
  refine lv_if_eq (tgt := 26) hx hb dX8_level_13 (by decide) (fun _ => ?_) (fun h9 => absurd (by decide) h9)
  exact cx_throw (rest := []) C hE (by decide +kernel) (by decide +kernel) tm_96 tm_7 tn_570 tn_98 at_iae rfl hP hS hl.1 dX8_level_26 dX8_level_29 dX8_level_30 dX8_level_32 dX8_level_35 (Nat.le_of_ble_eq_true rfl) (Nat.le_of_ble_eq_true rfl) (Nat.le_of_ble_eq_true rfl) (Nat.le_of_ble_eq_true rfl) (Nat.le_of_ble_eq_true rfl) (Nat.le_of_ble_eq_true rfl)
set_option maxRecDepth 100000 in
theorem x_mean_no {l : Launch} {s0 : State} {D : va_G} {cA : Nat → ClassId} (hG : cx_G l s0 D cA) {S : Mem} {x r ca pa n : Nat} {A1 : Nat → Nat} (cn : Int32)  (h : plA S x r ca pa n A1) (hc : ¬ ((0 : Int32) ≤ cn ∧ cn ≤ nI n - 1)) : XT l s0 D cA yX8_mean cX8_mean 4 (some .double) rmT2 [.ref x, .int cn] S "java/lang/IllegalArgumentException" := by
  refine CtX.of (cA := cA) hG (by decide +kernel) (Nat.le_of_ble_eq_true rfl) ?_
  intro p e s m below meth c A C hE hP hD hS ls hl
  have hx := cx_x C
  have hb := cx_b C
  have hl : lv_has ls 4 [(0, .ref x), (1, .int cn)] := hl
  refine lv_aload_n hx hb dX8_mean_0 rfl (lv_at hl 0 rfl) ?_
  refine lv_iload_n hx hb dX8_mean_1 rfl (lv_at hl 1 rfl) ?_
  exact xt_V (As := [.int cn]) (rest := []) C hE (x_exist hG cn h hc) tm_430 tm_432 tm_882 tm_1 tm_433 hdX8_existing ⟨Nat.le_of_ble_eq_true rfl, Nat.le_of_ble_eq_true rfl⟩ (rcv_8 C hP h.1.1 h.1.2) hl.1 rfl (Nat.le_of_ble_eq_true rfl) dX8_mean_2 ⟨Nat.le_of_ble_eq_true rfl, Nat.le_of_ble_eq_true rfl⟩ rfl ⟨Nat.le_of_ble_eq_true rfl, Nat.le_of_ble_eq_true rfl⟩ hP hD hS
set_option maxRecDepth 100000 in
theorem x_mean_k {l : Launch} {s0 : State} {D : va_G} {cA : Nat → ClassId} (hG : cx_G l s0 D cA) {S : Mem} {x r ca pa n : Nat} {A1 : Nat → Nat} {j hd : Nat}  (h : plA S x r ca pa n A1) (hj : j < n) (hd0 : mR S 0 (A1 j) = some hd) (h1 : hd ∈ mL S) (h2 : mK S hd = 6 ∨ mK S hd = 5 ∨ mK S hd = 1) : XT l s0 D cA yX8_mean cX8_mean 4 (some .double) rmT2 [.ref x, .int (nI j)] S "java/lang/IllegalArgumentException" := by
  refine CtX.of (cA := cA) hG (by decide +kernel) (Nat.le_of_ble_eq_true rfl) ?_
  intro p e s m below meth c A C hE hP hD hS ls hl
  have hx := cx_x C
  have hb := cx_b C
  have hl : lv_has ls 4 [(0, .ref x), (1, .int (nI j))] := hl
  refine lv_aload_n hx hb dX8_mean_0 rfl (lv_at hl 0 rfl) ?_
  refine lv_iload_n hx hb dX8_mean_1 rfl (lv_at hl 1 rfl) ?_
  refine pc_V (As := [.int (nI j)]) (rest := []) (r := some (.ref (A1 j))) C (c_exist (S := S) hG h hj) tm_430 tm_432 tm_882 tm_1 tm_433 hdX8_existing ⟨Nat.le_of_ble_eq_true rfl, Nat.le_of_ble_eq_true rfl⟩ (rcv_8 C hP h.1.1 h.1.2) hl.1 rfl (Nat.le_of_ble_eq_true rfl) dX8_mean_2 ⟨Nat.le_of_ble_eq_true rfl, Nat.le_of_ble_eq_true rfl⟩ hP hD hS (fun S1 H locs hQ hP hD hS => ?_)
  rw [hQ] at hP hD
  refine gf_0_0s (b := hd) C hP (h.2.2.2.2.2.2 j (hj)).2.1 (h.2.2.2.2.2.2 j (hj)).2.2 (hd0) tm_288 dX8_mean_5 ?_
  refine lv_astore_n (lv' := [(3, .ref hd), (0, .ref x), (1, .int (nI j))]) hx hb dX8_mean_8 rfl hl (by decide) rfl (fun ls hl => ?_)
  refine lv_aload_n hx hb dX8_mean_9 rfl (lv_at hl 0 rfl) ?_
  refine no_Mean C hP h1 h2 tm_221 dX8_mean_10 ?_
  refine lv_if_eq (tgt := 26) hx hb dX8_mean_13 (by decide) (fun _ => ?_) (fun h9 => absurd (by decide) h9)
  exact cx_throw (rest := []) C hE (by decide +kernel) (by decide +kernel) tm_96 tm_7 tn_578 tn_98 at_iae rfl hP hS hl.1 dX8_mean_26 dX8_mean_29 dX8_mean_30 dX8_mean_32 dX8_mean_35 (Nat.le_of_ble_eq_true rfl) (Nat.le_of_ble_eq_true rfl) (Nat.le_of_ble_eq_true rfl) (Nat.le_of_ble_eq_true rfl) (Nat.le_of_ble_eq_true rfl) (Nat.le_of_ble_eq_true rfl)
set_option maxRecDepth 100000 in
theorem x_octet_no {l : Launch} {s0 : State} {D : va_G} {cA : Nat → ClassId} (hG : cx_G l s0 D cA) {S : Mem} {x r ca pa n : Nat} {A1 : Nat → Nat} (cn : Int32) (i : Int32)  (h : plA S x r ca pa n A1) (hc : ¬ ((0 : Int32) ≤ cn ∧ cn ≤ nI n - 1)) : XT l s0 D cA yX8_octet cX8_octet 4 (some .int) rmT2 [.ref x, .int cn, .int i] S "java/lang/IllegalArgumentException" := by
  refine CtX.of (cA := cA) hG (by decide +kernel) (Nat.le_of_ble_eq_true rfl) ?_
  intro p e s m below meth c A C hE hP hD hS ls hl
  have hx := cx_x C
  have hb := cx_b C
  have hl : lv_has ls 4 [(0, .ref x), (1, .int cn), (2, .int i)] := hl
  refine lv_aload_n hx hb dX8_octet_0 rfl (lv_at hl 0 rfl) ?_
  refine lv_iload_n hx hb dX8_octet_1 rfl (lv_at hl 1 rfl) ?_
  exact xt_V (As := [.int cn]) (rest := []) C hE (x_jof_no hG cn h hc) tm_587 tm_589 tm_891 tm_1 tm_590 hdX8_journalOf ⟨Nat.le_of_ble_eq_true rfl, Nat.le_of_ble_eq_true rfl⟩ (rcv_8 C hP h.1.1 h.1.2) hl.1 rfl (Nat.le_of_ble_eq_true rfl) dX8_octet_2 ⟨Nat.le_of_ble_eq_true rfl, Nat.le_of_ble_eq_true rfl⟩ rfl ⟨Nat.le_of_ble_eq_true rfl, Nat.le_of_ble_eq_true rfl⟩ hP hD hS
set_option maxRecDepth 100000 in
theorem x_octet_k {l : Launch} {s0 : State} {D : va_G} {cA : Nat → ClassId} (hG : cx_G l s0 D cA) {S : Mem} {x r ca pa n : Nat} {A1 : Nat → Nat} {j hd : Nat} (i : Int32)  (h : plA S x r ca pa n A1) (hj : j < n) (hd0 : mR S 0 (A1 j) = some hd) (h1 : hd ∈ mL S) (h2 : mK S hd = 6 ∨ mK S hd = 5 ∨ mK S hd = 2) : XT l s0 D cA yX8_octet cX8_octet 4 (some .int) rmT2 [.ref x, .int (nI j), .int i] S "java/lang/IllegalArgumentException" := by
  refine CtX.of (cA := cA) hG (by decide +kernel) (Nat.le_of_ble_eq_true rfl) ?_
  intro p e s m below meth c A C hE hP hD hS ls hl
  have hx := cx_x C
  have hb := cx_b C
  have hl : lv_has ls 4 [(0, .ref x), (1, .int (nI j)), (2, .int i)] := hl
  refine lv_aload_n hx hb dX8_octet_0 rfl (lv_at hl 0 rfl) ?_
  refine lv_iload_n hx hb dX8_octet_1 rfl (lv_at hl 1 rfl) ?_
  exact xt_V (As := [.int (nI j)]) (rest := []) C hE (x_jof_k hG h hj hd0 h1 h2) tm_587 tm_589 tm_891 tm_1 tm_590 hdX8_journalOf ⟨Nat.le_of_ble_eq_true rfl, Nat.le_of_ble_eq_true rfl⟩ (rcv_8 C hP h.1.1 h.1.2) hl.1 rfl (Nat.le_of_ble_eq_true rfl) dX8_octet_2 ⟨Nat.le_of_ble_eq_true rfl, Nat.le_of_ble_eq_true rfl⟩ rfl ⟨Nat.le_of_ble_eq_true rfl, Nat.le_of_ble_eq_true rfl⟩ hP hD hS
set_option maxRecDepth 100000 in
theorem x_tear_no {l : Launch} {s0 : State} {D : va_G} {cA : Nat → ClassId} (hG : cx_G l s0 D cA) {S : Mem} {x r ca pa n : Nat} {A1 : Nat → Nat} (cn : Int32) (i : Int32)  (h : plA S x r ca pa n A1) (hc : ¬ ((0 : Int32) ≤ cn ∧ cn ≤ nI n - 1)) : XT l s0 D cA yX8_tear cX8_tear 4 (some .int) rmT2 [.ref x, .int cn, .int i] S "java/lang/IllegalArgumentException" := by
  refine CtX.of (cA := cA) hG (by decide +kernel) (Nat.le_of_ble_eq_true rfl) ?_
  intro p e s m below meth c A C hE hP hD hS ls hl
  have hx := cx_x C
  have hb := cx_b C
  have hl : lv_has ls 4 [(0, .ref x), (1, .int cn), (2, .int i)] := hl
  refine lv_aload_n hx hb dX8_tear_0 rfl (lv_at hl 0 rfl) ?_
  refine lv_iload_n hx hb dX8_tear_1 rfl (lv_at hl 1 rfl) ?_
  exact xt_V (As := [.int cn]) (rest := []) C hE (x_jof_no hG cn h hc) tm_587 tm_589 tm_891 tm_1 tm_590 hdX8_journalOf ⟨Nat.le_of_ble_eq_true rfl, Nat.le_of_ble_eq_true rfl⟩ (rcv_8 C hP h.1.1 h.1.2) hl.1 rfl (Nat.le_of_ble_eq_true rfl) dX8_tear_2 ⟨Nat.le_of_ble_eq_true rfl, Nat.le_of_ble_eq_true rfl⟩ rfl ⟨Nat.le_of_ble_eq_true rfl, Nat.le_of_ble_eq_true rfl⟩ hP hD hS
set_option maxRecDepth 100000 in
theorem x_tear_k {l : Launch} {s0 : State} {D : va_G} {cA : Nat → ClassId} (hG : cx_G l s0 D cA) {S : Mem} {x r ca pa n : Nat} {A1 : Nat → Nat} {j hd : Nat} (i : Int32)  (h : plA S x r ca pa n A1) (hj : j < n) (hd0 : mR S 0 (A1 j) = some hd) (h1 : hd ∈ mL S) (h2 : mK S hd = 6 ∨ mK S hd = 5 ∨ mK S hd = 2) : XT l s0 D cA yX8_tear cX8_tear 4 (some .int) rmT2 [.ref x, .int (nI j), .int i] S "java/lang/IllegalArgumentException" := by
  refine CtX.of (cA := cA) hG (by decide +kernel) (Nat.le_of_ble_eq_true rfl) ?_
  intro p e s m below meth c A C hE hP hD hS ls hl
  have hx := cx_x C
  have hb := cx_b C
  have hl : lv_has ls 4 [(0, .ref x), (1, .int (nI j)), (2, .int i)] := hl
  refine lv_aload_n hx hb dX8_tear_0 rfl (lv_at hl 0 rfl) ?_
  refine lv_iload_n hx hb dX8_tear_1 rfl (lv_at hl 1 rfl) ?_
  exact xt_V (As := [.int (nI j)]) (rest := []) C hE (x_jof_k hG h hj hd0 h1 h2) tm_587 tm_589 tm_891 tm_1 tm_590 hdX8_journalOf ⟨Nat.le_of_ble_eq_true rfl, Nat.le_of_ble_eq_true rfl⟩ (rcv_8 C hP h.1.1 h.1.2) hl.1 rfl (Nat.le_of_ble_eq_true rfl) dX8_tear_2 ⟨Nat.le_of_ble_eq_true rfl, Nat.le_of_ble_eq_true rfl⟩ rfl ⟨Nat.le_of_ble_eq_true rfl, Nat.le_of_ble_eq_true rfl⟩ hP hD hS
set_option maxRecDepth 100000 in
theorem x_replay_no {l : Launch} {s0 : State} {D : va_G} {cA : Nat → ClassId} (hG : cx_G l s0 D cA) {S : Mem} {x r ca pa n : Nat} {A1 : Nat → Nat} (cn : Int32)  (h : plA S x r ca pa n A1) (hc : ¬ ((0 : Int32) ≤ cn ∧ cn ≤ nI n - 1)) : XT l s0 D cA yX8_replay cX8_replay 4 (some .int) rmT2 [.ref x, .int cn] S "java/lang/IllegalArgumentException" := by
  refine CtX.of (cA := cA) hG (by decide +kernel) (Nat.le_of_ble_eq_true rfl) ?_
  intro p e s m below meth c A C hE hP hD hS ls hl
  have hx := cx_x C
  have hb := cx_b C
  have hl : lv_has ls 4 [(0, .ref x), (1, .int cn)] := hl
  refine lv_aload_n hx hb dX8_replay_0 rfl (lv_at hl 0 rfl) ?_
  refine lv_iload_n hx hb dX8_replay_1 rfl (lv_at hl 1 rfl) ?_
  exact xt_V (As := [.int cn]) (rest := []) C hE (x_jof_no hG cn h hc) tm_587 tm_589 tm_891 tm_1 tm_590 hdX8_journalOf ⟨Nat.le_of_ble_eq_true rfl, Nat.le_of_ble_eq_true rfl⟩ (rcv_8 C hP h.1.1 h.1.2) hl.1 rfl (Nat.le_of_ble_eq_true rfl) dX8_replay_2 ⟨Nat.le_of_ble_eq_true rfl, Nat.le_of_ble_eq_true rfl⟩ rfl ⟨Nat.le_of_ble_eq_true rfl, Nat.le_of_ble_eq_true rfl⟩ hP hD hS
set_option maxRecDepth 100000 in
theorem x_replay_k {l : Launch} {s0 : State} {D : va_G} {cA : Nat → ClassId} (hG : cx_G l s0 D cA) {S : Mem} {x r ca pa n : Nat} {A1 : Nat → Nat} {j hd : Nat}  (h : plA S x r ca pa n A1) (hj : j < n) (hd0 : mR S 0 (A1 j) = some hd) (h1 : hd ∈ mL S) (h2 : mK S hd = 6 ∨ mK S hd = 5 ∨ mK S hd = 2) : XT l s0 D cA yX8_replay cX8_replay 4 (some .int) rmT2 [.ref x, .int (nI j)] S "java/lang/IllegalArgumentException" := by
  refine CtX.of (cA := cA) hG (by decide +kernel) (Nat.le_of_ble_eq_true rfl) ?_
  intro p e s m below meth c A C hE hP hD hS ls hl
  have hx := cx_x C
  have hb := cx_b C
  have hl : lv_has ls 4 [(0, .ref x), (1, .int (nI j))] := hl
  refine lv_aload_n hx hb dX8_replay_0 rfl (lv_at hl 0 rfl) ?_
  refine lv_iload_n hx hb dX8_replay_1 rfl (lv_at hl 1 rfl) ?_
  exact xt_V (As := [.int (nI j)]) (rest := []) C hE (x_jof_k hG h hj hd0 h1 h2) tm_587 tm_589 tm_891 tm_1 tm_590 hdX8_journalOf ⟨Nat.le_of_ble_eq_true rfl, Nat.le_of_ble_eq_true rfl⟩ (rcv_8 C hP h.1.1 h.1.2) hl.1 rfl (Nat.le_of_ble_eq_true rfl) dX8_replay_2 ⟨Nat.le_of_ble_eq_true rfl, Nat.le_of_ble_eq_true rfl⟩ rfl ⟨Nat.le_of_ble_eq_true rfl, Nat.le_of_ble_eq_true rfl⟩ hP hD hS
set_option maxRecDepth 100000 in
theorem x_octet_i {l : Launch} {s0 : State} {D : va_G} {cA : Nat → ClassId} (hG : cx_G l s0 D cA) {S : Mem} {x r ca pa n : Nat} {A1 : Nat → Nat} {j hd b z : Nat} (i : Int32)  (h : plA S x r ca pa n A1) (hj : j < n) (hd0 : mR S 0 (A1 j) = some hd) (hJ : jrA S hd b z) (hw : ¬ ((0 : Int32) ≤ i ∧ i ≤ nI z - 1)) : XT l s0 D cA yX8_octet cX8_octet 4 (some .int) rmT2 [.ref x, .int (nI j), .int i] S "java/lang/IndexOutOfBoundsException" := by
  refine CtX.of (cA := cA) hG (by decide +kernel) (Nat.le_of_ble_eq_true rfl) ?_
  intro p e s m below meth c A C hE hP hD hS ls hl
  have hx := cx_x C
  have hb := cx_b C
  have hl : lv_has ls 4 [(0, .ref x), (1, .int (nI j)), (2, .int i)] := hl
  refine lv_aload_n hx hb dX8_octet_0 rfl (lv_at hl 0 rfl) ?_
  refine lv_iload_n hx hb dX8_octet_1 rfl (lv_at hl 1 rfl) ?_
  refine pc_V (As := [.int (nI j)]) (rest := []) (r := some (.ref hd)) C (c_journalOf (S := S) hG h hj hd0 hJ.1.1 hJ.1.2) tm_587 tm_589 tm_891 tm_1 tm_590 hdX8_journalOf ⟨Nat.le_of_ble_eq_true rfl, Nat.le_of_ble_eq_true rfl⟩ (rcv_8 C hP h.1.1 h.1.2) hl.1 rfl (Nat.le_of_ble_eq_true rfl) dX8_octet_2 ⟨Nat.le_of_ble_eq_true rfl, Nat.le_of_ble_eq_true rfl⟩ hP hD hS (fun S1 H locs hQ hP hD hS => ?_)
  rw [hQ] at hP hD
  refine lv_astore_n (lv' := [(3, .ref hd), (0, .ref x), (1, .int (nI j)), (2, .int i)]) hx hb dX8_octet_5 rfl hl (by decide) rfl (fun ls hl => ?_)
  refine lv_iload_n hx hb dX8_octet_6 rfl (lv_at hl 3 rfl) ?_
  refine lv_iconst (v := 0) hx hb dX8_octet_7 (by decide) ?_
  refine lv_aload_n hx hb dX8_octet_8 rfl (lv_at hl 0 rfl) ?_
  refine gv_2_1 (v := nI z) C hP hJ.1.1 hJ.1.2 (hJ.2.2.2) tm_249 dX8_octet_9 ?_
  refine lv_iconst (v := 1) hx hb dX8_octet_12 (by decide) ?_
  refine lv_isub hx hb dX8_octet_13 ?_
  refine ct_S0 (As := [.int i, .int 0, .int ((nI z) - 1)]) (rest := []) (r := some (.int 0)) C (w8_0 hG _ _ _ (hw)) tm_93 tm_94 tm_1 tm_95 hdX8_isWithin.2 ⟨Nat.le_of_ble_eq_true rfl, Nat.le_of_ble_eq_true rfl⟩ hl.1 rfl (Nat.le_of_ble_eq_true rfl) dX8_octet_14 ⟨Nat.le_of_ble_eq_true rfl, Nat.le_of_ble_eq_true rfl⟩ hP hD hS (fun H locs hP hD hS => ?_)
  refine lv_if_ne (tgt := 30) hx hb dX8_octet_17 (by decide) (fun h9 => absurd rfl h9) (fun _ => ?_)
  exact cx_throw (rest := []) C hE (by decide +kernel) (by decide +kernel) tm_592 tm_18 tn_601 tn_594 at_ioo rfl hP hS hl.1 dX8_octet_20 dX8_octet_23 dX8_octet_24 dX8_octet_26 dX8_octet_29 (Nat.le_of_ble_eq_true rfl) (Nat.le_of_ble_eq_true rfl) (Nat.le_of_ble_eq_true rfl) (Nat.le_of_ble_eq_true rfl) (Nat.le_of_ble_eq_true rfl) (Nat.le_of_ble_eq_true rfl)
set_option maxRecDepth 100000 in
theorem x_tear_i {l : Launch} {s0 : State} {D : va_G} {cA : Nat → ClassId} (hG : cx_G l s0 D cA) {S : Mem} {x r ca pa n : Nat} {A1 : Nat → Nat} {j hd b z : Nat} (i : Int32)  (h : plA S x r ca pa n A1) (hj : j < n) (hd0 : mR S 0 (A1 j) = some hd) (hJ : jrA S hd b z) (hw : ¬ ((0 : Int32) ≤ i ∧ i ≤ nI z)) : XT l s0 D cA yX8_tear cX8_tear 4 (some .int) rmT2 [.ref x, .int (nI j), .int i] S "java/lang/IllegalArgumentException" := by
  refine CtX.of (cA := cA) hG (by decide +kernel) (Nat.le_of_ble_eq_true rfl) ?_
  intro p e s m below meth c A C hE hP hD hS ls hl
  have hx := cx_x C
  have hb := cx_b C
  have hl : lv_has ls 4 [(0, .ref x), (1, .int (nI j)), (2, .int i)] := hl
  refine lv_aload_n hx hb dX8_tear_0 rfl (lv_at hl 0 rfl) ?_
  refine lv_iload_n hx hb dX8_tear_1 rfl (lv_at hl 1 rfl) ?_
  refine pc_V (As := [.int (nI j)]) (rest := []) (r := some (.ref hd)) C (c_journalOf (S := S) hG h hj hd0 hJ.1.1 hJ.1.2) tm_587 tm_589 tm_891 tm_1 tm_590 hdX8_journalOf ⟨Nat.le_of_ble_eq_true rfl, Nat.le_of_ble_eq_true rfl⟩ (rcv_8 C hP h.1.1 h.1.2) hl.1 rfl (Nat.le_of_ble_eq_true rfl) dX8_tear_2 ⟨Nat.le_of_ble_eq_true rfl, Nat.le_of_ble_eq_true rfl⟩ hP hD hS (fun S1 H locs hQ hP hD hS => ?_)
  rw [hQ] at hP hD
  refine lv_astore_n (lv' := [(3, .ref hd), (0, .ref x), (1, .int (nI j)), (2, .int i)]) hx hb dX8_tear_5 rfl hl (by decide) rfl (fun ls hl => ?_)
  refine lv_iload_n hx hb dX8_tear_6 rfl (lv_at hl 3 rfl) ?_
  refine lv_iconst (v := 0) hx hb dX8_tear_7 (by decide) ?_
  refine lv_aload_n hx hb dX8_tear_8 rfl (lv_at hl 0 rfl) ?_
  refine gv_2_1 (v := nI z) C hP hJ.1.1 hJ.1.2 (hJ.2.2.2) tm_249 dX8_tear_9 ?_
  refine ct_S0 (As := [.int i, .int 0, .int (nI z)]) (rest := []) (r := some (.int 0)) C (w8_0 hG _ _ _ (hw)) tm_93 tm_94 tm_1 tm_95 hdX8_isWithin.2 ⟨Nat.le_of_ble_eq_true rfl, Nat.le_of_ble_eq_true rfl⟩ hl.1 rfl (Nat.le_of_ble_eq_true rfl) dX8_tear_12 ⟨Nat.le_of_ble_eq_true rfl, Nat.le_of_ble_eq_true rfl⟩ hP hD hS (fun H locs hP hD hS => ?_)
  refine lv_if_ne (tgt := 28) hx hb dX8_tear_15 (by decide) (fun h9 => absurd rfl h9) (fun _ => ?_)
  exact cx_throw (rest := []) C hE (by decide +kernel) (by decide +kernel) tm_96 tm_7 tn_616 tn_98 at_iae rfl hP hS hl.1 dX8_tear_18 dX8_tear_21 dX8_tear_22 dX8_tear_24 dX8_tear_27 (Nat.le_of_ble_eq_true rfl) (Nat.le_of_ble_eq_true rfl) (Nat.le_of_ble_eq_true rfl) (Nat.le_of_ble_eq_true rfl) (Nat.le_of_ble_eq_true rfl) (Nat.le_of_ble_eq_true rfl)
set_option maxRecDepth 100000 in
theorem x_count_no {l : Launch} {s0 : State} {D : va_G} {cA : Nat → ClassId} (hG : cx_G l s0 D cA) {S : Mem} {x r ca pa n : Nat} {A1 : Nat → Nat} (cn i : Int32)  (h : plA S x r ca pa n A1) (hc : ¬ ((0 : Int32) ≤ cn ∧ cn ≤ nI n - 1)) : XT l s0 D cA yX8_count cX8_count 4 (some .int) rmT2 [.ref x, .int cn, .int i] S "java/lang/IllegalArgumentException" := by
  refine CtX.of (cA := cA) hG (by decide +kernel) (Nat.le_of_ble_eq_true rfl) ?_
  intro p e s m below meth c A C hE hP hD hS ls hl
  have hx := cx_x C
  have hb := cx_b C
  have hl : lv_has ls 4 [(0, .ref x), (1, .int cn), (2, .int i)] := hl
  refine lv_aload_n hx hb dX8_count_0 rfl (lv_at hl 0 rfl) ?_
  refine lv_iload_n hx hb dX8_count_1 rfl (lv_at hl 1 rfl) ?_
  exact xt_V (As := [.int cn]) (rest := []) C hE (x_exist hG cn h hc) tm_430 tm_432 tm_882 tm_1 tm_433 hdX8_existing ⟨Nat.le_of_ble_eq_true rfl, Nat.le_of_ble_eq_true rfl⟩ (rcv_8 C hP h.1.1 h.1.2) hl.1 rfl (Nat.le_of_ble_eq_true rfl) dX8_count_2 ⟨Nat.le_of_ble_eq_true rfl, Nat.le_of_ble_eq_true rfl⟩ rfl ⟨Nat.le_of_ble_eq_true rfl, Nat.le_of_ble_eq_true rfl⟩ hP hD hS
set_option maxRecDepth 100000 in
theorem x_count_i {l : Launch} {s0 : State} {D : va_G} {cA : Nat → ClassId} (hG : cx_G l s0 D cA) {S : Mem} {x r ca pa n : Nat} {A1 : Nat → Nat} {j : Nat} (i : Int32)  (h : plA S x r ca pa n A1) (hj : j < n) (hi : i.toInt < 0 ∨ 3 < i.toInt) : XT l s0 D cA yX8_count cX8_count 4 (some .int) rmT2 [.ref x, .int (nI j), .int i] S "java/lang/IllegalArgumentException" := by
  refine CtX.of (cA := cA) hG (by decide +kernel) (Nat.le_of_ble_eq_true rfl) ?_
  intro p e s m below meth c A C hE hP hD hS ls hl
  have hx := cx_x C
  have hb := cx_b C
  have hl : lv_has ls 4 [(0, .ref x), (1, .int (nI j)), (2, .int i)] := hl
  refine lv_aload_n hx hb dX8_count_0 rfl (lv_at hl 0 rfl) ?_
  refine lv_iload_n hx hb dX8_count_1 rfl (lv_at hl 1 rfl) ?_
  refine pc_V (As := [.int (nI j)]) (rest := []) (r := some (.ref (A1 j))) C (c_exist (S := S) hG h hj) tm_430 tm_432 tm_882 tm_1 tm_433 hdX8_existing ⟨Nat.le_of_ble_eq_true rfl, Nat.le_of_ble_eq_true rfl⟩ (rcv_8 C hP h.1.1 h.1.2) hl.1 rfl (Nat.le_of_ble_eq_true rfl) dX8_count_2 ⟨Nat.le_of_ble_eq_true rfl, Nat.le_of_ble_eq_true rfl⟩ hP hD hS (fun S1 H locs hQ hP hD hS => ?_)
  rw [hQ] at hP hD
  refine lv_astore_n (lv' := [(3, .ref (A1 j)), (0, .ref x), (1, .int (nI j)), (2, .int i)]) hx hb dX8_count_5 rfl hl (by decide) rfl (fun ls hl => ?_)
  refine lv_iload_n hx hb dX8_count_6 rfl (lv_at hl 3 rfl) ?_
  refine lv_tableOut (tgt := 64) hx hb dX8_count_7 hi (by decide) ?_
  exact cx_throw (rest := []) C hE (by decide +kernel) (by decide +kernel) tm_96 tm_7 tn_647 tn_98 at_iae rfl hP hS hl.1 dX8_count_64 dX8_count_67 dX8_count_68 dX8_count_70 dX8_count_73 (Nat.le_of_ble_eq_true rfl) (Nat.le_of_ble_eq_true rfl) (Nat.le_of_ble_eq_true rfl) (Nat.le_of_ble_eq_true rfl) (Nat.le_of_ble_eq_true rfl) (Nat.le_of_ble_eq_true rfl)
set_option maxRecDepth 100000 in
theorem x_state_no {l : Launch} {s0 : State} {D : va_G} {cA : Nat → ClassId} (hG : cx_G l s0 D cA) {S : Mem} {x r ca pa n v g u N : Nat} {A1 : Nat → Nat} (i : Int32) (sq : Int64)  (h : plA S x r ca pa n A1) (hg : rgA S r v g u N) (h0 : ¬ i = 0) (h1 : ¬ i = 1) (h2 : ¬ i = 2) : XT l s0 D cA yX8_state cX8_state 4 (some .long) rmT2 [.ref x, .int i, .long sq] S "java/lang/IllegalArgumentException" := by
  refine CtX.of (cA := cA) hG (by decide +kernel) (Nat.le_of_ble_eq_true rfl) ?_
  intro p e s m below meth c A C hE hP hD hS ls hl
  have hx := cx_x C
  have hb := cx_b C
  have hl : lv_has ls 4 [(0, .ref x), (1, .int i), (2, .long sq)] := hl
  refine lv_iload_n hx hb dX8_state_0 rfl (lv_at hl 1 rfl) ?_
  refine lv_if_ne (tgt := 12) hx hb dX8_state_1 (by decide) (fun _ => ?_) (fun h9 => absurd h9 (h0))
  refine lv_iload_n hx hb dX8_state_12 rfl (lv_at hl 1 rfl) ?_
  refine lv_iconst (v := 1) hx hb dX8_state_13 (by decide) ?_
  refine lv_icmp_ne (tgt := 25) hx hb dX8_state_14 (by decide) (fun _ => ?_) (fun h9 => absurd h9 (h1))
  refine lv_iload_n hx hb dX8_state_25 rfl (lv_at hl 1 rfl) ?_
  refine lv_iconst (v := 2) hx hb dX8_state_26 (by decide) ?_
  refine lv_icmp_ne (tgt := 45) hx hb dX8_state_27 (by decide) (fun _ => ?_) (fun h9 => absurd h9 (h2))
  exact cx_throw (rest := []) C hE (by decide +kernel) (by decide +kernel) tm_96 tm_7 tn_659 tn_98 at_iae rfl hP hS hl.1 dX8_state_45 dX8_state_48 dX8_state_49 dX8_state_51 dX8_state_54 (Nat.le_of_ble_eq_true rfl) (Nat.le_of_ble_eq_true rfl) (Nat.le_of_ble_eq_true rfl) (Nat.le_of_ble_eq_true rfl) (Nat.le_of_ble_eq_true rfl) (Nat.le_of_ble_eq_true rfl)
set_option maxRecDepth 100000 in
theorem x_state_z {l : Launch} {s0 : State} {D : va_G} {cA : Nat → ClassId} (hG : cx_G l s0 D cA) {S : Mem} {x r ca pa n v g u N : Nat} {A1 : Nat → Nat} (sq : Int64)  (h : plA S x r ca pa n A1) (hg : rgA S r v g u N) (h0 : sq < 0) : XT l s0 D cA yX8_state cX8_state 4 (some .long) rmT2 [.ref x, .int 2, .long sq] S "java/lang/IllegalArgumentException" := by
  refine CtX.of (cA := cA) hG (by decide +kernel) (Nat.le_of_ble_eq_true rfl) ?_
  intro p e s m below meth c A C hE hP hD hS ls hl
  have hx := cx_x C
  have hb := cx_b C
  have hl : lv_has ls 4 [(0, .ref x), (1, .int 2), (2, .long sq)] := hl
  refine lv_iload_n hx hb dX8_state_0 rfl (lv_at hl 1 rfl) ?_
  refine lv_if_ne (tgt := 12) hx hb dX8_state_1 (by decide) (fun _ => ?_) (fun h9 => absurd h9 (by decide))
  refine lv_iload_n hx hb dX8_state_12 rfl (lv_at hl 1 rfl) ?_
  refine lv_iconst (v := 1) hx hb dX8_state_13 (by decide) ?_
  refine lv_icmp_ne (tgt := 25) hx hb dX8_state_14 (by decide) (fun _ => ?_) (fun h9 => absurd h9 (by decide))
  refine lv_iload_n hx hb dX8_state_25 rfl (lv_at hl 1 rfl) ?_
  refine lv_iconst (v := 2) hx hb dX8_state_26 (by decide) ?_
  refine lv_icmp_ne (tgt := 45) hx hb dX8_state_27 (by decide) (fun h9 => absurd rfl h9) (fun _ => ?_)
  refine lv_lload_n hx hb dX8_state_30 rfl (lv_at hl 2 rfl) ?_
  refine lv_lconst (v := 0) hx hb dX8_state_31 (by decide) ?_
  refine W.lcmp hx hb dX8_state_32 ?_
  refine lv_if_lt (tgt := 45) hx hb dX8_state_33 (by decide) (fun _ => ?_) (fun h9 => absurd (by rw [lg_cmp_lt]; exact h0) h9)
  exact cx_throw (rest := []) C hE (by decide +kernel) (by decide +kernel) tm_96 tm_7 tn_659 tn_98 at_iae rfl hP hS hl.1 dX8_state_45 dX8_state_48 dX8_state_49 dX8_state_51 dX8_state_54 (Nat.le_of_ble_eq_true rfl) (Nat.le_of_ble_eq_true rfl) (Nat.le_of_ble_eq_true rfl) (Nat.le_of_ble_eq_true rfl) (Nat.le_of_ble_eq_true rfl) (Nat.le_of_ble_eq_true rfl)
set_option maxRecDepth 100000 in
theorem x_run_no {l : Launch} {s0 : State} {D : va_G} {cA : Nat → ClassId} (hG : cx_G l s0 D cA) {S : Mem} {x r ca pa n : Nat} {A1 : Nat → Nat} (cn i : Int32)  (h : plA S x r ca pa n A1) (hc : ¬ ((0 : Int32) ≤ cn ∧ cn ≤ nI n - 1)) : XT l s0 D cA yX8_run cX8_run 4 (some .int) rmT2 [.ref x, .int cn, .int i] S "java/lang/IllegalArgumentException" := by
  refine CtX.of (cA := cA) hG (by decide +kernel) (Nat.le_of_ble_eq_true rfl) ?_
  intro p e s m below meth c A C hE hP hD hS ls hl
  have hx := cx_x C
  have hb := cx_b C
  have hl : lv_has ls 4 [(0, .ref x), (1, .int cn), (2, .int i)] := hl
  refine lv_aload_n hx hb dX8_run_0 rfl (lv_at hl 0 rfl) ?_
  refine lv_iload_n hx hb dX8_run_1 rfl (lv_at hl 1 rfl) ?_
  exact xt_V (As := [.int cn]) (rest := []) C hE (x_exist hG cn h hc) tm_430 tm_432 tm_882 tm_1 tm_433 hdX8_existing ⟨Nat.le_of_ble_eq_true rfl, Nat.le_of_ble_eq_true rfl⟩ (rcv_8 C hP h.1.1 h.1.2) hl.1 rfl (Nat.le_of_ble_eq_true rfl) dX8_run_2 ⟨Nat.le_of_ble_eq_true rfl, Nat.le_of_ble_eq_true rfl⟩ rfl ⟨Nat.le_of_ble_eq_true rfl, Nat.le_of_ble_eq_true rfl⟩ hP hD hS
set_option maxRecDepth 100000 in
theorem x_run_m {l : Launch} {s0 : State} {D : va_G} {cA : Nat → ClassId} (hG : cx_G l s0 D cA) {S : Mem} {x r ca pa n : Nat} {A1 : Nat → Nat} {j : Nat} (i : Int32)  (h : plA S x r ca pa n A1) (hj : j < n) (hw : ¬ ((1 : Int32) ≤ i ∧ i ≤ 20)) : XT l s0 D cA yX8_run cX8_run 4 (some .int) rmT2 [.ref x, .int (nI j), .int i] S "java/lang/IllegalArgumentException" := by
  refine CtX.of (cA := cA) hG (by decide +kernel) (Nat.le_of_ble_eq_true rfl) ?_
  intro p e s m below meth c A C hE hP hD hS ls hl
  have hx := cx_x C
  have hb := cx_b C
  have hl : lv_has ls 4 [(0, .ref x), (1, .int (nI j)), (2, .int i)] := hl
  refine lv_aload_n hx hb dX8_run_0 rfl (lv_at hl 0 rfl) ?_
  refine lv_iload_n hx hb dX8_run_1 rfl (lv_at hl 1 rfl) ?_
  refine pc_V (As := [.int (nI j)]) (rest := []) (r := some (.ref (A1 j))) C (c_exist (S := S) hG h hj) tm_430 tm_432 tm_882 tm_1 tm_433 hdX8_existing ⟨Nat.le_of_ble_eq_true rfl, Nat.le_of_ble_eq_true rfl⟩ (rcv_8 C hP h.1.1 h.1.2) hl.1 rfl (Nat.le_of_ble_eq_true rfl) dX8_run_2 ⟨Nat.le_of_ble_eq_true rfl, Nat.le_of_ble_eq_true rfl⟩ hP hD hS (fun S1 H locs hQ hP hD hS => ?_)
  rw [hQ] at hP hD
  refine lv_astore_n (lv' := [(3, .ref (A1 j)), (0, .ref x), (1, .int (nI j)), (2, .int i)]) hx hb dX8_run_5 rfl hl (by decide) rfl (fun ls hl => ?_)
  refine lv_iload_n hx hb dX8_run_6 rfl (lv_at hl 3 rfl) ?_
  refine lv_iconst (v := 1) hx hb dX8_run_7 (by decide) ?_
  refine lv_bipush (v := 20) hx hb dX8_run_8 (by decide) ?_
  refine ct_S0 (As := [.int i, .int 1, .int 20]) (rest := []) (r := some (.int 0)) C (w8_0 hG _ _ _ (hw)) tm_93 tm_94 tm_1 tm_95 hdX8_isWithin.2 ⟨Nat.le_of_ble_eq_true rfl, Nat.le_of_ble_eq_true rfl⟩ hl.1 rfl (Nat.le_of_ble_eq_true rfl) dX8_run_10 ⟨Nat.le_of_ble_eq_true rfl, Nat.le_of_ble_eq_true rfl⟩ hP hD hS (fun H locs hP hD hS => ?_)
  refine lv_if_ne (tgt := 26) hx hb dX8_run_13 (by decide) (fun h9 => absurd rfl h9) (fun _ => ?_)
  exact cx_throw (rest := []) C hE (by decide +kernel) (by decide +kernel) tm_96 tm_7 tn_435 tn_98 at_iae rfl hP hS hl.1 dX8_run_16 dX8_run_19 dX8_run_20 dX8_run_22 dX8_run_25 (Nat.le_of_ble_eq_true rfl) (Nat.le_of_ble_eq_true rfl) (Nat.le_of_ble_eq_true rfl) (Nat.le_of_ble_eq_true rfl) (Nat.le_of_ble_eq_true rfl) (Nat.le_of_ble_eq_true rfl)
set_option maxRecDepth 100000 in
theorem x_run_h {l : Launch} {s0 : State} {D : va_G} {cA : Nat → ClassId} (hG : cx_G l s0 D cA) {S : Mem} {x r ca pa n : Nat} {A1 : Nat → Nat} {j : Nat} (i : Int32)  (h : plA S x r ca pa n A1) (hj : j < n) (hw : (1 : Int32) ≤ i ∧ i ≤ 20) (hh9 : ¬ mI S 9 (A1 j) = 0) : XT l s0 D cA yX8_run cX8_run 4 (some .int) rmT2 [.ref x, .int (nI j), .int i] S "java/lang/IllegalStateException" := by
  refine CtX.of (cA := cA) hG (by decide +kernel) (Nat.le_of_ble_eq_true rfl) ?_
  intro p e s m below meth c A C hE hP hD hS ls hl
  have hx := cx_x C
  have hb := cx_b C
  have hl : lv_has ls 4 [(0, .ref x), (1, .int (nI j)), (2, .int i)] := hl
  refine lv_aload_n hx hb dX8_run_0 rfl (lv_at hl 0 rfl) ?_
  refine lv_iload_n hx hb dX8_run_1 rfl (lv_at hl 1 rfl) ?_
  refine pc_V (As := [.int (nI j)]) (rest := []) (r := some (.ref (A1 j))) C (c_exist (S := S) hG h hj) tm_430 tm_432 tm_882 tm_1 tm_433 hdX8_existing ⟨Nat.le_of_ble_eq_true rfl, Nat.le_of_ble_eq_true rfl⟩ (rcv_8 C hP h.1.1 h.1.2) hl.1 rfl (Nat.le_of_ble_eq_true rfl) dX8_run_2 ⟨Nat.le_of_ble_eq_true rfl, Nat.le_of_ble_eq_true rfl⟩ hP hD hS (fun S1 H locs hQ hP hD hS => ?_)
  rw [hQ] at hP hD
  refine lv_astore_n (lv' := [(3, .ref (A1 j)), (0, .ref x), (1, .int (nI j)), (2, .int i)]) hx hb dX8_run_5 rfl hl (by decide) rfl (fun ls hl => ?_)
  refine lv_iload_n hx hb dX8_run_6 rfl (lv_at hl 3 rfl) ?_
  refine lv_iconst (v := 1) hx hb dX8_run_7 (by decide) ?_
  refine lv_bipush (v := 20) hx hb dX8_run_8 (by decide) ?_
  refine ct_S0 (As := [.int i, .int 1, .int 20]) (rest := []) (r := some (.int 1)) C (w8_1 hG _ _ _ (hw)) tm_93 tm_94 tm_1 tm_95 hdX8_isWithin.2 ⟨Nat.le_of_ble_eq_true rfl, Nat.le_of_ble_eq_true rfl⟩ hl.1 rfl (Nat.le_of_ble_eq_true rfl) dX8_run_10 ⟨Nat.le_of_ble_eq_true rfl, Nat.le_of_ble_eq_true rfl⟩ hP hD hS (fun H locs hP hD hS => ?_)
  refine lv_if_ne (tgt := 26) hx hb dX8_run_13 (by decide) (fun _ => ?_) (fun h9 => absurd h9 (by decide))
  refine lv_aload_n hx hb dX8_run_26 rfl (lv_at hl 0 rfl) ?_
  refine gv_0_9 (v := mI S 9 (A1 j)) C hP (h.2.2.2.2.2.2 j (hj)).2.1 (h.2.2.2.2.2.2 j (hj)).2.2 (rfl) tm_304 dX8_run_27 ?_
  refine lv_if_eq (tgt := 43) hx hb dX8_run_30 (by decide) (fun h9 => absurd h9 (hh9)) (fun _ => ?_)
  exact cx_throw (rest := []) C hE (by decide +kernel) (by decide +kernel) tm_171 tm_8 tn_436 tn_173 at_ise rfl hP hS hl.1 dX8_run_33 dX8_run_36 dX8_run_37 dX8_run_39 dX8_run_42 (Nat.le_of_ble_eq_true rfl) (Nat.le_of_ble_eq_true rfl) (Nat.le_of_ble_eq_true rfl) (Nat.le_of_ble_eq_true rfl) (Nat.le_of_ble_eq_true rfl) (Nat.le_of_ble_eq_true rfl)
set_option maxRecDepth 100000 in
theorem x_publish {l : Launch} {s0 : State} {D : va_G} {cA : Nat → ClassId} (hG : cx_G l s0 D cA) {S : Mem} {x r ca pa n v g u N : Nat} {A1 : Nat → Nat} (p9 : Int32) (sq y : Int64)  (h : plA S x r ca pa n A1) (hg : rgA S r v g u N) (ho : PC l s0 D cA yX5_isOpen cX5_isOpen 5 (some .boolean) rmX5_isOpen [.ref r, .int p9, .long sq] S (some (.int 0)) (fun S1 => S1 = S)) : XT l s0 D cA yX8_publish cX8_publish 6 (some .boolean) rmT2 [.ref x, .int p9, .long sq, .long y] S "java/util/NoSuchElementException" := by
  refine CtX.of (cA := cA) hG (by decide +kernel) (Nat.le_of_ble_eq_true rfl) ?_
  intro p e s m below meth c A C hE hP hD hS ls hl
  have hx := cx_x C
  have hb := cx_b C
  have hl : lv_has ls 6 [(0, .ref x), (1, .int p9), (2, .long sq), (4, .long y)] := hl
  refine lv_aload_n hx hb dX8_publish_0 rfl (lv_at hl 0 rfl) ?_
  refine gf_8_0s (b := r) C hP h.1.1 h.1.2 (h.2.1.1) tm_58 dX8_publish_1 ?_
  refine lv_iload_n hx hb dX8_publish_4 rfl (lv_at hl 1 rfl) ?_
  refine lv_lload_n hx hb dX8_publish_5 rfl (lv_at hl 2 rfl) ?_
  refine pc_V (As := [.int p9, .long sq]) (rest := []) (r := some (.int 0)) C (ho) tm_399 tm_400 tm_401 tm_2 tm_402 hdX5_isOpen ⟨Nat.le_of_ble_eq_true rfl, Nat.le_of_ble_eq_true rfl⟩ (rcv_5 C hP hg.1.1 hg.1.2) hl.1 rfl (Nat.le_of_ble_eq_true rfl) dX8_publish_6 ⟨Nat.le_of_ble_eq_true rfl, Nat.le_of_ble_eq_true rfl⟩ hP hD hS (fun S1 H locs hQ hP hD hS => ?_)
  rw [hQ] at hP hD
  refine lv_if_ne (tgt := 22) hx hb dX8_publish_9 (by decide) (fun h9 => absurd rfl h9) (fun _ => ?_)
  exact cx_thrown (rest := []) C hE ns_0 ns_1 ns_2 ns_5 (by decide +kernel) (by decide +kernel) (by decide +kernel) tm_403 tm_17 tn_412 tn_405 at_nse rfl hP hS hl.1 dX8_publish_12 dX8_publish_15 dX8_publish_16 dX8_publish_18 dX8_publish_21 (Nat.le_of_ble_eq_true rfl) (Nat.le_of_ble_eq_true rfl) (Nat.le_of_ble_eq_true rfl) (Nat.le_of_ble_eq_true rfl) (Nat.le_of_ble_eq_true rfl) (Nat.le_of_ble_eq_true rfl)
set_option maxRecDepth 100000 in
theorem x_claim_p {l : Launch} {s0 : State} {D : va_G} {cA : Nat → ClassId} (hG : cx_G l s0 D cA) {S : Mem} {x r ca pa n v g u N : Nat} {A1 : Nat → Nat} (k i : Int32)  (h : plA S x r ca pa n A1) (hg : rgA S r v g u N) (h1 : ¬ ((0 : Int32) ≤ k ∧ k ≤ 3)) : XT l s0 D cA yX8_claim cX8_claim 3 (some .long) rmT2 [.ref x, .int k, .int i] S "java/lang/IllegalArgumentException" := by
  refine CtX.of (cA := cA) hG (by decide +kernel) (Nat.le_of_ble_eq_true rfl) ?_
  intro p e s m below meth c A C hE hP hD hS ls hl
  have hx := cx_x C
  have hb := cx_b C
  have hl : lv_has ls 3 [(0, .ref x), (1, .int k), (2, .int i)] := hl
  refine lv_iload_n hx hb dX8_claim_0 rfl (lv_at hl 1 rfl) ?_
  refine lv_iconst (v := 0) hx hb dX8_claim_1 (by decide) ?_
  refine lv_iconst (v := 3) hx hb dX8_claim_2 (by decide) ?_
  refine ct_S0 (As := [.int k, .int 0, .int 3]) (rest := []) (r := some (.int 0)) C (w8_0 hG _ _ _ (h1)) tm_93 tm_94 tm_1 tm_95 hdX8_isWithin.2 ⟨Nat.le_of_ble_eq_true rfl, Nat.le_of_ble_eq_true rfl⟩ hl.1 rfl (Nat.le_of_ble_eq_true rfl) dX8_claim_3 ⟨Nat.le_of_ble_eq_true rfl, Nat.le_of_ble_eq_true rfl⟩ hP hD hS (fun H locs hP hD hS => ?_)
  refine lv_if_eq (tgt := 24) hx hb dX8_claim_6 (by decide) (fun _ => ?_) (fun h9 => absurd (by decide) h9)
  exact cx_throw (rest := []) C hE (by decide +kernel) (by decide +kernel) tm_96 tm_7 tn_360 tn_98 at_iae rfl hP hS hl.1 dX8_claim_24 dX8_claim_27 dX8_claim_28 dX8_claim_30 dX8_claim_33 (Nat.le_of_ble_eq_true rfl) (Nat.le_of_ble_eq_true rfl) (Nat.le_of_ble_eq_true rfl) (Nat.le_of_ble_eq_true rfl) (Nat.le_of_ble_eq_true rfl) (Nat.le_of_ble_eq_true rfl)
set_option maxRecDepth 100000 in
theorem x_claim_n {l : Launch} {s0 : State} {D : va_G} {cA : Nat → ClassId} (hG : cx_G l s0 D cA) {S : Mem} {x r ca pa n v g u N : Nat} {A1 : Nat → Nat} (k i : Int32)  (h : plA S x r ca pa n A1) (hg : rgA S r v g u N) (h1 : (0 : Int32) ≤ k ∧ k ≤ 3) (h2 : ¬ ((1 : Int32) ≤ i ∧ i ≤ nI N)) : XT l s0 D cA yX8_claim cX8_claim 3 (some .long) rmT2 [.ref x, .int k, .int i] S "java/lang/IllegalArgumentException" := by
  refine CtX.of (cA := cA) hG (by decide +kernel) (Nat.le_of_ble_eq_true rfl) ?_
  intro p e s m below meth c A C hE hP hD hS ls hl
  have hx := cx_x C
  have hb := cx_b C
  have hl : lv_has ls 3 [(0, .ref x), (1, .int k), (2, .int i)] := hl
  refine lv_iload_n hx hb dX8_claim_0 rfl (lv_at hl 1 rfl) ?_
  refine lv_iconst (v := 0) hx hb dX8_claim_1 (by decide) ?_
  refine lv_iconst (v := 3) hx hb dX8_claim_2 (by decide) ?_
  refine ct_S0 (As := [.int k, .int 0, .int 3]) (rest := []) (r := some (.int 1)) C (w8_1 hG _ _ _ (h1)) tm_93 tm_94 tm_1 tm_95 hdX8_isWithin.2 ⟨Nat.le_of_ble_eq_true rfl, Nat.le_of_ble_eq_true rfl⟩ hl.1 rfl (Nat.le_of_ble_eq_true rfl) dX8_claim_3 ⟨Nat.le_of_ble_eq_true rfl, Nat.le_of_ble_eq_true rfl⟩ hP hD hS (fun H locs hP hD hS => ?_)
  refine lv_if_eq (tgt := 24) hx hb dX8_claim_6 (by decide) (fun h9 => absurd h9 (by decide)) (fun _ => ?_)
  refine lv_iload_n hx hb dX8_claim_9 rfl (lv_at hl 2 rfl) ?_
  refine lv_iconst (v := 1) hx hb dX8_claim_10 (by decide) ?_
  refine lv_aload_n hx hb dX8_claim_11 rfl (lv_at hl 0 rfl) ?_
  refine gf_8_0s (b := r) C hP h.1.1 h.1.2 (h.2.1.1) tm_58 dX8_claim_12 ?_
  refine pc_V (As := []) (rest := [.int 1, .int i]) (r := some (.int (nI N))) C (c_slots (S := S) (N := N) hG hg) tm_356 tm_357 tm_358 tm_2 tm_359 hdX5_slots ⟨Nat.le_of_ble_eq_true rfl, Nat.le_of_ble_eq_true rfl⟩ (rcv_5 C hP hg.1.1 hg.1.2) hl.1 rfl (Nat.le_of_ble_eq_true rfl) dX8_claim_15 ⟨Nat.le_of_ble_eq_true rfl, Nat.le_of_ble_eq_true rfl⟩ hP hD hS (fun S1 H locs hQ hP hD hS => ?_)
  rw [hQ] at hP hD
  refine ct_S0 (As := [.int i, .int 1, .int (nI N)]) (rest := []) (r := some (.int 0)) C (w8_0 hG _ _ _ (h2)) tm_93 tm_94 tm_1 tm_95 hdX8_isWithin.2 ⟨Nat.le_of_ble_eq_true rfl, Nat.le_of_ble_eq_true rfl⟩ hl.1 rfl (Nat.le_of_ble_eq_true rfl) dX8_claim_18 ⟨Nat.le_of_ble_eq_true rfl, Nat.le_of_ble_eq_true rfl⟩ hP hD hS (fun H locs hP hD hS => ?_)
  refine lv_if_ne (tgt := 34) hx hb dX8_claim_21 (by decide) (fun h9 => absurd rfl h9) (fun _ => ?_)
  exact cx_throw (rest := []) C hE (by decide +kernel) (by decide +kernel) tm_96 tm_7 tn_360 tn_98 at_iae rfl hP hS hl.1 dX8_claim_24 dX8_claim_27 dX8_claim_28 dX8_claim_30 dX8_claim_33 (Nat.le_of_ble_eq_true rfl) (Nat.le_of_ble_eq_true rfl) (Nat.le_of_ble_eq_true rfl) (Nat.le_of_ble_eq_true rfl) (Nat.le_of_ble_eq_true rfl) (Nat.le_of_ble_eq_true rfl)
set_option maxRecDepth 100000 in
theorem x_claim_r {l : Launch} {s0 : State} {D : va_G} {cA : Nat → ClassId} (hG : cx_G l s0 D cA) {S : Mem} {x r ca pa n v g u N : Nat} {A1 : Nat → Nat} {hu : Int32} {cu av : Nat} {pl : Nat → Nat} (k i : Int32)  (h : plA S x r ca pa n A1) (hg : rgA S r v g u N) (hhu : mI S 4 x = hu) (hav : mJ S 4 r = eL av) (hav9 : av ≤ 9000) (hr : ∀ j, j < n → RE l s0 D cA S (A1 j) (pl j) ∧ pl j ≤ 9000) (hcu : mJ S 3 r = eL cu) (h1 : (0 : Int32) ≤ k ∧ k ≤ 3) (h2 : (1 : Int32) ≤ i ∧ i ≤ nI N) (hroom : ¬ eL cu + i.toInt64 - (nI N).toInt64 ≤ eL (lpN av pl ((1 <<< (nI n &&& 31) - 1) &&& (hu ^^^ (-1))) n)) : XT l s0 D cA yX8_claim cX8_claim 3 (some .long) rmT2 [.ref x, .int k, .int i] S "java/lang/IllegalStateException" := by
  refine CtX.of (cA := cA) hG (by decide +kernel) (Nat.le_of_ble_eq_true rfl) ?_
  intro p e s m below meth c A C hE hP hD hS ls hl
  have hx := cx_x C
  have hb := cx_b C
  have hl : lv_has ls 3 [(0, .ref x), (1, .int k), (2, .int i)] := hl
  refine lv_iload_n hx hb dX8_claim_0 rfl (lv_at hl 1 rfl) ?_
  refine lv_iconst (v := 0) hx hb dX8_claim_1 (by decide) ?_
  refine lv_iconst (v := 3) hx hb dX8_claim_2 (by decide) ?_
  refine ct_S0 (As := [.int k, .int 0, .int 3]) (rest := []) (r := some (.int 1)) C (w8_1 hG _ _ _ (h1)) tm_93 tm_94 tm_1 tm_95 hdX8_isWithin.2 ⟨Nat.le_of_ble_eq_true rfl, Nat.le_of_ble_eq_true rfl⟩ hl.1 rfl (Nat.le_of_ble_eq_true rfl) dX8_claim_3 ⟨Nat.le_of_ble_eq_true rfl, Nat.le_of_ble_eq_true rfl⟩ hP hD hS (fun H locs hP hD hS => ?_)
  refine lv_if_eq (tgt := 24) hx hb dX8_claim_6 (by decide) (fun h9 => absurd h9 (by decide)) (fun _ => ?_)
  refine lv_iload_n hx hb dX8_claim_9 rfl (lv_at hl 2 rfl) ?_
  refine lv_iconst (v := 1) hx hb dX8_claim_10 (by decide) ?_
  refine lv_aload_n hx hb dX8_claim_11 rfl (lv_at hl 0 rfl) ?_
  refine gf_8_0s (b := r) C hP h.1.1 h.1.2 (h.2.1.1) tm_58 dX8_claim_12 ?_
  refine pc_V (As := []) (rest := [.int 1, .int i]) (r := some (.int (nI N))) C (c_slots (S := S) (N := N) hG hg) tm_356 tm_357 tm_358 tm_2 tm_359 hdX5_slots ⟨Nat.le_of_ble_eq_true rfl, Nat.le_of_ble_eq_true rfl⟩ (rcv_5 C hP hg.1.1 hg.1.2) hl.1 rfl (Nat.le_of_ble_eq_true rfl) dX8_claim_15 ⟨Nat.le_of_ble_eq_true rfl, Nat.le_of_ble_eq_true rfl⟩ hP hD hS (fun S1 H locs hQ hP hD hS => ?_)
  rw [hQ] at hP hD
  refine ct_S0 (As := [.int i, .int 1, .int (nI N)]) (rest := []) (r := some (.int 1)) C (w8_1 hG _ _ _ (h2)) tm_93 tm_94 tm_1 tm_95 hdX8_isWithin.2 ⟨Nat.le_of_ble_eq_true rfl, Nat.le_of_ble_eq_true rfl⟩ hl.1 rfl (Nat.le_of_ble_eq_true rfl) dX8_claim_18 ⟨Nat.le_of_ble_eq_true rfl, Nat.le_of_ble_eq_true rfl⟩ hP hD hS (fun H locs hP hD hS => ?_)
  refine lv_if_ne (tgt := 34) hx hb dX8_claim_21 (by decide) (fun _ => ?_) (fun h9 => absurd h9 (by decide))
  refine lv_aload_n hx hb dX8_claim_34 rfl (lv_at hl 0 rfl) ?_
  refine gf_8_0s (b := r) C hP h.1.1 h.1.2 (h.2.1.1) tm_58 dX8_claim_35 ?_
  refine gv_5_3 (v := eL cu) C hP hg.1.1 hg.1.2 (hcu) tm_42 dX8_claim_38 ?_
  refine lv_iload_n hx hb dX8_claim_41 rfl (lv_at hl 2 rfl) ?_
  refine lv_i2l (v := i.toInt64) hx hb dX8_claim_42 rfl ?_
  refine lv_ladd hx hb dX8_claim_43 ?_
  refine lv_aload_n hx hb dX8_claim_44 rfl (lv_at hl 0 rfl) ?_
  refine gf_8_0s (b := r) C hP h.1.1 h.1.2 (h.2.1.1) tm_58 dX8_claim_45 ?_
  refine pc_V (As := []) (rest := [.long ((eL cu) + i.toInt64)]) (r := some (.int (nI N))) C (c_slots (S := S) (N := N) hG hg) tm_356 tm_357 tm_358 tm_2 tm_359 hdX5_slots ⟨Nat.le_of_ble_eq_true rfl, Nat.le_of_ble_eq_true rfl⟩ (rcv_5 C hP hg.1.1 hg.1.2) hl.1 rfl (Nat.le_of_ble_eq_true rfl) dX8_claim_48 ⟨Nat.le_of_ble_eq_true rfl, Nat.le_of_ble_eq_true rfl⟩ hP hD hS (fun S2 H locs hQ hP hD hS => ?_)
  rw [hQ] at hP hD
  refine lv_i2l (v := (nI N).toInt64) hx hb dX8_claim_51 rfl ?_
  refine lv_lsub hx hb dX8_claim_52 ?_
  refine lv_aload_n hx hb dX8_claim_53 rfl (lv_at hl 0 rfl) ?_
  refine lv_aload_n hx hb dX8_claim_54 rfl (lv_at hl 0 rfl) ?_
  refine pc_V (As := []) (rest := [.ref x, .long (((eL cu) + i.toInt64) - ((nI N).toInt64))]) (r := some (.int ((1 <<< (nI n &&& 31) - 1) &&& (hu ^^^ (-1))))) C (c_last (S := S) hG h hhu) tm_361 tm_363 tm_880 tm_1 tm_364 hdX8_lastInLine ⟨Nat.le_of_ble_eq_true rfl, Nat.le_of_ble_eq_true rfl⟩ (rcv_8 C hP h.1.1 h.1.2) hl.1 rfl (Nat.le_of_ble_eq_true rfl) dX8_claim_55 ⟨Nat.le_of_ble_eq_true rfl, Nat.le_of_ble_eq_true rfl⟩ hP hD hS (fun S3 H locs hQ hP hD hS => ?_)
  rw [hQ] at hP hD
  refine pc_V (As := [.int ((1 <<< (nI n &&& 31) - 1) &&& (hu ^^^ (-1)))]) (rest := [.long (((eL cu) + i.toInt64) - ((nI N).toInt64))]) (r := some (.long (eL (lpN av pl ((1 <<< (nI n &&& 31) - 1) &&& (hu ^^^ (-1))) n)))) C (c_least (S := S) (pl := pl) hG _ h hg hav hav9 hr) tm_365 tm_367 tm_881 tm_1 tm_368 hdX8_leastPlace ⟨Nat.le_of_ble_eq_true rfl, Nat.le_of_ble_eq_true rfl⟩ (rcv_8 C hP h.1.1 h.1.2) hl.1 rfl (Nat.le_of_ble_eq_true rfl) dX8_claim_58 ⟨Nat.le_of_ble_eq_true rfl, Nat.le_of_ble_eq_true rfl⟩ hP hD hS (fun S4 H locs hQ hP hD hS => ?_)
  rw [hQ] at hP hD
  refine W.lcmp hx hb dX8_claim_61 ?_
  refine lv_if_le (tgt := 75) hx hb dX8_claim_62 (by decide) (fun h9 => absurd h9 (fun q => hroom ((lg_cmp_le ..).mp q))) (fun _ => ?_)
  exact cx_throw (rest := []) C hE (by decide +kernel) (by decide +kernel) tm_171 tm_8 tn_382 tn_173 at_ise rfl hP hS hl.1 dX8_claim_65 dX8_claim_68 dX8_claim_69 dX8_claim_71 dX8_claim_74 (Nat.le_of_ble_eq_true rfl) (Nat.le_of_ble_eq_true rfl) (Nat.le_of_ble_eq_true rfl) (Nat.le_of_ble_eq_true rfl) (Nat.le_of_ble_eq_true rfl) (Nat.le_of_ble_eq_true rfl)
set_option maxRecDepth 100000 in
theorem x_cons_k {l : Launch} {s0 : State} {D : va_G} {cA : Nat → ClassId} (hG : cx_G l s0 D cA) {S : Mem} {x r ca pa n : Nat} {A1 : Nat → Nat} (k on po q : Int32)  (h : plA S x r ca pa n A1) (hk : ¬ ((0 : Int32) ≤ k ∧ k ≤ 3)) : XT l s0 D cA yX8_consumer cX8_consumer 5 (some .int) rmT2 [.ref x, .int k, .int on, .int po, .int q] S "java/lang/IllegalArgumentException" := by
  refine CtX.of (cA := cA) hG (by decide +kernel) (Nat.le_of_ble_eq_true rfl) ?_
  intro p e s m below meth c A C hE hP hD hS ls hl
  have hx := cx_x C
  have hb := cx_b C
  have hl : lv_has ls 5 [(0, .ref x), (1, .int k), (2, .int on), (3, .int po), (4, .int q)] := hl
  refine lv_iload_n hx hb dX8_consumer_0 rfl (lv_at hl 1 rfl) ?_
  refine lv_iconst (v := 0) hx hb dX8_consumer_1 (by decide) ?_
  refine lv_iconst (v := 3) hx hb dX8_consumer_2 (by decide) ?_
  refine ct_S0 (As := [.int k, .int 0, .int 3]) (rest := []) (r := some (.int 0)) C (w8_0 hG _ _ _ (hk)) tm_93 tm_94 tm_1 tm_95 hdX8_isWithin.2 ⟨Nat.le_of_ble_eq_true rfl, Nat.le_of_ble_eq_true rfl⟩ hl.1 rfl (Nat.le_of_ble_eq_true rfl) dX8_consumer_3 ⟨Nat.le_of_ble_eq_true rfl, Nat.le_of_ble_eq_true rfl⟩ hP hD hS (fun H locs hP hD hS => ?_)
  refine lv_if_eq (tgt := 18) hx hb dX8_consumer_6 (by decide) (fun _ => ?_) (fun h9 => absurd (by decide) h9)
  exact cx_throw (rest := []) C hE (by decide +kernel) (by decide +kernel) tm_96 tm_7 tn_138 tn_98 at_iae rfl hP hS hl.1 dX8_consumer_18 dX8_consumer_21 dX8_consumer_22 dX8_consumer_24 dX8_consumer_27 (Nat.le_of_ble_eq_true rfl) (Nat.le_of_ble_eq_true rfl) (Nat.le_of_ble_eq_true rfl) (Nat.le_of_ble_eq_true rfl) (Nat.le_of_ble_eq_true rfl) (Nat.le_of_ble_eq_true rfl)
set_option maxRecDepth 100000 in
theorem x_cons_h {l : Launch} {s0 : State} {D : va_G} {cA : Nat → ClassId} (hG : cx_G l s0 D cA) {S : Mem} {x r ca pa n : Nat} {A1 : Nat → Nat} (k on po q : Int32)  (h : plA S x r ca pa n A1) (hk : (0 : Int32) ≤ k ∧ k ≤ 3) (hpo : ¬ ((0 : Int32) ≤ po ∧ po ≤ 2)) : XT l s0 D cA yX8_consumer cX8_consumer 5 (some .int) rmT2 [.ref x, .int k, .int on, .int po, .int q] S "java/lang/IllegalArgumentException" := by
  refine CtX.of (cA := cA) hG (by decide +kernel) (Nat.le_of_ble_eq_true rfl) ?_
  intro p e s m below meth c A C hE hP hD hS ls hl
  have hx := cx_x C
  have hb := cx_b C
  have hl : lv_has ls 5 [(0, .ref x), (1, .int k), (2, .int on), (3, .int po), (4, .int q)] := hl
  refine lv_iload_n hx hb dX8_consumer_0 rfl (lv_at hl 1 rfl) ?_
  refine lv_iconst (v := 0) hx hb dX8_consumer_1 (by decide) ?_
  refine lv_iconst (v := 3) hx hb dX8_consumer_2 (by decide) ?_
  refine ct_S0 (As := [.int k, .int 0, .int 3]) (rest := []) (r := some (.int 1)) C (w8_1 hG _ _ _ (hk)) tm_93 tm_94 tm_1 tm_95 hdX8_isWithin.2 ⟨Nat.le_of_ble_eq_true rfl, Nat.le_of_ble_eq_true rfl⟩ hl.1 rfl (Nat.le_of_ble_eq_true rfl) dX8_consumer_3 ⟨Nat.le_of_ble_eq_true rfl, Nat.le_of_ble_eq_true rfl⟩ hP hD hS (fun H locs hP hD hS => ?_)
  refine lv_if_eq (tgt := 18) hx hb dX8_consumer_6 (by decide) (fun h9 => absurd h9 (by decide)) (fun _ => ?_)
  refine lv_iload_n hx hb dX8_consumer_9 rfl (lv_at hl 3 rfl) ?_
  refine lv_iconst (v := 0) hx hb dX8_consumer_10 (by decide) ?_
  refine lv_iconst (v := 2) hx hb dX8_consumer_11 (by decide) ?_
  refine ct_S0 (As := [.int po, .int 0, .int 2]) (rest := []) (r := some (.int 0)) C (w8_0 hG _ _ _ (hpo)) tm_93 tm_94 tm_1 tm_95 hdX8_isWithin.2 ⟨Nat.le_of_ble_eq_true rfl, Nat.le_of_ble_eq_true rfl⟩ hl.1 rfl (Nat.le_of_ble_eq_true rfl) dX8_consumer_12 ⟨Nat.le_of_ble_eq_true rfl, Nat.le_of_ble_eq_true rfl⟩ hP hD hS (fun H locs hP hD hS => ?_)
  refine lv_if_ne (tgt := 28) hx hb dX8_consumer_15 (by decide) (fun h9 => absurd rfl h9) (fun _ => ?_)
  exact cx_throw (rest := []) C hE (by decide +kernel) (by decide +kernel) tm_96 tm_7 tn_138 tn_98 at_iae rfl hP hS hl.1 dX8_consumer_18 dX8_consumer_21 dX8_consumer_22 dX8_consumer_24 dX8_consumer_27 (Nat.le_of_ble_eq_true rfl) (Nat.le_of_ble_eq_true rfl) (Nat.le_of_ble_eq_true rfl) (Nat.le_of_ble_eq_true rfl) (Nat.le_of_ble_eq_true rfl) (Nat.le_of_ble_eq_true rfl)
set_option maxRecDepth 100000 in
theorem x_cons_o {l : Launch} {s0 : State} {D : va_G} {cA : Nat → ClassId} (hG : cx_G l s0 D cA) {S : Mem} {x r ca pa n : Nat} {A1 : Nat → Nat} (k on po q : Int32)  (h : plA S x r ca pa n A1) (hk : (0 : Int32) ≤ k ∧ k ≤ 3) (hpo : (0 : Int32) ≤ po ∧ po ≤ 2) (hon : ¬ (on.toUInt32 >>> ((nI n).toUInt32 &&& Int32.toUInt32 31)).toInt32 = 0) : XT l s0 D cA yX8_consumer cX8_consumer 5 (some .int) rmT2 [.ref x, .int k, .int on, .int po, .int q] S "java/lang/IllegalArgumentException" := by
  refine CtX.of (cA := cA) hG (by decide +kernel) (Nat.le_of_ble_eq_true rfl) ?_
  intro p e s m below meth c A C hE hP hD hS ls hl
  have hx := cx_x C
  have hb := cx_b C
  have hl : lv_has ls 5 [(0, .ref x), (1, .int k), (2, .int on), (3, .int po), (4, .int q)] := hl
  refine lv_iload_n hx hb dX8_consumer_0 rfl (lv_at hl 1 rfl) ?_
  refine lv_iconst (v := 0) hx hb dX8_consumer_1 (by decide) ?_
  refine lv_iconst (v := 3) hx hb dX8_consumer_2 (by decide) ?_
  refine ct_S0 (As := [.int k, .int 0, .int 3]) (rest := []) (r := some (.int 1)) C (w8_1 hG _ _ _ (hk)) tm_93 tm_94 tm_1 tm_95 hdX8_isWithin.2 ⟨Nat.le_of_ble_eq_true rfl, Nat.le_of_ble_eq_true rfl⟩ hl.1 rfl (Nat.le_of_ble_eq_true rfl) dX8_consumer_3 ⟨Nat.le_of_ble_eq_true rfl, Nat.le_of_ble_eq_true rfl⟩ hP hD hS (fun H locs hP hD hS => ?_)
  refine lv_if_eq (tgt := 18) hx hb dX8_consumer_6 (by decide) (fun h9 => absurd h9 (by decide)) (fun _ => ?_)
  refine lv_iload_n hx hb dX8_consumer_9 rfl (lv_at hl 3 rfl) ?_
  refine lv_iconst (v := 0) hx hb dX8_consumer_10 (by decide) ?_
  refine lv_iconst (v := 2) hx hb dX8_consumer_11 (by decide) ?_
  refine ct_S0 (As := [.int po, .int 0, .int 2]) (rest := []) (r := some (.int 1)) C (w8_1 hG _ _ _ (hpo)) tm_93 tm_94 tm_1 tm_95 hdX8_isWithin.2 ⟨Nat.le_of_ble_eq_true rfl, Nat.le_of_ble_eq_true rfl⟩ hl.1 rfl (Nat.le_of_ble_eq_true rfl) dX8_consumer_12 ⟨Nat.le_of_ble_eq_true rfl, Nat.le_of_ble_eq_true rfl⟩ hP hD hS (fun H locs hP hD hS => ?_)
  refine lv_if_ne (tgt := 28) hx hb dX8_consumer_15 (by decide) (fun _ => ?_) (fun h9 => absurd h9 (by decide))
  refine lv_iload_n hx hb dX8_consumer_28 rfl (lv_at hl 2 rfl) ?_
  refine lv_aload_n hx hb dX8_consumer_29 rfl (lv_at hl 0 rfl) ?_
  refine gv_8_3 (v := nI n) C hP h.1.1 h.1.2 (h.2.2.2.2.1) tm_61 dX8_consumer_30 ?_
  refine lv_iushr (v := (on.toUInt32 >>> ((nI n).toUInt32 &&& Int32.toUInt32 31)).toInt32) hx hb dX8_consumer_33 rfl ?_
  refine lv_if_eq (tgt := 47) hx hb dX8_consumer_34 (by decide) (fun h9 => absurd h9 (hon)) (fun _ => ?_)
  exact cx_throw (rest := []) C hE (by decide +kernel) (by decide +kernel) tm_96 tm_7 tn_165 tn_98 at_iae rfl hP hS hl.1 dX8_consumer_37 dX8_consumer_40 dX8_consumer_41 dX8_consumer_43 dX8_consumer_46 (Nat.le_of_ble_eq_true rfl) (Nat.le_of_ble_eq_true rfl) (Nat.le_of_ble_eq_true rfl) (Nat.le_of_ble_eq_true rfl) (Nat.le_of_ble_eq_true rfl) (Nat.le_of_ble_eq_true rfl)
set_option maxRecDepth 100000 in
theorem x_cons_p {l : Launch} {s0 : State} {D : va_G} {cA : Nat → ClassId} (hG : cx_G l s0 D cA) {S : Mem} {x r ca pa n : Nat} {A1 : Nat → Nat} (k on po q : Int32)  (h : plA S x r ca pa n A1) (hk : (0 : Int32) ≤ k ∧ k ≤ 3) (hpo : (0 : Int32) ≤ po ∧ po ≤ 2) (hon : (on.toUInt32 >>> ((nI n).toUInt32 &&& Int32.toUInt32 31)).toInt32 = 0) (hq : ¬ q = -1) (hmj : PC l s0 D cA yX8_mayJoin cX8_mayJoin 4 (some .boolean) rmX8_mayJoin [.ref x, .int q, .int on, .int po] S (some (.int 0)) (fun S1 => S1 = S)) : XT l s0 D cA yX8_consumer cX8_consumer 5 (some .int) rmT2 [.ref x, .int k, .int on, .int po, .int q] S "java/lang/IllegalArgumentException" := by
  refine CtX.of (cA := cA) hG (by decide +kernel) (Nat.le_of_ble_eq_true rfl) ?_
  intro p e s m below meth c A C hE hP hD hS ls hl
  have hx := cx_x C
  have hb := cx_b C
  have hl : lv_has ls 5 [(0, .ref x), (1, .int k), (2, .int on), (3, .int po), (4, .int q)] := hl
  refine lv_iload_n hx hb dX8_consumer_0 rfl (lv_at hl 1 rfl) ?_
  refine lv_iconst (v := 0) hx hb dX8_consumer_1 (by decide) ?_
  refine lv_iconst (v := 3) hx hb dX8_consumer_2 (by decide) ?_
  refine ct_S0 (As := [.int k, .int 0, .int 3]) (rest := []) (r := some (.int 1)) C (w8_1 hG _ _ _ (hk)) tm_93 tm_94 tm_1 tm_95 hdX8_isWithin.2 ⟨Nat.le_of_ble_eq_true rfl, Nat.le_of_ble_eq_true rfl⟩ hl.1 rfl (Nat.le_of_ble_eq_true rfl) dX8_consumer_3 ⟨Nat.le_of_ble_eq_true rfl, Nat.le_of_ble_eq_true rfl⟩ hP hD hS (fun H locs hP hD hS => ?_)
  refine lv_if_eq (tgt := 18) hx hb dX8_consumer_6 (by decide) (fun h9 => absurd h9 (by decide)) (fun _ => ?_)
  refine lv_iload_n hx hb dX8_consumer_9 rfl (lv_at hl 3 rfl) ?_
  refine lv_iconst (v := 0) hx hb dX8_consumer_10 (by decide) ?_
  refine lv_iconst (v := 2) hx hb dX8_consumer_11 (by decide) ?_
  refine ct_S0 (As := [.int po, .int 0, .int 2]) (rest := []) (r := some (.int 1)) C (w8_1 hG _ _ _ (hpo)) tm_93 tm_94 tm_1 tm_95 hdX8_isWithin.2 ⟨Nat.le_of_ble_eq_true rfl, Nat.le_of_ble_eq_true rfl⟩ hl.1 rfl (Nat.le_of_ble_eq_true rfl) dX8_consumer_12 ⟨Nat.le_of_ble_eq_true rfl, Nat.le_of_ble_eq_true rfl⟩ hP hD hS (fun H locs hP hD hS => ?_)
  refine lv_if_ne (tgt := 28) hx hb dX8_consumer_15 (by decide) (fun _ => ?_) (fun h9 => absurd h9 (by decide))
  refine lv_iload_n hx hb dX8_consumer_28 rfl (lv_at hl 2 rfl) ?_
  refine lv_aload_n hx hb dX8_consumer_29 rfl (lv_at hl 0 rfl) ?_
  refine gv_8_3 (v := nI n) C hP h.1.1 h.1.2 (h.2.2.2.2.1) tm_61 dX8_consumer_30 ?_
  refine lv_iushr (v := (on.toUInt32 >>> ((nI n).toUInt32 &&& Int32.toUInt32 31)).toInt32) hx hb dX8_consumer_33 rfl ?_
  refine lv_if_eq (tgt := 47) hx hb dX8_consumer_34 (by decide) (fun _ => ?_) (fun h9 => absurd (hon) h9)
  refine lv_iload hx hb dX8_consumer_47 (lv_at hl 4 rfl) ?_
  refine lv_iconst (v := (-1)) hx hb dX8_consumer_49 (by decide) ?_
  refine lv_icmp_eq (tgt := 74) hx hb dX8_consumer_50 (by decide) (fun h9 => absurd h9 (hq)) (fun _ => ?_)
  refine lv_aload_n hx hb dX8_consumer_53 rfl (lv_at hl 0 rfl) ?_
  refine lv_iload hx hb dX8_consumer_54 (lv_at hl 4 rfl) ?_
  refine lv_iload_n hx hb dX8_consumer_56 rfl (lv_at hl 2 rfl) ?_
  refine lv_iload_n hx hb dX8_consumer_57 rfl (lv_at hl 3 rfl) ?_
  refine pc_V (As := [.int q, .int on, .int po]) (rest := []) (r := some (.int 0)) C (hmj) tm_166 tm_168 tm_877 tm_1 tm_169 hdX8_mayJoin ⟨Nat.le_of_ble_eq_true rfl, Nat.le_of_ble_eq_true rfl⟩ (rcv_8 C hP h.1.1 h.1.2) hl.1 rfl (Nat.le_of_ble_eq_true rfl) dX8_consumer_58 ⟨Nat.le_of_ble_eq_true rfl, Nat.le_of_ble_eq_true rfl⟩ hP hD hS (fun S1 H locs hQ hP hD hS => ?_)
  rw [hQ] at hP hD
  refine lv_if_ne (tgt := 74) hx hb dX8_consumer_61 (by decide) (fun h9 => absurd rfl h9) (fun _ => ?_)
  exact cx_throw (rest := []) C hE (by decide +kernel) (by decide +kernel) tm_96 tm_7 tn_170 tn_98 at_iae rfl hP hS hl.1 dX8_consumer_64 dX8_consumer_67 dX8_consumer_68 dX8_consumer_70 dX8_consumer_73 (Nat.le_of_ble_eq_true rfl) (Nat.le_of_ble_eq_true rfl) (Nat.le_of_ble_eq_true rfl) (Nat.le_of_ble_eq_true rfl) (Nat.le_of_ble_eq_true rfl) (Nat.le_of_ble_eq_true rfl)
set_option maxRecDepth 100000 in
theorem x_cons_8n {l : Launch} {s0 : State} {D : va_G} {cA : Nat → ClassId} (hG : cx_G l s0 D cA) {S : Mem} {x r ca pa n v g u N : Nat} {A1 : Nat → Nat} (k on po : Int32)  (h : plA S x r ca pa n A1) (hg : rgA S r v g u N) (hk : (0 : Int32) ≤ k ∧ k ≤ 3) (hpo : (0 : Int32) ≤ po ∧ po ≤ 2) (hon : (on.toUInt32 >>> ((nI n).toUInt32 &&& Int32.toUInt32 31)).toInt32 = 0) (hn : n = 8) : XT l s0 D cA yX8_consumer cX8_consumer 5 (some .int) rmT2 [.ref x, .int k, .int on, .int po, .int (-1)] S "java/lang/IllegalStateException" := by
  refine CtX.of (cA := cA) hG (by decide +kernel) (Nat.le_of_ble_eq_true rfl) ?_
  intro p e s m below meth c A C hE hP hD hS ls hl
  have hx := cx_x C
  have hb := cx_b C
  have hl : lv_has ls 5 [(0, .ref x), (1, .int k), (2, .int on), (3, .int po), (4, .int (-1))] := hl
  refine lv_iload_n hx hb dX8_consumer_0 rfl (lv_at hl 1 rfl) ?_
  refine lv_iconst (v := 0) hx hb dX8_consumer_1 (by decide) ?_
  refine lv_iconst (v := 3) hx hb dX8_consumer_2 (by decide) ?_
  refine ct_S0 (As := [.int k, .int 0, .int 3]) (rest := []) (r := some (.int 1)) C (w8_1 hG _ _ _ (hk)) tm_93 tm_94 tm_1 tm_95 hdX8_isWithin.2 ⟨Nat.le_of_ble_eq_true rfl, Nat.le_of_ble_eq_true rfl⟩ hl.1 rfl (Nat.le_of_ble_eq_true rfl) dX8_consumer_3 ⟨Nat.le_of_ble_eq_true rfl, Nat.le_of_ble_eq_true rfl⟩ hP hD hS (fun H locs hP hD hS => ?_)
  refine lv_if_eq (tgt := 18) hx hb dX8_consumer_6 (by decide) (fun h9 => absurd h9 (by decide)) (fun _ => ?_)
  refine lv_iload_n hx hb dX8_consumer_9 rfl (lv_at hl 3 rfl) ?_
  refine lv_iconst (v := 0) hx hb dX8_consumer_10 (by decide) ?_
  refine lv_iconst (v := 2) hx hb dX8_consumer_11 (by decide) ?_
  refine ct_S0 (As := [.int po, .int 0, .int 2]) (rest := []) (r := some (.int 1)) C (w8_1 hG _ _ _ (hpo)) tm_93 tm_94 tm_1 tm_95 hdX8_isWithin.2 ⟨Nat.le_of_ble_eq_true rfl, Nat.le_of_ble_eq_true rfl⟩ hl.1 rfl (Nat.le_of_ble_eq_true rfl) dX8_consumer_12 ⟨Nat.le_of_ble_eq_true rfl, Nat.le_of_ble_eq_true rfl⟩ hP hD hS (fun H locs hP hD hS => ?_)
  refine lv_if_ne (tgt := 28) hx hb dX8_consumer_15 (by decide) (fun _ => ?_) (fun h9 => absurd h9 (by decide))
  refine lv_iload_n hx hb dX8_consumer_28 rfl (lv_at hl 2 rfl) ?_
  refine lv_aload_n hx hb dX8_consumer_29 rfl (lv_at hl 0 rfl) ?_
  refine gv_8_3 (v := nI n) C hP h.1.1 h.1.2 (h.2.2.2.2.1) tm_61 dX8_consumer_30 ?_
  refine lv_iushr (v := (on.toUInt32 >>> ((nI n).toUInt32 &&& Int32.toUInt32 31)).toInt32) hx hb dX8_consumer_33 rfl ?_
  refine lv_if_eq (tgt := 47) hx hb dX8_consumer_34 (by decide) (fun _ => ?_) (fun h9 => absurd (hon) h9)
  refine lv_iload hx hb dX8_consumer_47 (lv_at hl 4 rfl) ?_
  refine lv_iconst (v := (-1)) hx hb dX8_consumer_49 (by decide) ?_
  refine lv_icmp_eq (tgt := 74) hx hb dX8_consumer_50 (by decide) (fun _ => ?_) (fun h9 => absurd (by decide) h9)
  refine lv_aload_n hx hb dX8_consumer_74 rfl (lv_at hl 0 rfl) ?_
  refine gv_8_3 (v := nI n) C hP h.1.1 h.1.2 (h.2.2.2.2.1) tm_61 dX8_consumer_75 ?_
  refine lv_bipush (v := 8) hx hb dX8_consumer_78 (by decide) ?_
  refine lv_icmp_ge (tgt := 95) hx hb dX8_consumer_80 (by decide) (fun _ => ?_) (fun h9 => absurd (by rw [hn]; decide) h9)
  exact cx_throw (rest := []) C hE (by decide +kernel) (by decide +kernel) tm_171 tm_8 tn_180 tn_173 at_ise rfl hP hS hl.1 dX8_consumer_95 dX8_consumer_98 dX8_consumer_99 dX8_consumer_101 dX8_consumer_104 (Nat.le_of_ble_eq_true rfl) (Nat.le_of_ble_eq_true rfl) (Nat.le_of_ble_eq_true rfl) (Nat.le_of_ble_eq_true rfl) (Nat.le_of_ble_eq_true rfl) (Nat.le_of_ble_eq_true rfl)
set_option maxRecDepth 100000 in
theorem x_cons_8p {l : Launch} {s0 : State} {D : va_G} {cA : Nat → ClassId} (hG : cx_G l s0 D cA) {S : Mem} {x r ca pa n v g u N : Nat} {A1 : Nat → Nat} (k on po q : Int32)  (h : plA S x r ca pa n A1) (hg : rgA S r v g u N) (hk : (0 : Int32) ≤ k ∧ k ≤ 3) (hpo : (0 : Int32) ≤ po ∧ po ≤ 2) (hon : (on.toUInt32 >>> ((nI n).toUInt32 &&& Int32.toUInt32 31)).toInt32 = 0) (hq : ¬ q = -1) (hmj : PC l s0 D cA yX8_mayJoin cX8_mayJoin 4 (some .boolean) rmX8_mayJoin [.ref x, .int q, .int on, .int po] S (some (.int 1)) (fun S1 => S1 = S)) (hn : n = 8) : XT l s0 D cA yX8_consumer cX8_consumer 5 (some .int) rmT2 [.ref x, .int k, .int on, .int po, .int q] S "java/lang/IllegalStateException" := by
  refine CtX.of (cA := cA) hG (by decide +kernel) (Nat.le_of_ble_eq_true rfl) ?_
  intro p e s m below meth c A C hE hP hD hS ls hl
  have hx := cx_x C
  have hb := cx_b C
  have hl : lv_has ls 5 [(0, .ref x), (1, .int k), (2, .int on), (3, .int po), (4, .int q)] := hl
  refine lv_iload_n hx hb dX8_consumer_0 rfl (lv_at hl 1 rfl) ?_
  refine lv_iconst (v := 0) hx hb dX8_consumer_1 (by decide) ?_
  refine lv_iconst (v := 3) hx hb dX8_consumer_2 (by decide) ?_
  refine ct_S0 (As := [.int k, .int 0, .int 3]) (rest := []) (r := some (.int 1)) C (w8_1 hG _ _ _ (hk)) tm_93 tm_94 tm_1 tm_95 hdX8_isWithin.2 ⟨Nat.le_of_ble_eq_true rfl, Nat.le_of_ble_eq_true rfl⟩ hl.1 rfl (Nat.le_of_ble_eq_true rfl) dX8_consumer_3 ⟨Nat.le_of_ble_eq_true rfl, Nat.le_of_ble_eq_true rfl⟩ hP hD hS (fun H locs hP hD hS => ?_)
  refine lv_if_eq (tgt := 18) hx hb dX8_consumer_6 (by decide) (fun h9 => absurd h9 (by decide)) (fun _ => ?_)
  refine lv_iload_n hx hb dX8_consumer_9 rfl (lv_at hl 3 rfl) ?_
  refine lv_iconst (v := 0) hx hb dX8_consumer_10 (by decide) ?_
  refine lv_iconst (v := 2) hx hb dX8_consumer_11 (by decide) ?_
  refine ct_S0 (As := [.int po, .int 0, .int 2]) (rest := []) (r := some (.int 1)) C (w8_1 hG _ _ _ (hpo)) tm_93 tm_94 tm_1 tm_95 hdX8_isWithin.2 ⟨Nat.le_of_ble_eq_true rfl, Nat.le_of_ble_eq_true rfl⟩ hl.1 rfl (Nat.le_of_ble_eq_true rfl) dX8_consumer_12 ⟨Nat.le_of_ble_eq_true rfl, Nat.le_of_ble_eq_true rfl⟩ hP hD hS (fun H locs hP hD hS => ?_)
  refine lv_if_ne (tgt := 28) hx hb dX8_consumer_15 (by decide) (fun _ => ?_) (fun h9 => absurd h9 (by decide))
  refine lv_iload_n hx hb dX8_consumer_28 rfl (lv_at hl 2 rfl) ?_
  refine lv_aload_n hx hb dX8_consumer_29 rfl (lv_at hl 0 rfl) ?_
  refine gv_8_3 (v := nI n) C hP h.1.1 h.1.2 (h.2.2.2.2.1) tm_61 dX8_consumer_30 ?_
  refine lv_iushr (v := (on.toUInt32 >>> ((nI n).toUInt32 &&& Int32.toUInt32 31)).toInt32) hx hb dX8_consumer_33 rfl ?_
  refine lv_if_eq (tgt := 47) hx hb dX8_consumer_34 (by decide) (fun _ => ?_) (fun h9 => absurd (hon) h9)
  refine lv_iload hx hb dX8_consumer_47 (lv_at hl 4 rfl) ?_
  refine lv_iconst (v := (-1)) hx hb dX8_consumer_49 (by decide) ?_
  refine lv_icmp_eq (tgt := 74) hx hb dX8_consumer_50 (by decide) (fun h9 => absurd h9 (hq)) (fun _ => ?_)
  refine lv_aload_n hx hb dX8_consumer_53 rfl (lv_at hl 0 rfl) ?_
  refine lv_iload hx hb dX8_consumer_54 (lv_at hl 4 rfl) ?_
  refine lv_iload_n hx hb dX8_consumer_56 rfl (lv_at hl 2 rfl) ?_
  refine lv_iload_n hx hb dX8_consumer_57 rfl (lv_at hl 3 rfl) ?_
  refine pc_V (As := [.int q, .int on, .int po]) (rest := []) (r := some (.int 1)) C (hmj) tm_166 tm_168 tm_877 tm_1 tm_169 hdX8_mayJoin ⟨Nat.le_of_ble_eq_true rfl, Nat.le_of_ble_eq_true rfl⟩ (rcv_8 C hP h.1.1 h.1.2) hl.1 rfl (Nat.le_of_ble_eq_true rfl) dX8_consumer_58 ⟨Nat.le_of_ble_eq_true rfl, Nat.le_of_ble_eq_true rfl⟩ hP hD hS (fun S1 H locs hQ hP hD hS => ?_)
  rw [hQ] at hP hD
  refine lv_if_ne (tgt := 74) hx hb dX8_consumer_61 (by decide) (fun _ => ?_) (fun h9 => absurd h9 (by decide))
  refine lv_aload_n hx hb dX8_consumer_74 rfl (lv_at hl 0 rfl) ?_
  refine gv_8_3 (v := nI n) C hP h.1.1 h.1.2 (h.2.2.2.2.1) tm_61 dX8_consumer_75 ?_
  refine lv_bipush (v := 8) hx hb dX8_consumer_78 (by decide) ?_
  refine lv_icmp_ge (tgt := 95) hx hb dX8_consumer_80 (by decide) (fun _ => ?_) (fun h9 => absurd (by rw [hn]; decide) h9)
  exact cx_throw (rest := []) C hE (by decide +kernel) (by decide +kernel) tm_171 tm_8 tn_180 tn_173 at_ise rfl hP hS hl.1 dX8_consumer_95 dX8_consumer_98 dX8_consumer_99 dX8_consumer_101 dX8_consumer_104 (Nat.le_of_ble_eq_true rfl) (Nat.le_of_ble_eq_true rfl) (Nat.le_of_ble_eq_true rfl) (Nat.le_of_ble_eq_true rfl) (Nat.le_of_ble_eq_true rfl) (Nat.le_of_ble_eq_true rfl)
set_option maxRecDepth 100000 in
theorem x_cons_cn {l : Launch} {s0 : State} {D : va_G} {cA : Nat → ClassId} (hG : cx_G l s0 D cA) {S : Mem} {x r ca pa n v g u N : Nat} {A1 : Nat → Nat} {cq : Int64} (k on po : Int32)  (h : plA S x r ca pa n A1) (hg : rgA S r v g u N) (hk : (0 : Int32) ≤ k ∧ k ≤ 3) (hpo : (0 : Int32) ≤ po ∧ po ≤ 2) (hon : (on.toUInt32 >>> ((nI n).toUInt32 &&& Int32.toUInt32 31)).toInt32 = 0) (hn : n < 8) (hcu : mJ S 3 r = cq) (hc0 : ¬ cq < 0) : XT l s0 D cA yX8_consumer cX8_consumer 5 (some .int) rmT2 [.ref x, .int k, .int on, .int po, .int (-1)] S "java/lang/IllegalStateException" := by
  refine CtX.of (cA := cA) hG (by decide +kernel) (Nat.le_of_ble_eq_true rfl) ?_
  intro p e s m below meth c A C hE hP hD hS ls hl
  have hx := cx_x C
  have hb := cx_b C
  have hl : lv_has ls 5 [(0, .ref x), (1, .int k), (2, .int on), (3, .int po), (4, .int (-1))] := hl
  refine lv_iload_n hx hb dX8_consumer_0 rfl (lv_at hl 1 rfl) ?_
  refine lv_iconst (v := 0) hx hb dX8_consumer_1 (by decide) ?_
  refine lv_iconst (v := 3) hx hb dX8_consumer_2 (by decide) ?_
  refine ct_S0 (As := [.int k, .int 0, .int 3]) (rest := []) (r := some (.int 1)) C (w8_1 hG _ _ _ (hk)) tm_93 tm_94 tm_1 tm_95 hdX8_isWithin.2 ⟨Nat.le_of_ble_eq_true rfl, Nat.le_of_ble_eq_true rfl⟩ hl.1 rfl (Nat.le_of_ble_eq_true rfl) dX8_consumer_3 ⟨Nat.le_of_ble_eq_true rfl, Nat.le_of_ble_eq_true rfl⟩ hP hD hS (fun H locs hP hD hS => ?_)
  refine lv_if_eq (tgt := 18) hx hb dX8_consumer_6 (by decide) (fun h9 => absurd h9 (by decide)) (fun _ => ?_)
  refine lv_iload_n hx hb dX8_consumer_9 rfl (lv_at hl 3 rfl) ?_
  refine lv_iconst (v := 0) hx hb dX8_consumer_10 (by decide) ?_
  refine lv_iconst (v := 2) hx hb dX8_consumer_11 (by decide) ?_
  refine ct_S0 (As := [.int po, .int 0, .int 2]) (rest := []) (r := some (.int 1)) C (w8_1 hG _ _ _ (hpo)) tm_93 tm_94 tm_1 tm_95 hdX8_isWithin.2 ⟨Nat.le_of_ble_eq_true rfl, Nat.le_of_ble_eq_true rfl⟩ hl.1 rfl (Nat.le_of_ble_eq_true rfl) dX8_consumer_12 ⟨Nat.le_of_ble_eq_true rfl, Nat.le_of_ble_eq_true rfl⟩ hP hD hS (fun H locs hP hD hS => ?_)
  refine lv_if_ne (tgt := 28) hx hb dX8_consumer_15 (by decide) (fun _ => ?_) (fun h9 => absurd h9 (by decide))
  refine lv_iload_n hx hb dX8_consumer_28 rfl (lv_at hl 2 rfl) ?_
  refine lv_aload_n hx hb dX8_consumer_29 rfl (lv_at hl 0 rfl) ?_
  refine gv_8_3 (v := nI n) C hP h.1.1 h.1.2 (h.2.2.2.2.1) tm_61 dX8_consumer_30 ?_
  refine lv_iushr (v := (on.toUInt32 >>> ((nI n).toUInt32 &&& Int32.toUInt32 31)).toInt32) hx hb dX8_consumer_33 rfl ?_
  refine lv_if_eq (tgt := 47) hx hb dX8_consumer_34 (by decide) (fun _ => ?_) (fun h9 => absurd (hon) h9)
  refine lv_iload hx hb dX8_consumer_47 (lv_at hl 4 rfl) ?_
  refine lv_iconst (v := (-1)) hx hb dX8_consumer_49 (by decide) ?_
  refine lv_icmp_eq (tgt := 74) hx hb dX8_consumer_50 (by decide) (fun _ => ?_) (fun h9 => absurd (by decide) h9)
  refine lv_aload_n hx hb dX8_consumer_74 rfl (lv_at hl 0 rfl) ?_
  refine gv_8_3 (v := nI n) C hP h.1.1 h.1.2 (h.2.2.2.2.1) tm_61 dX8_consumer_75 ?_
  refine lv_bipush (v := 8) hx hb dX8_consumer_78 (by decide) ?_
  refine lv_icmp_ge (tgt := 95) hx hb dX8_consumer_80 (by decide) (fun h9 => absurd h9 (nI_ge hn (by decide))) (fun _ => ?_)
  refine lv_aload_n hx hb dX8_consumer_83 rfl (lv_at hl 0 rfl) ?_
  refine gf_8_0s (b := r) C hP h.1.1 h.1.2 (h.2.1.1) tm_58 dX8_consumer_84 ?_
  refine gv_5_3 (v := cq) C hP hg.1.1 hg.1.2 (hcu) tm_42 dX8_consumer_87 ?_
  refine lv_lconst (v := 0) hx hb dX8_consumer_90 (by decide) ?_
  refine W.lcmp hx hb dX8_consumer_91 ?_
  refine lv_if_lt (tgt := 105) hx hb dX8_consumer_92 (by decide) (fun h9 => absurd h9 (by rw [lg_cmp_lt]; exact hc0)) (fun _ => ?_)
  exact cx_throw (rest := []) C hE (by decide +kernel) (by decide +kernel) tm_171 tm_8 tn_180 tn_173 at_ise rfl hP hS hl.1 dX8_consumer_95 dX8_consumer_98 dX8_consumer_99 dX8_consumer_101 dX8_consumer_104 (Nat.le_of_ble_eq_true rfl) (Nat.le_of_ble_eq_true rfl) (Nat.le_of_ble_eq_true rfl) (Nat.le_of_ble_eq_true rfl) (Nat.le_of_ble_eq_true rfl) (Nat.le_of_ble_eq_true rfl)
set_option maxRecDepth 100000 in
theorem x_cons_cp {l : Launch} {s0 : State} {D : va_G} {cA : Nat → ClassId} (hG : cx_G l s0 D cA) {S : Mem} {x r ca pa n v g u N : Nat} {A1 : Nat → Nat} {cq : Int64} (k on po q : Int32)  (h : plA S x r ca pa n A1) (hg : rgA S r v g u N) (hk : (0 : Int32) ≤ k ∧ k ≤ 3) (hpo : (0 : Int32) ≤ po ∧ po ≤ 2) (hon : (on.toUInt32 >>> ((nI n).toUInt32 &&& Int32.toUInt32 31)).toInt32 = 0) (hq : ¬ q = -1) (hmj : PC l s0 D cA yX8_mayJoin cX8_mayJoin 4 (some .boolean) rmX8_mayJoin [.ref x, .int q, .int on, .int po] S (some (.int 1)) (fun S1 => S1 = S)) (hn : n < 8) (hcu : mJ S 3 r = cq) (hc0 : ¬ cq < 0) : XT l s0 D cA yX8_consumer cX8_consumer 5 (some .int) rmT2 [.ref x, .int k, .int on, .int po, .int q] S "java/lang/IllegalStateException" := by
  refine CtX.of (cA := cA) hG (by decide +kernel) (Nat.le_of_ble_eq_true rfl) ?_
  intro p e s m below meth c A C hE hP hD hS ls hl
  have hx := cx_x C
  have hb := cx_b C
  have hl : lv_has ls 5 [(0, .ref x), (1, .int k), (2, .int on), (3, .int po), (4, .int q)] := hl
  refine lv_iload_n hx hb dX8_consumer_0 rfl (lv_at hl 1 rfl) ?_
  refine lv_iconst (v := 0) hx hb dX8_consumer_1 (by decide) ?_
  refine lv_iconst (v := 3) hx hb dX8_consumer_2 (by decide) ?_
  refine ct_S0 (As := [.int k, .int 0, .int 3]) (rest := []) (r := some (.int 1)) C (w8_1 hG _ _ _ (hk)) tm_93 tm_94 tm_1 tm_95 hdX8_isWithin.2 ⟨Nat.le_of_ble_eq_true rfl, Nat.le_of_ble_eq_true rfl⟩ hl.1 rfl (Nat.le_of_ble_eq_true rfl) dX8_consumer_3 ⟨Nat.le_of_ble_eq_true rfl, Nat.le_of_ble_eq_true rfl⟩ hP hD hS (fun H locs hP hD hS => ?_)
  refine lv_if_eq (tgt := 18) hx hb dX8_consumer_6 (by decide) (fun h9 => absurd h9 (by decide)) (fun _ => ?_)
  refine lv_iload_n hx hb dX8_consumer_9 rfl (lv_at hl 3 rfl) ?_
  refine lv_iconst (v := 0) hx hb dX8_consumer_10 (by decide) ?_
  refine lv_iconst (v := 2) hx hb dX8_consumer_11 (by decide) ?_
  refine ct_S0 (As := [.int po, .int 0, .int 2]) (rest := []) (r := some (.int 1)) C (w8_1 hG _ _ _ (hpo)) tm_93 tm_94 tm_1 tm_95 hdX8_isWithin.2 ⟨Nat.le_of_ble_eq_true rfl, Nat.le_of_ble_eq_true rfl⟩ hl.1 rfl (Nat.le_of_ble_eq_true rfl) dX8_consumer_12 ⟨Nat.le_of_ble_eq_true rfl, Nat.le_of_ble_eq_true rfl⟩ hP hD hS (fun H locs hP hD hS => ?_)
  refine lv_if_ne (tgt := 28) hx hb dX8_consumer_15 (by decide) (fun _ => ?_) (fun h9 => absurd h9 (by decide))
  refine lv_iload_n hx hb dX8_consumer_28 rfl (lv_at hl 2 rfl) ?_
  refine lv_aload_n hx hb dX8_consumer_29 rfl (lv_at hl 0 rfl) ?_
  refine gv_8_3 (v := nI n) C hP h.1.1 h.1.2 (h.2.2.2.2.1) tm_61 dX8_consumer_30 ?_
  refine lv_iushr (v := (on.toUInt32 >>> ((nI n).toUInt32 &&& Int32.toUInt32 31)).toInt32) hx hb dX8_consumer_33 rfl ?_
  refine lv_if_eq (tgt := 47) hx hb dX8_consumer_34 (by decide) (fun _ => ?_) (fun h9 => absurd (hon) h9)
  refine lv_iload hx hb dX8_consumer_47 (lv_at hl 4 rfl) ?_
  refine lv_iconst (v := (-1)) hx hb dX8_consumer_49 (by decide) ?_
  refine lv_icmp_eq (tgt := 74) hx hb dX8_consumer_50 (by decide) (fun h9 => absurd h9 (hq)) (fun _ => ?_)
  refine lv_aload_n hx hb dX8_consumer_53 rfl (lv_at hl 0 rfl) ?_
  refine lv_iload hx hb dX8_consumer_54 (lv_at hl 4 rfl) ?_
  refine lv_iload_n hx hb dX8_consumer_56 rfl (lv_at hl 2 rfl) ?_
  refine lv_iload_n hx hb dX8_consumer_57 rfl (lv_at hl 3 rfl) ?_
  refine pc_V (As := [.int q, .int on, .int po]) (rest := []) (r := some (.int 1)) C (hmj) tm_166 tm_168 tm_877 tm_1 tm_169 hdX8_mayJoin ⟨Nat.le_of_ble_eq_true rfl, Nat.le_of_ble_eq_true rfl⟩ (rcv_8 C hP h.1.1 h.1.2) hl.1 rfl (Nat.le_of_ble_eq_true rfl) dX8_consumer_58 ⟨Nat.le_of_ble_eq_true rfl, Nat.le_of_ble_eq_true rfl⟩ hP hD hS (fun S1 H locs hQ hP hD hS => ?_)
  rw [hQ] at hP hD
  refine lv_if_ne (tgt := 74) hx hb dX8_consumer_61 (by decide) (fun _ => ?_) (fun h9 => absurd h9 (by decide))
  refine lv_aload_n hx hb dX8_consumer_74 rfl (lv_at hl 0 rfl) ?_
  refine gv_8_3 (v := nI n) C hP h.1.1 h.1.2 (h.2.2.2.2.1) tm_61 dX8_consumer_75 ?_
  refine lv_bipush (v := 8) hx hb dX8_consumer_78 (by decide) ?_
  refine lv_icmp_ge (tgt := 95) hx hb dX8_consumer_80 (by decide) (fun h9 => absurd h9 (nI_ge hn (by decide))) (fun _ => ?_)
  refine lv_aload_n hx hb dX8_consumer_83 rfl (lv_at hl 0 rfl) ?_
  refine gf_8_0s (b := r) C hP h.1.1 h.1.2 (h.2.1.1) tm_58 dX8_consumer_84 ?_
  refine gv_5_3 (v := cq) C hP hg.1.1 hg.1.2 (hcu) tm_42 dX8_consumer_87 ?_
  refine lv_lconst (v := 0) hx hb dX8_consumer_90 (by decide) ?_
  refine W.lcmp hx hb dX8_consumer_91 ?_
  refine lv_if_lt (tgt := 105) hx hb dX8_consumer_92 (by decide) (fun h9 => absurd h9 (by rw [lg_cmp_lt]; exact hc0)) (fun _ => ?_)
  exact cx_throw (rest := []) C hE (by decide +kernel) (by decide +kernel) tm_171 tm_8 tn_180 tn_173 at_ise rfl hP hS hl.1 dX8_consumer_95 dX8_consumer_98 dX8_consumer_99 dX8_consumer_101 dX8_consumer_104 (Nat.le_of_ble_eq_true rfl) (Nat.le_of_ble_eq_true rfl) (Nat.le_of_ble_eq_true rfl) (Nat.le_of_ble_eq_true rfl) (Nat.le_of_ble_eq_true rfl) (Nat.le_of_ble_eq_true rfl)
