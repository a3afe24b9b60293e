/-! ===== the class: methods that answer a new object ===== -/
def PE (l : Launch) (s0 : State) (D : va_G) (cA : Nat → ClassId) (y : MethodName) (b : ByteArray) (mL : Nat) (rt : Option FieldType) (rm : Room) (As : List Value) (S : Mem) (Φ : Nat → Mem → Prop) : Prop := Ct l s0 D y (.code y b mL rt :: TB) rm As (pW cA S) (fun v w => ∃ q S1, v = some (.ref q) ∧ w = pW cA S1 ∧ Φ q S1)
section PeCalls
variable {p : Program} {l : Launch} {e : Env} {R : Room} {s : State} {m : MethodId} {args : Array Value} {below : List Frame} {meth : Method} {c : Code} {H : Heap} {locs : List Loc} {cells slots : Nat} {Q : State → Prop}
variable {s0 : State} {D : va_G} {cA : Nat → ClassId} {cc : ByteArray} {nL : Nat} {ret : Option FieldType} {own : String} {A : Nat → Prop}
variable {pc : Nat} {ls : Array Slot} {rest : List Value} {S : Mem} {idx mL9 x : Nat} {y : MethodName} {b : ByteArray} {rt : Option FieldType} {rm : Room} {As st : List Value} {Φ : Nat → Mem → Prop}
theorem pe_V (C : cx_C p l s m args meth c s0 D cA cc nL ret own A) (hM : PE l s0 D cA y b mL9 rt rm (.ref x :: As) S Φ) (h1 : Cond.methodLink own idx y ∈ TB) (h2 : Cond.instanceMethod y ∈ TB) (h3 : Cond.selects y.cls y y ∈ TB) (h4 : Cond.initialized y.cls ∈ TB) (h5 : Cond.code y b mL9 rt ∈ TB) (hd : y.cls = y.cls ∧ y.cls ≠ "java/lang/invoke/MethodHandle" ∧ y.cls ≠ "java/lang/invoke/VarHandle" ∧ (parseMethodDescriptor y.desc).map (fun d => d.parameters.length) = some As.length) (hR : rm.frames + 1 ≤ R.frames ∧ 8 + (mL9 + 11) + rm.locals ≤ R.locals) (hr : ∃ cell : Cell, H[x]? = some cell ∧ cell.vm.isStatics = false ∧ s.vm.findClass y.cls = some cell.cls) (hz : ls.size = nL) (hst : st = As.reverse ++ .ref x :: rest) (hw : (rest.map fun v => v.category).sum ≤ 8) (d : decode cc pc = .ok (.invokevirtual idx, 3)) (hc : cells + rm.cells ≤ R.cells ∧ slots + rm.slots ≤ R.slots)
    (hP : va_P D vwCl (pW cA S) H) (hD : va_D A (pW cA S)) (hS : va_S A s.heap H locs)
    (kk : ∀ (q : Nat) (S1 : Mem) (H1 : Heap) (locs1 : List Loc), Φ q S1 → va_P D vwCl (pW cA S1) H1 → va_D A (pW cA S1) → va_S A s.heap H1 locs1 → W p l e R s m args below meth c H1 locs1 (cells + rm.cells) (slots + rm.slots) Q (F0 m (pc + 3) ls (.ref q :: rest))) :
    W p l e R s m args below meth c H locs cells slots Q (F0 m pc ls st) := by
  refine ct_V C hM h1 h2 h3 h4 h5 hd hR hr hz hst hw d hc pm_nil hP hD hS (fun v w1 H1 locs1 hq hP1 hD1 hS1 => ?_)
  obtain ⟨q, S1, rfl, rfl, hΦ⟩ := hq
  rw [List.append_nil] at hP1 hD1
  exact kk q S1 H1 locs1 hΦ hP1 hD1 hS1
theorem pe_S (C : cx_C p l s m args meth c s0 D cA cc nL ret own A) (hM : PE l s0 D cA y b mL9 rt rm As S Φ) (h1 : Cond.methodLink own idx y ∈ TB) (h2 : Cond.static y ∈ TB) (h4 : Cond.initialized y.cls ∈ TB) (h5 : Cond.code y b mL9 rt ∈ TB) (hd : y.cls ≠ "java/lang/invoke/MethodHandle" ∧ y.cls ≠ "java/lang/invoke/VarHandle" ∧ (parseMethodDescriptor y.desc).map (fun d => d.parameters.length) = some As.length) (hR : rm.frames + 1 ≤ R.frames ∧ 8 + (mL9 + 11) + rm.locals ≤ R.locals) (hz : ls.size = nL) (hst : st = As.reverse ++ rest) (hw : (rest.map fun v => v.category).sum ≤ 8) (d : decode cc pc = .ok (.invokestatic idx, 3)) (hc : cells + rm.cells ≤ R.cells ∧ slots + rm.slots ≤ R.slots)
    (hP : va_P D vwCl (pW cA S) H) (hD : va_D A (pW cA S)) (hS : va_S A s.heap H locs)
    (kk : ∀ (q : Nat) (S1 : Mem) (H1 : Heap) (locs1 : List Loc), Φ q S1 → va_P D vwCl (pW cA S1) H1 → va_D A (pW cA S1) → va_S A s.heap H1 locs1 → W p l e R s m args below meth c H1 locs1 (cells + rm.cells) (slots + rm.slots) Q (F0 m (pc + 3) ls (.ref q :: rest))) :
    W p l e R s m args below meth c H locs cells slots Q (F0 m pc ls st) := by
  refine ct_S C hM h1 h2 h4 h5 hd hR hz hst hw d hc pm_nil hP hD hS (fun v w1 H1 locs1 hq hP1 hD1 hS1 => ?_)
  obtain ⟨q, S1, rfl, rfl, hΦ⟩ := hq
  rw [List.append_nil] at hP1 hD1
  exact kk q S1 H1 locs1 hΦ hP1 hD1 hS1
end PeCalls
set_option maxRecDepth 100000 in
theorem c_nh0 {l : Launch} {s0 : State} {D : va_G} {cA : Nat → ClassId} (hG : cx_G l s0 D cA) {S : Mem}  : PE l s0 D cA yX8_newHandler cX8_newHandler 1 (some (.object "RingPipeline$Handler")) rmX8_newHandler [.int 0] S (fun q9 S1 => q9 ∉ mL S ∧ S1 = nw S q9 6 0) := by
  refine Ct.of (cA := cA) hG (by decide +kernel) (Nat.le_of_ble_eq_true rfl) ?_
  intro p e s m below meth c A C hnm hP hD hS ls hl
  have hx := cx_x C
  have hb := cx_b C
  have hl : lv_has ls 1 [(0, .int 0)] := hl
  refine lv_iload_n hx hb dX8_newHandler_0 rfl (lv_at hl 0 rfl) ?_
  refine lv_tableIn (tgt := 28) hx hb dX8_newHandler_1 (by decide) (by decide) (off := 27) (by decide) (by decide) ?_
  refine nwo_7 C hP hD hS tm_191 (Nat.le_of_ble_eq_true rfl) (Nat.le_of_ble_eq_true rfl) dX8_newHandler_28 (fun q0 H hq0 hP hD hS => ?_)
  obtain ⟨M0, eM0⟩ : ∃ M9, M9 = nw S q0 6 0 := ⟨_, rfl⟩
  rw [← eM0] at hP hD
  have lM0q : q0 ∈ mL M0 := by rw [eM0]; exact nw_q (S := S) (q := q0) (k := 6) (n := 0)
  have kM0q : mK M0 q0 = 6 := by rw [eM0]; exact nw_Kq (S := S) (q := q0) (k := 6) (n := 0)
  refine lv_dup hx hb dX8_newHandler_31 rfl ?_
  refine pc_IN (As := []) (rest := [.ref q0]) C (c_ini7 (S := M0) hG) tn_193 tm_194 tm_11 tm_195 rfl hdX7_init.2 ⟨Nat.le_of_ble_eq_true rfl, Nat.le_of_ble_eq_true rfl⟩ hl.1 rfl (Nat.le_of_ble_eq_true rfl) dX8_newHandler_32 ⟨Nat.le_of_ble_eq_true rfl, Nat.le_of_ble_eq_true rfl⟩ hP hD hS (fun S1 H locs hQ hP hD hS => ?_)
  rw [hQ] at hP hD
  exact ct_aret (r := some q0) C hS hP hD (⟨q0, _, rfl, rfl, hq0, eM0⟩) (Nat.le_of_ble_eq_true rfl) (Nat.le_of_ble_eq_true rfl) dX8_newHandler_35
set_option maxRecDepth 100000 in
theorem c_nh1 {l : Launch} {s0 : State} {D : va_G} {cA : Nat → ClassId} (hG : cx_G l s0 D cA) {S : Mem}  : PE l s0 D cA yX8_newHandler cX8_newHandler 1 (some (.object "RingPipeline$Handler")) rmX8_newHandler [.int 1] S (fun q9 S1 => q9 ∉ mL S ∧ S1 = nw S q9 5 0) := by
  refine Ct.of (cA := cA) hG (by decide +kernel) (Nat.le_of_ble_eq_true rfl) ?_
  intro p e s m below meth c A C hnm hP hD hS ls hl
  have hx := cx_x C
  have hb := cx_b C
  have hl : lv_has ls 1 [(0, .int 1)] := hl
  refine lv_iload_n hx hb dX8_newHandler_0 rfl (lv_at hl 0 rfl) ?_
  refine lv_tableIn (tgt := 36) hx hb dX8_newHandler_1 (by decide) (by decide) (off := 35) (by decide) (by decide) ?_
  refine nwo_6 C hP hD hS tm_207 (Nat.le_of_ble_eq_true rfl) (Nat.le_of_ble_eq_true rfl) dX8_newHandler_36 (fun q0 H hq0 hP hD hS => ?_)
  obtain ⟨M0, eM0⟩ : ∃ M9, M9 = nw S q0 5 0 := ⟨_, rfl⟩
  rw [← eM0] at hP hD
  have lM0q : q0 ∈ mL M0 := by rw [eM0]; exact nw_q (S := S) (q := q0) (k := 5) (n := 0)
  have kM0q : mK M0 q0 = 5 := by rw [eM0]; exact nw_Kq (S := S) (q := q0) (k := 5) (n := 0)
  refine lv_dup hx hb dX8_newHandler_39 rfl ?_
  refine pc_IN (As := []) (rest := [.ref q0]) C (c_ini6 (S := M0) hG) tn_209 tm_210 tm_12 tm_211 rfl hdX6_init.2 ⟨Nat.le_of_ble_eq_true rfl, Nat.le_of_ble_eq_true rfl⟩ hl.1 rfl (Nat.le_of_ble_eq_true rfl) dX8_newHandler_40 ⟨Nat.le_of_ble_eq_true rfl, Nat.le_of_ble_eq_true rfl⟩ hP hD hS (fun S1 H locs hQ hP hD hS => ?_)
  rw [hQ] at hP hD
  exact ct_aret (r := some q0) C hS hP hD (⟨q0, _, rfl, rfl, hq0, eM0⟩) (Nat.le_of_ble_eq_true rfl) (Nat.le_of_ble_eq_true rfl) dX8_newHandler_43
set_option maxRecDepth 100000 in
theorem c_nh2 {l : Launch} {s0 : State} {D : va_G} {cA : Nat → ClassId} (hG : cx_G l s0 D cA) {S : Mem}  : PE l s0 D cA yX8_newHandler cX8_newHandler 1 (some (.object "RingPipeline$Handler")) rmX8_newHandler [.int 2] S (fun q9 S1 => q9 ∉ mL S ∧ S1 = nw S q9 2 0) := by
  refine Ct.of (cA := cA) hG (by decide +kernel) (Nat.le_of_ble_eq_true rfl) ?_
  intro p e s m below meth c A C hnm hP hD hS ls hl
  have hx := cx_x C
  have hb := cx_b C
  have hl : lv_has ls 1 [(0, .int 2)] := hl
  refine lv_iload_n hx hb dX8_newHandler_0 rfl (lv_at hl 0 rfl) ?_
  refine lv_tableIn (tgt := 44) hx hb dX8_newHandler_1 (by decide) (by decide) (off := 43) (by decide) (by decide) ?_
  refine nwo_3 C hP hD hS tm_221 (Nat.le_of_ble_eq_true rfl) (Nat.le_of_ble_eq_true rfl) dX8_newHandler_44 (fun q0 H hq0 hP hD hS => ?_)
  obtain ⟨M0, eM0⟩ : ∃ M9, M9 = nw S q0 2 0 := ⟨_, rfl⟩
  rw [← eM0] at hP hD
  have lM0q : q0 ∈ mL M0 := by rw [eM0]; exact nw_q (S := S) (q := q0) (k := 2) (n := 0)
  have kM0q : mK M0 q0 = 2 := by rw [eM0]; exact nw_Kq (S := S) (q := q0) (k := 2) (n := 0)
  refine lv_dup hx hb dX8_newHandler_47 rfl ?_
  refine pc_IN (As := []) (rest := [.ref q0]) C (c_ini3 (S := M0) hG) tn_223 tm_224 tm_13 tm_225 rfl hdX3_init.2 ⟨Nat.le_of_ble_eq_true rfl, Nat.le_of_ble_eq_true rfl⟩ hl.1 rfl (Nat.le_of_ble_eq_true rfl) dX8_newHandler_48 ⟨Nat.le_of_ble_eq_true rfl, Nat.le_of_ble_eq_true rfl⟩ hP hD hS (fun S1 H locs hQ hP hD hS => ?_)
  rw [hQ] at hP hD
  exact ct_aret (r := some q0) C hS hP hD (⟨q0, _, rfl, rfl, hq0, eM0⟩) (Nat.le_of_ble_eq_true rfl) (Nat.le_of_ble_eq_true rfl) dX8_newHandler_51
set_option maxRecDepth 100000 in
theorem c_nh3 {l : Launch} {s0 : State} {D : va_G} {cA : Nat → ClassId} (hG : cx_G l s0 D cA) {S : Mem}  : PE l s0 D cA yX8_newHandler cX8_newHandler 1 (some (.object "RingPipeline$Handler")) rmX8_newHandler [.int 3] S (fun q9 S1 => q9 ∉ mL S ∧ ∃ q1, q1 ∉ mL (nw S q9 1 0) ∧ S1 = uR (nw (nw S q9 1 0) q1 9 400) 0 q9 (some q1)) := by
  refine Ct.of (cA := cA) hG (by decide +kernel) (Nat.le_of_ble_eq_true rfl) ?_
  intro p e s m below meth c A C hnm hP hD hS ls hl
  have hx := cx_x C
  have hb := cx_b C
  have hl : lv_has ls 1 [(0, .int 3)] := hl
  refine lv_iload_n hx hb dX8_newHandler_0 rfl (lv_at hl 0 rfl) ?_
  refine lv_tableOut (tgt := 52) hx hb dX8_newHandler_1 (Or.inr (by decide)) (by decide) ?_
  refine nwo_2 C hP hD hS tm_241 (Nat.le_of_ble_eq_true rfl) (Nat.le_of_ble_eq_true rfl) dX8_newHandler_52 (fun q0 H hq0 hP hD hS => ?_)
  obtain ⟨M0, eM0⟩ : ∃ M9, M9 = nw S q0 1 0 := ⟨_, rfl⟩
  rw [← eM0] at hP hD
  have lM0q : q0 ∈ mL M0 := by rw [eM0]; exact nw_q (S := S) (q := q0) (k := 1) (n := 0)
  have kM0q : mK M0 q0 = 1 := by rw [eM0]; exact nw_Kq (S := S) (q := q0) (k := 1) (n := 0)
  refine lv_dup hx hb dX8_newHandler_55 rfl ?_
  refine pc_IN (As := []) (rest := [.ref q0]) C (c_ini2 (S := M0) hG lM0q kM0q) tn_243 tm_244 tm_14 tm_245 rfl hdX2_init.2 ⟨Nat.le_of_ble_eq_true rfl, Nat.le_of_ble_eq_true rfl⟩ hl.1 rfl (Nat.le_of_ble_eq_true rfl) dX8_newHandler_56 ⟨Nat.le_of_ble_eq_true rfl, Nat.le_of_ble_eq_true rfl⟩ hP hD hS (fun S1 H locs hQ hP hD hS => ?_)
  exact ct_aret (r := some q0) C hS hP hD (⟨q0, _, rfl, rfl, hq0, by rw [eM0] at hQ; exact hQ⟩) (Nat.le_of_ble_eq_true rfl) (Nat.le_of_ble_eq_true rfl) dX8_newHandler_59
