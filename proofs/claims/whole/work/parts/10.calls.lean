/-! ===== calls by contract ===== -/
theorem gi_all {L : List Cond} (h : ∀ w ∈ L, w ∈ TB) : GoodIn TB L := fun w hw => ⟨h w hw, tb_good (h w hw)⟩
theorem gi_V {own C : String} {idx n : Nat} {y : MethodName} {b : ByteArray} {r : Option FieldType} (h1 : Cond.methodLink own idx y ∈ TB) (h2 : Cond.instanceMethod y ∈ TB) (h3 : Cond.selects C y y ∈ TB) (h4 : Cond.initialized C ∈ TB) (h5 : Cond.code y b n r ∈ TB) : GoodIn TB (wsV own idx C y (.code y b n r :: TB)) := by
  refine gi_all fun w hw => ?_
  simp only [wsV, List.mem_append, List.mem_cons, List.not_mem_nil, or_false] at hw
  rcases hw with (rfl | rfl | rfl | rfl) | rfl | h <;> assumption
theorem gi_S {own : String} {idx n : Nat} {y : MethodName} {b : ByteArray} {r : Option FieldType} (h1 : Cond.methodLink own idx y ∈ TB) (h2 : Cond.static y ∈ TB) (h4 : Cond.initialized y.cls ∈ TB) (h5 : Cond.code y b n r ∈ TB) : GoodIn TB (va_wsS own idx y (.code y b n r :: TB)) := by
  refine gi_all fun w hw => ?_
  simp only [va_wsS, List.mem_append, List.mem_cons, List.not_mem_nil, or_false] at hw
  rcases hw with (rfl | rfl | rfl) | rfl | h <;> assumption
theorem gi_C {n : Nat} {y : MethodName} {b : ByteArray} {r : Option FieldType} (h5 : Cond.code y b n r ∈ TB) : GoodIn TB (.code y b n r :: TB) := by
  refine gi_all fun w hw => ?_
  rcases List.mem_cons.mp hw with rfl | h <;> assumption
theorem gi_U {own C owner : String} {idx n : Nat} {x y : MethodName} {b : ByteArray} {r : Option FieldType} (h1 : Cond.methodLink own idx x ∈ TB) (h2 : Cond.sameMethod x.cls owner x.name x.desc ∈ TB) (h3 : Cond.selects C x y ∈ TB) (h6 : Cond.instanceMethod y ∈ TB) (h4 : Cond.initialized y.cls ∈ TB) (h5 : Cond.code y b n r ∈ TB) : GoodIn TB (va_wsU own idx C owner x y (.code y b n r :: TB)) := by
  refine gi_all fun w hw => ?_
  simp only [va_wsU, List.mem_append, List.mem_cons, List.not_mem_nil, or_false] at hw
  rcases hw with (rfl | rfl | rfl | rfl | rfl) | rfl | h <;> assumption
theorem gi_O {own C owner : String} {idx n : Nat} {x y : MethodName} {b : ByteArray} {r : Option FieldType} (h1 : Cond.methodLink own idx x ∈ TB) (h2 : Cond.sameMethod x.cls owner x.name x.desc ∈ TB) (h7 : Cond.instanceMethod ⟨owner, x.name, x.desc⟩ ∈ TB) (h3 : Cond.selects C x y ∈ TB) (h6 : Cond.instanceMethod y ∈ TB) (h4 : Cond.initialized y.cls ∈ TB) (h5 : Cond.code y b n r ∈ TB) : GoodIn TB (va_wsO own idx C owner x y (.code y b n r :: TB)) := by
  refine gi_all fun w hw => ?_
  simp only [va_wsO, List.mem_append, List.mem_cons, List.not_mem_nil, or_false] at hw
  rcases hw with (rfl | rfl | rfl | rfl | rfl | rfl) | rfl | h <;> assumption
/-- a contract of a method that may throw: 'PX E': it threw an E; then the world is as it was -/
def cx_X (D : va_G) (A : Nat → Prop) (wc : va_W) (PX : String → Prop) : String → State → State → Prop := fun E st t => PX E ∧ va_P D vwCl wc t.heap ∧ va_F A st t
def CtX (l : Launch) (s0 : State) (D : va_G) (y : MethodName) (ws : List Cond) (rm : Room) (av : List Value) (wc : va_W) (post : Option Value → va_W → Prop) (PX : String → Prop) : Prop :=
  ∀ sz : Nat, vx_Met l y ws rm (va_Pc av (cx_pre s0 D wc sz)) (cx_post D (va_A wc sz) post) (cx_X D (va_A wc sz) wc PX) rm.cells rm.slots (va_A wc sz)
section CoreB
variable {p : Program} {l : Launch} {e : Env} {R : Room} {s : State} {m : MethodId} {args : Array Value} {below : List Frame} {meth : Method} {c : Code} {H : Heap} {locs : List Loc} {cells slots : Nat} {Q : State → Prop}
variable {s0 : State} {D : va_G} {cA : Nat → ClassId} {cc : ByteArray} {nL : Nat} {ret : Option FieldType} {own : String} {A : Nat → Prop}
variable {pc : Nat} {ls : Array Slot} {rest : List Value}
variable {y : MethodName} {b : ByteArray} {mL : Nat} {rt : Option FieldType} {rm : Room} {As st : List Value} {ws wc wr : va_W} {post : Option Value → va_W → Prop} {PX : String → Prop} {idx x : Nat}
theorem cx_preOf (C : cx_C p l s m args meth c s0 D cA cc nL ret own A) (hp : ws.Perm (wc ++ wr)) (hP : va_P D vwCl ws H) (hD : va_D A ws) (hS : va_S A s.heap H locs) : ∀ U : State, U.heap = H → s.WarmedH U.vm → cx_pre s0 D wc H.size U := fun U hU hW => by
  have hP2 := pm_P hp hP
  have hD2 := va_D_iff.mp (pm_D hp hD)
  have hPc : va_P D vwCl wc H := fun k q hk => by
    obtain ⟨i, hi⟩ := List.getElem?_of_mem (List.mem_append_left wr (List.mem_of_getElem? hk))
    exact hP2 i q hi
  refine ⟨by rw [hU], by rw [hU]; exact hPc, ?_, State.WarmedH.trans (cx_w C) hW, by rw [hU]; exact cx_oldH C hS⟩
  · rw [va_D_iff]
    rw [List.map_append, List.nodup_append] at hD2
    exact ⟨hD2.1.1, fun q hq => cx_n C _ (hD2.2 q (List.mem_append_left _ hq))⟩
theorem cx_fix (C : cx_C p l s m args meth c s0 D cA cc nL ret own A) : CallFix p m c cc nL s args TB own := ⟨cx_x C, cx_b C, cx_ml C, cx_own C, cx_t C⟩
theorem cx_room (h : (rest.map fun v => v.category).sum ≤ 8) : 2 * (F0 m pc ls st).monitorRoom + (rest.map fun v => v.category).sum ≤ 8 := lv_room h
/-- a virtual method of the object's own class -/
theorem ct_V (C : cx_C p l s m args meth c s0 D cA cc nL ret own A) (hM : Ct l s0 D y (.code y b mL rt :: TB) rm (.ref x :: As) wc post) (h1 : Cond.methodLink own idx y ∈ TB) (h2 : Cond.instanceMethod y ∈ TB) (h3 : Cond.selects y.cls y y ∈ TB) (h4 : Cond.initialized y.cls ∈ TB) (h5 : Cond.code y b mL rt ∈ TB)
    (hd : y.cls = y.cls ∧ y.cls ≠ "java/lang/invoke/MethodHandle" ∧ y.cls ≠ "java/lang/invoke/VarHandle" ∧ (parseMethodDescriptor y.desc).map (fun d => d.parameters.length) = some As.length) (hR : rm.frames + 1 ≤ R.frames ∧ 8 + (mL + 11) + rm.locals ≤ R.locals)
    (hr : ∃ cell : Cell, H[x]? = some cell ∧ cell.vm.isStatics = false ∧ s.vm.findClass y.cls = some cell.cls) (hz : ls.size = nL) (hst : st = As.reverse ++ .ref x :: rest) (hw : (rest.map fun v => v.category).sum ≤ 8) (d : decode cc pc = .ok (.invokevirtual idx, 3)) (hc : cells + rm.cells ≤ R.cells ∧ slots + rm.slots ≤ R.slots)
    (hp : ws.Perm (wc ++ wr)) (hP : va_P D vwCl ws H) (hD : va_D A ws) (hS : va_S A s.heap H locs)
    (kk : ∀ (v : Option Value) (w1 : va_W) (H1 : Heap) (locs1 : List Loc), post v w1 → va_P D vwCl (w1 ++ wr) H1 → va_D A (w1 ++ wr) → va_S A s.heap H1 locs1 → W p l e R s m args below meth c H1 locs1 (cells + rm.cells) (slots + rm.slots) Q (F0 m (pc + 3) ls (v.toList ++ rest))) :
    W p l e R s m args below meth c H locs cells slots Q (F0 m pc ls st) := by
  subst hst
  exact ct_call C (va_runV (As := As) (rest := rest) (cx_fix C) (hM H.size) (cwV As.length (cx_t C) (gi_V h1 h2 h3 h4 h5) rfl rfl rfl hd hR) ⟨cx_blind, hr, fun U hU hW => ⟨rfl, cx_preOf C hp hP hD hS U hU hW⟩⟩ rfl rfl hz rfl (cx_room hw) d hc) hp hP hD hS kk
theorem ct_S (C : cx_C p l s m args meth c s0 D cA cc nL ret own A) (hM : Ct l s0 D y (.code y b mL rt :: TB) rm As wc post) (h1 : Cond.methodLink own idx y ∈ TB) (h2 : Cond.static y ∈ TB) (h4 : Cond.initialized y.cls ∈ TB) (h5 : Cond.code y b mL rt ∈ TB)
    (hd : y.cls ≠ "java/lang/invoke/MethodHandle" ∧ y.cls ≠ "java/lang/invoke/VarHandle" ∧ (parseMethodDescriptor y.desc).map (fun d => d.parameters.length) = some As.length) (hR : rm.frames + 1 ≤ R.frames ∧ 8 + (mL + 11) + rm.locals ≤ R.locals)
    (hz : ls.size = nL) (hst : st = As.reverse ++ rest) (hw : (rest.map fun v => v.category).sum ≤ 8) (d : decode cc pc = .ok (.invokestatic idx, 3)) (hc : cells + rm.cells ≤ R.cells ∧ slots + rm.slots ≤ R.slots)
    (hp : ws.Perm (wc ++ wr)) (hP : va_P D vwCl ws H) (hD : va_D A ws) (hS : va_S A s.heap H locs)
    (kk : ∀ (v : Option Value) (w1 : va_W) (H1 : Heap) (locs1 : List Loc), post v w1 → va_P D vwCl (w1 ++ wr) H1 → va_D A (w1 ++ wr) → va_S A s.heap H1 locs1 → W p l e R s m args below meth c H1 locs1 (cells + rm.cells) (slots + rm.slots) Q (F0 m (pc + 3) ls (v.toList ++ rest))) :
    W p l e R s m args below meth c H locs cells slots Q (F0 m pc ls st) := by
  subst hst
  exact ct_call C (va_runS (As := As) (rest := rest) (cx_fix C) (hM H.size) (va_cwS As.length (cx_t C) (gi_S h1 h2 h4 h5) rfl rfl rfl hd hR) ⟨cx_blind, fun U hU hW => ⟨rfl, cx_preOf C hp hP hD hS U hU hW⟩⟩ rfl rfl hz rfl (cx_room hw) d hc) hp hP hD hS kk
/-- a constructor -/
theorem ct_I (C : cx_C p l s m args meth c s0 D cA cc nL ret own A) (hM : Ct l s0 D y (.code y b mL none :: TB) rm (.ref x :: As) wc post) (h1 : Cond.methodLink own idx y ∈ TB) (h2 : Cond.instanceMethod y ∈ TB) (h4 : Cond.initialized y.cls ∈ TB) (h5 : Cond.code y b mL none ∈ TB) (hi : y.name = "<init>")
    (hd : y.cls ≠ "java/lang/invoke/MethodHandle" ∧ y.cls ≠ "java/lang/invoke/VarHandle" ∧ (parseMethodDescriptor y.desc).map (fun d => d.parameters.length) = some As.length) (hR : rm.frames + 1 ≤ R.frames ∧ 8 + (mL + 11) + rm.locals ≤ R.locals)
    (hz : ls.size = nL) (hst : st = As.reverse ++ .ref x :: rest) (hw : (rest.map fun v => v.category).sum ≤ 8) (d : decode cc pc = .ok (.invokespecial idx, 3)) (hc : cells + rm.cells ≤ R.cells ∧ slots + rm.slots ≤ R.slots)
    (hp : ws.Perm (wc ++ wr)) (hP : va_P D vwCl ws H) (hD : va_D A ws) (hS : va_S A s.heap H locs)
    (kk : ∀ (v : Option Value) (w1 : va_W) (H1 : Heap) (locs1 : List Loc), post v w1 → va_P D vwCl (w1 ++ wr) H1 → va_D A (w1 ++ wr) → va_S A s.heap H1 locs1 → W p l e R s m args below meth c H1 locs1 (cells + rm.cells) (slots + rm.slots) Q (F0 m (pc + 3) ls (v.toList ++ rest))) :
    W p l e R s m args below meth c H locs cells slots Q (F0 m pc ls st) := by
  subst hst
  exact ct_call C (va_runI (As := As) (rest := rest) (cx_fix C) (hM H.size) (cwI As.length (cx_t C) (gi_C h5) rfl rfl rfl (cx_t C _ h4) (cx_t C _ h1) (cx_t C _ h2) hi hd hR) ⟨cx_blind, fun U hU hW => ⟨rfl, cx_preOf C hp hP hD hS U hU hW⟩⟩ rfl rfl hz rfl (cx_room hw) d hc) hp hP hD hS kk
/-! words that calls don't carry, out of the start -/
theorem cx_lw (hG : cx_G l s0 D cA) {w : Cond} (hw : w ∈ lw_tbl) (ho : w.onTables = true) : va_Nw w s0 := by
  obtain ⟨-, ⟨a0, h, -⟩, -⟩ := hG
  exact va_Nw.of ho (h w hw)
theorem cx_cast (C : cx_C p l s m args meth c s0 D cA cc nL ret own A) {X Y : String} (h : Cond.castable X Y ∈ lw_tbl) : va_Nw (.castable X Y) s := va_Nw.warmC (cx_w C) (cx_lw (cx_g C) h rfl)
theorem cx_nest (C : cx_C p l s m args meth c s0 D cA cc nL ret own A) {a h : String} {i : Nat} {z : MethodName} (hm : Cond.methodLinkNest a i z h ∈ lw_tbl) : va_Nw (.methodLinkNest a i z h) s := va_Nw.warmM (cx_w C) (cx_lw (cx_g C) hm rfl)
theorem cx_decl (C : cx_C p l s m args meth c s0 D cA cc nL ret own A) {z : MethodName} (hm : Cond.declares z ∈ lw_tbl) : va_Nw (.declares z) s := va_Nw.warmD (cx_w C) (cx_lw (cx_g C) hm rfl)
theorem cx_over (C : cx_C p l s m args meth c s0 D cA cc nL ret own A) {X : String} (hm : Cond.arrayOver (.object X) ∈ lw_tbl) : va_AO X s := by
  obtain ⟨-, ⟨a0, h, -⟩, -⟩ := cx_g C
  exact va_AO.moved (cx_w C).alike (va_AO.of (h _ hm))
theorem cx_nc (C : cx_C p l s m args meth c s0 D cA cc nL ret own A) {X Y : String} (hm : Cond.not (.castable X Y) ∈ flatC (Jvm.Cond.and given_1 narrow_1)) : va_Nc X Y s := by
  obtain ⟨-, ⟨a0, -, h⟩, -⟩ := cx_g C
  exact va_Nc.moved (cx_w C).alike (va_Nc.of (flat_of_before _ h _ hm))
/-- a constructor that is its nest mate's -/
theorem ct_IN {host : String} (C : cx_C p l s m args meth c s0 D cA cc nL ret own A) (hM : Ct l s0 D y (.code y b mL none :: TB) rm (.ref x :: As) wc post) (h1 : Cond.methodLinkNest own idx y host ∈ lw_tbl) (h2 : Cond.instanceMethod y ∈ TB) (h4 : Cond.initialized y.cls ∈ TB) (h5 : Cond.code y b mL none ∈ TB) (hi : y.name = "<init>")
    (hd : y.cls ≠ "java/lang/invoke/MethodHandle" ∧ y.cls ≠ "java/lang/invoke/VarHandle" ∧ (parseMethodDescriptor y.desc).map (fun d => d.parameters.length) = some As.length) (hR : rm.frames + 1 ≤ R.frames ∧ 8 + (mL + 11) + rm.locals ≤ R.locals)
    (hz : ls.size = nL) (hst : st = As.reverse ++ .ref x :: rest) (hw : (rest.map fun v => v.category).sum ≤ 8) (d : decode cc pc = .ok (.invokespecial idx, 3)) (hc : cells + rm.cells ≤ R.cells ∧ slots + rm.slots ≤ R.slots)
    (hp : ws.Perm (wc ++ wr)) (hP : va_P D vwCl ws H) (hD : va_D A ws) (hS : va_S A s.heap H locs)
    (kk : ∀ (v : Option Value) (w1 : va_W) (H1 : Heap) (locs1 : List Loc), post v w1 → va_P D vwCl (w1 ++ wr) H1 → va_D A (w1 ++ wr) → va_S A s.heap H1 locs1 → W p l e R s m args below meth c H1 locs1 (cells + rm.cells) (slots + rm.slots) Q (F0 m (pc + 3) ls (v.toList ++ rest))) :
    W p l e R s m args below meth c H locs cells slots Q (F0 m pc ls st) := by
  subst hst
  exact ct_call C (va_runIN (As := As) (rest := rest) (cx_fix C) (hM H.size) ⟨va_cnB As.length (cx_t C) (gi_C h5) rfl rfl rfl (cx_nest C h1) (cx_t C _ h4) hd hR, hi, cx_t C _ h2⟩ ⟨cx_blind, fun U hU hW => ⟨rfl, cx_preOf C hp hP hD hS U hU hW⟩⟩ rfl rfl hz rfl (cx_room hw) d hc) hp hP hD hS kk
/-- a virtual call whose method is chosen by the object's class X: z is named, y is run; z is abstract -/
theorem ct_A {X owner : String} {z : MethodName} (C : cx_C p l s m args meth c s0 D cA cc nL ret own A) (hM : Ct l s0 D y (.code y b mL rt :: TB) rm (.ref x :: As) wc post) (h1 : Cond.methodLink own idx z ∈ TB) (h2 : Cond.sameMethod z.cls owner z.name z.desc ∈ TB) (h3 : Cond.selects X z y ∈ TB) (h6 : Cond.instanceMethod y ∈ TB) (h4 : Cond.initialized y.cls ∈ TB) (h5 : Cond.code y b mL rt ∈ TB) (h7 : Cond.declares ⟨owner, z.name, z.desc⟩ ∈ lw_tbl)
    (hd : owner ≠ "java/lang/invoke/MethodHandle" ∧ owner ≠ "java/lang/invoke/VarHandle" ∧ (parseMethodDescriptor z.desc).map (fun d => d.parameters.length) = some As.length) (hR : rm.frames + 1 ≤ R.frames ∧ 8 + (mL + 11) + rm.locals ≤ R.locals)
    (hr : ∃ cell : Cell, H[x]? = some cell ∧ cell.vm.isStatics = false ∧ s.vm.findClass X = some cell.cls) (hz : ls.size = nL) (hst : st = As.reverse ++ .ref x :: rest) (hw : (rest.map fun v => v.category).sum ≤ 8) (d : decode cc pc = .ok (.invokevirtual idx, 3)) (hc : cells + rm.cells ≤ R.cells ∧ slots + rm.slots ≤ R.slots)
    (hp : ws.Perm (wc ++ wr)) (hP : va_P D vwCl ws H) (hD : va_D A ws) (hS : va_S A s.heap H locs)
    (kk : ∀ (v : Option Value) (w1 : va_W) (H1 : Heap) (locs1 : List Loc), post v w1 → va_P D vwCl (w1 ++ wr) H1 → va_D A (w1 ++ wr) → va_S A s.heap H1 locs1 → W p l e R s m args below meth c H1 locs1 (cells + rm.cells) (slots + rm.slots) Q (F0 m (pc + 3) ls (v.toList ++ rest))) :
    W p l e R s m args below meth c H locs cells slots Q (F0 m pc ls st) := by
  subst hst
  exact ct_call C (va_runU (As := As) (rest := rest) (cx_fix C) (hM H.size) (va_cwA As.length (cx_t C) (gi_U h1 h2 h3 h6 h4 h5) rfl rfl rfl (cx_decl C h7) hd hR) ⟨cx_blind, hr, fun U hU hW => ⟨rfl, cx_preOf C hp hP hD hS U hU hW⟩⟩ rfl rfl hz rfl (cx_room hw) d hc) hp hP hD hS kk
/-- z has code of its own, y of the subclass is run -/
theorem ct_O {X owner : String} {z : MethodName} {b0 : ByteArray} {m0 : Nat} {r0 : Option FieldType} (C : cx_C p l s m args meth c s0 D cA cc nL ret own A) (hM : Ct l s0 D y (.code y b mL rt :: TB) rm (.ref x :: As) wc post) (h1 : Cond.methodLink own idx z ∈ TB) (h2 : Cond.sameMethod z.cls owner z.name z.desc ∈ TB) (h8 : Cond.instanceMethod ⟨owner, z.name, z.desc⟩ ∈ TB) (h3 : Cond.selects X z y ∈ TB) (h6 : Cond.instanceMethod y ∈ TB) (h4 : Cond.initialized y.cls ∈ TB) (h5 : Cond.code y b mL rt ∈ TB) (h7 : Cond.code ⟨owner, z.name, z.desc⟩ b0 m0 r0 ∈ TB)
    (hd : owner ≠ "java/lang/invoke/MethodHandle" ∧ owner ≠ "java/lang/invoke/VarHandle" ∧ (parseMethodDescriptor z.desc).map (fun d => d.parameters.length) = some As.length) (hR : rm.frames + 1 ≤ R.frames ∧ 8 + (mL + 11) + rm.locals ≤ R.locals)
    (hr : ∃ cell : Cell, H[x]? = some cell ∧ cell.vm.isStatics = false ∧ s.vm.findClass X = some cell.cls) (hz : ls.size = nL) (hst : st = As.reverse ++ .ref x :: rest) (hw : (rest.map fun v => v.category).sum ≤ 8) (d : decode cc pc = .ok (.invokevirtual idx, 3)) (hc : cells + rm.cells ≤ R.cells ∧ slots + rm.slots ≤ R.slots)
    (hp : ws.Perm (wc ++ wr)) (hP : va_P D vwCl ws H) (hD : va_D A ws) (hS : va_S A s.heap H locs)
    (kk : ∀ (v : Option Value) (w1 : va_W) (H1 : Heap) (locs1 : List Loc), post v w1 → va_P D vwCl (w1 ++ wr) H1 → va_D A (w1 ++ wr) → va_S A s.heap H1 locs1 → W p l e R s m args below meth c H1 locs1 (cells + rm.cells) (slots + rm.slots) Q (F0 m (pc + 3) ls (v.toList ++ rest))) :
    W p l e R s m args below meth c H locs cells slots Q (F0 m pc ls st) := by
  subst hst
  exact ct_call C (va_runU (As := As) (rest := rest) (cx_fix C) (hM H.size) (va_cwO As.length (cx_t C) (gi_O h1 h2 h8 h3 h6 h4 h5) rfl rfl rfl h7 hd hR) ⟨cx_blind, hr, fun U hU hW => ⟨rfl, cx_preOf C hp hP hD hS U hU hW⟩⟩ rfl rfl hz rfl (cx_room hw) d hc) hp hP hD hS kk
/-! ===== methods that may throw ===== -/
theorem CtX.of {av : List Value} (hG : cx_G l s0 D cA) (hy : plainName y.cls = true) (hn : (lg_sl av).length ≤ nL)
    (body : ∀ (p : Program) (e : Env) (s : State) (m : MethodId) (below : List Frame) (meth : Method) (c : Code) (A : Nat → Prop), cx_C p l s m av.toArray meth c s0 D cA cc nL ret y.cls A → (∀ z ∈ c.exceptionTable.toList, False) → va_P D vwCl wc s.heap → va_D A wc → va_S A s.heap s.heap [] → ∀ ls : Array Slot, lv_has ls nL (lv_args 0 av) →
      W p l e rm s m av.toArray below meth c s.heap [] 0 0 (vx_MQ below (cx_post D A post) (cx_X D A wc PX) av.toArray s rm.cells rm.slots A) (F0 m 0 ls [])) :
    CtX l s0 D y (.code y cc nL ret :: TB) rm av wc post PX := by
  intro sz
  refine vx_ofW (cc := cc) (maxL := nL) (ret := ret) hy rfl ?_
  intro p e s m args below meth c s₁ B hml hE hv
  obtain ⟨rfl, hsz, hP, hD, hW, hO⟩ := hv
  subst hsz
  have hts := atoms_spec (ws := .code y cc nL ret :: TB) B.pre
  have hown : s.vm.findClass y.cls = some m.cls := findClass_of_methodNamed B.named
  have hl := lv_entry av hn
  rw [lg_entry_eq]
  refine body p e s m below meth c (va_A wc s.heap.size) ⟨B.exec, B.bytes, hml, hown, fun w h => hts w (List.mem_cons_of_mem _ h), B.returns, B.notSynchronized, hG, hW, hO, va_K.moved hW.alike hG.2.2, fun q h => Or.inr h, ?_⟩ hE hP hD.self va_S.rf _ hl
  rintro q (⟨k, e9, hk⟩ | h)
  · exact hD.2 k _ hk
  · exact Nat.le_trans hO.1 h
/-- behind a call that may throw -/
theorem ct_callX {mc ms : Nat} {st0 : List Value} {a : Array Value} (C : cx_C p l s m args meth c s0 D cA cc nL ret own A)
    (hr : vx_Run p l e R s m args below meth c H locs cells slots mc ms (F0 m pc ls st0) rest (cx_post D (va_A wc H.size) post a) (cx_X D (va_A wc H.size) wc PX) (va_A wc H.size)) (hp : ws.Perm (wc ++ wr)) (hP : va_P D vwCl ws H) (hD : va_D A ws) (hS : va_S A s.heap H locs)
    (kx : ∀ (E : String) (ce : Cell) (q : Addr) (H1 : Heap) (locs1 : List Loc), PX E → va_P D vwCl (wc ++ wr) H1 → va_D A (wc ++ wr) → va_S A s.heap H1 locs1 → H1[q]? = some ce → ce.vm = .none → s.vm.findClass E = some ce.cls → vx_W p l e R s m args below meth c H1 locs1 (cells + mc) (slots + ms) Q (F0 m pc ls rest) q)
    (kk : ∀ (v : Option Value) (w1 : va_W) (H1 : Heap) (locs1 : List Loc), post v w1 → va_P D vwCl (w1 ++ wr) H1 → va_D A (w1 ++ wr) → va_S A s.heap H1 locs1 → W p l e R s m args below meth c H1 locs1 (cells + mc) (slots + ms) Q (F0 m (pc + 3) ls (v.toList ++ rest))) :
    W p l e R s m args below meth c H locs cells slots Q (F0 m pc ls st0) := by
  intro T hT X
  have hfree := fr_free C hp hD hS
  have hS9 : ∀ (st₀ t T' : State) (L : List Loc), st₀.heap = H → T'.heap = t.heap → (∀ q ∈ L, va_A wc H.size q.base) → va_F (va_A wc H.size) st₀ t → (∀ q : Nat, q < H.size → ¬ va_A wc H.size q → T'.heap[q]? = H[q]?) ∧ va_S A s.heap T'.heap (locs ++ L) := by
    intro st₀ t T' L h0 e1 hL hF
    have hsz : H.size ≤ T'.heap.size := by rw [e1, ← h0]; exact hF.1
    have hk : ∀ q : Nat, q < H.size → ¬ va_A wc H.size q → T'.heap[q]? = H[q]? := fun q h1 h2 => by rw [e1, ← h0]; exact hF.2 q (by rw [h0]; exact h1) h2
    exact ⟨hk, ⟨Nat.le_trans hS.1 hsz, fun q h1 h2 => (hk q (Nat.lt_of_lt_of_le h1 hS.1) (fun h => h2 (hfree q h))).trans (hS.2.1 q h1 h2), fun q hq => by
      rcases List.mem_append.mp hq with h | h
      · exact hS.2.2 q h
      · exact hfree _ (hL q h)⟩⟩
  have hDc : va_D (va_A wc H.size) wc := by
    have h2 := va_D_iff.mp (pm_D hp hD)
    rw [va_D_iff]
    rw [List.map_append, List.nodup_append] at h2
    exact ⟨h2.1.1, fun q hq => va_A_mem.mpr (Or.inl ⟨q.2, hq⟩)⟩
  rcases hr T hT X with ⟨v, st₀, t, T', L, h0, X', hL, e1, -, hq, st⟩ | ⟨q, st₀, t, T', L, E, ce, h0, X', hL, e1, -, ⟨hx, hP1, hF⟩, hc1, hc2, hc3, st⟩
  · obtain ⟨⟨v', w1, hv, hpost, hP1, hD1⟩, hF⟩ := hq
    cases hv
    obtain ⟨hk, hS2⟩ := hS9 st₀ t T' L h0 e1 hL hF
    obtain ⟨hP2, hD2⟩ := fr_join hp hP hD hfree hk (by rw [e1]; exact hP1) hD1
    obtain ⟨t2, a1, b1⟩ := kk v w1 T'.heap (locs ++ L) hpost hP2 hD2 hS2 T' rfl X'
    exact ⟨t2, st t2 a1, b1⟩
  · obtain ⟨hk, hS2⟩ := hS9 st₀ t T' L h0 e1 hL hF
    obtain ⟨hP2, hD2⟩ := fr_join hp hP hD hfree hk (by rw [e1]; exact hP1) hDc
    obtain ⟨t2, a1, b1⟩ := kx E ce q T'.heap (locs ++ L) hx hP2 hD2 hS2 (by rw [e1]; exact hc1) hc2 hc3 T' rfl X'
    exact ⟨t2, st.trans a1, b1⟩
theorem ct_VX (C : cx_C p l s m args meth c s0 D cA cc nL ret own A) (hM : CtX l s0 D y (.code y b mL rt :: TB) rm (.ref x :: As) wc post PX) (h1 : Cond.methodLink own idx y ∈ TB) (h2 : Cond.instanceMethod y ∈ TB) (h3 : Cond.selects y.cls y y ∈ TB) (h4 : Cond.initialized y.cls ∈ TB) (h5 : Cond.code y b mL rt ∈ TB)
    (hd : y.cls = y.cls ∧ y.cls ≠ "java/lang/invoke/MethodHandle" ∧ y.cls ≠ "java/lang/invoke/VarHandle" ∧ (parseMethodDescriptor y.desc).map (fun d => d.parameters.length) = some As.length) (hR : rm.frames + 1 ≤ R.frames ∧ 8 + (mL + 11) + rm.locals ≤ R.locals)
    (hr : ∃ cell : Cell, H[x]? = some cell ∧ cell.vm.isStatics = false ∧ s.vm.findClass y.cls = some cell.cls) (hz : ls.size = nL) (hst : st = As.reverse ++ .ref x :: rest) (hw : (rest.map fun v => v.category).sum ≤ 8) (d : decode cc pc = .ok (.invokevirtual idx, 3)) (hc : cells + rm.cells ≤ R.cells ∧ slots + rm.slots ≤ R.slots)
    (hp : ws.Perm (wc ++ wr)) (hP : va_P D vwCl ws H) (hD : va_D A ws) (hS : va_S A s.heap H locs)
    (kx : ∀ (E : String) (ce : Cell) (q : Addr) (H1 : Heap) (locs1 : List Loc), PX E → va_P D vwCl (wc ++ wr) H1 → va_D A (wc ++ wr) → va_S A s.heap H1 locs1 → H1[q]? = some ce → ce.vm = .none → s.vm.findClass E = some ce.cls → vx_W p l e R s m args below meth c H1 locs1 (cells + rm.cells) (slots + rm.slots) Q (F0 m pc ls rest) q)
    (kk : ∀ (v : Option Value) (w1 : va_W) (H1 : Heap) (locs1 : List Loc), post v w1 → va_P D vwCl (w1 ++ wr) H1 → va_D A (w1 ++ wr) → va_S A s.heap H1 locs1 → W p l e R s m args below meth c H1 locs1 (cells + rm.cells) (slots + rm.slots) Q (F0 m (pc + 3) ls (v.toList ++ rest))) :
    W p l e R s m args below meth c H locs cells slots Q (F0 m pc ls st) := by
  subst hst
  exact ct_callX C (vx_runV (As := As) (rest := rest) (cx_fix C) (hM H.size) (cwV As.length (cx_t C) (gi_V h1 h2 h3 h4 h5) rfl rfl rfl hd hR) ⟨cx_blind, hr, fun U hU hW => ⟨rfl, cx_preOf C hp hP hD hS U hU hW⟩⟩ rfl rfl hz rfl (cx_room hw) d hc) hp hP hD hS kx kk
/-- it isn't caught here: this method throws it too -/
theorem cx_out {E : String} {ce : Cell} {q : Addr} {mc ms : Nat} (C : cx_C p l s m args meth c s0 D cA cc nL ret own A) (hE : ∀ z ∈ c.exceptionTable.toList, False) (hX : PX E) (hP : va_P D vwCl wc H) (hS : va_S A s.heap H locs) (h1 : H[q]? = some ce) (h2 : ce.vm = .none) (h3 : s.vm.findClass E = some ce.cls) (hc : cells ≤ mc) (hs : slots ≤ ms) :
    vx_W p l e R s m args below meth c H locs cells slots (vx_MQ below (cx_post D A post) (cx_X D A wc PX) args s mc ms A) (F0 m pc ls rest) q :=
  vx_out (fun z hz => (hE z hz).elim) (cx_lk C) h1 h2 h3 (fun t ht _ => ⟨hX, by rw [ht]; exact hP, hS.F ht⟩) hS.2.2 hc hs
end CoreB
