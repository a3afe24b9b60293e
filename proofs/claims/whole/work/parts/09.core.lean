/-! ===== the frame of all my contracts: one start state s0 for the whole run, one table of words, array classes by number ===== -/
def tysG (cA : Nat → ClassId) : List (ClassId × FieldType) := [(cA 0, .byte), (cA 1, .double), (cA 2, .float), (cA 3, .int), (cA 4, .long), (cA 5, .boolean), (cA 6, .object "RingPipeline$Consumer"), (cA 7, .object "RingPipeline$Pool")]
/-- the cells of the start are as they were -/
def cx_old (s0 : State) (H : Heap) : Prop := s0.heap.size ≤ H.size ∧ ∀ q : Nat, q < s0.heap.size → H[q]? = s0.heap[q]?
/-- what is fixed for the whole run: the launch without traces, every word of the Statement at the start, the classes' numbers -/
def cx_G (l : Launch) (s0 : State) (D : va_G) (cA : Nat → ClassId) : Prop := l.stackTraces = false ∧ (∃ args0 : Array Value, (∀ w ∈ lw_tbl, w.before args0 s0 = true) ∧ (Jvm.Cond.and given_1 narrow_1).before args0 s0 = true) ∧ va_K D vwCl (tysG cA) s0
/-- what a body may use from its entry on -/
def cx_C (p : Program) (l : Launch) (s : State) (m : MethodId) (args : Array Value) (meth : Method) (c : Code) (s0 : State) (D : va_G) (cA : Nat → ClassId) (cc : ByteArray) (nL : Nat) (ret : Option FieldType) (own : String) (A : Nat → Prop) : Prop :=
  p.tables.exec = Jvm.exec ∧ c.code = cc ∧ c.maxLocals = nL ∧ s.vm.findClass own = some m.cls ∧ (∀ w ∈ TB, w.before args s = true) ∧ meth.sig.returnType = ret ∧ meth.locks = false ∧ cx_G l s0 D cA ∧ s0.WarmedH s.vm ∧ cx_old s0 s.heap ∧ va_K D vwCl (tysG cA) s ∧ (∀ q, s.heap.size ≤ q → A q) ∧ (∀ q, A q → s0.heap.size ≤ q)
def cx_pre (s0 : State) (D : va_G) (wc : va_W) (sz : Nat) (U : State) : Prop := U.heap.size = sz ∧ va_P D vwCl wc U.heap ∧ va_D (fun q => s0.heap.size ≤ q) wc ∧ s0.WarmedH U.vm ∧ cx_old s0 U.heap
def cx_post (D : va_G) (A : Nat → Prop) (post : Option Value → va_W → Prop) : Array Value → State → Outcome → State → Prop := fun _ st oc t => (∃ (v : Option Value) (w1 : va_W), oc = .returned v ∧ post v w1 ∧ va_P D vwCl w1 t.heap ∧ va_D A w1) ∧ va_F A st t
/-- a method's contract: over the world wc it returns v and leaves w1, and 'post v w1' -/
def Ct (l : Launch) (s0 : State) (D : va_G) (y : MethodName) (ws : List Cond) (rm : Room) (av : List Value) (wc : va_W) (post : Option Value → va_W → Prop) : Prop :=
  ∀ sz : Nat, Met l y ws rm (va_Pc av (cx_pre s0 D wc sz)) (cx_post D (va_A wc sz) post) rm.cells rm.slots (va_A wc sz)
theorem cx_blind {s0 : State} {D : va_G} {wc : va_W} {sz : Nat} {av : List Value} : FrameBlind (va_Pc av (cx_pre s0 D wc sz)) := fun _ _ _ _ q => q
section CoreA
variable {p : Program} {l : Launch} {e : Env} {R : Room} {s : State} {m : MethodId} {args : Array Value} {below : List Frame} {meth : Method} {c : Code} {H : Heap} {locs : List Loc} {cells slots : Nat} {Q : State → Prop}
variable {s0 : State} {D : va_G} {cA : Nat → ClassId} {cc : ByteArray} {nL : Nat} {ret : Option FieldType} {own : String} {A : Nat → Prop}
variable {pc : Nat} {ls : Array Slot} {rest : List Value}
theorem cx_x (C : cx_C p l s m args meth c s0 D cA cc nL ret own A) : p.tables.exec = Jvm.exec := C.1
theorem cx_b (C : cx_C p l s m args meth c s0 D cA cc nL ret own A) : c.code = cc := C.2.1
theorem cx_ml (C : cx_C p l s m args meth c s0 D cA cc nL ret own A) : c.maxLocals = nL := C.2.2.1
theorem cx_own (C : cx_C p l s m args meth c s0 D cA cc nL ret own A) : s.vm.findClass own = some m.cls := C.2.2.2.1
theorem cx_t (C : cx_C p l s m args meth c s0 D cA cc nL ret own A) : ∀ w ∈ TB, w.before args s = true := C.2.2.2.2.1
theorem cx_r (C : cx_C p l s m args meth c s0 D cA cc nL ret own A) : meth.sig.returnType = ret := C.2.2.2.2.2.1
theorem cx_lk (C : cx_C p l s m args meth c s0 D cA cc nL ret own A) : meth.locks = false := C.2.2.2.2.2.2.1
theorem cx_g (C : cx_C p l s m args meth c s0 D cA cc nL ret own A) : cx_G l s0 D cA := C.2.2.2.2.2.2.2.1
theorem cx_w (C : cx_C p l s m args meth c s0 D cA cc nL ret own A) : s0.WarmedH s.vm := C.2.2.2.2.2.2.2.2.1
theorem cx_o (C : cx_C p l s m args meth c s0 D cA cc nL ret own A) : cx_old s0 s.heap := C.2.2.2.2.2.2.2.2.2.1
theorem cx_k (C : cx_C p l s m args meth c s0 D cA cc nL ret own A) : va_K D vwCl (tysG cA) s := C.2.2.2.2.2.2.2.2.2.2.1
theorem cx_a (C : cx_C p l s m args meth c s0 D cA cc nL ret own A) : ∀ q, s.heap.size ≤ q → A q := C.2.2.2.2.2.2.2.2.2.2.2.1
theorem cx_n (C : cx_C p l s m args meth c s0 D cA cc nL ret own A) : ∀ q, A q → s0.heap.size ≤ q := C.2.2.2.2.2.2.2.2.2.2.2.2
/-- the old cells are as they were, also behind this body's writes -/
theorem cx_oldH (C : cx_C p l s m args meth c s0 D cA cc nL ret own A) (hS : va_S A s.heap H locs) : cx_old s0 H :=
  ⟨Nat.le_trans (cx_o C).1 hS.1, fun q hq => (hS.2.1 q (Nat.lt_of_lt_of_le hq (cx_o C).1) (fun h => absurd (cx_n C q h) (Nat.not_le.mpr hq))).trans ((cx_o C).2 q hq)⟩
/-- a contract, out of the walk of its body -/
theorem Ct.of {y : MethodName} {rm : Room} {av : List Value} {wc : va_W} {post : Option Value → va_W → Prop} (hG : cx_G l s0 D cA) (hy : plainName y.cls = true) (hn : (lg_sl av).length ≤ nL)
    (body : ∀ (p : Program) (e : Env) (s : State) (m : MethodId) (below : List Frame) (meth : Method) (c : Code) (A : Nat → Prop), cx_C p l s m av.toArray meth c s0 D cA cc nL ret y.cls A → meth.name = y.name → va_P D vwCl wc s.heap → va_D A wc → va_S A s.heap s.heap [] → ∀ ls : Array Slot, lv_has ls nL (lv_args 0 av) →
      W p l e rm s m av.toArray below meth c s.heap [] 0 0 (MQ below (cx_post D A post) av.toArray s rm.cells rm.slots A) (F0 m 0 ls [])) :
    Ct l s0 D y (.code y cc nL ret :: TB) rm av wc post := by
  intro sz
  refine Met.ofW (cc := cc) (maxL := nL) (ret := ret) hy rfl ?_
  intro p e s m args below meth c s₁ B hml hv
  obtain ⟨rfl, hsz, hP, hD, hW, hO⟩ := hv
  subst hsz
  have hts := atoms_spec (ws := .code y cc nL ret :: TB) B.pre
  have hown : s.vm.findClass y.cls = some m.cls := findClass_of_methodNamed B.named
  have hl := lv_entry av hn
  rw [lg_entry_eq]
  refine body p e s m below meth c (va_A wc s.heap.size) ⟨B.exec, B.bytes, hml, hown, fun w h => hts w (List.mem_cons_of_mem _ h), B.returns, B.notSynchronized, hG, hW, hO, va_K.moved hW.alike hG.2.2, fun q h => Or.inr h, ?_⟩ (name_of_methodNamed B.named B.method).1 hP hD.self va_S.rf _ hl
  rintro q (⟨k, e9, hk⟩ | h)
  · exact hD.2 k _ hk
  · exact Nat.le_trans hO.1 h
/-! returns -/
theorem ct_fin {post : Option Value → va_W → Prop} {w1 : va_W} {v : Option Value} (hS : va_S A s.heap H locs) (hP : va_P D vwCl w1 H) (hD : va_D A w1) (hp : post v w1) (t : State) (ht : t.heap = H) : cx_post D A post args s (.returned v) t :=
  ⟨⟨v, w1, rfl, hp, by rw [ht]; exact hP, hD⟩, hS.F ht⟩
theorem ct_iret {post : Option Value → va_W → Prop} {w1 : va_W} {v : Int32} {mc ms : Nat} (C : cx_C p l s m args meth c s0 D cA cc nL (some .int) own A) (hS : va_S A s.heap H locs) (hP : va_P D vwCl w1 H) (hD : va_D A w1) (hp : post (some (.int v)) w1) (hc : cells ≤ mc) (hs : slots ≤ ms) (d : decode cc pc = .ok (.ireturn, 1)) :
    W p l e R s m args below meth c H locs cells slots (MQ below (cx_post D A post) args s mc ms A) (F0 m pc ls [.int v]) :=
  W.widen hc hs (W.iret (v := v) (cx_x C) (cx_b C) (cx_r C) (fun t ht _ => ct_fin hS hP hD hp t ht) hS.2.2 d (cx_lk C))
theorem ct_zret {post : Option Value → va_W → Prop} {w1 : va_W} {v : Int32} {mc ms : Nat} (C : cx_C p l s m args meth c s0 D cA cc nL (some .boolean) own A) (hv : narrow .boolean (.int v) = .int v) (hS : va_S A s.heap H locs) (hP : va_P D vwCl w1 H) (hD : va_D A w1) (hp : post (some (.int v)) w1) (hc : cells ≤ mc) (hs : slots ≤ ms) (d : decode cc pc = .ok (.ireturn, 1)) :
    W p l e R s m args below meth c H locs cells slots (MQ below (cx_post D A post) args s mc ms A) (F0 m pc ls [.int v]) :=
  W.widen hc hs (W.zret (v := v) (cx_x C) (cx_b C) (cx_r C) hv (fun t ht _ => ct_fin hS hP hD hp t ht) hS.2.2 d (cx_lk C))
theorem ct_lret {post : Option Value → va_W → Prop} {w1 : va_W} {v : Int64} {mc ms : Nat} (C : cx_C p l s m args meth c s0 D cA cc nL (some .long) own A) (hS : va_S A s.heap H locs) (hP : va_P D vwCl w1 H) (hD : va_D A w1) (hp : post (some (.long v)) w1) (hc : cells ≤ mc) (hs : slots ≤ ms) (d : decode cc pc = .ok (.lreturn, 1)) :
    W p l e R s m args below meth c H locs cells slots (MQ below (cx_post D A post) args s mc ms A) (F0 m pc ls [.long v]) :=
  W.widen hc hs (W.lret (v := v) (cx_x C) (cx_b C) (cx_r C) (fun t ht _ => ct_fin hS hP hD hp t ht) hS.2.2 d (cx_lk C))
theorem ct_fret {post : Option Value → va_W → Prop} {w1 : va_W} {v : UInt32} {mc ms : Nat} (C : cx_C p l s m args meth c s0 D cA cc nL (some .float) own A) (hS : va_S A s.heap H locs) (hP : va_P D vwCl w1 H) (hD : va_D A w1) (hp : post (some (.float v)) w1) (hc : cells ≤ mc) (hs : slots ≤ ms) (d : decode cc pc = .ok (.freturn, 1)) :
    W p l e R s m args below meth c H locs cells slots (MQ below (cx_post D A post) args s mc ms A) (F0 m pc ls [.float v]) :=
  W.widen hc hs (W.fret (v := v) (cx_x C) (cx_b C) (cx_r C) (fun t ht _ => ct_fin hS hP hD hp t ht) hS.2.2 d (cx_lk C))
theorem ct_dret {post : Option Value → va_W → Prop} {w1 : va_W} {v : UInt64} {mc ms : Nat} (C : cx_C p l s m args meth c s0 D cA cc nL (some .double) own A) (hS : va_S A s.heap H locs) (hP : va_P D vwCl w1 H) (hD : va_D A w1) (hp : post (some (.double v)) w1) (hc : cells ≤ mc) (hs : slots ≤ ms) (d : decode cc pc = .ok (.dreturn, 1)) :
    W p l e R s m args below meth c H locs cells slots (MQ below (cx_post D A post) args s mc ms A) (F0 m pc ls [.double v]) :=
  W.widen hc hs (W.dret (v := v) (cx_x C) (cx_b C) (cx_r C) (fun t ht _ => ct_fin hS hP hD hp t ht) hS.2.2 d (cx_lk C))
theorem ct_vret {post : Option Value → va_W → Prop} {w1 : va_W} {mc ms : Nat} (C : cx_C p l s m args meth c s0 D cA cc nL none own A) (hS : va_S A s.heap H locs) (hP : va_P D vwCl w1 H) (hD : va_D A w1) (hp : post none w1) (hc : cells ≤ mc) (hs : slots ≤ ms) (d : decode cc pc = .ok (.return_, 1)) :
    W p l e R s m args below meth c H locs cells slots (MQ below (cx_post D A post) args s mc ms A) (F0 m pc ls []) :=
  W.widen hc hs (W.vret (cx_x C) (cx_b C) (cx_r C) (fun t ht _ => ct_fin hS hP hD hp t ht) hS.2.2 d (cx_lk C))
theorem ct_aret {post : Option Value → va_W → Prop} {w1 : va_W} {n : String} {r : Option Nat} {mc ms : Nat} (C : cx_C p l s m args meth c s0 D cA cc nL (some (.object n)) own A) (hS : va_S A s.heap H locs) (hP : va_P D vwCl w1 H) (hD : va_D A w1) (hp : post (some (va_rf r)) w1) (hc : cells ≤ mc) (hs : slots ≤ ms) (d : decode cc pc = .ok (.areturn, 1)) :
    W p l e R s m args below meth c H locs cells slots (MQ below (cx_post D A post) args s mc ms A) (F0 m pc ls [va_rf r]) :=
  W.widen hc hs (W.aret (v := va_rf r) (cx_x C) (cx_b C) (cx_r C) (Or.inl ⟨n, rfl⟩) (by cases r with | none => exact Or.inl rfl | some x => exact Or.inr ⟨x, rfl⟩) (fun t ht _ => ct_fin hS hP hD hp t ht) hS.2.2 d (cx_lk C))
/-! worlds up to order -/
theorem pm_P {ws wt : va_W} (h : ws.Perm wt) (hP : va_P D vwCl ws H) : va_P D vwCl wt H := fun k q hk => by
  obtain ⟨i, hi⟩ := List.getElem?_of_mem (h.mem_iff.mpr (List.mem_of_getElem? hk))
  exact hP i q hi
theorem va_D_iff {B : Nat → Prop} {ws : va_W} : va_D B ws ↔ (ws.map Prod.fst).Nodup ∧ ∀ q ∈ ws, B q.1 := by
  constructor
  · intro h
    refine ⟨?_, fun q hq => ?_⟩
    · rw [List.nodup_iff_pairwise_ne, List.pairwise_iff_getElem]
      intro i j hi hj hij he
      simp only [List.length_map] at hi hj
      simp only [List.getElem_map] at he
      have := h.1 i j _ _ (List.getElem?_eq_getElem hi) (List.getElem?_eq_getElem hj) he
      omega
    · obtain ⟨i, hi⟩ := List.getElem?_of_mem hq
      exact h.2 i q hi
  · rintro ⟨h1, h2⟩
    refine ⟨fun i j a b hi hj he => ?_, fun k q hk => h2 q (List.mem_of_getElem? hk)⟩
    obtain ⟨li, ei⟩ := List.getElem?_eq_some_iff.mp hi
    obtain ⟨lj, ej⟩ := List.getElem?_eq_some_iff.mp hj
    rw [List.nodup_iff_pairwise_ne, List.pairwise_iff_getElem] at h1
    rcases Nat.lt_trichotomy i j with h | h | h
    · exact absurd (by rw [List.getElem_map, List.getElem_map, ei, ej]; exact he) (h1 i j (by simpa using li) (by simpa using lj) h)
    · exact h
    · exact absurd (by rw [List.getElem_map, List.getElem_map, ei, ej]; exact he.symm) (h1 j i (by simpa using lj) (by simpa using li) h)
theorem pm_D {B : Nat → Prop} {ws wt : va_W} (h : ws.Perm wt) (hD : va_D B ws) : va_D B wt := by
  rw [va_D_iff] at hD ⊢
  exact ⟨(h.map Prod.fst).nodup_iff.mp hD.1, fun q hq => hD.2 q (h.mem_iff.mpr hq)⟩
theorem va_A_mem {wc : va_W} {sz q : Nat} : va_A wc sz q ↔ (∃ e, (q, e) ∈ wc) ∨ sz ≤ q := by
  constructor
  · rintro (⟨k, e, h⟩ | h)
    · exact Or.inl ⟨e, List.mem_of_getElem? h⟩
    · exact Or.inr h
  · rintro (⟨e, h⟩ | h)
    · obtain ⟨i, hi⟩ := List.getElem?_of_mem h
      exact Or.inl ⟨i, e, hi⟩
    · exact Or.inr h
/-- the frame rule: the rest stays beside what came back -/
theorem fr_join {ws wc wr w1 : va_W} {H1 : Heap} (hp : ws.Perm (wc ++ wr)) (hP : va_P D vwCl ws H) (hD : va_D A ws) (hF : ∀ q, va_A wc H.size q → A q) (hk : ∀ q : Nat, q < H.size → ¬ va_A wc H.size q → H1[q]? = H[q]?) (hP1 : va_P D vwCl w1 H1) (hD1 : va_D (va_A wc H.size) w1) :
    va_P D vwCl (w1 ++ wr) H1 ∧ va_D A (w1 ++ wr) := by
  have hP2 := pm_P hp hP
  have hD2 := pm_D hp hD
  have hlt : ∀ q ∈ wr, q.1 < H.size := fun q hq => by
    obtain ⟨i, hi⟩ := List.getElem?_of_mem (List.mem_append_right wc hq)
    exact (hP2 i q hi).lt
  have hno : ∀ q ∈ wr, ¬ va_A wc H.size q.1 := fun q hq h => by
    rcases va_A_mem.mp h with ⟨e9, h9⟩ | h9
    · have hn := (va_D_iff.mp hD2).1
      rw [List.map_append, List.nodup_append] at hn
      exact hn.2.2 q.1 (List.mem_map.mpr ⟨_, h9, rfl⟩) q.1 (List.mem_map.mpr ⟨_, hq, rfl⟩) rfl
    · exact absurd (hlt q hq) (Nat.not_lt.mpr h9)
  have hPr : va_P D vwCl wr H1 := fun k q hq => by
    have hm := List.mem_of_getElem? hq
    obtain ⟨i, hi⟩ := List.getElem?_of_mem (List.mem_append_right wc hm)
    exact (hP2 i q hi).kept (hk q.1 (hlt q hm) (hno q hm))
  refine ⟨hP1.app hPr, ?_⟩
  rw [va_D_iff] at hD2 hD1 ⊢
  rw [List.map_append, List.nodup_append] at hD2 ⊢
  refine ⟨⟨hD1.1, hD2.1.2.1, fun a ha b hb he => ?_⟩, fun q hq => ?_⟩
  · obtain ⟨x, hx, rfl⟩ := List.mem_map.mp ha
    obtain ⟨z, hz, rfl⟩ := List.mem_map.mp hb
    exact hno z hz (he ▸ hD1.2 x hx)
  · rcases List.mem_append.mp hq with h | h
    · exact hF _ (hD1.2 q h)
    · exact hD2.2 q (List.mem_append_right _ h)
theorem fr_free {ws wc wr : va_W} (C : cx_C p l s m args meth c s0 D cA cc nL ret own A) (hp : ws.Perm (wc ++ wr)) (hD : va_D A ws) (hS : va_S A s.heap H locs) : ∀ q, va_A wc H.size q → A q := fun q h => by
  rcases va_A_mem.mp h with ⟨e9, h9⟩ | h9
  · exact (va_D_iff.mp hD).2 (q, e9) (hp.mem_iff.mpr (List.mem_append_left _ h9))
  · exact cx_a C q (Nat.le_trans hS.1 h9)
/-- behind a call -/
theorem ct_call {post : Option Value → va_W → Prop} {ws wc wr : va_W} {mc ms : Nat} {st0 : List Value} {a : Array Value} (C : cx_C p l s m args meth c s0 D cA cc nL ret own A)
    (hr : va_Run p l e R s m args below meth c H locs cells slots mc ms (F0 m pc ls st0) rest (cx_post D (va_A wc H.size) post a) (va_A wc H.size)) (hp : ws.Perm (wc ++ wr)) (hP : va_P D vwCl ws H) (hD : va_D A ws) (hS : va_S A s.heap H locs)
    (kk : ∀ (v : Option Value) (w1 : va_W) (H1 : Heap) (locs1 : List Loc), post v w1 → va_P D vwCl (w1 ++ wr) H1 → va_D A (w1 ++ wr) → va_S A s.heap H1 locs1 → W p l e R s m args below meth c H1 locs1 (cells + mc) (slots + ms) Q (F0 m (pc + 3) ls (v.toList ++ rest))) :
    W p l e R s m args below meth c H locs cells slots Q (F0 m pc ls st0) := by
  intro T hT X
  obtain ⟨v, st₀, t, T', L, h0, X', hL, e1, -, hq, st⟩ := hr T hT X
  obtain ⟨⟨v', w1, hv, hpost, hP1, hD1⟩, hF⟩ := hq
  cases hv
  have hfree := fr_free C hp hD hS
  have hsz : H.size ≤ T'.heap.size := by rw [e1, ← h0]; exact hF.1
  have hk : ∀ q : Nat, q < H.size → ¬ va_A wc H.size q → T'.heap[q]? = H[q]? := fun q h1 h2 => by rw [e1, ← h0]; exact hF.2 q (by rw [h0]; exact h1) h2
  obtain ⟨hP2, hD2⟩ := fr_join hp hP hD hfree hk (by rw [e1]; exact hP1) hD1
  have hS2 : va_S A s.heap T'.heap (locs ++ L) := ⟨Nat.le_trans hS.1 hsz, fun q h1 h2 => (hk q (Nat.lt_of_lt_of_le h1 hS.1) (fun h => h2 (hfree q h))).trans (hS.2.1 q h1 h2), fun q hq => by
    rcases List.mem_append.mp hq with h | h
    · exact hS.2.2 q h
    · exact hfree _ (hL q h)⟩
  obtain ⟨t2, a1, b1⟩ := kk v w1 T'.heap (locs ++ L) hpost hP2 hD2 hS2 T' rfl X'
  exact ⟨t2, st t2 a1, b1⟩
end CoreA
