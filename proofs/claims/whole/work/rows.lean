section
-- ===== PART A: goes FIRST, ahead of the names: the tables' words, and 'selects' of the private methods out of them =====
/-- a private method of a class that the tables say can be made, by its rows of tables_1 -/
def lw_okq (q : MethodName × Nat) : Prop := (q.1.cls ≠ "java/lang/invoke/MethodHandle" ∧ q.1.cls ≠ "java/lang/invoke/VarHandle") ∧ Cond.instantiable q.1.cls q.2 ∈ tables_1 ∧ Cond.privateMethod q.1 ∈ tables_1 ∧ Cond.instanceMethod q.1 ∈ tables_1
theorem lw_p0 : lw_okq (⟨"java/lang/Throwable", "fillInStackTrace", "(I)Ljava/lang/Throwable;"⟩, 6) := ⟨⟨by decide +kernel, by decide +kernel⟩, List.mem_of_getElem? (i := 136) (by decide +kernel), List.mem_of_getElem? (i := 134) (by decide +kernel), List.mem_of_getElem? (i := 135) (by decide +kernel)⟩
theorem lw_p1 : lw_okq (⟨"RingPipeline", "mayJoin", "(III)Z"⟩, 6) := ⟨⟨by decide +kernel, by decide +kernel⟩, List.mem_of_getElem? (i := 20) (by decide +kernel), List.mem_of_getElem? (i := 167) (by decide +kernel), List.mem_of_getElem? (i := 168) (by decide +kernel)⟩
theorem lw_p2 : lw_okq (⟨"RingPipeline", "poolToJoin", "(II)LRingPipeline$Pool;"⟩, 6) := ⟨⟨by decide +kernel, by decide +kernel⟩, List.mem_of_getElem? (i := 20) (by decide +kernel), List.mem_of_getElem? (i := 259) (by decide +kernel), List.mem_of_getElem? (i := 260) (by decide +kernel)⟩
theorem lw_p3 : lw_okq (⟨"RingPipeline", "add", "(LRingPipeline$Consumer;)I"⟩, 6) := ⟨⟨by decide +kernel, by decide +kernel⟩, List.mem_of_getElem? (i := 20) (by decide +kernel), List.mem_of_getElem? (i := 342) (by decide +kernel), List.mem_of_getElem? (i := 343) (by decide +kernel)⟩
theorem lw_p4 : lw_okq (⟨"RingPipeline", "lastInLine", "()I"⟩, 6) := ⟨⟨by decide +kernel, by decide +kernel⟩, List.mem_of_getElem? (i := 20) (by decide +kernel), List.mem_of_getElem? (i := 362) (by decide +kernel), List.mem_of_getElem? (i := 363) (by decide +kernel)⟩
theorem lw_p5 : lw_okq (⟨"RingPipeline", "leastPlace", "(I)J"⟩, 6) := ⟨⟨by decide +kernel, by decide +kernel⟩, List.mem_of_getElem? (i := 20) (by decide +kernel), List.mem_of_getElem? (i := 366) (by decide +kernel), List.mem_of_getElem? (i := 367) (by decide +kernel)⟩
theorem lw_p6 : lw_okq (⟨"RingPipeline", "existing", "(I)LRingPipeline$Consumer;"⟩, 6) := ⟨⟨by decide +kernel, by decide +kernel⟩, List.mem_of_getElem? (i := 20) (by decide +kernel), List.mem_of_getElem? (i := 431) (by decide +kernel), List.mem_of_getElem? (i := 432) (by decide +kernel)⟩
theorem lw_p7 : lw_okq (⟨"RingPipeline$Consumer", "goThrough", "(LRingPipeline$Ring;JI)I"⟩, 15) := ⟨⟨by decide +kernel, by decide +kernel⟩, List.mem_of_getElem? (i := 187) (by decide +kernel), List.mem_of_getElem? (i := 442) (by decide +kernel), List.mem_of_getElem? (i := 443) (by decide +kernel)⟩
theorem lw_p8 : lw_okq (⟨"RingPipeline$Consumer", "startBatch", "()V"⟩, 15) := ⟨⟨by decide +kernel, by decide +kernel⟩, List.mem_of_getElem? (i := 187) (by decide +kernel), List.mem_of_getElem? (i := 446) (by decide +kernel), List.mem_of_getElem? (i := 447) (by decide +kernel)⟩
theorem lw_p9 : lw_okq (⟨"RingPipeline$Consumer", "passes", "(LRingPipeline$Ring;J)Z"⟩, 15) := ⟨⟨by decide +kernel, by decide +kernel⟩, List.mem_of_getElem? (i := 187) (by decide +kernel), List.mem_of_getElem? (i := 465) (by decide +kernel), List.mem_of_getElem? (i := 466) (by decide +kernel)⟩
theorem lw_p10 : lw_okq (⟨"RingPipeline$Journal", "append", "(J)V"⟩, 3) := ⟨⟨by decide +kernel, by decide +kernel⟩, List.mem_of_getElem? (i := 242) (by decide +kernel), List.mem_of_getElem? (i := 484) (by decide +kernel), List.mem_of_getElem? (i := 485) (by decide +kernel)⟩
theorem lw_p11 : lw_okq (⟨"RingPipeline$Journal", "sumOfRecordAt", "(I)I"⟩, 3) := ⟨⟨by decide +kernel, by decide +kernel⟩, List.mem_of_getElem? (i := 242) (by decide +kernel), List.mem_of_getElem? (i := 488) (by decide +kernel), List.mem_of_getElem? (i := 489) (by decide +kernel)⟩
theorem lw_p12 : lw_okq (⟨"RingPipeline$Consumer", "throwsAgain", "(J)I"⟩, 15) := ⟨⟨by decide +kernel, by decide +kernel⟩, List.mem_of_getElem? (i := 187) (by decide +kernel), List.mem_of_getElem? (i := 507) (by decide +kernel), List.mem_of_getElem? (i := 508) (by decide +kernel)⟩
theorem lw_p13 : lw_okq (⟨"RingPipeline$Consumer", "returnToStart", "()V"⟩, 15) := ⟨⟨by decide +kernel, by decide +kernel⟩, List.mem_of_getElem? (i := 187) (by decide +kernel), List.mem_of_getElem? (i := 511) (by decide +kernel), List.mem_of_getElem? (i := 512) (by decide +kernel)⟩
theorem lw_p14 : lw_okq (⟨"RingPipeline$Consumer", "share", "(LRingPipeline$Pool;LRingPipeline$Ring;JI)I"⟩, 15) := ⟨⟨by decide +kernel, by decide +kernel⟩, List.mem_of_getElem? (i := 187) (by decide +kernel), List.mem_of_getElem? (i := 530) (by decide +kernel), List.mem_of_getElem? (i := 531) (by decide +kernel)⟩
theorem lw_p15 : lw_okq (⟨"RingPipeline", "journalOf", "(I)LRingPipeline$Journal;"⟩, 6) := ⟨⟨by decide +kernel, by decide +kernel⟩, List.mem_of_getElem? (i := 20) (by decide +kernel), List.mem_of_getElem? (i := 588) (by decide +kernel), List.mem_of_getElem? (i := 589) (by decide +kernel)⟩
def lw_privs_1 : List (MethodName × Nat) := [(⟨"java/lang/Throwable", "fillInStackTrace", "(I)Ljava/lang/Throwable;"⟩, 6), (⟨"RingPipeline", "mayJoin", "(III)Z"⟩, 6), (⟨"RingPipeline", "poolToJoin", "(II)LRingPipeline$Pool;"⟩, 6), (⟨"RingPipeline", "add", "(LRingPipeline$Consumer;)I"⟩, 6), (⟨"RingPipeline", "lastInLine", "()I"⟩, 6), (⟨"RingPipeline", "leastPlace", "(I)J"⟩, 6), (⟨"RingPipeline", "existing", "(I)LRingPipeline$Consumer;"⟩, 6), (⟨"RingPipeline$Consumer", "goThrough", "(LRingPipeline$Ring;JI)I"⟩, 15), (⟨"RingPipeline$Consumer", "startBatch", "()V"⟩, 15), (⟨"RingPipeline$Consumer", "passes", "(LRingPipeline$Ring;J)Z"⟩, 15), (⟨"RingPipeline$Journal", "append", "(J)V"⟩, 3), (⟨"RingPipeline$Journal", "sumOfRecordAt", "(I)I"⟩, 3), (⟨"RingPipeline$Consumer", "throwsAgain", "(J)I"⟩, 15), (⟨"RingPipeline$Consumer", "returnToStart", "()V"⟩, 15), (⟨"RingPipeline$Consumer", "share", "(LRingPipeline$Pool;LRingPipeline$Ring;JI)I"⟩, 15), (⟨"RingPipeline", "journalOf", "(I)LRingPipeline$Journal;"⟩, 6)]
theorem lw_r1 : ∀ q ∈ lw_privs_1, lw_okq q := List.forall_mem_cons.mpr ⟨lw_p0, List.forall_mem_cons.mpr ⟨lw_p1, List.forall_mem_cons.mpr ⟨lw_p2, List.forall_mem_cons.mpr ⟨lw_p3, List.forall_mem_cons.mpr ⟨lw_p4, List.forall_mem_cons.mpr ⟨lw_p5, List.forall_mem_cons.mpr ⟨lw_p6, List.forall_mem_cons.mpr ⟨lw_p7, List.forall_mem_cons.mpr ⟨lw_p8, List.forall_mem_cons.mpr ⟨lw_p9, List.forall_mem_cons.mpr ⟨lw_p10, List.forall_mem_cons.mpr ⟨lw_p11, List.forall_mem_cons.mpr ⟨lw_p12, List.forall_mem_cons.mpr ⟨lw_p13, List.forall_mem_cons.mpr ⟨lw_p14, List.forall_mem_cons.mpr ⟨lw_p15, fun _ h => absurd h List.not_mem_nil⟩⟩⟩⟩⟩⟩⟩⟩⟩⟩⟩⟩⟩⟩⟩⟩
theorem lw_p16 : lw_okq (⟨"RingPipeline$Journal", "isSoundAt", "(I)Z"⟩, 3) := ⟨⟨by decide +kernel, by decide +kernel⟩, List.mem_of_getElem? (i := 242) (by decide +kernel), List.mem_of_getElem? (i := 629) (by decide +kernel), List.mem_of_getElem? (i := 630) (by decide +kernel)⟩
theorem lw_p17 : lw_okq (⟨"RingPipeline$Journal", "valueAt", "(I)J"⟩, 3) := ⟨⟨by decide +kernel, by decide +kernel⟩, List.mem_of_getElem? (i := 242) (by decide +kernel), List.mem_of_getElem? (i := 637) (by decide +kernel), List.mem_of_getElem? (i := 638) (by decide +kernel)⟩
theorem lw_p18 : lw_okq (⟨"RingPipelineModel", "firstOf", "(I)I"⟩, 28) := ⟨⟨by decide +kernel, by decide +kernel⟩, List.mem_of_getElem? (i := 661) (by decide +kernel), List.mem_of_getElem? (i := 766) (by decide +kernel), List.mem_of_getElem? (i := 767) (by decide +kernel)⟩
theorem lw_p19 : lw_okq (⟨"RingPipelineModel", "fail", "(I)I"⟩, 28) := ⟨⟨by decide +kernel, by decide +kernel⟩, List.mem_of_getElem? (i := 661) (by decide +kernel), List.mem_of_getElem? (i := 770) (by decide +kernel), List.mem_of_getElem? (i := 771) (by decide +kernel)⟩
theorem lw_p20 : lw_okq (⟨"RingPipelineModel", "placeOf", "(I)I"⟩, 28) := ⟨⟨by decide +kernel, by decide +kernel⟩, List.mem_of_getElem? (i := 661) (by decide +kernel), List.mem_of_getElem? (i := 778) (by decide +kernel), List.mem_of_getElem? (i := 779) (by decide +kernel)⟩
theorem lw_p21 : lw_okq (⟨"RingPipelineModel", "none", "(I)Z"⟩, 28) := ⟨⟨by decide +kernel, by decide +kernel⟩, List.mem_of_getElem? (i := 661) (by decide +kernel), List.mem_of_getElem? (i := 790) (by decide +kernel), List.mem_of_getElem? (i := 791) (by decide +kernel)⟩
theorem lw_p22 : lw_okq (⟨"RingPipelineModel", "batch", "(II)I"⟩, 28) := ⟨⟨by decide +kernel, by decide +kernel⟩, List.mem_of_getElem? (i := 661) (by decide +kernel), List.mem_of_getElem? (i := 794) (by decide +kernel), List.mem_of_getElem? (i := 795) (by decide +kernel)⟩
theorem lw_p23 : lw_okq (⟨"RingPipelineModel", "bound", "(I)I"⟩, 28) := ⟨⟨by decide +kernel, by decide +kernel⟩, List.mem_of_getElem? (i := 661) (by decide +kernel), List.mem_of_getElem? (i := 798) (by decide +kernel), List.mem_of_getElem? (i := 799) (by decide +kernel)⟩
theorem lw_p24 : lw_okq (⟨"RingPipelineModel", "handles", "(II)Z"⟩, 28) := ⟨⟨by decide +kernel, by decide +kernel⟩, List.mem_of_getElem? (i := 661) (by decide +kernel), List.mem_of_getElem? (i := 802) (by decide +kernel), List.mem_of_getElem? (i := 803) (by decide +kernel)⟩
theorem lw_p25 : lw_okq (⟨"RingPipelineModel", "record", "(II)V"⟩, 28) := ⟨⟨by decide +kernel, by decide +kernel⟩, List.mem_of_getElem? (i := 661) (by decide +kernel), List.mem_of_getElem? (i := 808) (by decide +kernel), List.mem_of_getElem? (i := 809) (by decide +kernel)⟩
theorem lw_p26 : lw_okq (⟨"RingPipelineModel", "put", "(II)V"⟩, 28) := ⟨⟨by decide +kernel, by decide +kernel⟩, List.mem_of_getElem? (i := 661) (by decide +kernel), List.mem_of_getElem? (i := 812) (by decide +kernel), List.mem_of_getElem? (i := 813) (by decide +kernel)⟩
theorem lw_p27 : lw_okq (⟨"RingPipelineModel", "answer", "(II)I"⟩, 28) := ⟨⟨by decide +kernel, by decide +kernel⟩, List.mem_of_getElem? (i := 661) (by decide +kernel), List.mem_of_getElem? (i := 816) (by decide +kernel), List.mem_of_getElem? (i := 817) (by decide +kernel)⟩
theorem lw_p28 : lw_okq (⟨"RingPipelineModel", "work", "(II)I"⟩, 28) := ⟨⟨by decide +kernel, by decide +kernel⟩, List.mem_of_getElem? (i := 661) (by decide +kernel), List.mem_of_getElem? (i := 820) (by decide +kernel), List.mem_of_getElem? (i := 821) (by decide +kernel)⟩
theorem lw_p29 : lw_okq (⟨"RingPipelineModel", "noJournal", "(I)Z"⟩, 28) := ⟨⟨by decide +kernel, by decide +kernel⟩, List.mem_of_getElem? (i := 661) (by decide +kernel), List.mem_of_getElem? (i := 844) (by decide +kernel), List.mem_of_getElem? (i := 845) (by decide +kernel)⟩
theorem lw_p30 : lw_okq (⟨"RingPipelineModel", "whole", "(I)Z"⟩, 28) := ⟨⟨by decide +kernel, by decide +kernel⟩, List.mem_of_getElem? (i := 661) (by decide +kernel), List.mem_of_getElem? (i := 856) (by decide +kernel), List.mem_of_getElem? (i := 857) (by decide +kernel)⟩
def lw_privs_2 : List (MethodName × Nat) := [(⟨"RingPipeline$Journal", "isSoundAt", "(I)Z"⟩, 3), (⟨"RingPipeline$Journal", "valueAt", "(I)J"⟩, 3), (⟨"RingPipelineModel", "firstOf", "(I)I"⟩, 28), (⟨"RingPipelineModel", "fail", "(I)I"⟩, 28), (⟨"RingPipelineModel", "placeOf", "(I)I"⟩, 28), (⟨"RingPipelineModel", "none", "(I)Z"⟩, 28), (⟨"RingPipelineModel", "batch", "(II)I"⟩, 28), (⟨"RingPipelineModel", "bound", "(I)I"⟩, 28), (⟨"RingPipelineModel", "handles", "(II)Z"⟩, 28), (⟨"RingPipelineModel", "record", "(II)V"⟩, 28), (⟨"RingPipelineModel", "put", "(II)V"⟩, 28), (⟨"RingPipelineModel", "answer", "(II)I"⟩, 28), (⟨"RingPipelineModel", "work", "(II)I"⟩, 28), (⟨"RingPipelineModel", "noJournal", "(I)Z"⟩, 28), (⟨"RingPipelineModel", "whole", "(I)Z"⟩, 28)]
theorem lw_r2 : ∀ q ∈ lw_privs_2, lw_okq q := List.forall_mem_cons.mpr ⟨lw_p16, List.forall_mem_cons.mpr ⟨lw_p17, List.forall_mem_cons.mpr ⟨lw_p18, List.forall_mem_cons.mpr ⟨lw_p19, List.forall_mem_cons.mpr ⟨lw_p20, List.forall_mem_cons.mpr ⟨lw_p21, List.forall_mem_cons.mpr ⟨lw_p22, List.forall_mem_cons.mpr ⟨lw_p23, List.forall_mem_cons.mpr ⟨lw_p24, List.forall_mem_cons.mpr ⟨lw_p25, List.forall_mem_cons.mpr ⟨lw_p26, List.forall_mem_cons.mpr ⟨lw_p27, List.forall_mem_cons.mpr ⟨lw_p28, List.forall_mem_cons.mpr ⟨lw_p29, List.forall_mem_cons.mpr ⟨lw_p30, fun _ h => absurd h List.not_mem_nil⟩⟩⟩⟩⟩⟩⟩⟩⟩⟩⟩⟩⟩⟩⟩
def lw_privs : List (MethodName × Nat) := lw_privs_1 ++ (lw_privs_2)
def lw_tbl : List Cond := k2_sels lw_privs ++ tables_1
theorem lw_privs_ok : ∀ q ∈ lw_privs, lw_okq q := by
  show ∀ q ∈ lw_privs_1 ++ (lw_privs_2), lw_okq q
  exact List.forall_mem_append.mpr ⟨lw_r1, lw_r2⟩
end
section
/-! ===== BEGIN words of one list among another's, by their places ===== -/
theorem goodIn_r {big : List Cond} (ws : List Cond) (ps : List Nat) (hp : ws = ps.filterMap (fun i => big[i]?)) (h : ws.all goodWord = true) : GoodIn big ws := by
  intro w hw
  have h1 := List.all_eq_true.mp h w hw
  rw [hp] at hw
  obtain ⟨i, -, hi⟩ := List.mem_filterMap.mp hw
  have hm : w ∈ big := by first | exact List.mem_of_getElem? hi | exact List.getElem?_mem hi
  exact ⟨hm, good_of_word h1⟩
theorem goodIn_app {big a b : List Cond} (ha : GoodIn big a) (hb : GoodIn big b) : GoodIn big (a ++ b) := fun w h => (List.mem_append.mp h).elim (ha w) (hb w)
theorem goodIn_ca {big a b : List Cond} {c : Cond} (ha : GoodIn big (c :: a)) (hb : GoodIn big b) : GoodIn big (c :: (a ++ b)) := fun w h => (List.mem_cons.mp h).elim (fun e => ha w (List.mem_cons.mpr (Or.inl e))) (fun h => (List.mem_append.mp h).elim (fun h => ha w (List.mem_cons.mpr (Or.inr h))) (hb w))
theorem goodIn_sub {big ws : List Cond} (hm : ∀ w ∈ ws, w ∈ big) (h : ws.all goodWord = true) : GoodIn big ws := fun w hw => ⟨hm w hw, good_of_word (List.all_eq_true.mp h w hw)⟩
/-! ===== END ===== -/

/-! ===== BEGIN exceptions that leave a method, and their catching by the caller (launches without stack traces) ===== -/
section VXA
/-! The laws vx_back, vx_callV, vx_callS, vx_callSW, vx_throw0, vx_throwS follow proofs of the library, with one case more: JvmDerived/Free/Laws.lean (Back.of_free), Shelf42/LK1.lean (callV, callS), Shelf/KitTraced.lean (throwNew0V, throwNewS). -/
/-- where a method has thrown q: the class by its name, the cell, what was written, the world -/
def vx_T (XC : String → State → State → Prop) (st : State) (q : Addr) (t : State) (mc ms : Nat) (free : Addr → Prop) : Prop :=
  ∃ (E : String) (ce : Cell) (L : List Loc), XC E st t ∧ t.heap[q]? = some ce ∧ ce.vm = .none ∧ st.vm.findClass E = some ce.cls ∧ st.WarmedH t.vm ∧ st.sameButNew ({ t with vm := st.vm } : State) L mc ms ∧ ∀ z ∈ L, free z.base
def vx_Q (Qc : Array Value → State → Outcome → State → Prop) (XC : String → State → State → Prop) (mc ms : Nat) (free : Addr → Prop) : Array Value → State → Outcome → State → Prop := fun a st o t =>
  (Qc a st o t ∧ ∃ L, FrameEnd st o t L mc ms ∧ ∀ q ∈ L, free q.base) ∨ ∃ q, o = .threw q ∧ vx_T XC st q t mc ms free
/-- a callee that returns or throws -/
def vx_Met (l : Launch) (y : MethodName) (ws : List Cond) (rm : Room) (Pc : Array Value → State → Prop) (Qc : Array Value → State → Outcome → State → Prop) (XC : String → State → State → Prop) (mc ms : Nat) (free : Addr → Prop) : Prop :=
  MetFree l y (headSpec ws rm) Pc (fun _ _ _ _ _ => True) (vx_Q Qc XC mc ms free)
def vx_Post (XC : String → State → State → Prop) (mc ms : Nat) (free : Addr → Prop) : Pt → Array Value → Addr → Pt → Prop := fun A a q B =>
  ∃ (g : JFrame) (mk : MethodId) (t : State) (L : List Loc) (E : String) (ce : Cell), B.U.heap = t.heap ∧ B.U.vm = t.vm ∧ XC E (A.U.calling g mk a) t ∧ t.heap[q]? = some ce ∧ ce.vm = .none ∧ A.U.vm.findClass E = some ce.cls ∧ B.locs = A.locs ++ L ∧ (∀ z ∈ L, free z.base) ∧ B.cells = A.cells + mc ∧ B.slots = A.slots + ms
def vx_Back (l : Launch) (R : Room) (p : Program) (e : Env) (below : List Frame) (s : State) (sargs : Array Value) (y : MethodName) (len W9 : Nat)
    (Pre : Pt → Array Value → Prop) (Post : Pt → Array Value → Option Value → Pt → Prop) (PostX : Pt → Array Value → Addr → Pt → Prop) : Prop :=
  ∀ (m : MethodId) (meth : Method) (c : Code) (A : Pt) (g : JFrame) (ig : Instr) (mk : MethodId) (a : Array Value),
    Stand p l e R s m sargs below meth c A.U A.locs A.cells A.slots → g.method = m → g.locals.size = c.maxLocals → decode c.code g.pc = .ok (ig, len) →
    2 * g.monitorRoom + (g.stack.map fun v => v.category).sum ≤ W9 → A.U.methodNamed? y = some mk → Pre A a →
    (∃ (v : Option Value) (B : Pt), Stand p l e R s m sargs below meth c B.U B.locs B.cells B.slots ∧ Post A a v B ∧
      Steps p.tables e below (doInvoke e (A.U.setTop g) [] mk a).1 (B.U.setTop { g with pc := g.pc + len, stack := v.toList ++ g.stack })) ∨
    (∃ (q : Addr) (B : Pt), Stand p l e R s m sargs below meth c B.U B.locs B.cells B.slots ∧ PostX A a q B ∧
      Steps p.tables e below (doInvoke e (A.U.setTop g) [] mk a).1 ((B.U.setTop g).pushFrame (.throwing q)))
section Payer
variable {l : Launch} {R : Room} {p : Program} {e : Env} {below : List Frame} {s : State} {sargs : Array Value} {y : MethodName} {len W9 : Nat}
theorem vx_back {ws : List Cond} {rm : Room} {Pc : Array Value → State → Prop} {Qc : Array Value → State → Outcome → State → Prop} {XC : String → State → State → Prop} {mc ms : Nat} {free : Addr → Prop} {bytes : ByteArray} {maxL : Nat} {ret : Option FieldType}
    (hM : vx_Met l y ws rm Pc Qc XC mc ms free) (hblind : FrameBlind Pc) (hrc : rm.cells = mc) (hrs : rm.slots = ms)
    (hframes : rm.frames + 1 ≤ R.frames) (hlocals : W9 + (maxL + 11) + rm.locals ≤ R.locals)
    (hws : ∀ w ∈ ws, ∀ a' U, s.WarmedH U.vm → w.before a' U = true) (hcode : Cond.code y bytes maxL ret ∈ ws) (hinit : ∀ a' U, s.WarmedH U.vm → (Cond.initialized y.cls).before a' U = true) :
    vx_Back l R p e below s sargs y len W9 (PreOf R mc ms Pc) (PostOf Qc mc ms free) (vx_Post XC mc ms free) := by
  intro m meth c A g ig mk a X hg hsize hdg hW hn hp
  have h1 : (headSpec ws rm).pre.before a A.U = true := atoms_intro fun w hw => hws w hw _ _ X.warmed
  have h2 : (Cond.code y bytes maxL ret).before a A.U = true := hws _ hcode _ _ X.warmed
  have h3 : (Cond.initialized y.cls).before a A.U = true := hinit _ _ X.warmed
  have h4 : A.cells + (headSpec ws rm).room.cells ≤ R.cells := by rw [show (headSpec ws rm).room.cells = mc from hrc]; exact hp.1
  have h5 : A.slots + (headSpec ws rm).room.slots ≤ R.slots := by rw [show (headSpec ws rm).room.slots = ms from hrs]; exact hp.2.1
  have hPc : Pc a (A.U.calling g mk a) := hblind _ _ _ _ hp.2.2
  obtain ⟨U, Ls, c0, s0⟩ := A
  dsimp only [Pt.U, Pt.locs, Pt.cells, Pt.slots] at h1 h2 h3 h4 h5 X hn hPc ⊢
  obtain ⟨methY, cY, hmY, hcY, -, hlY, -, -, -, -⟩ := Cond.code_spec hn h2
  obtain ⟨kY, hkY, -⟩ := className_of_methodNamed hn
  have hinitY : kY.init = .initialized := Cond.initialized_spec (findClass_of_methodNamed hn) hkY h3
  have h : At U g.method c below := by rw [hg]; exact X.here
  have hlocals9 : W9 + (maxL + 11) + (headSpec ws rm).room.locals ≤ R.locals := hlocals
  have happ : (headSpec ws rm).appliesLoose y e.platform (U.calling g mk a) = true :=
    Spec.appliesLoose_calling (g := g) h hdg hn hkY hinitY
      (X.room_calling (g := g) (R' := (headSpec ws rm).room) hsize hmY hcY hframes (by rw [hlY]; omega) h4 h5) h1
  obtain ⟨mid, hmid⟩ := h.above
  have hfr : (U.setTop g).frames = (.java g :: mid) ++ below := by rw [State.frames_setTop' g h.top, hmid]; rfl
  obtain ⟨o, s₂, hsteps, -, hend, hq⟩ := Steps.callFree hM p X.admits X.cas X.clock (acts := []) hfr happ hPc trivial
  have hq' : vx_Q Qc XC mc ms free a (U.calling g mk a) o s₂ := hq
  rw [State.frames_setTop' g h.top] at hend
  obtain ⟨g₀, hg0⟩ := Option.isSome_iff_exists.mp h.top
  obtain ⟨r, hr⟩ := State.topJava?_eq_some.mp hg0
  have hr' : (({ U with heap := s₂.heap, slotsUsed := s₂.slotsUsed } : State).setVm s₂.vm).frames = .java g₀ :: r := hr
  rcases hq' with ⟨hqc, L, hfe, hL⟩ | ⟨q, rfl, E, ce, L, hx, hce, hcv, hcl, hW₂, hsm, hL⟩
  · obtain ⟨⟨v, rfl⟩, hW₂, e2, q2, q3, q4, q5, q6⟩ := id hfe
    have e3 : s₂ = ({ (U.calling g mk a).setFrames s₂.frames with heap := s₂.heap, slotsUsed := s₂.slotsUsed } : State).setVm s₂.vm := by
      have : s₂ = ({ s₂ with vm := (U.calling g mk a).vm } : State).setVm s₂.vm := rfl
      rw [e2] at this
      exact this
    obtain ⟨c₂, i₂, len₂, hc₂, hd₂, hf₂⟩ := hend
    have hW' : U.WarmedH s₂.vm := hW₂
    have hcc : c₂ = c := by
      have h1 : s₂.code? g.method = U.code? g.method := by
        rw [State.code?_eq, State.code?_eq, hW'.alike.method?]
      exact Option.some.inj (hc₂.symm.trans (h1.trans h.code))
    subst hcc
    have hlen : len₂ = len := by rw [hdg] at hd₂; cases hd₂; rfl
    subst hlen
    have hs₂ : s₂ = (({ U with heap := s₂.heap, slotsUsed := s₂.slotsUsed } : State).setVm s₂.vm).setTop { g with pc := g.pc + len₂, stack := v.toList ++ g.stack } := by
      refine e3.trans ?_
      rw [hf₂, State.calling_eq h.top, State.setFrames_setFrames, State.setTop_of_frames _ hr', hr]
      rfl
    have hsame : U.sameButNew ({ U with heap := s₂.heap, slotsUsed := s₂.slotsUsed } : State) L mc ms := by
      refine ⟨?_, q2, q3, q4, q5, q6⟩
      obtain ⟨t, ht, -⟩ := State.frames_cons hr
      show ({ U with heap := s₂.heap, slotsUsed := s₂.slotsUsed } : State) = { U.setFrames U.frames with heap := s₂.heap, slotsUsed := s₂.slotsUsed }
      rw [State.setFrames_self ht]
    subst hg
    refine Or.inl ⟨v, ⟨(({ U with heap := s₂.heap, slotsUsed := s₂.slotsUsed } : State).setVm s₂.vm), Ls ++ L, c0 + mc, s0 + ms⟩,
      ⟨X.admits, X.cas, X.clock, X.frames, X.room, X.hears, X.method, X.code, (X.here.setHeapUsed s₂.heap s₂.slotsUsed).setVm hW'.alike, X.tail, State.WarmedH.trans X.warmed hW', X.limits, X.bytes, X.same.trans (hsame.setVm s.vm)⟩,
      ⟨g, mk, s₂, L, rfl, rfl, hqc, rfl, hL, rfl, rfl⟩, ?_⟩
    show Steps p.tables e below _ ((({ U with heap := s₂.heap, slotsUsed := s₂.slotsUsed } : State).setVm s₂.vm).setTop { g with pc := g.pc + len₂, stack := v.toList ++ g.stack })
    rw [← hs₂]
    exact hsteps
  · obtain ⟨e2, q2, q3, q4, q5, q6⟩ := id hsm
    have e3 : s₂ = ({ (U.calling g mk a).setFrames s₂.frames with heap := s₂.heap, slotsUsed := s₂.slotsUsed } : State).setVm s₂.vm := by
      have : s₂ = ({ s₂ with vm := (U.calling g mk a).vm } : State).setVm s₂.vm := rfl
      rw [e2] at this
      exact this
    have hf₂ : s₂.frames = .throwing q :: .java g :: U.frames.tail := hend
    have hW' : U.WarmedH s₂.vm := hW₂
    have hs₂ : s₂ = ((({ U with heap := s₂.heap, slotsUsed := s₂.slotsUsed } : State).setVm s₂.vm).setTop g).pushFrame (.throwing q) := by
      refine e3.trans ?_
      rw [hf₂, State.calling_eq h.top, State.setFrames_setFrames, State.pushFrame, State.frames_setTop _ hr', State.setTop_of_frames _ hr', State.setFrames_setFrames, hr]
      rfl
    have hsame : U.sameButNew ({ U with heap := s₂.heap, slotsUsed := s₂.slotsUsed } : State) L mc ms := by
      refine ⟨?_, q2, q3, q4, q5, q6⟩
      obtain ⟨t, ht, -⟩ := State.frames_cons hr
      show ({ U with heap := s₂.heap, slotsUsed := s₂.slotsUsed } : State) = { U.setFrames U.frames with heap := s₂.heap, slotsUsed := s₂.slotsUsed }
      rw [State.setFrames_self ht]
    subst hg
    refine Or.inr ⟨q, ⟨(({ U with heap := s₂.heap, slotsUsed := s₂.slotsUsed } : State).setVm s₂.vm), Ls ++ L, c0 + mc, s0 + ms⟩,
      ⟨X.admits, X.cas, X.clock, X.frames, X.room, X.hears, X.method, X.code, (X.here.setHeapUsed s₂.heap s₂.slotsUsed).setVm hW'.alike, X.tail, State.WarmedH.trans X.warmed hW', X.limits, X.bytes, X.same.trans (hsame.setVm s.vm)⟩,
      ⟨g, mk, s₂, L, E, ce, rfl, rfl, hx, hce, hcv, hcl, rfl, hL, rfl, rfl⟩, ?_⟩
    show Steps p.tables e below _ (((({ U with heap := s₂.heap, slotsUsed := s₂.slotsUsed } : State).setVm s₂.vm).setTop g).pushFrame (.throwing q))
    rw [← hs₂]
    exact hsteps
end Payer
section Calls
variable {p : Program} {l : Launch} {e : Env} {R : Room} {s : State} {m : MethodId} {args : Array Value} {below : List Frame} {meth : Method} {c : Code} {T : State} {locs : List Loc} {cells slots : Nat}
theorem vx_callV (X : Stand p l e R s m args below meth c T locs cells slots) (hexec : p.tables.exec = Jvm.exec) {own C : String} {index : Nat} {y : MethodName} {bytes : ByteArray} {maxL : Nat} {ret : Option FieldType}
    (hown : s.vm.findClass own = some m.cls) (hlink : (Cond.methodLink own index y).before args s = true) (hinst : (Cond.instanceMethod y).before args s = true) (hsel : (Cond.selects C y y).before args s = true)
    (hcode : (Cond.code y bytes maxL ret).before args s = true) (hy : y.cls ≠ "java/lang/invoke/MethodHandle" ∧ y.cls ≠ "java/lang/invoke/VarHandle")
    {W9 : Nat} {Pre : Pt → Array Value → Prop} {Post : Pt → Array Value → Option Value → Pt → Prop} {PostX : Pt → Array Value → Addr → Pt → Prop} (hK : vx_Back l R p e below s args y 3 W9 Pre Post PostX)
    {b : Addr} {cellB : Cell} (hcell : T.heap[b]? = some cellB) (hobj : cellB.vm.isStatics = false) (hcls : s.vm.findClass C = some cellB.cls)
    {g : JFrame} (hg : g.method = m) (hsize : g.locals.size = c.maxLocals) {argsL rest : List Value} (hlen : ∀ sig, parseMethodDescriptor y.desc = some sig → argsL.length = sig.parameters.length)
    (hstack : g.stack = argsL.reverse ++ .ref b :: rest) (hW : 2 * g.monitorRoom + (rest.map fun v => v.category).sum ≤ W9) (hdg : decode c.code g.pc = .ok (.invokevirtual index, 3))
    (hpre : ∀ vm₁, s.WarmedH vm₁ → Pre ⟨T.setVm vm₁, locs, cells, slots⟩ (Value.ref b :: argsL).toArray) :
    (∃ (v : Option Value) (vm₁ : Vm) (B : Pt), s.WarmedH vm₁ ∧ Stand p l e R s m args below meth c B.U B.locs B.cells B.slots ∧ Post ⟨T.setVm vm₁, locs, cells, slots⟩ (Value.ref b :: argsL).toArray v B ∧
      ∀ target, Steps p.tables e below (B.U.setTop { g with pc := g.pc + 3, stack := v.toList ++ rest }) target → Steps p.tables e below (T.setTop g) target) ∨
    (∃ (q : Addr) (vm₁ : Vm) (B : Pt), s.WarmedH vm₁ ∧ Stand p l e R s m args below meth c B.U B.locs B.cells B.slots ∧ PostX ⟨T.setVm vm₁, locs, cells, slots⟩ (Value.ref b :: argsL).toArray q B ∧
      Steps p.tables e below (T.setTop g) ((B.U.setTop { g with stack := rest }).pushFrame (.throwing q))) := by
  obtain ⟨mk, methM, hnamed, hmethM, hstM, habM⟩ := Cond.instanceMethod_spec hinst
  obtain ⟨methM', cM, hmethM', -, -, -, -, -, -, hsigM⟩ := Cond.code_spec hnamed hcode
  cases hmethM.symm.trans hmethM'
  obtain ⟨c2, r2, m2, q1, q2, q3, q4, kP, hkP, hkPi⟩ := Cond.selects_spec hsel
  cases hcls.symm.trans q1
  cases (State.methodFound?_of_named hnamed hy).symm.trans q2
  cases hnamed.symm.trans q3
  have hselP : selectMethod e.platform s.vm cellB.cls mk = .method mk := by rw [Launch.admits_selectMethod X.admits]; exact q4
  obtain ⟨vm₁, X₁, hstep₁⟩ := X.invokevirtual hexec hown hlink hnamed hmethM hstM hkP hkPi hy (a := b) (cell := cellB) hcell
    (fun z h => by rw [h] at hobj; cases hobj) hselP hmethM habM hkP hkPi (g := g) hg (argsL := argsL) (rest := rest) (hlen _ hsigM) hstack hdg
  rcases hK m meth c ⟨T.setVm vm₁, locs, cells, slots⟩ { g with stack := rest } (.invokevirtual index) mk (Value.ref b :: argsL).toArray X₁ hg hsize hdg hW (X₁.named hnamed) (hpre vm₁ X₁.warmed) with ⟨v, B, X', hpost, hsteps⟩ | ⟨q, B, X', hpost, hsteps⟩
  · exact Or.inl ⟨v, vm₁, B, X₁.warmed, X', hpost, fun target h => hstep₁ _ fun acts => by rw [doInvoke_state]; exact hsteps.trans h⟩
  · exact Or.inr ⟨q, vm₁, B, X₁.warmed, X', hpost, hstep₁ _ fun acts => by rw [doInvoke_state]; exact hsteps⟩
theorem vx_callS (X : Stand p l e R s m args below meth c T locs cells slots) (hexec : p.tables.exec = Jvm.exec) {own : String} {index : Nat} {y : MethodName} {bytes : ByteArray} {maxL : Nat} {ret : Option FieldType}
    (hown : s.vm.findClass own = some m.cls) (hlink : (Cond.methodLink own index y).before args s = true) (hstat : (Cond.static y).before args s = true) (hinit : (Cond.initialized y.cls).before args s = true)
    (hcode : (Cond.code y bytes maxL ret).before args s = true) (hy : y.cls ≠ "java/lang/invoke/MethodHandle" ∧ y.cls ≠ "java/lang/invoke/VarHandle")
    {W9 : Nat} {Pre : Pt → Array Value → Prop} {Post : Pt → Array Value → Option Value → Pt → Prop} {PostX : Pt → Array Value → Addr → Pt → Prop} (hK : vx_Back l R p e below s args y 3 W9 Pre Post PostX)
    {g : JFrame} (hg : g.method = m) (hsize : g.locals.size = c.maxLocals) {argsL rest : List Value} (hlen : ∀ sig, parseMethodDescriptor y.desc = some sig → argsL.length = sig.parameters.length)
    (hstack : g.stack = argsL.reverse ++ rest) (hW : 2 * g.monitorRoom + (rest.map fun v => v.category).sum ≤ W9) (hdg : decode c.code g.pc = .ok (.invokestatic index, 3))
    (hpre : ∀ vm₁, s.WarmedH vm₁ → Pre ⟨T.setVm vm₁, locs, cells, slots⟩ argsL.toArray) :
    (∃ (v : Option Value) (vm₁ : Vm) (B : Pt), s.WarmedH vm₁ ∧ Stand p l e R s m args below meth c B.U B.locs B.cells B.slots ∧ Post ⟨T.setVm vm₁, locs, cells, slots⟩ argsL.toArray v B ∧
      ∀ target, Steps p.tables e below (B.U.setTop { g with pc := g.pc + 3, stack := v.toList ++ rest }) target → Steps p.tables e below (T.setTop g) target) ∨
    (∃ (q : Addr) (vm₁ : Vm) (B : Pt), s.WarmedH vm₁ ∧ Stand p l e R s m args below meth c B.U B.locs B.cells B.slots ∧ PostX ⟨T.setVm vm₁, locs, cells, slots⟩ argsL.toArray q B ∧
      Steps p.tables e below (T.setTop g) ((B.U.setTop { g with stack := rest }).pushFrame (.throwing q))) := by
  obtain ⟨mk, hnamed⟩ := Cond.code_named hcode
  obtain ⟨methM, cM, hmethM, -, -, -, -, -, -, hsigM⟩ := Cond.code_spec hnamed hcode
  have hstatic : methM.isStatic = true := Cond.static_spec hnamed hmethM hstat
  obtain ⟨kP, hkP, -⟩ := className_of_methodNamed hnamed
  have hinitP : kP.init = .initialized := Cond.initialized_spec (findClass_of_methodNamed hnamed) hkP hinit
  obtain ⟨vm₁, X₁, hstep₁⟩ := X.invokestatic hexec hown hlink hnamed hmethM hstatic hkP hinitP hy (g := g) hg (argsL := argsL) (rest := rest) (hlen _ hsigM) hstack hdg
  rcases hK m meth c ⟨T.setVm vm₁, locs, cells, slots⟩ { g with stack := rest } (.invokestatic index) mk argsL.toArray X₁ hg hsize hdg hW (X₁.named hnamed) (hpre vm₁ X₁.warmed) with ⟨v, B, X', hpost, hsteps⟩ | ⟨q, B, X', hpost, hsteps⟩
  · exact Or.inl ⟨v, vm₁, B, X₁.warmed, X', hpost, fun target h => hstep₁ _ fun acts => by rw [doInvoke_state]; exact hsteps.trans h⟩
  · exact Or.inr ⟨q, vm₁, B, X₁.warmed, X', hpost, hstep₁ _ fun acts => by rw [doInvoke_state]; exact hsteps⟩
end Calls
theorem vx_cls {s : State} {T : State} {vm₁ : Vm} {E : String} {k : ClassId} (hW : s.WarmedH vm₁) (h : (T.setVm vm₁).vm.findClass E = some k) : s.vm.findClass E = some k := by
  have h1 : vm₁.findClass E = some k := h
  rw [hW.alike.findClass] at h1
  exact h1
/-- the method's frame g, with q thrown over it -/
def vx_W (p : Program) (l : Launch) (e : Env) (R : Room) (s : State) (m : MethodId) (args : Array Value) (below : List Frame) (meth : Method) (c : Code) (H : Heap) (locs : List Loc) (cells slots : Nat) (Q : State → Prop) (g : JFrame) (q : Addr) : Prop :=
  ∀ T : State, T.heap = H → Stand p l e R s m args below meth c T locs cells slots → ∃ t, Steps p.tables e below ((T.setTop g).pushFrame (.throwing q)) t ∧ Q t
def vx_Run (p : Program) (l : Launch) (e : Env) (R : Room) (s : State) (m : MethodId) (args : Array Value) (below : List Frame) (meth : Method) (c : Code) (H : Heap) (locs : List Loc) (cells slots mc ms : Nat) (g : JFrame) (rest : List Value) (Qa : State → Outcome → State → Prop) (XC : String → State → State → Prop) (free : Addr → Prop) : Prop :=
  ∀ T : State, T.heap = H → Stand p l e R s m args below meth c T locs cells slots →
    (∃ (v : Option Value) (st₀ t T' : State) (L : List Loc), st₀.heap = H ∧ Stand p l e R s m args below meth c T' (locs ++ L) (cells + mc) (slots + ms) ∧ (∀ q ∈ L, free q.base) ∧ T'.heap = t.heap ∧ T'.vm = t.vm ∧ Qa st₀ (.returned v) t ∧
      Goes p e below T g T' { g with pc := g.pc + 3, stack := v.toList ++ rest }) ∨
    (∃ (q : Addr) (st₀ t T' : State) (L : List Loc) (E : String) (ce : Cell), st₀.heap = H ∧ Stand p l e R s m args below meth c T' (locs ++ L) (cells + mc) (slots + ms) ∧ (∀ z ∈ L, free z.base) ∧ T'.heap = t.heap ∧ T'.vm = t.vm ∧ XC E st₀ t ∧ t.heap[q]? = some ce ∧ ce.vm = .none ∧ s.vm.findClass E = some ce.cls ∧
      Steps p.tables e below (T.setTop g) ((T'.setTop { g with stack := rest }).pushFrame (.throwing q)))
def vx_X {S : Type} (px : S → Prop) (B : String → S → State → Prop) (A : Nat → Prop) : String → State → State → Prop := fun E st t => ∃ u : S, px u ∧ B E u t ∧ va_F A st t
section Runs
variable {p : Program} {l : Launch} {e : Env} {R : Room} {s : State} {m : MethodId} {args : Array Value} {below : List Frame} {meth : Method} {c : Code} {H : Heap} {locs : List Loc} {cells slots : Nat}
variable {y : MethodName} {bytes cc : ByteArray} {maxL nL mc ms n index : Nat} {ret : Option FieldType} {ws : List Cond} {rm : Room} {Pc : Array Value → State → Prop} {Qc : Array Value → State → Outcome → State → Prop} {XC : String → State → State → Prop} {free : Addr → Prop} {Ts : List Cond} {own C : String} {b : Addr} {As rest : List Value} {g : JFrame}
theorem vx_callBack (cb : CallB R s args own index y bytes maxL ret ws rm mc ms n) (hM : vx_Met l y ws rm Pc Qc XC mc ms free) (hbl : FrameBlind Pc) : vx_Back l R p e below s args y 3 8 (PreOf R mc ms Pc) (PostOf Qc mc ms free) (vx_Post XC mc ms free) := by
  obtain ⟨hrc, hrs, hfr, hlo, hws, hcw, -, hini, -⟩ := cb
  exact vx_back (bytes := bytes) (maxL := maxL) (ret := ret) hM hbl hrc hrs hfr hlo hws hcw (fun a' U hW => word_at hW (Or.inl (by first | rfl | simp [Cond.onTables, Cond.keeps, Cond.steady])) hini)
theorem vx_runV (S : CallFix p m c cc nL s args Ts own) (hM : vx_Met l y ws rm Pc Qc XC mc ms free) (cw : CallW R s args own C index y bytes maxL ret ws rm mc ms n) (hp : PreV s H C b Pc As)
    (hg : g.method = m) (hn : As.length = n) (hsize : g.locals.size = nL) (hstack : g.stack = As.reverse ++ .ref b :: rest) (hW : 2 * g.monitorRoom + (rest.map fun v => v.category).sum ≤ 8) (hdg : decode cc g.pc = .ok (.invokevirtual index, 3)) (hf : cells + mc ≤ R.cells ∧ slots + ms ≤ R.slots) :
    vx_Run p l e R s m args below meth c H locs cells slots mc ms g rest (Qc (Value.ref b :: As).toArray) XC free := by
  have hK : vx_Back l R p e below s args y 3 8 (PreOf R mc ms Pc) (PostOf Qc mc ms free) (vx_Post XC mc ms free) := vx_callBack cw.1 hM hp.1
  obtain ⟨⟨-, -, -, -, -, -, hcode, -, hy, hlen, hl⟩, hin, hse⟩ := cw
  obtain ⟨hx, hb, hml, ho, -⟩ := S
  obtain ⟨-, ⟨cellB, hcB, hoB, hclB⟩, hPc⟩ := hp
  intro T hT X
  rcases vx_callV X hx (C := C) (bytes := bytes) (maxL := maxL) (ret := ret) ho hl hin hse hcode hy hK (by rw [hT]; exact hcB) hoB hclB hg (hsize.trans hml.symm) (argsL := As) (rest := rest) (fun sig h => hn.trans (hlen sig h)) hstack hW (by rw [hb]; exact hdg)
    (fun vm₁ hW₁ => ⟨hf.1, hf.2, hPc (T.setVm vm₁) hT hW₁⟩) with ⟨v, vm₁, ⟨U', l2, c2, s2⟩, hW₁, X', ⟨g', mk, t, L, e1, e2, hq, h1, hL, h2, h3⟩, st⟩ | ⟨q, vm₁, ⟨U', l2, c2, s2⟩, hW₁, X', ⟨g', mk, t, L, E, ce, e1, e2, hq, hce, hcv, hcl, h1, hL, h2, h3⟩, st⟩
  · dsimp only [Pt.U, Pt.locs, Pt.cells, Pt.slots] at X' e1 e2 h1 h2 h3 st
    subst h1; subst h2; subst h3
    exact Or.inl ⟨v, (T.setVm vm₁).calling g' mk (Value.ref b :: As).toArray, t, U', L, hT, X', hL, e1, e2, hq, st⟩
  · dsimp only [Pt.U, Pt.locs, Pt.cells, Pt.slots] at X' e1 e2 h1 h2 h3 st hcl
    subst h1; subst h2; subst h3
    exact Or.inr ⟨q, (T.setVm vm₁).calling g' mk (Value.ref b :: As).toArray, t, U', L, E, ce, hT, X', hL, e1, e2, hq, hce, hcv, vx_cls hW₁ hcl, st⟩
theorem vx_runS (S : CallFix p m c cc nL s args Ts own) (hM : vx_Met l y ws rm Pc Qc XC mc ms free) (cw : CallB R s args own index y bytes maxL ret ws rm mc ms n ∧ (Cond.static y).before args s = true) (hp : PreS s H Pc As)
    (hg : g.method = m) (hn : As.length = n) (hsize : g.locals.size = nL) (hstack : g.stack = As.reverse ++ rest) (hW : 2 * g.monitorRoom + (rest.map fun v => v.category).sum ≤ 8) (hdg : decode cc g.pc = .ok (.invokestatic index, 3)) (hf : cells + mc ≤ R.cells ∧ slots + ms ≤ R.slots) :
    vx_Run p l e R s m args below meth c H locs cells slots mc ms g rest (Qc As.toArray) XC free := by
  have hK : vx_Back l R p e below s args y 3 8 (PreOf R mc ms Pc) (PostOf Qc mc ms free) (vx_Post XC mc ms free) := vx_callBack cw.1 hM hp.1
  obtain ⟨⟨-, -, -, -, -, -, hcode, hini, hy, hlen, hl⟩, hstt⟩ := cw
  obtain ⟨hx, hb, hml, ho, -⟩ := S
  intro T hT X
  rcases vx_callS X hx (bytes := bytes) (maxL := maxL) (ret := ret) ho hl hstt hini hcode hy hK hg (hsize.trans hml.symm) (argsL := As) (rest := rest) (fun sig h => hn.trans (hlen sig h)) hstack hW (by rw [hb]; exact hdg)
    (fun vm₁ hW₁ => ⟨hf.1, hf.2, hp.2 (T.setVm vm₁) hT hW₁⟩) with ⟨v, vm₁, ⟨U', l2, c2, s2⟩, hW₁, X', ⟨g', mk, t, L, e1, e2, hq, h1, hL, h2, h3⟩, st⟩ | ⟨q, vm₁, ⟨U', l2, c2, s2⟩, hW₁, X', ⟨g', mk, t, L, E, ce, e1, e2, hq, hce, hcv, hcl, h1, hL, h2, h3⟩, st⟩
  · dsimp only [Pt.U, Pt.locs, Pt.cells, Pt.slots] at X' e1 e2 h1 h2 h3 st
    subst h1; subst h2; subst h3
    exact Or.inl ⟨v, (T.setVm vm₁).calling g' mk As.toArray, t, U', L, hT, X', hL, e1, e2, hq, st⟩
  · dsimp only [Pt.U, Pt.locs, Pt.cells, Pt.slots] at X' e1 e2 h1 h2 h3 st hcl
    subst h1; subst h2; subst h3
    exact Or.inr ⟨q, (T.setVm vm₁).calling g' mk As.toArray, t, U', L, E, ce, hT, X', hL, e1, e2, hq, hce, hcv, vx_cls hW₁ hcl, st⟩
end Runs
section Rows
variable {p : Program} {l : Launch} {e : Env} {R : Room} {s : State} {m : MethodId} {args : Array Value} {below : List Frame} {meth : Method} {c : Code} {H : Heap} {locs : List Loc} {cells slots : Nat} {Q : State → Prop}
variable {mc ms : Nat} {free : Addr → Prop} {A0 A1 : Nat → Prop} {H0 : Heap} {a : Array Value} {pc : Nat} {ls : Array Slot} {st0 rest : List Value}
theorem vx_keep {st₀ t T' : State} {L : List Loc} (h0 : st₀.heap = H) (e1 : T'.heap = t.heap) (hS : va_S A0 H0 H locs) (hA : ∀ q, q < H.size → A1 q → A0 q) (hf : ∀ q, free q → A0 q) (hL : ∀ q ∈ L, free q.base) (hF : va_F A1 st₀ t) :
    H.size ≤ T'.heap.size ∧ (∀ q : Nat, q < H.size → ¬ A1 q → T'.heap[q]? = H[q]?) ∧ va_S A0 H0 T'.heap (locs ++ L) := by
  obtain ⟨hz, hk⟩ := hF
  rw [h0] at hz hk
  exact ⟨by rw [e1]; exact hz, fun q h1 h2 => by rw [e1]; exact hk q h1 h2,
    ⟨Nat.le_trans hS.1 (by rw [e1]; exact hz), fun q h1 h2 => by rw [e1, hk q (Nat.lt_of_lt_of_le h1 hS.1) (fun z => h2 (hA q (Nat.lt_of_lt_of_le h1 hS.1) z))]; exact hS.2.1 q h1 h2, fun q hq => by
      rcases List.mem_append.mp hq with h | h
      · exact hS.2.2 q h
      · exact hf _ (hL q h)⟩⟩
theorem vx_calli {S SX : Type} {post : Int32 → S → Prop} {px : SX → Prop} {B : S → State → Prop} {BX : String → SX → State → Prop} {AX : Nat → Prop} (hr : vx_Run p l e R s m args below meth c H locs cells slots mc ms (F0 m pc ls st0) rest (va_Qi post B A1 a) (vx_X px BX AX) free) (hS : va_S A0 H0 H locs) (hA : ∀ q, q < H.size → A1 q → A0 q) (hf : ∀ q, free q → A0 q) (hAX : ∀ q, q < H.size → AX q → A0 q)
    (kx : ∀ (E : String) (ce : Cell) (q9 : Addr) (u : SX) (t : State) (H1 : Heap) (locs1 : List Loc), t.heap = H1 → s.vm.Alike t.vm → px u → BX E u t → H.size ≤ H1.size → (∀ q : Nat, q < H.size → ¬ AX q → H1[q]? = H[q]?) → va_S A0 H0 H1 locs1 → H1[q9]? = some ce → ce.vm = .none → s.vm.findClass E = some ce.cls → vx_W p l e R s m args below meth c H1 locs1 (cells + mc) (slots + ms) Q (F0 m pc ls rest) q9)
    (kk : ∀ (r : Int32) (u : S) (t : State) (H1 : Heap) (locs1 : List Loc), t.heap = H1 → s.vm.Alike t.vm → post r u → B u t → H.size ≤ H1.size → (∀ q : Nat, q < H.size → ¬ A1 q → H1[q]? = H[q]?) → va_S A0 H0 H1 locs1 → W p l e R s m args below meth c H1 locs1 (cells + mc) (slots + ms) Q (F0 m (pc + 3) ls (.int r :: rest))) : W p l e R s m args below meth c H locs cells slots Q (F0 m pc ls st0) := by
  intro T hT X
  rcases hr T hT X with ⟨v, st₀, t, T', L, h0, X', hL, e1, e2, ⟨⟨r, u, hv, hp, hb⟩, hF⟩, st⟩ | ⟨q, st₀, t, T', L, E, ce, h0, X', hL, e1, e2, ⟨u, hp, hb, hF⟩, hce, hcv, hcl, st⟩
  · cases hv
    obtain ⟨k1, k2, k3⟩ := vx_keep h0 e1 hS hA hf hL hF
    obtain ⟨t2, a1, b1⟩ := kk r u t T'.heap (locs ++ L) e1.symm (by rw [← e2]; exact X'.warmed.alike) hp hb k1 k2 k3 T' rfl X'
    exact ⟨t2, st t2 a1, b1⟩
  · obtain ⟨k1, k2, k3⟩ := vx_keep h0 e1 hS hAX hf hL hF
    obtain ⟨t2, a1, b1⟩ := kx E ce q u t T'.heap (locs ++ L) e1.symm (by rw [← e2]; exact X'.warmed.alike) hp hb k1 k2 k3 (by rw [e1]; exact hce) hcv hcl T' rfl X'
    exact ⟨t2, st.trans a1, b1⟩
theorem vx_calll {S SX : Type} {post : Int64 → S → Prop} {px : SX → Prop} {B : S → State → Prop} {BX : String → SX → State → Prop} {AX : Nat → Prop} (hr : vx_Run p l e R s m args below meth c H locs cells slots mc ms (F0 m pc ls st0) rest (va_Ql post B A1 a) (vx_X px BX AX) free) (hS : va_S A0 H0 H locs) (hA : ∀ q, q < H.size → A1 q → A0 q) (hf : ∀ q, free q → A0 q) (hAX : ∀ q, q < H.size → AX q → A0 q)
    (kx : ∀ (E : String) (ce : Cell) (q9 : Addr) (u : SX) (t : State) (H1 : Heap) (locs1 : List Loc), t.heap = H1 → s.vm.Alike t.vm → px u → BX E u t → H.size ≤ H1.size → (∀ q : Nat, q < H.size → ¬ AX q → H1[q]? = H[q]?) → va_S A0 H0 H1 locs1 → H1[q9]? = some ce → ce.vm = .none → s.vm.findClass E = some ce.cls → vx_W p l e R s m args below meth c H1 locs1 (cells + mc) (slots + ms) Q (F0 m pc ls rest) q9)
    (kk : ∀ (r : Int64) (u : S) (t : State) (H1 : Heap) (locs1 : List Loc), t.heap = H1 → s.vm.Alike t.vm → post r u → B u t → H.size ≤ H1.size → (∀ q : Nat, q < H.size → ¬ A1 q → H1[q]? = H[q]?) → va_S A0 H0 H1 locs1 → W p l e R s m args below meth c H1 locs1 (cells + mc) (slots + ms) Q (F0 m (pc + 3) ls (.long r :: rest))) : W p l e R s m args below meth c H locs cells slots Q (F0 m pc ls st0) := by
  intro T hT X
  rcases hr T hT X with ⟨v, st₀, t, T', L, h0, X', hL, e1, e2, ⟨⟨r, u, hv, hp, hb⟩, hF⟩, st⟩ | ⟨q, st₀, t, T', L, E, ce, h0, X', hL, e1, e2, ⟨u, hp, hb, hF⟩, hce, hcv, hcl, st⟩
  · cases hv
    obtain ⟨k1, k2, k3⟩ := vx_keep h0 e1 hS hA hf hL hF
    obtain ⟨t2, a1, b1⟩ := kk r u t T'.heap (locs ++ L) e1.symm (by rw [← e2]; exact X'.warmed.alike) hp hb k1 k2 k3 T' rfl X'
    exact ⟨t2, st t2 a1, b1⟩
  · obtain ⟨k1, k2, k3⟩ := vx_keep h0 e1 hS hAX hf hL hF
    obtain ⟨t2, a1, b1⟩ := kx E ce q u t T'.heap (locs ++ L) e1.symm (by rw [← e2]; exact X'.warmed.alike) hp hb k1 k2 k3 (by rw [e1]; exact hce) hcv hcl T' rfl X'
    exact ⟨t2, st.trans a1, b1⟩
theorem vx_callf {S SX : Type} {post : UInt32 → S → Prop} {px : SX → Prop} {B : S → State → Prop} {BX : String → SX → State → Prop} {AX : Nat → Prop} (hr : vx_Run p l e R s m args below meth c H locs cells slots mc ms (F0 m pc ls st0) rest (va_Qf post B A1 a) (vx_X px BX AX) free) (hS : va_S A0 H0 H locs) (hA : ∀ q, q < H.size → A1 q → A0 q) (hf : ∀ q, free q → A0 q) (hAX : ∀ q, q < H.size → AX q → A0 q)
    (kx : ∀ (E : String) (ce : Cell) (q9 : Addr) (u : SX) (t : State) (H1 : Heap) (locs1 : List Loc), t.heap = H1 → s.vm.Alike t.vm → px u → BX E u t → H.size ≤ H1.size → (∀ q : Nat, q < H.size → ¬ AX q → H1[q]? = H[q]?) → va_S A0 H0 H1 locs1 → H1[q9]? = some ce → ce.vm = .none → s.vm.findClass E = some ce.cls → vx_W p l e R s m args below meth c H1 locs1 (cells + mc) (slots + ms) Q (F0 m pc ls rest) q9)
    (kk : ∀ (r : UInt32) (u : S) (t : State) (H1 : Heap) (locs1 : List Loc), t.heap = H1 → s.vm.Alike t.vm → post r u → B u t → H.size ≤ H1.size → (∀ q : Nat, q < H.size → ¬ A1 q → H1[q]? = H[q]?) → va_S A0 H0 H1 locs1 → W p l e R s m args below meth c H1 locs1 (cells + mc) (slots + ms) Q (F0 m (pc + 3) ls (.float r :: rest))) : W p l e R s m args below meth c H locs cells slots Q (F0 m pc ls st0) := by
  intro T hT X
  rcases hr T hT X with ⟨v, st₀, t, T', L, h0, X', hL, e1, e2, ⟨⟨r, u, hv, hp, hb⟩, hF⟩, st⟩ | ⟨q, st₀, t, T', L, E, ce, h0, X', hL, e1, e2, ⟨u, hp, hb, hF⟩, hce, hcv, hcl, st⟩
  · cases hv
    obtain ⟨k1, k2, k3⟩ := vx_keep h0 e1 hS hA hf hL hF
    obtain ⟨t2, a1, b1⟩ := kk r u t T'.heap (locs ++ L) e1.symm (by rw [← e2]; exact X'.warmed.alike) hp hb k1 k2 k3 T' rfl X'
    exact ⟨t2, st t2 a1, b1⟩
  · obtain ⟨k1, k2, k3⟩ := vx_keep h0 e1 hS hAX hf hL hF
    obtain ⟨t2, a1, b1⟩ := kx E ce q u t T'.heap (locs ++ L) e1.symm (by rw [← e2]; exact X'.warmed.alike) hp hb k1 k2 k3 (by rw [e1]; exact hce) hcv hcl T' rfl X'
    exact ⟨t2, st.trans a1, b1⟩
theorem vx_calld {S SX : Type} {post : UInt64 → S → Prop} {px : SX → Prop} {B : S → State → Prop} {BX : String → SX → State → Prop} {AX : Nat → Prop} (hr : vx_Run p l e R s m args below meth c H locs cells slots mc ms (F0 m pc ls st0) rest (va_Qd post B A1 a) (vx_X px BX AX) free) (hS : va_S A0 H0 H locs) (hA : ∀ q, q < H.size → A1 q → A0 q) (hf : ∀ q, free q → A0 q) (hAX : ∀ q, q < H.size → AX q → A0 q)
    (kx : ∀ (E : String) (ce : Cell) (q9 : Addr) (u : SX) (t : State) (H1 : Heap) (locs1 : List Loc), t.heap = H1 → s.vm.Alike t.vm → px u → BX E u t → H.size ≤ H1.size → (∀ q : Nat, q < H.size → ¬ AX q → H1[q]? = H[q]?) → va_S A0 H0 H1 locs1 → H1[q9]? = some ce → ce.vm = .none → s.vm.findClass E = some ce.cls → vx_W p l e R s m args below meth c H1 locs1 (cells + mc) (slots + ms) Q (F0 m pc ls rest) q9)
    (kk : ∀ (r : UInt64) (u : S) (t : State) (H1 : Heap) (locs1 : List Loc), t.heap = H1 → s.vm.Alike t.vm → post r u → B u t → H.size ≤ H1.size → (∀ q : Nat, q < H.size → ¬ A1 q → H1[q]? = H[q]?) → va_S A0 H0 H1 locs1 → W p l e R s m args below meth c H1 locs1 (cells + mc) (slots + ms) Q (F0 m (pc + 3) ls (.double r :: rest))) : W p l e R s m args below meth c H locs cells slots Q (F0 m pc ls st0) := by
  intro T hT X
  rcases hr T hT X with ⟨v, st₀, t, T', L, h0, X', hL, e1, e2, ⟨⟨r, u, hv, hp, hb⟩, hF⟩, st⟩ | ⟨q, st₀, t, T', L, E, ce, h0, X', hL, e1, e2, ⟨u, hp, hb, hF⟩, hce, hcv, hcl, st⟩
  · cases hv
    obtain ⟨k1, k2, k3⟩ := vx_keep h0 e1 hS hA hf hL hF
    obtain ⟨t2, a1, b1⟩ := kk r u t T'.heap (locs ++ L) e1.symm (by rw [← e2]; exact X'.warmed.alike) hp hb k1 k2 k3 T' rfl X'
    exact ⟨t2, st t2 a1, b1⟩
  · obtain ⟨k1, k2, k3⟩ := vx_keep h0 e1 hS hAX hf hL hF
    obtain ⟨t2, a1, b1⟩ := kx E ce q u t T'.heap (locs ++ L) e1.symm (by rw [← e2]; exact X'.warmed.alike) hp hb k1 k2 k3 (by rw [e1]; exact hce) hcv hcl T' rfl X'
    exact ⟨t2, st.trans a1, b1⟩
theorem vx_callv {S SX : Type} {post : S → Prop} {px : SX → Prop} {B : S → State → Prop} {BX : String → SX → State → Prop} {AX : Nat → Prop} (hr : vx_Run p l e R s m args below meth c H locs cells slots mc ms (F0 m pc ls st0) rest (va_Qv post B A1 a) (vx_X px BX AX) free) (hS : va_S A0 H0 H locs) (hA : ∀ q, q < H.size → A1 q → A0 q) (hf : ∀ q, free q → A0 q) (hAX : ∀ q, q < H.size → AX q → A0 q)
    (kx : ∀ (E : String) (ce : Cell) (q9 : Addr) (u : SX) (t : State) (H1 : Heap) (locs1 : List Loc), t.heap = H1 → s.vm.Alike t.vm → px u → BX E u t → H.size ≤ H1.size → (∀ q : Nat, q < H.size → ¬ AX q → H1[q]? = H[q]?) → va_S A0 H0 H1 locs1 → H1[q9]? = some ce → ce.vm = .none → s.vm.findClass E = some ce.cls → vx_W p l e R s m args below meth c H1 locs1 (cells + mc) (slots + ms) Q (F0 m pc ls rest) q9)
    (kk : ∀ (u : S) (t : State) (H1 : Heap) (locs1 : List Loc), t.heap = H1 → s.vm.Alike t.vm → post u → B u t → H.size ≤ H1.size → (∀ q : Nat, q < H.size → ¬ A1 q → H1[q]? = H[q]?) → va_S A0 H0 H1 locs1 → W p l e R s m args below meth c H1 locs1 (cells + mc) (slots + ms) Q (F0 m (pc + 3) ls (rest))) : W p l e R s m args below meth c H locs cells slots Q (F0 m pc ls st0) := by
  intro T hT X
  rcases hr T hT X with ⟨v, st₀, t, T', L, h0, X', hL, e1, e2, ⟨⟨u, hv, hp, hb⟩, hF⟩, st⟩ | ⟨q, st₀, t, T', L, E, ce, h0, X', hL, e1, e2, ⟨u, hp, hb, hF⟩, hce, hcv, hcl, st⟩
  · cases hv
    obtain ⟨k1, k2, k3⟩ := vx_keep h0 e1 hS hA hf hL hF
    obtain ⟨t2, a1, b1⟩ := kk u t T'.heap (locs ++ L) e1.symm (by rw [← e2]; exact X'.warmed.alike) hp hb k1 k2 k3 T' rfl X'
    exact ⟨t2, st t2 a1, b1⟩
  · obtain ⟨k1, k2, k3⟩ := vx_keep h0 e1 hS hAX hf hL hF
    obtain ⟨t2, a1, b1⟩ := kx E ce q u t T'.heap (locs ++ L) e1.symm (by rw [← e2]; exact X'.warmed.alike) hp hb k1 k2 k3 (by rw [e1]; exact hce) hcv hcl T' rfl X'
    exact ⟨t2, st.trans a1, b1⟩
end Rows
section Ends
variable {p : Program} {l : Launch} {e : Env} {R : Room} {s : State} {m : MethodId} {args : Array Value} {below : List Frame} {meth : Method} {c : Code} {H : Heap} {locs : List Loc} {cells slots : Nat} {Q : State → Prop}
variable {mc ms : Nat} {free : Addr → Prop} {A0 A1 : Nat → Prop} {H0 : Heap} {a : Array Value} {ls : Array Slot} {st0 rest : List Value}
variable {Qc : Array Value → State → Outcome → State → Prop} {XC : String → State → State → Prop}
/-- what a body that may throw owes at its end -/
def vx_MQ (below : List Frame) (Qc : Array Value → State → Outcome → State → Prop) (XC : String → State → State → Prop) (a : Array Value) (s : State) (mc ms : Nat) (free : Addr → Prop) : State → Prop := fun t =>
  ∃ o, t.status = .running ∧ Ended t below o ∧ vx_Q Qc XC mc ms free a s o t
theorem vx_ret {g : JFrame} {mc ms : Nat} (k : W p l e R s m args below meth c H locs cells slots (MQ below Qc args s mc ms free) g) : W p l e R s m args below meth c H locs cells slots (vx_MQ below Qc XC args s mc ms free) g := by
  intro T hT X
  obtain ⟨t, a1, o, b1, b2, b3, b4⟩ := k T hT X
  exact ⟨t, a1, o, b1, b2, Or.inl ⟨b3, b4⟩⟩
/-- not caught here: it goes on to the caller -/
theorem vx_widen {g : JFrame} {q : Addr} {k n : Nat} (h1 : cells ≤ k) (h2 : slots ≤ n) (kk : vx_W p l e R s m args below meth c H locs k n Q g q) : vx_W p l e R s m args below meth c H locs cells slots Q g q := fun T hT X => kk T hT (stand_widen X h1 h2)
theorem vx_out {pc : Nat} {E : String} {ce : Cell} {q : Addr} {mc ms : Nat} (hout : ∀ x ∈ c.exceptionTable.toList, covers x pc = false) (hlocks : meth.locks = false) (hcell : H[q]? = some ce) (hv : ce.vm = .none) (hcl : s.vm.findClass E = some ce.cls)
    (hx : ∀ t : State, t.heap = H → s.vm.Alike t.vm → XC E s t) (hf : ∀ z ∈ locs, free z.base) (hc : cells ≤ mc) (hs : slots ≤ ms) :
    vx_W p l e R s m args below meth c H locs cells slots (vx_MQ below Qc XC args s mc ms free) (F0 m pc ls rest) q := by
  intro T hT X
  obtain ⟨st1, hrun, hend, hW, hsm⟩ := X.leaveThrown q (g := F0 m pc ls rest) rfl rfl rfl hout hlocks
  have hcell9 : (T.setFrames (.throwing q :: below)).heap[q]? = some ce := by
    show T.heap[q]? = some ce
    rw [hT]; exact hcell
  exact ⟨_, st1, .threw q, hrun, hend, Or.inr ⟨q, rfl, E, ce, locs, hx _ hT hW.alike, hcell9, hv, hcl, hW, hsm.mono hc hs, hf⟩⟩
theorem vx_frame {U : State} {k n : Nat} (h : s.sameButNew ({ U with vm := s.vm } : State) locs k n) : s.heap.size ≤ U.heap.size ∧ ∀ q : Nat, q < s.heap.size → (∀ z ∈ locs, z.base ≠ q) → U.heap[q]? = s.heap[q]? := by
  obtain ⟨-, h2, -, -, -, h6⟩ := h
  refine ⟨h2, fun q hq hz => ?_⟩
  obtain ⟨c9, e1, e2, e3, e4⟩ := h6 q _ (Array.getElem?_eq_getElem hq)
  have hs : c9.slots = (s.heap[q]).slots := Array.ext_getElem? fun i => e4 i fun hm => hz _ hm rfl
  have h9 : c9 = s.heap[q] := by
    rw [hs] at e2
    exact e2
  have e5 : U.heap[q]? = some c9 := e1
  rw [e5, h9, Array.getElem?_eq_getElem hq]
/-- the words of a throw but the four that speak of the heap -/
def vx_no (w : Cond) : Bool := decide (w ≠ .isRef (.static Bundle.tN "UNASSIGNED_STACK" Bundle.steD)) && decide (w ≠ .isRef (.static Bundle.tN "SUPPRESSED_SENTINEL" Bundle.listD)) && decide (w ≠ .laysStatic Bundle.tN "UNASSIGNED_STACK" Bundle.steD) && decide (w ≠ .laysStatic Bundle.tN "SUPPRESSED_SENTINEL" Bundle.listD)
def vx_at0 (own : String) (ic : Nat) (X : String) (names : List String) : List Cond := (Bundle.ownAtoms0 own ic X names).filter vx_no
def vx_atS (own : String) (ic : Nat) (X : String) (names : List String) : List Cond := (Bundle.ownAtoms own ic X names).filter vx_no
/-- a word that the tables alone decide, or a good one -/
def vx_ot (w : Cond) : Bool := w.onTables || goodWord w
theorem vx_ot_at {args a' : Array Value} {s U : State} {w : Cond} (hW : s.WarmedH U.vm) (hvm : s.vm = U.vm) (hg : vx_ot w = true) (h : w.before args s = true) : w.before a' U = true := by
  simp only [vx_ot, Bool.or_eq_true] at hg
  rcases hg with hg | hg
  · exact va_tabs hg hvm h
  · exact word_at hW (good_of_word hg) h
/-- a list's words: the good ones out of the method's own list, the others by premises of their own -/
theorem vx_hat {args : Array Value} {s : State} {L B : List Cond} (h1 : ∀ w ∈ L.filter goodWord, w.before args s = true) (h2 : ∀ w ∈ L.filter (fun w => !goodWord w), w ∈ B) (h3 : ∀ w ∈ B, w.before args s = true) : ∀ w ∈ L, w.before args s = true := by
  intro w hw
  by_cases g : goodWord w = true
  · exact h1 w (List.mem_filter.mpr ⟨hw, g⟩)
  · refine h3 w (h2 w (List.mem_filter.mpr ⟨hw, ?_⟩))
    show (!goodWord w) = true
    cases hgw : goodWord w
    · rfl
    · exact absurd hgw g
theorem vx_c {args : Array Value} {s : State} {w : Cond} {B : List Cond} (h : w.before args s = true) (t : ∀ w ∈ B, w.before args s = true) : ∀ w' ∈ w :: B, w'.before args s = true := fun w' h' => (List.mem_cons.mp h').elim (fun e => by rw [e]; exact h) (t w')
theorem vx_n {args : Array Value} {s : State} : ∀ w ∈ ([] : List Cond), w.before args s = true := fun _ h => nomatch h
theorem vx_own {args : Array Value} {s : State} {L : List Cond} (h1 : ∀ w ∈ L.filter vx_no, w.before args s = true)
    (hU : (Cond.isRef (.static Bundle.tN "UNASSIGNED_STACK" Bundle.steD)).before args s = true) (hN : (Cond.isRef (.static Bundle.tN "SUPPRESSED_SENTINEL" Bundle.listD)).before args s = true)
    (lU : (Cond.laysStatic Bundle.tN "UNASSIGNED_STACK" Bundle.steD).before args s = true) (lN : (Cond.laysStatic Bundle.tN "SUPPRESSED_SENTINEL" Bundle.listD).before args s = true) : ∀ w ∈ L, w.before args s = true := by
  intro w hw
  by_cases e1 : w = .isRef (.static Bundle.tN "UNASSIGNED_STACK" Bundle.steD)
  · rw [e1]; exact hU
  · by_cases e2 : w = .isRef (.static Bundle.tN "SUPPRESSED_SENTINEL" Bundle.listD)
    · rw [e2]; exact hN
    · by_cases e3 : w = .laysStatic Bundle.tN "UNASSIGNED_STACK" Bundle.steD
      · rw [e3]; exact lU
      · by_cases e4 : w = .laysStatic Bundle.tN "SUPPRESSED_SENTINEL" Bundle.listD
        · rw [e4]; exact lN
        · exact h1 w (List.mem_filter.mpr ⟨hw, by unfold vx_no; rw [decide_eq_true e1, decide_eq_true e2, decide_eq_true e3, decide_eq_true e4]; rfl⟩)
/-- where a static field lies, its class's statics cell in H -/
def vx_L (C n d : String) (A : Nat → Prop) (U : State) (H : Heap) : Prop := ∃ (c : ClassId) (k : Class) (i : Nat) (f : Field) (a : Nat) (cell : Cell), U.vm.findClass C = some c ∧ U.fieldFound? C n d = some (c, k, i, f) ∧ f.isStatic = true ∧ k.statics = some a ∧ H[a]? = some cell ∧ cell.vm.isStatics = true ∧ cell.cls = c ∧ f.slot < cell.slots.size ∧ k.staticTypes[f.slot]? = some f.type ∧ ¬ A a
theorem vx_L.moved {C n d : String} {A : Nat → Prop} {u U : State} {H : Heap} (hvm : u.vm.Alike U.vm) (h : vx_L C n d A u H) : vx_L C n d A U H := by
  obtain ⟨c, k, i, f, a, cell, h1, h2, h3, h4, h5, h6, h7, h8, h9, h10⟩ := h
  obtain ⟨k', hi', he⟩ := State.fieldFound?_setVm hvm h2
  exact ⟨c, k', i, f, a, cell, by rw [hvm.findClass]; exact h1, hi', h3, by rw [he]; exact h4, h5, h6, h7, h8, by rw [he]; exact h9, h10⟩
theorem vx_L.kept {C n d : String} {A : Nat → Prop} {U : State} {H H1 : Heap} (h : vx_L C n d A U H) (hq : ∀ a : Nat, a < H.size → ¬ A a → H1[a]? = H[a]?) : vx_L C n d A U H1 := by
  obtain ⟨c, k, i, f, a, cell, h1, h2, h3, h4, h5, h6, h7, h8, h9, h10⟩ := h
  exact ⟨c, k, i, f, a, cell, h1, h2, h3, h4, by rw [hq a (Array.getElem?_eq_some_iff.mp h5).1 h10]; exact h5, h6, h7, h8, h9, h10⟩
theorem vx_L.narrow {C n d : String} {A B : Nat → Prop} {U : State} {H : Heap} (h : vx_L C n d A U H) (hAB : ∀ q, B q → A q) : vx_L C n d B U H := by
  obtain ⟨c, k, i, f, a, cell, h1, h2, h3, h4, h5, h6, h7, h8, h9, h10⟩ := h
  exact ⟨c, k, i, f, a, cell, h1, h2, h3, h4, h5, h6, h7, h8, h9, fun z => h10 (hAB _ z)⟩
theorem vx_L.word {C n d : String} {A : Nat → Prop} {s : State} {args : Array Value} (h : vx_L C n d A s s.heap) : (Cond.laysStatic C n d).before args s = true := by
  obtain ⟨c, k, i, f, a, cell, h1, h2, h3, h4, h5, h6, h7, h8, h9, -⟩ := h
  show (Cond.laysStatic C n d).holds args s none s [] = true
  exact Cond.laysStatic_of h1 h2 h3 h4 h5 h6 h7 h8 h9
/-- .. and what it holds: null or some reference -/
def vx_Zq (C n d : String) (A : Nat → Prop) (U : State) (H : Heap) : Prop := va_Zq C n d A U H ∧ vx_L C n d A U H
theorem vx_Zq.moved {C n d : String} {A : Nat → Prop} {u U : State} {H : Heap} (hvm : u.vm.Alike U.vm) (h : vx_Zq C n d A u H) : vx_Zq C n d A U H := ⟨va_Zq.moved hvm h.1, vx_L.moved hvm h.2⟩
theorem vx_Zq.kept {C n d : String} {A : Nat → Prop} {U : State} {H H1 : Heap} (h : vx_Zq C n d A U H) (hq : ∀ a : Nat, a < H.size → ¬ A a → H1[a]? = H[a]?) : vx_Zq C n d A U H1 := ⟨va_Zq.kept h.1 hq, vx_L.kept h.2 hq⟩
theorem vx_Zq.narrow {C n d : String} {A B : Nat → Prop} {U : State} {H : Heap} (h : vx_Zq C n d A U H) (hAB : ∀ q, B q → A q) : vx_Zq C n d B U H := ⟨va_Zq.narrow h.1 hAB, vx_L.narrow h.2 hAB⟩
theorem vx_Zqof {args : Array Value} {s : State} {C n d : String} {A : Nat → Prop} (hl : (Cond.laysStatic C n d).before args s = true) (hini : (Cond.initialized C).before args s = true) (h : (Cond.isRef (.static C n d)).before args s = true) (hA : ∀ a : Nat, a < s.heap.size → ¬ A a) : vx_Zq C n d A s s.heap := by
  refine ⟨va_Zqof hl hini h hA, ?_⟩
  obtain ⟨c, k, i, f, a, cell, h1, h2, h3, h4, h5, h6, h7, h8, h9⟩ := Cond.laysStatic_spec hl
  exact ⟨c, k, i, f, a, cell, h1, h2, h3, h4, h5, h6, h7, h8, h9, hA a (Array.getElem?_eq_some_iff.mp h5).1⟩
theorem vx_isRef {C n d : String} {v : Value} {A : Nat → Prop} {s : State} {args : Array Value} (h : va_Z C n d v A s s.heap) (hv : v.isRef = true) : (Cond.isRef (.static C n d)).before args s = true := by
  obtain ⟨cf, kf, fi, f, a, cell, h1, h2, h3, h4, h5, h6, h7, -⟩ := h
  have he : (Term.static C n d).eval args s none [] s = some v := by
    simp [Term.eval, State.fieldNamed?, h1, h2, h4, h5, h6, h7]
  simp only [Cond.before, Cond.holds, Cond.value, he]
  cases v <;> simp_all [Value.isRef]
theorem vx_isRefq {C n d : String} {A : Nat → Prop} {s : State} {args : Array Value} (h : va_Zq C n d A s s.heap) : (Cond.isRef (.static C n d)).before args s = true := by
  rcases h with h | ⟨t, h⟩
  · exact vx_isRef h rfl
  · exact vx_isRef h rfl
/-- the same frame, seen from here: as if the method were called anew in this heap -/
theorem vx_rebase {T : State} (X : Stand p l e R s m args below meth c T locs cells slots) {R' : Room} (hf : R'.frames ≤ R.frames) (hl : R'.locals ≤ R.locals) (hc : cells + R'.cells ≤ R.cells) (hs : slots + R'.slots ≤ R.slots) :
    Stand p l e R' ((T.setVm s.vm).setFrames (.invoking m args :: below)) m args below meth c T [] 0 0 := by
  have htop : (T.setVm s.vm).topJava?.isSome := X.here.top
  have hF : ((T.setVm s.vm).setFrames (.invoking m args :: below)).frames = .invoking m args :: below := State.frames_setFrames _ (State.cur_lt_of_top htop)
  obtain ⟨g₀, hg0⟩ := Option.isSome_iff_exists.mp htop
  obtain ⟨r, hr⟩ := State.topJava?_eq_some.mp hg0
  have hl9 : e.platform.stackLimits (T.setVm s.vm).me = e.platform.stackLimits s.me := X.limits
  have hb9 : (T.setVm s.vm).me.stackBytes = s.me.stackBytes := X.bytes
  refine ⟨X.admits, X.cas, X.clock, hF, ?_, X.hears, X.method, X.code, X.here, X.tail, X.warmed, ?_, ?_, ?_⟩
  · have h := X.room
    have hU : ((T.setVm s.vm).setFrames (.invoking m args :: below)).localsInUse = s.localsInUse := by
      rw [State.localsInUse_invoking hF (meth := meth) (c := c) X.method X.code, State.localsInUse_invoking X.frames X.method X.code]
    simp only [State.hasRoom, Bool.and_eq_true, decide_eq_true_eq] at h ⊢
    obtain ⟨⟨⟨⟨h1, h2, h3, h4, h5, h6⟩, h7⟩, h8⟩, h9⟩ := h
    rw [X.frames, List.length_cons] at h2 h3
    have q1 := X.heapSize
    have q2 := X.used
    simp only [hF, hU, List.length_cons, State.stackLimits_setFrames, State.stackBytes_setFrames, hl9, hb9]
    refine ⟨⟨⟨⟨by omega, by omega, by omega, by omega, by omega, h6⟩, ?_⟩, ?_⟩, X.book⟩
    · show T.heap.size + R'.cells ≤ e.platform.maxCells
      omega
    · show T.slotsUsed + R'.slots ≤ e.platform.maxSlots
      omega
  · rw [State.stackLimits_setFrames]; rfl
  · rw [State.stackBytes_setFrames]; rfl
  · refine ⟨?_, Nat.le_refl _, Nat.le_refl _, ?_, ?_, fun a c9 h9 => ⟨c9, h9, rfl, rfl, fun _ _ => rfl⟩⟩
    · obtain ⟨t, ht, -⟩ := State.frames_cons hr
      show T.setVm s.vm = { ((T.setVm s.vm).setFrames (.invoking m args :: below)).setFrames (T.setVm s.vm).frames with heap := T.heap, slotsUsed := T.slotsUsed }
      rw [State.setFrames_setFrames, State.setFrames_self ht]
      rfl
    · show T.slotsUsed = T.slotsUsed + ((T.heap.toList.drop T.heap.size).map (·.slots.size)).sum
      rw [List.drop_eq_nil_of_le (Nat.le_of_eq Array.length_toList)]
      rfl
    · show ((T.heap.toList.drop T.heap.size).map (·.slots.size)).sum ≤ 0
      rw [List.drop_eq_nil_of_le (Nat.le_of_eq Array.length_toList)]
      exact Nat.le_refl _
/-- 'throw new E()': new; dup; invokespecial; athrow -/
theorem vx_throw0 {cc : ByteArray} {pc : Nat} (hexec : p.tables.exec = Jvm.exec) (hb : c.code = cc) (hl : l.stackTraces = false) {own cls : String} {names : List String} {ik ic mc ms : Nat} {A : Nat → Prop}
    (hown : s.vm.findClass own = some m.cls) (hcls : Bundle.fit cls = true) (hnames : ∀ n ∈ names, Bundle.fit n = true)
    (hk : (Cond.classLink own ik cls).before args s = true) (hini : (Cond.initialized cls).before args s = true) (hat : ∀ w ∈ vx_at0 own ic cls names, w.before args s = true)
    (hgood : ∀ w ∈ Cond.classLink own ik cls :: Cond.initialized cls :: vx_at0 own ic cls names, vx_ot w = true)
    (hU : vx_Zq Bundle.tN "UNASSIGNED_STACK" Bundle.steD A s s.heap) (hN : vx_Zq Bundle.tN "SUPPRESSED_SENTINEL" Bundle.listD A s s.heap) (hS : va_S A s.heap H locs) (hsize : ls.size = c.maxLocals)
    (d0 : decode cc pc = .ok (.new ik, 3)) (d3 : decode cc (pc + 3) = .ok (.dup, 1)) (d4 : decode cc (pc + 4) = .ok (.invokespecial ic, 3)) (d7 : decode cc (pc + 7) = .ok (.athrow, 1))
    (hout : ∀ x ∈ c.exceptionTable.toList, covers x (pc + 7) = false)
    (hRframes : names.length + 3 < R.frames) (hRlocals : (rest.map fun v => v.category).sum + (13 * (names.length + 1) + 42) ≤ R.locals) (hRcells : cells + 1 ≤ R.cells) (hRslots : slots + 6 ≤ R.slots) (hlocks : meth.locks = false)
    (hx : ∀ t : State, s.vm.Alike t.vm → H.size ≤ t.heap.size → (∀ q : Nat, q < H.size → t.heap[q]? = H[q]?) → XC cls s t)
    (hf : ∀ z ∈ locs, free z.base) (hc : cells + 1 ≤ mc) (hs : slots + 6 ≤ ms) :
    W p l e R s m args below meth c H locs cells slots (vx_MQ below Qc XC args s mc ms free) (F0 m pc ls rest) := by
  intro T hT X
  have htr : e.platform.stackTraces = false := (show e.platform.stackTraces = l.stackTraces by rw [X.admits.platform]).trans hl
  have Y := vx_rebase X (R' := { frames := R.frames, locals := R.locals, cells := 1, slots := 6 }) (Nat.le_refl _) (Nat.le_refl _) hRcells hRslots
  obtain ⟨s', hA⟩ : ∃ z, z = (T.setVm s.vm).setFrames (.invoking m args :: below) := ⟨_, rfl⟩
  rw [← hA] at Y
  have hvm : s'.vm = s.vm := by rw [hA]; rfl
  have hhp : s'.heap = H := by rw [hA]; exact hT
  have hW0 : s.WarmedH s'.vm := by rw [hvm]; exact State.WarmedH.refl s
  have hat' : ∀ w ∈ vx_at0 own ic cls names, w.before args s' = true := fun w hw => vx_ot_at hW0 hvm.symm (hgood w (List.mem_cons_of_mem _ (List.mem_cons_of_mem _ hw))) (hat w hw)
  have hk' : (Cond.classLink own ik cls).before args s' = true := vx_ot_at hW0 hvm.symm (hgood _ List.mem_cons_self) hk
  have hini' : (Cond.initialized cls).before args s' = true := vx_ot_at hW0 hvm.symm (hgood _ (List.mem_cons_of_mem _ List.mem_cons_self)) hini
  have hU' : vx_Zq Bundle.tN "UNASSIGNED_STACK" Bundle.steD A s' s'.heap := by rw [hhp]; exact vx_Zq.moved hW0.alike (hU.kept hS.2.1)
  have hN' : vx_Zq Bundle.tN "SUPPRESSED_SENTINEL" Bundle.listD A s' s'.heap := by rw [hhp]; exact vx_Zq.moved hW0.alike (hN.kept hS.2.1)
  have h : ∀ w ∈ Bundle.ownAtoms0 own ic cls names, w.before args s' = true := vx_own hat' (vx_isRefq hU'.1) (vx_isRefq hN'.1) hU'.2.word hN'.2.word
  have hown' : s'.vm.findClass own = some m.cls := by rw [hvm]; exact hown
  have hins : (Cond.instantiable cls 6).before args s' = true := h _ (by simp [Bundle.ownAtoms0])
  obtain ⟨vm₁, cX, kX, hfX, hkX, -, -, X₁, st1⟩ := Y.newCold hexec (own := own) (C := cls) (index := ik) (n := 6) hown' hk' hins hini'
    (g := F0 m pc ls rest) rfl (by rw [hb]; exact d0) (Nat.le_refl _) (Nat.le_refl _)
  generalize hT1 : (T.setVm vm₁).pushCell { cls := cX, slots := kX.instanceTypes.map defaultValue, vm := .none } = T1 at X₁ st1
  have hcat : (Value.ref T.heap.size).category = 1 := rfl
  have hcellA : T1.heap[T.heap.size]? = some (freshCell cX kX) := by rw [← hT1]; exact State.heap_pushCell_size _ _
  have d3' : decode c.code (pc + 3) = .ok (.dup, 1) := by rw [hb]; exact d3
  obtain ⟨U, hsteps, hrun, hend, hW, hsame, ce, hce, hO⟩ := X₁.ctorThrow0 hexec htr (own := own) (cls := cls) (names := names) (ic := ic) hown' hcls hnames h (fun x hx => nomatch hx) hfX hkX hcellA (by rw [hhp, hT]; exact Nat.le_refl _)
    (g := { method := m, pc := pc + 4, locals := ls, stack := .ref T.heap.size :: .ref T.heap.size :: rest, locked := none }) rfl hsize rfl rfl (rest := rest) rfl
    (by rw [hb]; exact d4) (by rw [hb]; exact d7) hout hRframes (by simp only [List.map_cons, List.sum_cons, hcat]; omega) hlocks
  obtain ⟨f1, f2⟩ := vx_frame hsame
  rw [hhp] at f1 f2
  have hWs : s.WarmedH U.vm := State.WarmedH.trans hW0 hW
  have hcl : s.vm.findClass cls = some ce.cls := by
    have h9 := hO.cls
    rw [hvm] at h9
    exact h9
  have hall : s.sameButNew ({ U with vm := s.vm } : State) locs mc ms := by
    subst hA
    obtain ⟨e1, e2⟩ := hsame
    rw [State.setFrames_setFrames] at e1
    have h2 : (T.setVm s.vm).sameButNew ({ U with vm := s.vm } : State) [] (0 + 1) (0 + 6) := ⟨e1, e2⟩
    have h3 := X.same.trans h2
    rw [List.append_nil] at h3
    exact h3.mono hc hs
  refine ⟨U, ?_, .threw T.heap.size, hrun, hend, Or.inr ⟨T.heap.size, rfl, cls, ce, locs, hx U hWs.alike f1 (fun q hq => f2 q hq (fun z hz => nomatch hz)), hce, hO.vm, hcl, hWs, hall, hf⟩⟩
  refine st1 _ ?_
  show Steps p.tables e below (T1.setTop { method := m, pc := pc + 3, locals := ls, stack := .ref T.heap.size :: rest, locked := none }) _
  jvm_step X₁.here [X₁.here.top, hexec, d3', Value.category]
  exact hsteps
/-- 'throw new E("text")': new; dup; ldc; invokespecial; athrow -/
theorem vx_throwS {cc : ByteArray} {pc : Nat} (hexec : p.tables.exec = Jvm.exec) (hb : c.code = cc) (hl : l.stackTraces = false) {own cls text : String} {names : List String} {ik is ic mc ms sa : Nat} {A : Nat → Prop}
    (hown : s.vm.findClass own = some m.cls) (hcls : Bundle.fit cls = true) (hnames : ∀ n ∈ names, Bundle.fit n = true)
    (hk : (Cond.classLink own ik cls).before args s = true) (hini : (Cond.initialized cls).before args s = true) (hstr : vk_R own is text sa s) (hat : ∀ w ∈ vx_atS own ic cls names, w.before args s = true)
    (hgood : ∀ w ∈ Cond.classLink own ik cls :: Cond.initialized cls :: vx_atS own ic cls names, vx_ot w = true)
    (hU : vx_Zq Bundle.tN "UNASSIGNED_STACK" Bundle.steD A s s.heap) (hN : vx_Zq Bundle.tN "SUPPRESSED_SENTINEL" Bundle.listD A s s.heap) (hS : va_S A s.heap H locs) (hsize : ls.size = c.maxLocals)
    (d0 : decode cc pc = .ok (.new ik, 3)) (d3 : decode cc (pc + 3) = .ok (.dup, 1)) (d4 : decode cc (pc + 4) = .ok (.ldc is, 2)) (d6 : decode cc (pc + 6) = .ok (.invokespecial ic, 3)) (d9 : decode cc (pc + 9) = .ok (.athrow, 1))
    (hout : ∀ x ∈ c.exceptionTable.toList, covers x (pc + 9) = false)
    (hRframes : names.length + 3 < R.frames) (hRlocals : (rest.map fun v => v.category).sum + (13 * (names.length + 1) + 43) ≤ R.locals) (hRcells : cells + 1 ≤ R.cells) (hRslots : slots + 6 ≤ R.slots) (hlocks : meth.locks = false)
    (hx : ∀ t : State, s.vm.Alike t.vm → H.size ≤ t.heap.size → (∀ q : Nat, q < H.size → t.heap[q]? = H[q]?) → XC cls s t)
    (hf : ∀ z ∈ locs, free z.base) (hc : cells + 1 ≤ mc) (hs : slots + 6 ≤ ms) :
    W p l e R s m args below meth c H locs cells slots (vx_MQ below Qc XC args s mc ms free) (F0 m pc ls rest) := by
  intro T hT X
  have htr : e.platform.stackTraces = false := (show e.platform.stackTraces = l.stackTraces by rw [X.admits.platform]).trans hl
  have Y := vx_rebase X (R' := { frames := R.frames, locals := R.locals, cells := 1, slots := 6 }) (Nat.le_refl _) (Nat.le_refl _) hRcells hRslots
  obtain ⟨s', hA⟩ : ∃ z, z = (T.setVm s.vm).setFrames (.invoking m args :: below) := ⟨_, rfl⟩
  rw [← hA] at Y
  have hvm : s'.vm = s.vm := by rw [hA]; rfl
  have hhp : s'.heap = H := by rw [hA]; exact hT
  have hW0 : s.WarmedH s'.vm := by rw [hvm]; exact State.WarmedH.refl s
  have hat' : ∀ w ∈ vx_atS own ic cls names, w.before args s' = true := fun w hw => vx_ot_at hW0 hvm.symm (hgood w (List.mem_cons_of_mem _ (List.mem_cons_of_mem _ hw))) (hat w hw)
  have hk' : (Cond.classLink own ik cls).before args s' = true := vx_ot_at hW0 hvm.symm (hgood _ List.mem_cons_self) hk
  have hini' : (Cond.initialized cls).before args s' = true := vx_ot_at hW0 hvm.symm (hgood _ (List.mem_cons_of_mem _ List.mem_cons_self)) hini
  have hU' : vx_Zq Bundle.tN "UNASSIGNED_STACK" Bundle.steD A s' s'.heap := by rw [hhp]; exact vx_Zq.moved hW0.alike (hU.kept hS.2.1)
  have hN' : vx_Zq Bundle.tN "SUPPRESSED_SENTINEL" Bundle.listD A s' s'.heap := by rw [hhp]; exact vx_Zq.moved hW0.alike (hN.kept hS.2.1)
  have h : ∀ w ∈ Bundle.ownAtoms own ic cls names, w.before args s' = true := vx_own hat' (vx_isRefq hU'.1) (vx_isRefq hN'.1) hU'.2.word hN'.2.word
  have hown' : s'.vm.findClass own = some m.cls := by rw [hvm]; exact hown
  have hins : (Cond.instantiable cls 6).before args s' = true := h _ (by simp [Bundle.ownAtoms])
  obtain ⟨vm₁, cX, kX, hfX, hkX, -, -, X₁, st1⟩ := Y.newCold hexec (own := own) (C := cls) (index := ik) (n := 6) hown' hk' hins hini'
    (g := F0 m pc ls rest) rfl (by rw [hb]; exact d0) (Nat.le_refl _) (Nat.le_refl _)
  generalize hT1 : (T.setVm vm₁).pushCell { cls := cX, slots := kX.instanceTypes.map defaultValue, vm := .none } = T1 at X₁ st1
  have hcat : (Value.ref T.heap.size).category = 1 := rfl
  have hcellA : T1.heap[T.heap.size]? = some (freshCell cX kX) := by rw [← hT1]; exact State.heap_pushCell_size _ _
  have d3' : decode c.code (pc + 3) = .ok (.dup, 1) := by rw [hb]; exact d3
  have d4' : decode c.code (pc + 4) = .ok (.ldc is, 2) := by rw [hb]; exact d4
  have hstr' : vk_R own is text sa s' := vk_R.warm hW0 hstr
  obtain ⟨U, hsteps, hrun, hend, hW, hsame, ce, hce, hO⟩ := X₁.ctorThrowS hexec htr (own := own) (cls := cls) (names := names) (ic := ic) hown' hcls hnames h (fun x hx => nomatch hx) hfX hkX hcellA (by rw [hhp, hT]; exact Nat.le_refl _) (msg := .ref sa) rfl
    (g := { method := m, pc := pc + 6, locals := ls, stack := .ref sa :: .ref T.heap.size :: .ref T.heap.size :: rest, locked := none }) rfl hsize rfl rfl (rest := rest) rfl
    (by rw [hb]; exact d6) (by rw [hb]; exact d9) hout hRframes (by simp only [List.map_cons, List.sum_cons, hcat]; omega) hlocks
  obtain ⟨f1, f2⟩ := vx_frame hsame
  rw [hhp] at f1 f2
  have hWs : s.WarmedH U.vm := State.WarmedH.trans hW0 hW
  have hcl : s.vm.findClass cls = some ce.cls := by
    have h9 := hO.cls
    rw [hvm] at h9
    exact h9
  have hall : s.sameButNew ({ U with vm := s.vm } : State) locs mc ms := by
    subst hA
    obtain ⟨e1, e2⟩ := hsame
    rw [State.setFrames_setFrames] at e1
    have h2 : (T.setVm s.vm).sameButNew ({ U with vm := s.vm } : State) [] (0 + 1) (0 + 6) := ⟨e1, e2⟩
    have h3 := X.same.trans h2
    rw [List.append_nil] at h3
    exact h3.mono hc hs
  refine ⟨U, ?_, .threw T.heap.size, hrun, hend, Or.inr ⟨T.heap.size, rfl, cls, ce, locs, hx U hWs.alike f1 (fun q hq => f2 q hq (fun z hz => nomatch hz)), hce, hO.vm, hcl, hWs, hall, hf⟩⟩
  refine st1 _ ?_
  show Steps p.tables e below (T1.setTop { method := m, pc := pc + 3, locals := ls, stack := .ref T.heap.size :: rest, locked := none }) _
  jvm_step X₁.here [X₁.here.top, hexec, d3', Value.category]
  exact X₁.ldcString hexec (own := own) (text := text) (index := is) (a := sa) hown' hstr'.1 hstr'.2
    (g := { method := m, pc := pc + 4, locals := ls, stack := .ref T.heap.size :: .ref T.heap.size :: rest, locked := none }) rfl d4' _ hsteps
/-- 'throw new E("text")', the text by a wide index -/
theorem vx_throwSW {cc : ByteArray} {pc : Nat} (hexec : p.tables.exec = Jvm.exec) (hb : c.code = cc) (hl : l.stackTraces = false) {own cls text : String} {names : List String} {ik is ic mc ms sa : Nat} {A : Nat → Prop}
    (hown : s.vm.findClass own = some m.cls) (hcls : Bundle.fit cls = true) (hnames : ∀ n ∈ names, Bundle.fit n = true)
    (hk : (Cond.classLink own ik cls).before args s = true) (hini : (Cond.initialized cls).before args s = true) (hstr : vk_R own is text sa s) (hat : ∀ w ∈ vx_atS own ic cls names, w.before args s = true)
    (hgood : ∀ w ∈ Cond.classLink own ik cls :: Cond.initialized cls :: vx_atS own ic cls names, vx_ot w = true)
    (hU : vx_Zq Bundle.tN "UNASSIGNED_STACK" Bundle.steD A s s.heap) (hN : vx_Zq Bundle.tN "SUPPRESSED_SENTINEL" Bundle.listD A s s.heap) (hS : va_S A s.heap H locs) (hsize : ls.size = c.maxLocals)
    (d0 : decode cc pc = .ok (.new ik, 3)) (d3 : decode cc (pc + 3) = .ok (.dup, 1)) (d4 : decode cc (pc + 4) = .ok (.ldc_w is, 3)) (d7 : decode cc (pc + 7) = .ok (.invokespecial ic, 3)) (d10 : decode cc (pc + 10) = .ok (.athrow, 1))
    (hout : ∀ x ∈ c.exceptionTable.toList, covers x (pc + 10) = false)
    (hRframes : names.length + 3 < R.frames) (hRlocals : (rest.map fun v => v.category).sum + (13 * (names.length + 1) + 43) ≤ R.locals) (hRcells : cells + 1 ≤ R.cells) (hRslots : slots + 6 ≤ R.slots) (hlocks : meth.locks = false)
    (hx : ∀ t : State, s.vm.Alike t.vm → H.size ≤ t.heap.size → (∀ q : Nat, q < H.size → t.heap[q]? = H[q]?) → XC cls s t)
    (hf : ∀ z ∈ locs, free z.base) (hc : cells + 1 ≤ mc) (hs : slots + 6 ≤ ms) :
    W p l e R s m args below meth c H locs cells slots (vx_MQ below Qc XC args s mc ms free) (F0 m pc ls rest) := by
  intro T hT X
  have htr : e.platform.stackTraces = false := (show e.platform.stackTraces = l.stackTraces by rw [X.admits.platform]).trans hl
  have Y := vx_rebase X (R' := { frames := R.frames, locals := R.locals, cells := 1, slots := 6 }) (Nat.le_refl _) (Nat.le_refl _) hRcells hRslots
  obtain ⟨s', hA⟩ : ∃ z, z = (T.setVm s.vm).setFrames (.invoking m args :: below) := ⟨_, rfl⟩
  rw [← hA] at Y
  have hvm : s'.vm = s.vm := by rw [hA]; rfl
  have hhp : s'.heap = H := by rw [hA]; exact hT
  have hW0 : s.WarmedH s'.vm := by rw [hvm]; exact State.WarmedH.refl s
  have hat' : ∀ w ∈ vx_atS own ic cls names, w.before args s' = true := fun w hw => vx_ot_at hW0 hvm.symm (hgood w (List.mem_cons_of_mem _ (List.mem_cons_of_mem _ hw))) (hat w hw)
  have hk' : (Cond.classLink own ik cls).before args s' = true := vx_ot_at hW0 hvm.symm (hgood _ List.mem_cons_self) hk
  have hini' : (Cond.initialized cls).before args s' = true := vx_ot_at hW0 hvm.symm (hgood _ (List.mem_cons_of_mem _ List.mem_cons_self)) hini
  have hU' : vx_Zq Bundle.tN "UNASSIGNED_STACK" Bundle.steD A s' s'.heap := by rw [hhp]; exact vx_Zq.moved hW0.alike (hU.kept hS.2.1)
  have hN' : vx_Zq Bundle.tN "SUPPRESSED_SENTINEL" Bundle.listD A s' s'.heap := by rw [hhp]; exact vx_Zq.moved hW0.alike (hN.kept hS.2.1)
  have h : ∀ w ∈ Bundle.ownAtoms own ic cls names, w.before args s' = true := vx_own hat' (vx_isRefq hU'.1) (vx_isRefq hN'.1) hU'.2.word hN'.2.word
  have hown' : s'.vm.findClass own = some m.cls := by rw [hvm]; exact hown
  have hins : (Cond.instantiable cls 6).before args s' = true := h _ (by simp [Bundle.ownAtoms])
  obtain ⟨vm₁, cX, kX, hfX, hkX, -, -, X₁, st1⟩ := Y.newCold hexec (own := own) (C := cls) (index := ik) (n := 6) hown' hk' hins hini'
    (g := F0 m pc ls rest) rfl (by rw [hb]; exact d0) (Nat.le_refl _) (Nat.le_refl _)
  generalize hT1 : (T.setVm vm₁).pushCell { cls := cX, slots := kX.instanceTypes.map defaultValue, vm := .none } = T1 at X₁ st1
  have hcat : (Value.ref T.heap.size).category = 1 := rfl
  have hcellA : T1.heap[T.heap.size]? = some (freshCell cX kX) := by rw [← hT1]; exact State.heap_pushCell_size _ _
  have d3' : decode c.code (pc + 3) = .ok (.dup, 1) := by rw [hb]; exact d3
  have d4' : decode c.code (pc + 4) = .ok (.ldc_w is, 3) := by rw [hb]; exact d4
  have hstr' : vk_R own is text sa s' := vk_R.warm hW0 hstr
  obtain ⟨U, hsteps, hrun, hend, hW, hsame, ce, hce, hO⟩ := X₁.ctorThrowS hexec htr (own := own) (cls := cls) (names := names) (ic := ic) hown' hcls hnames h (fun x hx => nomatch hx) hfX hkX hcellA (by rw [hhp, hT]; exact Nat.le_refl _) (msg := .ref sa) rfl
    (g := { method := m, pc := pc + 7, locals := ls, stack := .ref sa :: .ref T.heap.size :: .ref T.heap.size :: rest, locked := none }) rfl hsize rfl rfl (rest := rest) rfl
    (by rw [hb]; exact d7) (by rw [hb]; exact d10) hout hRframes (by simp only [List.map_cons, List.sum_cons, hcat]; omega) hlocks
  obtain ⟨f1, f2⟩ := vx_frame hsame
  rw [hhp] at f1 f2
  have hWs : s.WarmedH U.vm := State.WarmedH.trans hW0 hW
  have hcl : s.vm.findClass cls = some ce.cls := by
    have h9 := hO.cls
    rw [hvm] at h9
    exact h9
  have hall : s.sameButNew ({ U with vm := s.vm } : State) locs mc ms := by
    subst hA
    obtain ⟨e1, e2⟩ := hsame
    rw [State.setFrames_setFrames] at e1
    have h2 : (T.setVm s.vm).sameButNew ({ U with vm := s.vm } : State) [] (0 + 1) (0 + 6) := ⟨e1, e2⟩
    have h3 := X.same.trans h2
    rw [List.append_nil] at h3
    exact h3.mono hc hs
  refine ⟨U, ?_, .threw T.heap.size, hrun, hend, Or.inr ⟨T.heap.size, rfl, cls, ce, locs, hx U hWs.alike f1 (fun q hq => f2 q hq (fun z hz => nomatch hz)), hce, hO.vm, hcl, hWs, hall, hf⟩⟩
  refine st1 _ ?_
  show Steps p.tables e below (T1.setTop { method := m, pc := pc + 3, locals := ls, stack := .ref T.heap.size :: rest, locked := none }) _
  jvm_step X₁.here [X₁.here.top, hexec, d3', Value.category]
  exact X₁.ldcStringW hexec (own := own) (text := text) (index := is) (a := sa) hown' hstr'.1 hstr'.2
    (g := { method := m, pc := pc + 4, locals := ls, stack := .ref T.heap.size :: .ref T.heap.size :: rest, locked := none }) rfl d4' _ hsteps
end Ends
section Bodies
variable {l : Launch}
theorem vx_ofW {y : MethodName} {ws ws' : List Cond} {rm : Room} {Pc : Array Value → State → Prop} {Qc : Array Value → State → Outcome → State → Prop} {XC : String → State → State → Prop} {mc ms : Nat} {free : Addr → Prop} {cc : ByteArray} {maxL : Nat} {ret : Option FieldType}
    (hy : plainName y.cls = true) (hw : ws = Cond.code y cc maxL ret :: ws')
    (body : ∀ p e s m args below meth c s₁, BodyLoose p l y (headSpec ws rm) cc maxL ret e s m args below meth c s₁ → c.maxLocals = maxL → (∀ x ∈ c.exceptionTable.toList, False) → Pc args s →
      W p l e (headSpec ws rm).room s m args below meth c s.heap [] 0 0 (vx_MQ below Qc XC args s mc ms free) (entryFrame m args maxL)) : vx_Met l y ws rm Pc Qc XC mc ms free := by
  refine MetFree.of_bodyS (code := cc) (maxLocals := maxL) (ret := ret) hy ?_ ?_
  · intro args s m h hn
    obtain ⟨meth, c, h1, h2, h3, h4, h5, h6, -, -⟩ := Cond.code_spec hn (atoms_spec (ws := ws) h _ (by rw [hw]; exact List.mem_cons_self))
    exact ⟨meth, c, h1, h2, h3, h4, h5, h6⟩
  · intro p e s m args below meth c s₁ B hml hP _
    have hh0 : s₁.heap = s.heap := by rw [B.state]; rfl
    have ht : ∀ x ∈ c.exceptionTable.toList, False := by
      obtain ⟨meth9, c9, h1, h2, -, -, -, -, h7, -⟩ := Cond.code_spec B.named (atoms_spec (ws := ws) B.pre _ (by rw [hw]; exact List.mem_cons_self))
      cases Option.some.inj (h1.symm.trans B.method)
      cases Option.some.inj (h2.symm.trans (Stand.of_body B).code)
      intro x hx
      rw [Array.isEmpty_iff.mp h7] at hx
      cases hx
    obtain ⟨t, a1, o, b1, b2, b3⟩ := body p e s m args below meth c s₁ B hml ht hP s₁ hh0 (Stand.of_body B)
    exact ⟨t, o, a1, b1, b2, b3⟩
/-- the table of a body with handlers -/
theorem vx_table {p : Program} {x y : MethodName} {S : Spec} {cc bytes : ByteArray} {maxL maxL' : Nat} {ret ret' : Option FieldType} {e : Env} {s s₁ : State} {m : MethodId} {args : Array Value} {below : List Frame} {meth : Method} {c : Code} {hh : List (Nat × Nat × Nat × Nat)}
    (B : BodyLoose p l y S cc maxL ret e s m args below meth c s₁) (h : (Cond.codeWith y bytes maxL' ret' hh).before args s = true) : c.exceptionTable.toList = tableOf hh := by
  obtain ⟨m9, meth9, c9, hn9, h1, h2, -, -, h6, -⟩ := Cond.codeWith_spec h
  cases Option.some.inj (hn9.symm.trans B.named)
  cases Option.some.inj (h1.symm.trans B.method)
  cases Option.some.inj (h2.symm.trans (Stand.of_body B).code)
  rw [← h6, table_eq]
end Bodies
end VXA
/-! ===== END ===== -/
/-! ===== BEGIN a static call of a method with an exception table ===== -/
section VXS
variable {p : Program} {l : Launch} {e : Env} {R : Room} {s : State} {m : MethodId} {args : Array Value} {below : List Frame} {meth : Method} {c : Code} {T : State} {H : Heap} {locs : List Loc} {cells slots : Nat}
abbrev vx_CSW (R : Room) (s : State) (args : Array Value) (own : String) (index : Nat) (y : MethodName) (bytes : ByteArray) (maxL : Nat) (ret : Option FieldType) (hh : List (Nat × Nat × Nat × Nat)) (ws : List Cond) (rm : Room) (mc ms n : Nat) : Prop :=
  (rm.cells = mc ∧ rm.slots = ms ∧ rm.frames + 1 ≤ R.frames ∧ 8 + (maxL + 11) + rm.locals ≤ R.locals ∧ (∀ w ∈ ws, ∀ (a' : Array Value) (U : State), s.WarmedH U.vm → w.before a' U = true) ∧ Cond.codeWith y bytes maxL ret hh ∈ ws) ∧
  (Cond.codeWith y bytes maxL ret hh).before args s = true ∧ (Cond.initialized y.cls).before args s = true ∧ (y.cls ≠ "java/lang/invoke/MethodHandle" ∧ y.cls ≠ "java/lang/invoke/VarHandle") ∧
  (∀ sig, parseMethodDescriptor y.desc = some sig → n = sig.parameters.length) ∧ (Cond.methodLink own index y).before args s = true ∧ (Cond.static y).before args s = true
theorem vx_cwSW {own : String} {index maxL mc ms : Nat} {y : MethodName} {bytes : ByteArray} {ret : Option FieldType} {hh : List (Nat × Nat × Nat × Nat)} {Ts ws ws' : List Cond} {rm : Room} (n : Nat) (ht : ∀ w ∈ Ts, w.before args s = true) (hT : GoodIn Ts (va_wsS own index y ws)) (hw : ws = Cond.codeWith y bytes maxL ret hh :: ws') (hrc : rm.cells = mc) (hrs : rm.slots = ms)
    (hd : y.cls ≠ "java/lang/invoke/MethodHandle" ∧ y.cls ≠ "java/lang/invoke/VarHandle" ∧ (parseMethodDescriptor y.desc).map (fun d => d.parameters.length) = some n) (hR : rm.frames + 1 ≤ R.frames ∧ 8 + (maxL + 11) + rm.locals ≤ R.locals) :
    vx_CSW R s args own index y bytes maxL ret hh ws rm mc ms n := by
  have ok : ∀ w ∈ va_wsS own index y ws, w.before args s = true := fun w h => ht w (hT w h).1
  have hG : GoodIn Ts ws := fun w h => hT w (by unfold va_wsS; exact List.mem_append_right _ h)
  have hc : Cond.codeWith y bytes maxL ret hh ∈ ws := by rw [hw]; exact List.mem_cons_self
  refine ⟨⟨hrc, hrs, hR.1, hR.2, pay_in ht hG, hc⟩, ht _ (hG _ hc).1, ok _ (by simp [va_wsS]), ⟨hd.1, hd.2.1⟩, fun sig h => ?_, ok _ (by simp [va_wsS]), ok _ (by simp [va_wsS])⟩
  have h2 := hd.2.2
  rw [h] at h2
  exact (Option.some.inj h2).symm
theorem vx_callSW (X : Stand p l e R s m args below meth c T locs cells slots) (hexec : p.tables.exec = Jvm.exec) {own : String} {index : Nat} {y : MethodName} {bytes : ByteArray} {maxL : Nat} {ret : Option FieldType} {hh : List (Nat × Nat × Nat × Nat)}
    (hown : s.vm.findClass own = some m.cls) (hlink : (Cond.methodLink own index y).before args s = true) (hstat : (Cond.static y).before args s = true) (hinit : (Cond.initialized y.cls).before args s = true)
    (hcode : (Cond.codeWith y bytes maxL ret hh).before args s = true) (hy : y.cls ≠ "java/lang/invoke/MethodHandle" ∧ y.cls ≠ "java/lang/invoke/VarHandle")
    {W9 : Nat} {Pre : Pt → Array Value → Prop} {Post : Pt → Array Value → Option Value → Pt → Prop} (hK : Back l R p e below s args y 3 W9 Pre Post)
    {g : JFrame} (hg : g.method = m) (hsize : g.locals.size = c.maxLocals) {argsL rest : List Value} (hlen : ∀ sig, parseMethodDescriptor y.desc = some sig → argsL.length = sig.parameters.length)
    (hstack : g.stack = argsL.reverse ++ rest) (hW : 2 * g.monitorRoom + (rest.map fun v => v.category).sum ≤ W9) (hdg : decode c.code g.pc = .ok (.invokestatic index, 3))
    (hpre : ∀ vm₁, s.WarmedH vm₁ → Pre ⟨T.setVm vm₁, locs, cells, slots⟩ argsL.toArray) :
    ∃ (v : Option Value) (vm₁ : Vm) (B : Pt), s.WarmedH vm₁ ∧ Stand p l e R s m args below meth c B.U B.locs B.cells B.slots ∧ Post ⟨T.setVm vm₁, locs, cells, slots⟩ argsL.toArray v B ∧
      ∀ target, Steps p.tables e below (B.U.setTop { g with pc := g.pc + 3, stack := v.toList ++ rest }) target → Steps p.tables e below (T.setTop g) target := by
  obtain ⟨mk, methM, cM, hnamed, hmethM, -, -, -, -, -, -, hsigM⟩ := Cond.codeWith_spec hcode
  have hstatic : methM.isStatic = true := Cond.static_spec hnamed hmethM hstat
  obtain ⟨kP, hkP, -⟩ := className_of_methodNamed hnamed
  have hinitP : kP.init = .initialized := Cond.initialized_spec (findClass_of_methodNamed hnamed) hkP hinit
  obtain ⟨vm₁, X₁, hstep₁⟩ := X.invokestatic hexec hown hlink hnamed hmethM hstatic hkP hinitP hy (g := g) hg (argsL := argsL) (rest := rest) (hlen _ hsigM) hstack hdg
  obtain ⟨v, B, X', hpost, hsteps⟩ := hK m meth c ⟨T.setVm vm₁, locs, cells, slots⟩ { g with stack := rest } (.invokestatic index) mk argsL.toArray X₁ hg hsize hdg hW (X₁.named hnamed) (hpre vm₁ X₁.warmed)
  exact ⟨v, vm₁, B, X₁.warmed, X', hpost, fun target h => hstep₁ _ fun acts => by rw [doInvoke_state]; exact hsteps.trans h⟩
theorem vx_runSW {y : MethodName} {bytes cc : ByteArray} {maxL nL mc ms n index : Nat} {ret : Option FieldType} {hh : List (Nat × Nat × Nat × Nat)} {ws : List Cond} {rm : Room} {Pc : Array Value → State → Prop} {Qc : Array Value → State → Outcome → State → Prop} {free : Addr → Prop} {Ts : List Cond} {own : String} {As rest : List Value} {g : JFrame}
    (S : CallFix p m c cc nL s args Ts own) (hM : Met l y ws rm Pc Qc mc ms free) (cw : vx_CSW R s args own index y bytes maxL ret hh ws rm mc ms n) (hp : PreS s H Pc As)
    (hg : g.method = m) (hn : As.length = n) (hsize : g.locals.size = nL) (hstack : g.stack = As.reverse ++ rest) (hW : 2 * g.monitorRoom + (rest.map fun v => v.category).sum ≤ 8) (hdg : decode cc g.pc = .ok (.invokestatic index, 3)) (hf : cells + mc ≤ R.cells ∧ slots + ms ≤ R.slots) :
    va_Run p l e R s m args below meth c H locs cells slots mc ms g rest (Qc As.toArray) (free) := by
  obtain ⟨⟨hrc, hrs, hfr, hlo, hws, hcw⟩, hcode, hini, hy, hlen, hl, hstt⟩ := cw
  have hK : Back l R p e below s args y 3 8 (PreOf R mc ms Pc) (PostOf Qc mc ms free) := va_backW (hh := hh) (bytes := bytes) (maxL := maxL) (ret := ret) hM hp.1 hrc hrs hfr hlo hws hcw (fun a' U hW => word_at hW (Or.inl (by first | rfl | simp [Cond.onTables, Cond.keeps, Cond.steady])) hini)
  obtain ⟨hx, hb, hml, ho, -⟩ := S
  intro T hT X
  obtain ⟨v, vm₁, ⟨U', l2, c2, s2⟩, hW₁, X', ⟨g', mk, t, L, e1, e2, hq, h1, hL, h2, h3⟩, st⟩ := vx_callSW X hx (hh := hh) (bytes := bytes) (maxL := maxL) (ret := ret) ho hl hstt hini hcode hy hK hg (hsize.trans hml.symm) (argsL := As) (rest := rest) (fun sig h => hn.trans (hlen sig h)) hstack hW (by rw [hb]; exact hdg)
    (fun vm₁ hW₁ => ⟨hf.1, hf.2, hp.2 (T.setVm vm₁) hT hW₁⟩)
  dsimp only [Pt.U, Pt.locs, Pt.cells, Pt.slots] at X' e1 e2 h1 h2 h3 st
  subst h1; subst h2; subst h3
  exact ⟨v, (T.setVm vm₁).calling g' mk As.toArray, t, U', L, hT, X', hL, e1, e2, hq, st⟩
/-- a thing of a world lies in the heap -/
theorem vx_lt {D : va_G} {cl : List vw_C} {ws : va_W} {H1 : Heap} (h : va_P D cl ws H1) {k : Nat} {q : Nat × va_E} (hk : ws[k]? = some q) : q.1 < H1.size := (h k q hk).lt
end VXS
/-! ===== END ===== -/
/-! ===== BEGIN methods with a table of their own: called by a name, returning or throwing ===== -/
section VXH
/-! vx_backW, vx_callVX, vx_callSX, vx_callVW, vx_runVW, vx_runVX, vx_runSX, vx_ofWH follow the same proofs as their sisters above (Free/Laws.lean, Shelf42/LK1.lean); vx_outP calls Shelf42/NT130.lean (outThrough). -/
section
variable {l : Launch} {R : Room} {p : Program} {e : Env} {below : List Frame} {s : State} {sargs : Array Value} {y : MethodName} {len W9 : Nat}
theorem vx_backW {ws : List Cond} {rm : Room} {Pc : Array Value → State → Prop} {Qc : Array Value → State → Outcome → State → Prop} {XC : String → State → State → Prop} {mc ms : Nat} {free : Addr → Prop} {bytes : ByteArray} {maxL : Nat} {ret : Option FieldType} {hh : List (Nat × Nat × Nat × Nat)}
    (hM : vx_Met l y ws rm Pc Qc XC mc ms free) (hblind : FrameBlind Pc) (hrc : rm.cells = mc) (hrs : rm.slots = ms)
    (hframes : rm.frames + 1 ≤ R.frames) (hlocals : W9 + (maxL + 11) + rm.locals ≤ R.locals)
    (hws : ∀ w ∈ ws, ∀ a' U, s.WarmedH U.vm → w.before a' U = true) (hcode : Cond.codeWith y bytes maxL ret hh ∈ ws) (hinit : ∀ a' U, s.WarmedH U.vm → (Cond.initialized y.cls).before a' U = true) :
    vx_Back l R p e below s sargs y len W9 (PreOf R mc ms Pc) (PostOf Qc mc ms free) (vx_Post XC mc ms free) := by
  intro m meth c A g ig mk a X hg hsize hdg hW hn hp
  have h1 : (headSpec ws rm).pre.before a A.U = true := atoms_intro fun w hw => hws w hw _ _ X.warmed
  have h2 : (Cond.codeWith y bytes maxL ret hh).before a A.U = true := hws _ hcode _ _ X.warmed
  have h3 : (Cond.initialized y.cls).before a A.U = true := hinit _ _ X.warmed
  have h4 : A.cells + (headSpec ws rm).room.cells ≤ R.cells := by rw [show (headSpec ws rm).room.cells = mc from hrc]; exact hp.1
  have h5 : A.slots + (headSpec ws rm).room.slots ≤ R.slots := by rw [show (headSpec ws rm).room.slots = ms from hrs]; exact hp.2.1
  have hPc : Pc a (A.U.calling g mk a) := hblind _ _ _ _ hp.2.2
  obtain ⟨U, Ls, c0, s0⟩ := A
  dsimp only [Pt.U, Pt.locs, Pt.cells, Pt.slots] at h1 h2 h3 h4 h5 X hn hPc ⊢
  obtain ⟨m9, methY, cY, hn9, hmY, hcY, -, hlY, -⟩ := Cond.codeWith_spec h2
  cases Option.some.inj (hn9.symm.trans hn)
  obtain ⟨kY, hkY, -⟩ := className_of_methodNamed hn
  have hinitY : kY.init = .initialized := Cond.initialized_spec (findClass_of_methodNamed hn) hkY h3
  have h : At U g.method c below := by rw [hg]; exact X.here
  have hlocals9 : W9 + (maxL + 11) + (headSpec ws rm).room.locals ≤ R.locals := hlocals
  have happ : (headSpec ws rm).appliesLoose y e.platform (U.calling g mk a) = true :=
    Spec.appliesLoose_calling (g := g) h hdg hn hkY hinitY
      (X.room_calling (g := g) (R' := (headSpec ws rm).room) hsize hmY hcY hframes (by rw [hlY]; omega) h4 h5) h1
  obtain ⟨mid, hmid⟩ := h.above
  have hfr : (U.setTop g).frames = (.java g :: mid) ++ below := by rw [State.frames_setTop' g h.top, hmid]; rfl
  obtain ⟨o, s₂, hsteps, -, hend, hq⟩ := Steps.callFree hM p X.admits X.cas X.clock (acts := []) hfr happ hPc trivial
  have hq' : vx_Q Qc XC mc ms free a (U.calling g mk a) o s₂ := hq
  rw [State.frames_setTop' g h.top] at hend
  obtain ⟨g₀, hg0⟩ := Option.isSome_iff_exists.mp h.top
  obtain ⟨r, hr⟩ := State.topJava?_eq_some.mp hg0
  have hr' : (({ U with heap := s₂.heap, slotsUsed := s₂.slotsUsed } : State).setVm s₂.vm).frames = .java g₀ :: r := hr
  rcases hq' with ⟨hqc, L, hfe, hL⟩ | ⟨q, rfl, E, ce, L, hx, hce, hcv, hcl, hW₂, hsm, hL⟩
  · obtain ⟨⟨v, rfl⟩, hW₂, e2, q2, q3, q4, q5, q6⟩ := id hfe
    have e3 : s₂ = ({ (U.calling g mk a).setFrames s₂.frames with heap := s₂.heap, slotsUsed := s₂.slotsUsed } : State).setVm s₂.vm := by
      have : s₂ = ({ s₂ with vm := (U.calling g mk a).vm } : State).setVm s₂.vm := rfl
      rw [e2] at this
      exact this
    obtain ⟨c₂, i₂, len₂, hc₂, hd₂, hf₂⟩ := hend
    have hW' : U.WarmedH s₂.vm := hW₂
    have hcc : c₂ = c := by
      have h1 : s₂.code? g.method = U.code? g.method := by
        rw [State.code?_eq, State.code?_eq, hW'.alike.method?]
      exact Option.some.inj (hc₂.symm.trans (h1.trans h.code))
    subst hcc
    have hlen : len₂ = len := by rw [hdg] at hd₂; cases hd₂; rfl
    subst hlen
    have hs₂ : s₂ = (({ U with heap := s₂.heap, slotsUsed := s₂.slotsUsed } : State).setVm s₂.vm).setTop { g with pc := g.pc + len₂, stack := v.toList ++ g.stack } := by
      refine e3.trans ?_
      rw [hf₂, State.calling_eq h.top, State.setFrames_setFrames, State.setTop_of_frames _ hr', hr]
      rfl
    have hsame : U.sameButNew ({ U with heap := s₂.heap, slotsUsed := s₂.slotsUsed } : State) L mc ms := by
      refine ⟨?_, q2, q3, q4, q5, q6⟩
      obtain ⟨t, ht, -⟩ := State.frames_cons hr
      show ({ U with heap := s₂.heap, slotsUsed := s₂.slotsUsed } : State) = { U.setFrames U.frames with heap := s₂.heap, slotsUsed := s₂.slotsUsed }
      rw [State.setFrames_self ht]
    subst hg
    refine Or.inl ⟨v, ⟨(({ U with heap := s₂.heap, slotsUsed := s₂.slotsUsed } : State).setVm s₂.vm), Ls ++ L, c0 + mc, s0 + ms⟩,
      ⟨X.admits, X.cas, X.clock, X.frames, X.room, X.hears, X.method, X.code, (X.here.setHeapUsed s₂.heap s₂.slotsUsed).setVm hW'.alike, X.tail, State.WarmedH.trans X.warmed hW', X.limits, X.bytes, X.same.trans (hsame.setVm s.vm)⟩,
      ⟨g, mk, s₂, L, rfl, rfl, hqc, rfl, hL, rfl, rfl⟩, ?_⟩
    show Steps p.tables e below _ ((({ U with heap := s₂.heap, slotsUsed := s₂.slotsUsed } : State).setVm s₂.vm).setTop { g with pc := g.pc + len₂, stack := v.toList ++ g.stack })
    rw [← hs₂]
    exact hsteps
  · obtain ⟨e2, q2, q3, q4, q5, q6⟩ := id hsm
    have e3 : s₂ = ({ (U.calling g mk a).setFrames s₂.frames with heap := s₂.heap, slotsUsed := s₂.slotsUsed } : State).setVm s₂.vm := by
      have : s₂ = ({ s₂ with vm := (U.calling g mk a).vm } : State).setVm s₂.vm := rfl
      rw [e2] at this
      exact this
    have hf₂ : s₂.frames = .throwing q :: .java g :: U.frames.tail := hend
    have hW' : U.WarmedH s₂.vm := hW₂
    have hs₂ : s₂ = ((({ U with heap := s₂.heap, slotsUsed := s₂.slotsUsed } : State).setVm s₂.vm).setTop g).pushFrame (.throwing q) := by
      refine e3.trans ?_
      rw [hf₂, State.calling_eq h.top, State.setFrames_setFrames, State.pushFrame, State.frames_setTop _ hr', State.setTop_of_frames _ hr', State.setFrames_setFrames, hr]
      rfl
    have hsame : U.sameButNew ({ U with heap := s₂.heap, slotsUsed := s₂.slotsUsed } : State) L mc ms := by
      refine ⟨?_, q2, q3, q4, q5, q6⟩
      obtain ⟨t, ht, -⟩ := State.frames_cons hr
      show ({ U with heap := s₂.heap, slotsUsed := s₂.slotsUsed } : State) = { U.setFrames U.frames with heap := s₂.heap, slotsUsed := s₂.slotsUsed }
      rw [State.setFrames_self ht]
    subst hg
    refine Or.inr ⟨q, ⟨(({ U with heap := s₂.heap, slotsUsed := s₂.slotsUsed } : State).setVm s₂.vm), Ls ++ L, c0 + mc, s0 + ms⟩,
      ⟨X.admits, X.cas, X.clock, X.frames, X.room, X.hears, X.method, X.code, (X.here.setHeapUsed s₂.heap s₂.slotsUsed).setVm hW'.alike, X.tail, State.WarmedH.trans X.warmed hW', X.limits, X.bytes, X.same.trans (hsame.setVm s.vm)⟩,
      ⟨g, mk, s₂, L, E, ce, rfl, rfl, hx, hce, hcv, hcl, rfl, hL, rfl, rfl⟩, ?_⟩
    show Steps p.tables e below _ (((({ U with heap := s₂.heap, slotsUsed := s₂.slotsUsed } : State).setVm s₂.vm).setTop g).pushFrame (.throwing q))
    rw [← hs₂]
    exact hsteps
end
variable {p : Program} {l : Launch} {e : Env} {R : Room} {s : State} {m : MethodId} {args : Array Value} {below : List Frame} {meth : Method} {c : Code} {T : State} {H : Heap} {locs : List Loc} {cells slots : Nat}
theorem vx_callVX (X : Stand p l e R s m args below meth c T locs cells slots) (hexec : p.tables.exec = Jvm.exec) {own C : String} {index : Nat} {y : MethodName} {bytes : ByteArray} {maxL : Nat} {ret : Option FieldType} {hh : List (Nat × Nat × Nat × Nat)}
    (hown : s.vm.findClass own = some m.cls) (hlink : (Cond.methodLink own index y).before args s = true) (hinst : (Cond.instanceMethod y).before args s = true) (hsel : (Cond.selects C y y).before args s = true)
    (hcode : (Cond.codeWith y bytes maxL ret hh).before args s = true) (hy : y.cls ≠ "java/lang/invoke/MethodHandle" ∧ y.cls ≠ "java/lang/invoke/VarHandle")
    {W9 : Nat} {Pre : Pt → Array Value → Prop} {Post : Pt → Array Value → Option Value → Pt → Prop} {PostX : Pt → Array Value → Addr → Pt → Prop} (hK : vx_Back l R p e below s args y 3 W9 Pre Post PostX)
    {b : Addr} {cellB : Cell} (hcell : T.heap[b]? = some cellB) (hobj : cellB.vm.isStatics = false) (hcls : s.vm.findClass C = some cellB.cls)
    {g : JFrame} (hg : g.method = m) (hsize : g.locals.size = c.maxLocals) {argsL rest : List Value} (hlen : ∀ sig, parseMethodDescriptor y.desc = some sig → argsL.length = sig.parameters.length)
    (hstack : g.stack = argsL.reverse ++ .ref b :: rest) (hW : 2 * g.monitorRoom + (rest.map fun v => v.category).sum ≤ W9) (hdg : decode c.code g.pc = .ok (.invokevirtual index, 3))
    (hpre : ∀ vm₁, s.WarmedH vm₁ → Pre ⟨T.setVm vm₁, locs, cells, slots⟩ (Value.ref b :: argsL).toArray) :
    (∃ (v : Option Value) (vm₁ : Vm) (B : Pt), s.WarmedH vm₁ ∧ Stand p l e R s m args below meth c B.U B.locs B.cells B.slots ∧ Post ⟨T.setVm vm₁, locs, cells, slots⟩ (Value.ref b :: argsL).toArray v B ∧
      ∀ target, Steps p.tables e below (B.U.setTop { g with pc := g.pc + 3, stack := v.toList ++ rest }) target → Steps p.tables e below (T.setTop g) target) ∨
    (∃ (q : Addr) (vm₁ : Vm) (B : Pt), s.WarmedH vm₁ ∧ Stand p l e R s m args below meth c B.U B.locs B.cells B.slots ∧ PostX ⟨T.setVm vm₁, locs, cells, slots⟩ (Value.ref b :: argsL).toArray q B ∧
      Steps p.tables e below (T.setTop g) ((B.U.setTop { g with stack := rest }).pushFrame (.throwing q))) := by
  obtain ⟨mk, methM, hnamed, hmethM, hstM, habM⟩ := Cond.instanceMethod_spec hinst
  obtain ⟨m8, methM', cM, hn8, hmethM', -, -, -, -, -, -, hsigM⟩ := Cond.codeWith_spec hcode
  cases Option.some.inj (hn8.symm.trans hnamed)
  cases hmethM.symm.trans hmethM'
  obtain ⟨c2, r2, m2, q1, q2, q3, q4, kP, hkP, hkPi⟩ := Cond.selects_spec hsel
  cases hcls.symm.trans q1
  cases (State.methodFound?_of_named hnamed hy).symm.trans q2
  cases hnamed.symm.trans q3
  have hselP : selectMethod e.platform s.vm cellB.cls mk = .method mk := by rw [Launch.admits_selectMethod X.admits]; exact q4
  obtain ⟨vm₁, X₁, hstep₁⟩ := X.invokevirtual hexec hown hlink hnamed hmethM hstM hkP hkPi hy (a := b) (cell := cellB) hcell
    (fun z h => by rw [h] at hobj; cases hobj) hselP hmethM habM hkP hkPi (g := g) hg (argsL := argsL) (rest := rest) (hlen _ hsigM) hstack hdg
  rcases hK m meth c ⟨T.setVm vm₁, locs, cells, slots⟩ { g with stack := rest } (.invokevirtual index) mk (Value.ref b :: argsL).toArray X₁ hg hsize hdg hW (X₁.named hnamed) (hpre vm₁ X₁.warmed) with ⟨v, B, X', hpost, hsteps⟩ | ⟨q, B, X', hpost, hsteps⟩
  · exact Or.inl ⟨v, vm₁, B, X₁.warmed, X', hpost, fun target h => hstep₁ _ fun acts => by rw [doInvoke_state]; exact hsteps.trans h⟩
  · exact Or.inr ⟨q, vm₁, B, X₁.warmed, X', hpost, hstep₁ _ fun acts => by rw [doInvoke_state]; exact hsteps⟩
theorem vx_callSX (X : Stand p l e R s m args below meth c T locs cells slots) (hexec : p.tables.exec = Jvm.exec) {own : String} {index : Nat} {y : MethodName} {bytes : ByteArray} {maxL : Nat} {ret : Option FieldType} {hh : List (Nat × Nat × Nat × Nat)}
    (hown : s.vm.findClass own = some m.cls) (hlink : (Cond.methodLink own index y).before args s = true) (hstat : (Cond.static y).before args s = true) (hinit : (Cond.initialized y.cls).before args s = true)
    (hcode : (Cond.codeWith y bytes maxL ret hh).before args s = true) (hy : y.cls ≠ "java/lang/invoke/MethodHandle" ∧ y.cls ≠ "java/lang/invoke/VarHandle")
    {W9 : Nat} {Pre : Pt → Array Value → Prop} {Post : Pt → Array Value → Option Value → Pt → Prop} {PostX : Pt → Array Value → Addr → Pt → Prop} (hK : vx_Back l R p e below s args y 3 W9 Pre Post PostX)
    {g : JFrame} (hg : g.method = m) (hsize : g.locals.size = c.maxLocals) {argsL rest : List Value} (hlen : ∀ sig, parseMethodDescriptor y.desc = some sig → argsL.length = sig.parameters.length)
    (hstack : g.stack = argsL.reverse ++ rest) (hW : 2 * g.monitorRoom + (rest.map fun v => v.category).sum ≤ W9) (hdg : decode c.code g.pc = .ok (.invokestatic index, 3))
    (hpre : ∀ vm₁, s.WarmedH vm₁ → Pre ⟨T.setVm vm₁, locs, cells, slots⟩ argsL.toArray) :
    (∃ (v : Option Value) (vm₁ : Vm) (B : Pt), s.WarmedH vm₁ ∧ Stand p l e R s m args below meth c B.U B.locs B.cells B.slots ∧ Post ⟨T.setVm vm₁, locs, cells, slots⟩ argsL.toArray v B ∧
      ∀ target, Steps p.tables e below (B.U.setTop { g with pc := g.pc + 3, stack := v.toList ++ rest }) target → Steps p.tables e below (T.setTop g) target) ∨
    (∃ (q : Addr) (vm₁ : Vm) (B : Pt), s.WarmedH vm₁ ∧ Stand p l e R s m args below meth c B.U B.locs B.cells B.slots ∧ PostX ⟨T.setVm vm₁, locs, cells, slots⟩ argsL.toArray q B ∧
      Steps p.tables e below (T.setTop g) ((B.U.setTop { g with stack := rest }).pushFrame (.throwing q))) := by
  obtain ⟨mk, methM, cM, hnamed, hmethM, -, -, -, -, -, -, hsigM⟩ := Cond.codeWith_spec hcode
  have hstatic : methM.isStatic = true := Cond.static_spec hnamed hmethM hstat
  obtain ⟨kP, hkP, -⟩ := className_of_methodNamed hnamed
  have hinitP : kP.init = .initialized := Cond.initialized_spec (findClass_of_methodNamed hnamed) hkP hinit
  obtain ⟨vm₁, X₁, hstep₁⟩ := X.invokestatic hexec hown hlink hnamed hmethM hstatic hkP hinitP hy (g := g) hg (argsL := argsL) (rest := rest) (hlen _ hsigM) hstack hdg
  rcases hK m meth c ⟨T.setVm vm₁, locs, cells, slots⟩ { g with stack := rest } (.invokestatic index) mk argsL.toArray X₁ hg hsize hdg hW (X₁.named hnamed) (hpre vm₁ X₁.warmed) with ⟨v, B, X', hpost, hsteps⟩ | ⟨q, B, X', hpost, hsteps⟩
  · exact Or.inl ⟨v, vm₁, B, X₁.warmed, X', hpost, fun target h => hstep₁ _ fun acts => by rw [doInvoke_state]; exact hsteps.trans h⟩
  · exact Or.inr ⟨q, vm₁, B, X₁.warmed, X', hpost, hstep₁ _ fun acts => by rw [doInvoke_state]; exact hsteps⟩
theorem vx_callVW (X : Stand p l e R s m args below meth c T locs cells slots) (hexec : p.tables.exec = Jvm.exec) {own C : String} {index : Nat} {y : MethodName} {bytes : ByteArray} {maxL : Nat} {ret : Option FieldType} {hh : List (Nat × Nat × Nat × Nat)}
    (hown : s.vm.findClass own = some m.cls) (hlink : (Cond.methodLink own index y).before args s = true) (hinst : (Cond.instanceMethod y).before args s = true) (hsel : (Cond.selects C y y).before args s = true)
    (hcode : (Cond.codeWith y bytes maxL ret hh).before args s = true) (hy : y.cls ≠ "java/lang/invoke/MethodHandle" ∧ y.cls ≠ "java/lang/invoke/VarHandle")
    {W9 : Nat} {Pre : Pt → Array Value → Prop} {Post : Pt → Array Value → Option Value → Pt → Prop} (hK : Back l R p e below s args y 3 W9 Pre Post)
    {b : Addr} {cellB : Cell} (hcell : T.heap[b]? = some cellB) (hobj : cellB.vm.isStatics = false) (hcls : s.vm.findClass C = some cellB.cls)
    {g : JFrame} (hg : g.method = m) (hsize : g.locals.size = c.maxLocals) {argsL rest : List Value} (hlen : ∀ sig, parseMethodDescriptor y.desc = some sig → argsL.length = sig.parameters.length)
    (hstack : g.stack = argsL.reverse ++ .ref b :: rest) (hW : 2 * g.monitorRoom + (rest.map fun v => v.category).sum ≤ W9) (hdg : decode c.code g.pc = .ok (.invokevirtual index, 3))
    (hpre : ∀ vm₁, s.WarmedH vm₁ → Pre ⟨T.setVm vm₁, locs, cells, slots⟩ (Value.ref b :: argsL).toArray) :
    ∃ (v : Option Value) (vm₁ : Vm) (B : Pt), s.WarmedH vm₁ ∧ Stand p l e R s m args below meth c B.U B.locs B.cells B.slots ∧ Post ⟨T.setVm vm₁, locs, cells, slots⟩ (Value.ref b :: argsL).toArray v B ∧
      ∀ target, Steps p.tables e below (B.U.setTop { g with pc := g.pc + 3, stack := v.toList ++ rest }) target → Steps p.tables e below (T.setTop g) target := by
  obtain ⟨mk, methM, hnamed, hmethM, hstM, habM⟩ := Cond.instanceMethod_spec hinst
  obtain ⟨m8, methM', cM, hn8, hmethM', -, -, -, -, -, -, hsigM⟩ := Cond.codeWith_spec hcode
  cases Option.some.inj (hn8.symm.trans hnamed)
  cases hmethM.symm.trans hmethM'
  obtain ⟨c2, r2, m2, q1, q2, q3, q4, kP, hkP, hkPi⟩ := Cond.selects_spec hsel
  cases hcls.symm.trans q1
  cases (State.methodFound?_of_named hnamed hy).symm.trans q2
  cases hnamed.symm.trans q3
  have hselP : selectMethod e.platform s.vm cellB.cls mk = .method mk := by rw [Launch.admits_selectMethod X.admits]; exact q4
  obtain ⟨vm₁, X₁, hstep₁⟩ := X.invokevirtual hexec hown hlink hnamed hmethM hstM hkP hkPi hy (a := b) (cell := cellB) hcell
    (fun z h => by rw [h] at hobj; cases hobj) hselP hmethM habM hkP hkPi (g := g) hg (argsL := argsL) (rest := rest) (hlen _ hsigM) hstack hdg
  obtain ⟨v, B, X', hpost, hsteps⟩ := hK m meth c ⟨T.setVm vm₁, locs, cells, slots⟩ { g with stack := rest } (.invokevirtual index) mk (Value.ref b :: argsL).toArray X₁ hg hsize hdg hW (X₁.named hnamed) (hpre vm₁ X₁.warmed)
  exact ⟨v, vm₁, B, X₁.warmed, X', hpost, fun target h => hstep₁ _ fun acts => by rw [doInvoke_state]; exact hsteps.trans h⟩
abbrev vx_CVW (R : Room) (s : State) (args : Array Value) (own C : String) (index : Nat) (y : MethodName) (bytes : ByteArray) (maxL : Nat) (ret : Option FieldType) (hh : List (Nat × Nat × Nat × Nat)) (ws : List Cond) (rm : Room) (mc ms n : Nat) : Prop :=
  (rm.cells = mc ∧ rm.slots = ms ∧ rm.frames + 1 ≤ R.frames ∧ 8 + (maxL + 11) + rm.locals ≤ R.locals ∧ (∀ w ∈ ws, ∀ (a' : Array Value) (U : State), s.WarmedH U.vm → w.before a' U = true) ∧ Cond.codeWith y bytes maxL ret hh ∈ ws) ∧
  (Cond.codeWith y bytes maxL ret hh).before args s = true ∧ (Cond.initialized y.cls).before args s = true ∧ (y.cls ≠ "java/lang/invoke/MethodHandle" ∧ y.cls ≠ "java/lang/invoke/VarHandle") ∧
  (∀ sig, parseMethodDescriptor y.desc = some sig → n = sig.parameters.length) ∧ (Cond.methodLink own index y).before args s = true ∧ (Cond.instanceMethod y).before args s = true ∧ (Cond.selects C y y).before args s = true
theorem vx_cwVW {own C : String} {index maxL mc ms : Nat} {y : MethodName} {bytes : ByteArray} {ret : Option FieldType} {hh : List (Nat × Nat × Nat × Nat)} {Ts ws ws' : List Cond} {rm : Room} (n : Nat) (ht : ∀ w ∈ Ts, w.before args s = true) (hT : GoodIn Ts (wsV own index C y ws)) (hw : ws = Cond.codeWith y bytes maxL ret hh :: ws') (hrc : rm.cells = mc) (hrs : rm.slots = ms)
    (hd : y.cls = C ∧ y.cls ≠ "java/lang/invoke/MethodHandle" ∧ y.cls ≠ "java/lang/invoke/VarHandle" ∧ (parseMethodDescriptor y.desc).map (fun d => d.parameters.length) = some n) (hR : rm.frames + 1 ≤ R.frames ∧ 8 + (maxL + 11) + rm.locals ≤ R.locals) :
    vx_CVW R s args own C index y bytes maxL ret hh ws rm mc ms n := by
  obtain ⟨hC, hd⟩ := hd
  subst hC
  have ok : ∀ w ∈ wsV own index y.cls y ws, w.before args s = true := fun w h => ht w (hT w h).1
  have hG : GoodIn Ts ws := fun w h => hT w (by unfold wsV; exact List.mem_append_right _ h)
  have hc : Cond.codeWith y bytes maxL ret hh ∈ ws := by rw [hw]; exact List.mem_cons_self
  refine ⟨⟨hrc, hrs, hR.1, hR.2, pay_in ht hG, hc⟩, ht _ (hG _ hc).1, ok _ (by simp [wsV]), ⟨hd.1, hd.2.1⟩, fun sig h => ?_, ok _ (by simp [wsV]), ok _ (by simp [wsV]), ok _ (by simp [wsV])⟩
  have h2 := hd.2.2
  rw [h] at h2
  exact (Option.some.inj h2).symm
theorem vx_runVW {y : MethodName} {bytes cc : ByteArray} {maxL nL mc ms n index : Nat} {ret : Option FieldType} {hh : List (Nat × Nat × Nat × Nat)} {ws : List Cond} {rm : Room} {Pc : Array Value → State → Prop} {Qc : Array Value → State → Outcome → State → Prop} {free : Addr → Prop} {Ts : List Cond} {own C : String} {b : Addr} {As rest : List Value} {g : JFrame}
    (S : CallFix p m c cc nL s args Ts own) (hM : Met l y ws rm Pc Qc mc ms free) (cw : vx_CVW R s args own C index y bytes maxL ret hh ws rm mc ms n) (hp : PreV s H C b Pc As)
    (hg : g.method = m) (hn : As.length = n) (hsize : g.locals.size = nL) (hstack : g.stack = As.reverse ++ .ref b :: rest) (hW : 2 * g.monitorRoom + (rest.map fun v => v.category).sum ≤ 8) (hdg : decode cc g.pc = .ok (.invokevirtual index, 3)) (hf : cells + mc ≤ R.cells ∧ slots + ms ≤ R.slots) :
    va_Run p l e R s m args below meth c H locs cells slots mc ms g rest (Qc (Value.ref b :: As).toArray) free := by
  obtain ⟨⟨hrc, hrs, hfr, hlo, hws, hcw⟩, hcode, hini, hy, hlen, hl, hin, hse⟩ := cw
  have hK : Back l R p e below s args y 3 8 (PreOf R mc ms Pc) (PostOf Qc mc ms free) := va_backW (hh := hh) (bytes := bytes) (maxL := maxL) (ret := ret) hM hp.1 hrc hrs hfr hlo hws hcw (fun a' U hW => word_at hW (Or.inl (by first | rfl | simp [Cond.onTables, Cond.keeps, Cond.steady])) hini)
  obtain ⟨hx, hb, hml, ho, -⟩ := S
  obtain ⟨-, ⟨cellB, hcB, hoB, hclB⟩, hPc⟩ := hp
  intro T hT X
  obtain ⟨v, vm₁, ⟨U', l2, c2, s2⟩, hW₁, X', ⟨g', mk, t, L, e1, e2, hq, h1, hL, h2, h3⟩, st⟩ := vx_callVW X hx (C := C) (hh := hh) (bytes := bytes) (maxL := maxL) (ret := ret) ho hl hin hse hcode hy hK (by rw [hT]; exact hcB) hoB hclB hg (hsize.trans hml.symm) (argsL := As) (rest := rest) (fun sig h => hn.trans (hlen sig h)) hstack hW (by rw [hb]; exact hdg)
    (fun vm₁ hW₁ => ⟨hf.1, hf.2, hPc (T.setVm vm₁) hT hW₁⟩)
  dsimp only [Pt.U, Pt.locs, Pt.cells, Pt.slots] at X' e1 e2 h1 h2 h3 st
  subst h1; subst h2; subst h3
  exact ⟨v, (T.setVm vm₁).calling g' mk (Value.ref b :: As).toArray, t, U', L, hT, X', hL, e1, e2, hq, st⟩
section
variable {y : MethodName} {bytes cc : ByteArray} {maxL nL mc ms n index : Nat} {ret : Option FieldType} {ws : List Cond} {rm : Room} {Pc : Array Value → State → Prop} {Qc : Array Value → State → Outcome → State → Prop} {XC : String → State → State → Prop} {free : Addr → Prop} {Ts : List Cond} {own C : String} {b : Addr} {As rest : List Value} {g : JFrame}
theorem vx_runVX {hh : List (Nat × Nat × Nat × Nat)} (S : CallFix p m c cc nL s args Ts own) (hM : vx_Met l y ws rm Pc Qc XC mc ms free) (cw : vx_CVW R s args own C index y bytes maxL ret hh ws rm mc ms n) (hp : PreV s H C b Pc As)
    (hg : g.method = m) (hn : As.length = n) (hsize : g.locals.size = nL) (hstack : g.stack = As.reverse ++ .ref b :: rest) (hW : 2 * g.monitorRoom + (rest.map fun v => v.category).sum ≤ 8) (hdg : decode cc g.pc = .ok (.invokevirtual index, 3)) (hf : cells + mc ≤ R.cells ∧ slots + ms ≤ R.slots) :
    vx_Run p l e R s m args below meth c H locs cells slots mc ms g rest (Qc (Value.ref b :: As).toArray) XC free := by
  obtain ⟨⟨hrc, hrs, hfr, hlo, hws, hcw⟩, hcode, hini, hy, hlen, hl, hin, hse⟩ := cw
  have hK : vx_Back l R p e below s args y 3 8 (PreOf R mc ms Pc) (PostOf Qc mc ms free) (vx_Post XC mc ms free) := vx_backW (hh := hh) (bytes := bytes) (maxL := maxL) (ret := ret) hM hp.1 hrc hrs hfr hlo hws hcw (fun a' U hW => word_at hW (Or.inl (by first | rfl | simp [Cond.onTables, Cond.keeps, Cond.steady])) hini)
  obtain ⟨hx, hb, hml, ho, -⟩ := S
  obtain ⟨-, ⟨cellB, hcB, hoB, hclB⟩, hPc⟩ := hp
  intro T hT X
  rcases vx_callVX X hx (C := C) (hh := hh) (bytes := bytes) (maxL := maxL) (ret := ret) ho hl hin hse hcode hy hK (by rw [hT]; exact hcB) hoB hclB hg (hsize.trans hml.symm) (argsL := As) (rest := rest) (fun sig h => hn.trans (hlen sig h)) hstack hW (by rw [hb]; exact hdg)
    (fun vm₁ hW₁ => ⟨hf.1, hf.2, hPc (T.setVm vm₁) hT hW₁⟩) with ⟨v, vm₁, ⟨U', l2, c2, s2⟩, hW₁, X', ⟨g', mk, t, L, e1, e2, hq, h1, hL, h2, h3⟩, st⟩ | ⟨q, vm₁, ⟨U', l2, c2, s2⟩, hW₁, X', ⟨g', mk, t, L, E, ce, e1, e2, hq, hce, hcv, hcl, h1, hL, h2, h3⟩, st⟩
  · dsimp only [Pt.U, Pt.locs, Pt.cells, Pt.slots] at X' e1 e2 h1 h2 h3 st
    subst h1; subst h2; subst h3
    exact Or.inl ⟨v, (T.setVm vm₁).calling g' mk (Value.ref b :: As).toArray, t, U', L, hT, X', hL, e1, e2, hq, st⟩
  · dsimp only [Pt.U, Pt.locs, Pt.cells, Pt.slots] at X' e1 e2 h1 h2 h3 st hcl
    subst h1; subst h2; subst h3
    exact Or.inr ⟨q, (T.setVm vm₁).calling g' mk (Value.ref b :: As).toArray, t, U', L, E, ce, hT, X', hL, e1, e2, hq, hce, hcv, vx_cls hW₁ hcl, st⟩
theorem vx_runSX {hh : List (Nat × Nat × Nat × Nat)} (S : CallFix p m c cc nL s args Ts own) (hM : vx_Met l y ws rm Pc Qc XC mc ms free) (cw : vx_CSW R s args own index y bytes maxL ret hh ws rm mc ms n) (hp : PreS s H Pc As)
    (hg : g.method = m) (hn : As.length = n) (hsize : g.locals.size = nL) (hstack : g.stack = As.reverse ++ rest) (hW : 2 * g.monitorRoom + (rest.map fun v => v.category).sum ≤ 8) (hdg : decode cc g.pc = .ok (.invokestatic index, 3)) (hf : cells + mc ≤ R.cells ∧ slots + ms ≤ R.slots) :
    vx_Run p l e R s m args below meth c H locs cells slots mc ms g rest (Qc As.toArray) XC free := by
  obtain ⟨⟨hrc, hrs, hfr, hlo, hws, hcw⟩, hcode, hini, hy, hlen, hl, hstt⟩ := cw
  have hK : vx_Back l R p e below s args y 3 8 (PreOf R mc ms Pc) (PostOf Qc mc ms free) (vx_Post XC mc ms free) := vx_backW (hh := hh) (bytes := bytes) (maxL := maxL) (ret := ret) hM hp.1 hrc hrs hfr hlo hws hcw (fun a' U hW => word_at hW (Or.inl (by first | rfl | simp [Cond.onTables, Cond.keeps, Cond.steady])) hini)
  obtain ⟨hx, hb, hml, ho, -⟩ := S
  intro T hT X
  rcases vx_callSX X hx (hh := hh) (bytes := bytes) (maxL := maxL) (ret := ret) ho hl hstt hini hcode hy hK hg (hsize.trans hml.symm) (argsL := As) (rest := rest) (fun sig h => hn.trans (hlen sig h)) hstack hW (by rw [hb]; exact hdg)
    (fun vm₁ hW₁ => ⟨hf.1, hf.2, hp.2 (T.setVm vm₁) hT hW₁⟩) with ⟨v, vm₁, ⟨U', l2, c2, s2⟩, hW₁, X', ⟨g', mk, t, L, e1, e2, hq, h1, hL, h2, h3⟩, st⟩ | ⟨q, vm₁, ⟨U', l2, c2, s2⟩, hW₁, X', ⟨g', mk, t, L, E, ce, e1, e2, hq, hce, hcv, hcl, h1, hL, h2, h3⟩, st⟩
  · dsimp only [Pt.U, Pt.locs, Pt.cells, Pt.slots] at X' e1 e2 h1 h2 h3 st
    subst h1; subst h2; subst h3
    exact Or.inl ⟨v, (T.setVm vm₁).calling g' mk As.toArray, t, U', L, hT, X', hL, e1, e2, hq, st⟩
  · dsimp only [Pt.U, Pt.locs, Pt.cells, Pt.slots] at X' e1 e2 h1 h2 h3 st hcl
    subst h1; subst h2; subst h3
    exact Or.inr ⟨q, (T.setVm vm₁).calling g' mk As.toArray, t, U', L, E, ce, hT, X', hL, e1, e2, hq, hce, hcv, vx_cls hW₁ hcl, st⟩
end
end VXH
theorem vx_ofWH {l : Launch} {y : MethodName} {ws ws' : List Cond} {rm : Room} {Pc : Array Value → State → Prop} {Qc : Array Value → State → Outcome → State → Prop} {XC : String → State → State → Prop} {mc ms : Nat} {free : Addr → Prop} {cc : ByteArray} {maxL : Nat} {ret : Option FieldType} {hh : List (Nat × Nat × Nat × Nat)}
    (hy : plainName y.cls = true) (hw : ws = Cond.codeWith y cc maxL ret hh :: ws')
    (body : ∀ p e s m args below meth c s₁, BodyLoose p l y (headSpec ws rm) cc maxL ret e s m args below meth c s₁ → c.maxLocals = maxL → Pc args s →
      W p l e (headSpec ws rm).room s m args below meth c s.heap [] 0 0 (vx_MQ below Qc XC args s mc ms free) (entryFrame m args maxL)) : vx_Met l y ws rm Pc Qc XC mc ms free := by
  refine MetFree.of_bodyS (code := cc) (maxLocals := maxL) (ret := ret) hy ?_ ?_
  · intro args s m h hn
    obtain ⟨m9, meth, c, hn9, h1, h2, h3, h4, -, h5, h6, -⟩ := Cond.codeWith_spec (atoms_spec (ws := ws) h _ (by rw [hw]; exact List.mem_cons_self))
    cases hn.symm.trans hn9
    exact ⟨meth, c, h1, h2, h3, h4, h5, h6⟩
  · intro p e s m args below meth c s₁ B hml hP _
    have hh0 : s₁.heap = s.heap := by rw [B.state]; rfl
    obtain ⟨t, a1, o, b1, b2, b3⟩ := body p e s m args below meth c s₁ B hml hP s₁ hh0 (Stand.of_body B)
    exact ⟨t, o, a1, b1, b2, b3⟩
/-! ===== END ===== -/

/-! ===== my own: an exception that a call has thrown is caught by this method's table; entries that name other classes are passed (their classes linked on the way) ===== -/
section CatchRows
variable {e : Env} {f : JFrame} {q : Addr}
/-- one row of the table that covers the pc: its class is linked; by whether the object is of it the search ends or goes on -/
theorem xc_row {Q : Handler → Pre} {E : CtlPost} {d : Bool} {acts : List Action} {S : State} {x : ExceptionTableEntry} {t : List ExceptionTableEntry} {k : ClassId} {ce : Cell} (hx : covers x f.pc = true) (h0 : x.catchType ≠ 0)
    (hl : S.vm.ClassLinks e.platform f.method.cls x.catchType k) (hcell : S.heap[q]? = some ce) (hobj : ∀ z, ce.vm ≠ .statics z) (h1 : ∃ z, S.vm.classes[ce.cls]? = some z) (h2 : ∃ z, S.vm.classes[k]? = some z) :
    wp (findHandler.go f q (x :: t)) Q E e d acts S ↔ if S.vm.assignable ce.cls k = true then Q (.found x.handlerPc) d acts (S.setVm (S.vm.noted f.method.cls x.catchType (.cls k))) else wp (findHandler.go f q t) Q E e d acts (S.setVm (S.vm.noted f.method.cls x.catchType (.cls k))) := by
  have hx2 := hx
  simp only [covers] at hx2
  have hal : S.vm.Alike (S.vm.noted f.method.cls x.catchType (.cls k)) := (Vm.Alike.refl S.vm).noted _ _ _
  obtain ⟨g1, g2⟩ := (resolveClass_links e.toSetting hl).op (op := VmOp.resolveClass f.method.cls x.catchType) rfl
  obtain ⟨z1, hz1⟩ := h1
  obtain ⟨z2, hz2⟩ := h2
  obtain ⟨y1, hy1, -⟩ := hal.2.2 _ _ hz1
  obtain ⟨y2, hy2, -⟩ := hal.2.2 _ _ hz2
  have has : (S.vm.noted f.method.cls x.catchType (.cls k)).assignable ce.cls k = S.vm.assignable ce.cls k := hal.assignable _ _
  cases hb : S.vm.assignable ce.cls k <;> rw [hb] at has <;> simp [findHandler.go, hx2, h0, g1, g2, hcell, hobj, hy1, hy2, has, VmOp.dirties, VmOp.acts]
/-- the search through rows that are passed, up to the row that catches -/
theorem xc_search {s0 : State} {ce : Cell} (hobj : ∀ z, ce.vm ≠ .statics z) (h1 : ∃ z, s0.vm.classes[ce.cls]? = some z) (x : ExceptionTableEntry) (suf : List ExceptionTableEntry) (hx : covers x f.pc = true) (h0 : x.catchType ≠ 0)
    {k : ClassId} (hl : s0.vm.ClassLinks e.platform f.method.cls x.catchType k) (hfit : s0.vm.assignable ce.cls k = true) (pre : List ExceptionTableEntry) :
    ∀ S : State, s0.WarmedH S.vm → S.heap[q]? = some ce → (∀ y ∈ pre, covers y f.pc = false ∨ (y.catchType ≠ 0 ∧ ∃ k', s0.vm.ClassLinks e.platform f.method.cls y.catchType k' ∧ s0.vm.assignable ce.cls k' = false)) →
      ∃ w : Vm, s0.WarmedH w ∧ ∀ (Q : Handler → Pre) (E : CtlPost) (d : Bool) (acts : List Action), wp (findHandler.go f q (pre ++ x :: suf)) Q E e d acts S ↔ Q (.found x.handlerPc) d acts (S.setVm w) := by
  obtain ⟨z1, hz1⟩ := h1
  induction pre with
  | nil =>
    intro S hW hcell _
    obtain ⟨y1, hy1, -⟩ := hW.alike.2.2 _ _ hz1
    obtain ⟨dk, _, _, kt, hd, _, _, _, _, hkt, _, hopen⟩ := hl.here
    obtain ⟨y2, hy2, -⟩ := hW.alike.2.2 _ _ hkt
    refine ⟨_, hW.noted hd hopen (State.rightAt_cls hl), fun Q E d acts => ?_⟩
    rw [List.nil_append, xc_row hx h0 (hW.classLinks hl) hcell hobj ⟨y1, hy1⟩ ⟨y2, hy2⟩, if_pos (by rw [hW.alike.assignable]; exact hfit)]
  | cons y ys ih =>
    intro S hW hcell hp
    have hr := fun z hz => hp z (List.mem_cons_of_mem _ hz)
    cases hc : covers y f.pc with
    | false =>
      obtain ⟨w, hw, hq⟩ := ih S hW hcell hr
      exact ⟨w, hw, fun Q E d acts => by rw [List.cons_append, W.findHandler_go_skip hc]; exact hq Q E d acts⟩
    | true =>
      rcases hp y List.mem_cons_self with h | ⟨hy0, k', hl', hno⟩
      · rw [hc] at h; cases h
      · obtain ⟨y1, hy1, -⟩ := hW.alike.2.2 _ _ hz1
        obtain ⟨dk, _, _, kt, hd, _, _, _, _, hkt, _, hopen⟩ := hl'.here
        obtain ⟨y2, hy2, -⟩ := hW.alike.2.2 _ _ hkt
        obtain ⟨w, hw, hq⟩ := ih (S.setVm (S.vm.noted f.method.cls y.catchType (.cls k'))) (hW.noted hd hopen (State.rightAt_cls hl')) hcell hr
        refine ⟨w, hw, fun Q E d acts => ?_⟩
        rw [List.cons_append, xc_row hc hy0 (hW.classLinks hl') hcell hobj ⟨y1, hy1⟩ ⟨y2, hy2⟩, if_neg (by rw [hW.alike.assignable, hno]; decide)]
        exact hq Q E d acts
theorem xc_step {S : State} {r : List Frame} {pc : Nat} {w : Vm} (h : ∀ (Q : Handler → Pre) (E : CtlPost) (d : Bool) (acts : List Action), wp (findHandler f q) Q E e d acts S ↔ Q (.found pc) d acts (S.setVm w)) :
    (stepThrowing e S q (.java f :: r)).Is ((S.setVm w).setFrames (.java { f with pc := pc, stack := [.ref q] } :: r)) [] := by
  simp only [stepThrowing, searchFrame, vmDo]
  generalize hr : Sem.go _ e false [] S = res
  obtain ⟨as, rfl, ha⟩ := Sem.eq_ok_of hr (a := Handler.found pc) (s' := S.setVm w) (acts' := []) (by simp [h _ _ _ _])
  exact ⟨rfl, ha⟩
end CatchRows
section CatchW
variable {p : Program} {l : Launch} {e : Env} {R : Room} {s : State} {m : MethodId} {args : Array Value} {below : List Frame} {meth : Method} {c : Code} {H : Heap} {locs : List Loc} {cells slots : Nat} {Q : State → Prop} {ls : Array Slot} {rest : List Value} {pc : Nat}
/-- a callee's throw is caught here -/
theorem xc_catch {own name : String} {E : String} {ce : Cell} {q : Addr} (hown : s.vm.findClass own = some m.cls) (pre : List ExceptionTableEntry) (x : ExceptionTableEntry) (suf : List ExceptionTableEntry) (hsplit : c.exceptionTable.toList = pre ++ x :: suf)
    (hpass : ∀ z ∈ pre, covers z pc = false ∨ (z.catchType ≠ 0 ∧ ∃ nm : String, (Cond.classLink own z.catchType nm).before args s = true ∧ va_Nc E nm s)) (hx : covers x pc = true) (h0 : x.catchType ≠ 0)
    (hlink : (Cond.classLink own x.catchType name).before args s = true) (hcast : (Cond.castable E name).before args s = true) (hcell : H[q]? = some ce) (hv : ce.vm = .none) (hcl : s.vm.findClass E = some ce.cls)
    (kk : W p l e R s m args below meth c H locs cells slots Q (F0 m x.handlerPc ls [.ref q])) : vx_W p l e R s m args below meth c H locs cells slots Q (F0 m pc ls rest) q := by
  intro T hT X
  have hpl : e.platform.magicAccessors = ({} : Platform).magicAccessors := by rw [X.admits.platform]
  obtain ⟨k1, k2, e1, e2, hasg⟩ := Cond.castable_spec hcast
  cases Option.some.inj (e1.symm.trans hcl)
  obtain ⟨k3, e3, hl3⟩ := Cond.classLink_spec hown hlink e.platform hpl
  cases Option.some.inj (e2.symm.trans e3)
  obtain ⟨z9, hz9, -⟩ := Vm.findClass_spec hcl
  have hob : ∀ z, ce.vm ≠ .statics z := fun z h => by rw [hv] at h; cases h
  have hTq : T.heap[q]? = some ce := by rw [hT]; exact hcell
  obtain ⟨w, hw, hq⟩ := xc_search (e := e) (f := F0 m pc ls rest) (q := q) (s0 := s) hob ⟨z9, hz9⟩ x suf hx h0 hl3 hasg pre ((T.setTop (F0 m pc ls rest)).pushFrame (.throwing q)) X.warmed hTq (fun y hy => by
    rcases hpass y hy with h | ⟨hy0, nm, hn1, hn2⟩
    · exact Or.inl h
    · obtain ⟨k6, e6, hl6⟩ := Cond.classLink_spec hown hn1 e.platform hpl
      obtain ⟨a8, b8, g1, g2, g3⟩ := hn2
      cases Option.some.inj (g1.symm.trans hcl)
      cases Option.some.inj (g2.symm.trans e6)
      exact Or.inr ⟨hy0, _, hl6, g3⟩)
  obtain ⟨t, a1, b1⟩ := kk (T.setVm w) hT (X.noted hw)
  refine ⟨t, ?_, b1⟩
  have hA : At T (F0 m pc ls rest).method c below := X.here
  obtain ⟨hgo, hin⟩ := hA.throwing q
  refine Steps.head hgo hin ?_
  rw [stepThread_throwing (frames_entered hA.top _), (xc_step (S := (T.setTop (F0 m pc ls rest)).pushFrame (.throwing q)) (w := w) (pc := x.handlerPc) (fun Q E d acts => by
    rw [W.findHandler_eq (meth := meth) (code := c) X.method' X.code, hsplit]; exact hq Q E d acts)).1]
  obtain ⟨g1, hg1⟩ := Option.isSome_iff_exists.mp hA.top
  obtain ⟨r, hr⟩ := State.topJava?_eq_some.mp hg1
  have hr' : (T.setVm w).frames = .java g1 :: r := hr
  rw [State.setTop_of_frames _ hr'] at a1
  have hz : ∀ (F G : List Frame) (u : State), ((u.setFrames F).setVm w).setFrames G = (u.setVm w).setFrames G := fun F G u => by
    rw [show (u.setFrames F).setVm w = (u.setVm w).setFrames F from rfl, State.setFrames_setFrames]
  rw [hr, List.tail_cons, State.pushFrame, hz, State.setTop_of_frames _ hr, hz]
  exact a1
end CatchW
end
section
def RX0 : String := "RingPipeline$Consumer"
def TX0 : u_T := fun k => match k with
  | 0 => ("RingPipeline$Consumer", "handler", "LRingPipeline$Handler;", true)
  | 1 => ("RingPipeline$Consumer", "on", "I", true)
  | 2 => ("RingPipeline$Consumer", "pool", "LRingPipeline$Pool;", true)
  | 3 => ("RingPipeline$Consumer", "policy", "I", true)
  | 4 => ("RingPipeline$Consumer", "place", "J", false)
  | 5 => ("RingPipeline$Consumer", "event", "J", false)
  | 6 => ("RingPipeline$Consumer", "handled", "I", false)
  | 7 => ("RingPipeline$Consumer", "ignored", "I", false)
  | 8 => ("RingPipeline$Consumer", "rewound", "I", false)
  | 9 => ("RingPipeline$Consumer", "halted", "Z", false)
  | 10 => ("RingPipeline$Consumer", "threwAt", "J", false)
  | 11 => ("RingPipeline$Consumer", "threwThere", "I", false)
  | 12 => ("RingPipeline$Consumer", "placeAtStart", "J", false)
  | 13 => ("RingPipeline$Consumer", "handledAtStart", "I", false)
  | _ => ("RingPipeline$Consumer", "ignoredAtStart", "I", false)
def tyX0 : Nat → FieldType := fun k => match k with
  | 0 => .object "RingPipeline$Handler"
  | 1 => .int
  | 2 => .object "RingPipeline$Pool"
  | 3 => .int
  | 4 => .long
  | 5 => .long
  | 6 => .int
  | 7 => .int
  | 8 => .int
  | 9 => .boolean
  | 10 => .long
  | 11 => .int
  | 12 => .long
  | 13 => .int
  | _ => .int
abbrev wsX00 : List Cond := u_ws RX0 TX0 15
theorem nmX0 : ∀ a, a < 15 → ∀ b, b < 15 → a ≠ b → (TX0 a).2.1 ≠ (TX0 b).2.1 := by decide +kernel
theorem tyX0_ok : ∀ k, k < 15 → parseFieldDescriptor (TX0 k).2.2.1 = some (tyX0 k) := by decide +kernel
abbrev cX0_init : ByteArray := prog_2_method_1_code
def yX0_init : MethodName := ⟨RX0, "<init>", "(LRingPipeline$Handler;IILRingPipeline$Pool;)V"⟩
abbrev cX0_reached : ByteArray := prog_2_method_2_code
def yX0_reached : MethodName := ⟨RX0, "reached", "()J"⟩
abbrev cX0_advance : ByteArray := prog_2_method_3_code
def yX0_advance : MethodName := ⟨RX0, "advance", "(LRingPipeline$Ring;JI)I"⟩
abbrev cX0_goThrough : ByteArray := prog_2_method_4_code
def yX0_goThrough : MethodName := ⟨RX0, "goThrough", "(LRingPipeline$Ring;JI)I"⟩
abbrev cX0_share : ByteArray := prog_2_method_5_code
def yX0_share : MethodName := ⟨RX0, "share", "(LRingPipeline$Pool;LRingPipeline$Ring;JI)I"⟩
abbrev cX0_passes : ByteArray := prog_2_method_6_code
def yX0_passes : MethodName := ⟨RX0, "passes", "(LRingPipeline$Ring;J)Z"⟩
abbrev cX0_throwsAgain : ByteArray := prog_2_method_7_code
def yX0_throwsAgain : MethodName := ⟨RX0, "throwsAgain", "(J)I"⟩
abbrev cX0_startBatch : ByteArray := prog_2_method_8_code
def yX0_startBatch : MethodName := ⟨RX0, "startBatch", "()V"⟩
abbrev cX0_returnToStart : ByteArray := prog_2_method_9_code
def yX0_returnToStart : MethodName := ⟨RX0, "returnToStart", "()V"⟩
def RX1 : String := "RingPipeline$Handler"
def TX1 : u_T := fun k => match k with
  | _ => ("", "", "", false)
def tyX1 : Nat → FieldType := fun k => match k with
  | _ => .int
abbrev wsX10 : List Cond := u_ws RX1 TX1 0
theorem nmX1 : ∀ a, a < 0 → ∀ b, b < 0 → a ≠ b → (TX1 a).2.1 ≠ (TX1 b).2.1 := by decide +kernel
theorem tyX1_ok : ∀ k, k < 0 → parseFieldDescriptor (TX1 k).2.2.1 = some (tyX1 k) := by decide +kernel
abbrev cX1_init : ByteArray := prog_3_method_1_code
def yX1_init : MethodName := ⟨RX1, "<init>", "()V"⟩
abbrev cX1_amount : ByteArray := prog_3_method_5_code
def yX1_amount : MethodName := ⟨RX1, "amount", "()J"⟩
def RX2 : String := "RingPipeline$Journal"
def TX2 : u_T := fun k => match k with
  | 0 => ("RingPipeline$Journal", "bytes", "[B", true)
  | 1 => ("RingPipeline$Journal", "length", "I", false)
  | _ => ("RingPipeline$Journal", "keptLength", "I", false)
def tyX2 : Nat → FieldType := fun k => match k with
  | 0 => .array .byte
  | 1 => .int
  | _ => .int
abbrev wsX20 : List Cond := u_ws RX2 TX2 3
theorem nmX2 : ∀ a, a < 3 → ∀ b, b < 3 → a ≠ b → (TX2 a).2.1 ≠ (TX2 b).2.1 := by decide +kernel
theorem tyX2_ok : ∀ k, k < 3 → parseFieldDescriptor (TX2 k).2.2.1 = some (tyX2 k) := by decide +kernel
abbrev cX2_init : ByteArray := prog_4_method_1_code
def yX2_init : MethodName := ⟨RX2, "<init>", "()V"⟩
abbrev cX2_handles : ByteArray := prog_4_method_2_code
def yX2_handles : MethodName := ⟨RX2, "handles", "(JJI)Z"⟩
abbrev cX2_keep : ByteArray := prog_4_method_3_code
def yX2_keep : MethodName := ⟨RX2, "keep", "()V"⟩
abbrev cX2_restore : ByteArray := prog_4_method_4_code
def yX2_restore : MethodName := ⟨RX2, "restore", "()V"⟩
abbrev cX2_amount : ByteArray := prog_4_method_5_code
def yX2_amount : MethodName := ⟨RX2, "amount", "()J"⟩
abbrev cX2_byteAt : ByteArray := prog_4_method_6_code
def yX2_byteAt : MethodName := ⟨RX2, "byteAt", "(I)I"⟩
abbrev cX2_soundRecords : ByteArray := prog_4_method_7_code
def yX2_soundRecords : MethodName := ⟨RX2, "soundRecords", "()I"⟩
abbrev cX2_sumOfFirst : ByteArray := prog_4_method_8_code
def yX2_sumOfFirst : MethodName := ⟨RX2, "sumOfFirst", "(I)J"⟩
abbrev cX2_append : ByteArray := prog_4_method_9_code
def yX2_append : MethodName := ⟨RX2, "append", "(J)V"⟩
abbrev cX2_isSoundAt : ByteArray := prog_4_method_10_code
def yX2_isSoundAt : MethodName := ⟨RX2, "isSoundAt", "(I)Z"⟩
abbrev cX2_sumOfRecordAt : ByteArray := prog_4_method_11_code
def yX2_sumOfRecordAt : MethodName := ⟨RX2, "sumOfRecordAt", "(I)I"⟩
abbrev cX2_valueAt : ByteArray := prog_4_method_12_code
def yX2_valueAt : MethodName := ⟨RX2, "valueAt", "(I)J"⟩
def RX3 : String := "RingPipeline$Mean"
def TX3 : u_T := fun k => match k with
  | 0 => ("RingPipeline$Mean", "mean", "D", false)
  | 1 => ("RingPipeline$Mean", "events", "I", false)
  | 2 => ("RingPipeline$Mean", "keptMean", "D", false)
  | _ => ("RingPipeline$Mean", "keptEvents", "I", false)
def tyX3 : Nat → FieldType := fun k => match k with
  | 0 => .double
  | 1 => .int
  | 2 => .double
  | _ => .int
abbrev wsX30 : List Cond := u_ws RX3 TX3 4
theorem nmX3 : ∀ a, a < 4 → ∀ b, b < 4 → a ≠ b → (TX3 a).2.1 ≠ (TX3 b).2.1 := by decide +kernel
theorem tyX3_ok : ∀ k, k < 4 → parseFieldDescriptor (TX3 k).2.2.1 = some (tyX3 k) := by decide +kernel
abbrev cX3_init : ByteArray := prog_5_method_1_code
def yX3_init : MethodName := ⟨RX3, "<init>", "()V"⟩
abbrev cX3_handles : ByteArray := prog_5_method_2_code
def yX3_handles : MethodName := ⟨RX3, "handles", "(JJI)Z"⟩
abbrev cX3_keep : ByteArray := prog_5_method_3_code
def yX3_keep : MethodName := ⟨RX3, "keep", "()V"⟩
abbrev cX3_restore : ByteArray := prog_5_method_4_code
def yX3_restore : MethodName := ⟨RX3, "restore", "()V"⟩
def RX4 : String := "RingPipeline$Pool"
def TX4 : u_T := fun k => match k with
  | 0 => ("RingPipeline$Pool", "on", "I", true)
  | 1 => ("RingPipeline$Pool", "workers", "[LRingPipeline$Consumer;", true)
  | 2 => ("RingPipeline$Pool", "size", "I", false)
  | _ => ("RingPipeline$Pool", "next", "J", false)
def tyX4 : Nat → FieldType := fun k => match k with
  | 0 => .int
  | 1 => .array (.object "RingPipeline$Consumer")
  | 2 => .int
  | _ => .long
abbrev wsX40 : List Cond := u_ws RX4 TX4 4
theorem nmX4 : ∀ a, a < 4 → ∀ b, b < 4 → a ≠ b → (TX4 a).2.1 ≠ (TX4 b).2.1 := by decide +kernel
theorem tyX4_ok : ∀ k, k < 4 → parseFieldDescriptor (TX4 k).2.2.1 = some (tyX4 k) := by decide +kernel
abbrev cX4_init : ByteArray := prog_6_method_1_code
def yX4_init : MethodName := ⟨RX4, "<init>", "(I)V"⟩
abbrev cX4_add : ByteArray := prog_6_method_2_code
def yX4_add : MethodName := ⟨RX4, "add", "(LRingPipeline$Consumer;)V"⟩
abbrev cX4_takeNext : ByteArray := prog_6_method_3_code
def yX4_takeNext : MethodName := ⟨RX4, "takeNext", "()J"⟩
abbrev cX4_reached : ByteArray := prog_6_method_4_code
def yX4_reached : MethodName := ⟨RX4, "reached", "()J"⟩
def RX5 : String := "RingPipeline$Ring"
def TX5 : u_T := fun k => match k with
  | 0 => ("RingPipeline$Ring", "values", "[J", true)
  | 1 => ("RingPipeline$Ring", "producers", "[I", true)
  | 2 => ("RingPipeline$Ring", "published", "[J", true)
  | 3 => ("RingPipeline$Ring", "cursor", "J", false)
  | _ => ("RingPipeline$Ring", "available", "J", false)
def tyX5 : Nat → FieldType := fun k => match k with
  | 0 => .array .long
  | 1 => .array .int
  | 2 => .array .long
  | 3 => .long
  | _ => .long
abbrev wsX50 : List Cond := u_ws RX5 TX5 5
theorem nmX5 : ∀ a, a < 5 → ∀ b, b < 5 → a ≠ b → (TX5 a).2.1 ≠ (TX5 b).2.1 := by decide +kernel
theorem tyX5_ok : ∀ k, k < 5 → parseFieldDescriptor (TX5 k).2.2.1 = some (tyX5 k) := by decide +kernel
abbrev cX5_init : ByteArray := prog_7_method_1_code
def yX5_init : MethodName := ⟨RX5, "<init>", "(I)V"⟩
abbrev cX5_slots : ByteArray := prog_7_method_2_code
def yX5_slots : MethodName := ⟨RX5, "slots", "()I"⟩
abbrev cX5_slotOf : ByteArray := prog_7_method_3_code
def yX5_slotOf : MethodName := ⟨RX5, "slotOf", "(J)I"⟩
abbrev cX5_reserve : ByteArray := prog_7_method_4_code
def yX5_reserve : MethodName := ⟨RX5, "reserve", "(II)J"⟩
abbrev cX5_isOpen : ByteArray := prog_7_method_5_code
def yX5_isOpen : MethodName := ⟨RX5, "isOpen", "(IJ)Z"⟩
abbrev cX5_write : ByteArray := prog_7_method_6_code
def yX5_write : MethodName := ⟨RX5, "write", "(JJ)V"⟩
abbrev cX5_publishedInSlotOf : ByteArray := prog_7_method_7_code
def yX5_publishedInSlotOf : MethodName := ⟨RX5, "publishedInSlotOf", "(J)J"⟩
abbrev cX5_valueOf : ByteArray := prog_7_method_8_code
def yX5_valueOf : MethodName := ⟨RX5, "valueOf", "(J)J"⟩
abbrev cX5_producerOf : ByteArray := prog_7_method_9_code
def yX5_producerOf : MethodName := ⟨RX5, "producerOf", "(J)I"⟩
def RX6 : String := "RingPipeline$Smooth"
def TX6 : u_T := fun k => match k with
  | 0 => ("RingPipeline$Smooth", "level", "F", false)
  | _ => ("RingPipeline$Smooth", "kept", "F", false)
def tyX6 : Nat → FieldType := fun k => match k with
  | 0 => .float
  | _ => .float
abbrev wsX60 : List Cond := u_ws RX6 TX6 2
theorem nmX6 : ∀ a, a < 2 → ∀ b, b < 2 → a ≠ b → (TX6 a).2.1 ≠ (TX6 b).2.1 := by decide +kernel
theorem tyX6_ok : ∀ k, k < 2 → parseFieldDescriptor (TX6 k).2.2.1 = some (tyX6 k) := by decide +kernel
abbrev cX6_init : ByteArray := prog_8_method_1_code
def yX6_init : MethodName := ⟨RX6, "<init>", "()V"⟩
abbrev cX6_handles : ByteArray := prog_8_method_2_code
def yX6_handles : MethodName := ⟨RX6, "handles", "(JJI)Z"⟩
abbrev cX6_keep : ByteArray := prog_8_method_3_code
def yX6_keep : MethodName := ⟨RX6, "keep", "()V"⟩
abbrev cX6_restore : ByteArray := prog_8_method_4_code
def yX6_restore : MethodName := ⟨RX6, "restore", "()V"⟩
def RX7 : String := "RingPipeline$Sum"
def TX7 : u_T := fun k => match k with
  | 0 => ("RingPipeline$Sum", "total", "J", false)
  | _ => ("RingPipeline$Sum", "kept", "J", false)
def tyX7 : Nat → FieldType := fun k => match k with
  | 0 => .long
  | _ => .long
abbrev wsX70 : List Cond := u_ws RX7 TX7 2
theorem nmX7 : ∀ a, a < 2 → ∀ b, b < 2 → a ≠ b → (TX7 a).2.1 ≠ (TX7 b).2.1 := by decide +kernel
theorem tyX7_ok : ∀ k, k < 2 → parseFieldDescriptor (TX7 k).2.2.1 = some (tyX7 k) := by decide +kernel
abbrev cX7_init : ByteArray := prog_9_method_1_code
def yX7_init : MethodName := ⟨RX7, "<init>", "()V"⟩
abbrev cX7_handles : ByteArray := prog_9_method_2_code
def yX7_handles : MethodName := ⟨RX7, "handles", "(JJI)Z"⟩
abbrev cX7_keep : ByteArray := prog_9_method_3_code
def yX7_keep : MethodName := ⟨RX7, "keep", "()V"⟩
abbrev cX7_restore : ByteArray := prog_9_method_4_code
def yX7_restore : MethodName := ⟨RX7, "restore", "()V"⟩
abbrev cX7_amount : ByteArray := prog_9_method_5_code
def yX7_amount : MethodName := ⟨RX7, "amount", "()J"⟩
def RX8 : String := "RingPipeline"
def TX8 : u_T := fun k => match k with
  | 0 => ("RingPipeline", "ring", "LRingPipeline$Ring;", true)
  | 1 => ("RingPipeline", "consumers", "[LRingPipeline$Consumer;", true)
  | 2 => ("RingPipeline", "pools", "[LRingPipeline$Pool;", true)
  | 3 => ("RingPipeline", "made", "I", false)
  | 4 => ("RingPipeline", "hungOn", "I", false)
  | _ => ("RingPipeline", "replayedSum", "J", false)
def tyX8 : Nat → FieldType := fun k => match k with
  | 0 => .object "RingPipeline$Ring"
  | 1 => .array (.object "RingPipeline$Consumer")
  | 2 => .array (.object "RingPipeline$Pool")
  | 3 => .int
  | 4 => .int
  | _ => .long
abbrev wsX80 : List Cond := u_ws RX8 TX8 6
theorem nmX8 : ∀ a, a < 6 → ∀ b, b < 6 → a ≠ b → (TX8 a).2.1 ≠ (TX8 b).2.1 := by decide +kernel
theorem tyX8_ok : ∀ k, k < 6 → parseFieldDescriptor (TX8 k).2.2.1 = some (tyX8 k) := by decide +kernel
abbrev cX8_init : ByteArray := prog_1_method_1_code
def yX8_init : MethodName := ⟨RX8, "<init>", "(I)V"⟩
abbrev cX8_consumer : ByteArray := prog_1_method_2_code
def yX8_consumer : MethodName := ⟨RX8, "consumer", "(IIII)I"⟩
abbrev cX8_claim : ByteArray := prog_1_method_3_code
def yX8_claim : MethodName := ⟨RX8, "claim", "(II)J"⟩
abbrev cX8_publish : ByteArray := prog_1_method_4_code
def yX8_publish : MethodName := ⟨RX8, "publish", "(IJJ)Z"⟩
abbrev cX8_run : ByteArray := prog_1_method_5_code
def yX8_run : MethodName := ⟨RX8, "run", "(II)I"⟩
abbrev cX8_place : ByteArray := prog_1_method_6_code
def yX8_place : MethodName := ⟨RX8, "place", "(I)J"⟩
abbrev cX8_total : ByteArray := prog_1_method_7_code
def yX8_total : MethodName := ⟨RX8, "total", "(I)J"⟩
abbrev cX8_level : ByteArray := prog_1_method_8_code
def yX8_level : MethodName := ⟨RX8, "level", "(I)F"⟩
abbrev cX8_mean : ByteArray := prog_1_method_9_code
def yX8_mean : MethodName := ⟨RX8, "mean", "(I)D"⟩
abbrev cX8_octet : ByteArray := prog_1_method_10_code
def yX8_octet : MethodName := ⟨RX8, "octet", "(II)I"⟩
abbrev cX8_tear : ByteArray := prog_1_method_11_code
def yX8_tear : MethodName := ⟨RX8, "tear", "(II)I"⟩
abbrev cX8_replay : ByteArray := prog_1_method_12_code
def yX8_replay : MethodName := ⟨RX8, "replay", "(I)I"⟩
abbrev cX8_replayed : ByteArray := prog_1_method_13_code
def yX8_replayed : MethodName := ⟨RX8, "replayed", "()J"⟩
abbrev cX8_count : ByteArray := prog_1_method_14_code
def yX8_count : MethodName := ⟨RX8, "count", "(II)I"⟩
abbrev cX8_state : ByteArray := prog_1_method_15_code
def yX8_state : MethodName := ⟨RX8, "state", "(IJ)J"⟩
abbrev cX8_isWithin : ByteArray := prog_1_method_16_code
def yX8_isWithin : MethodName := ⟨RX8, "isWithin", "(III)Z"⟩
abbrev cX8_existing : ByteArray := prog_1_method_17_code
def yX8_existing : MethodName := ⟨RX8, "existing", "(I)LRingPipeline$Consumer;"⟩
abbrev cX8_journalOf : ByteArray := prog_1_method_18_code
def yX8_journalOf : MethodName := ⟨RX8, "journalOf", "(I)LRingPipeline$Journal;"⟩
abbrev cX8_mayJoin : ByteArray := prog_1_method_19_code
def yX8_mayJoin : MethodName := ⟨RX8, "mayJoin", "(III)Z"⟩
abbrev cX8_poolToJoin : ByteArray := prog_1_method_20_code
def yX8_poolToJoin : MethodName := ⟨RX8, "poolToJoin", "(II)LRingPipeline$Pool;"⟩
abbrev cX8_add : ByteArray := prog_1_method_21_code
def yX8_add : MethodName := ⟨RX8, "add", "(LRingPipeline$Consumer;)I"⟩
abbrev cX8_newHandler : ByteArray := prog_1_method_22_code
def yX8_newHandler : MethodName := ⟨RX8, "newHandler", "(I)LRingPipeline$Handler;"⟩
abbrev cX8_lastInLine : ByteArray := prog_1_method_23_code
def yX8_lastInLine : MethodName := ⟨RX8, "lastInLine", "()I"⟩
abbrev cX8_leastPlace : ByteArray := prog_1_method_24_code
def yX8_leastPlace : MethodName := ⟨RX8, "leastPlace", "(I)J"⟩
def RX9 : String := "RingPipelineModel"
def TX9 : u_T := fun k => match k with
  | 0 => ("RingPipelineModel", "thrown", "I", false)
  | 1 => ("RingPipelineModel", "slots", "I", true)
  | 2 => ("RingPipelineModel", "sequences", "[B", true)
  | 3 => ("RingPipelineModel", "cursor", "I", false)
  | 4 => ("RingPipelineModel", "available", "I", false)
  | 5 => ("RingPipelineModel", "value", "[J", true)
  | 6 => ("RingPipelineModel", "producers", "[I", true)
  | 7 => ("RingPipelineModel", "latest", "[I", true)
  | 8 => ("RingPipelineModel", "consumers", "I", false)
  | 9 => ("RingPipelineModel", "kind", "[I", true)
  | 10 => ("RingPipelineModel", "on", "[I", true)
  | 11 => ("RingPipelineModel", "policy", "[I", true)
  | 12 => ("RingPipelineModel", "pool", "[I", true)
  | 13 => ("RingPipelineModel", "place", "[I", true)
  | 14 => ("RingPipelineModel", "halted", "[Z", true)
  | 15 => ("RingPipelineModel", "handled", "[I", true)
  | 16 => ("RingPipelineModel", "ignored", "[I", true)
  | 17 => ("RingPipelineModel", "rewound", "[I", true)
  | 18 => ("RingPipelineModel", "threwAt", "[I", true)
  | 19 => ("RingPipelineModel", "times", "[I", true)
  | 20 => ("RingPipelineModel", "has", "[I", true)
  | 21 => ("RingPipelineModel", "taken", "[I", true)
  | 22 => ("RingPipelineModel", "totals", "[J", true)
  | 23 => ("RingPipelineModel", "levels", "[F", true)
  | 24 => ("RingPipelineModel", "means", "[D", true)
  | 25 => ("RingPipelineModel", "sizes", "[I", true)
  | 26 => ("RingPipelineModel", "bytes", "[I", true)
  | _ => ("RingPipelineModel", "replayed", "J", false)
def tyX9 : Nat → FieldType := fun k => match k with
  | 0 => .int
  | 1 => .int
  | 2 => .array .byte
  | 3 => .int
  | 4 => .int
  | 5 => .array .long
  | 6 => .array .int
  | 7 => .array .int
  | 8 => .int
  | 9 => .array .int
  | 10 => .array .int
  | 11 => .array .int
  | 12 => .array .int
  | 13 => .array .int
  | 14 => .array .boolean
  | 15 => .array .int
  | 16 => .array .int
  | 17 => .array .int
  | 18 => .array .int
  | 19 => .array .int
  | 20 => .array .int
  | 21 => .array .int
  | 22 => .array .long
  | 23 => .array .float
  | 24 => .array .double
  | 25 => .array .int
  | 26 => .array .int
  | _ => .long
abbrev wsX90 : List Cond := u_ws RX9 TX9 28
theorem nmX9 : ∀ a, a < 28 → ∀ b, b < 28 → a ≠ b → (TX9 a).2.1 ≠ (TX9 b).2.1 := by decide +kernel
theorem tyX9_ok : ∀ k, k < 28 → parseFieldDescriptor (TX9 k).2.2.1 = some (tyX9 k) := by decide +kernel
abbrev cX9_init : ByteArray := prog_11_method_1_code
def yX9_init : MethodName := ⟨RX9, "<init>", "(I)V"⟩
abbrev cX9_thrown : ByteArray := prog_11_method_2_code
def yX9_thrown : MethodName := ⟨RX9, "thrown", "()I"⟩
abbrev cX9_fail : ByteArray := prog_11_method_3_code
def yX9_fail : MethodName := ⟨RX9, "fail", "(I)I"⟩
abbrev cX9_within : ByteArray := prog_11_method_4_code
def yX9_within : MethodName := ⟨RX9, "within", "(III)Z"⟩
abbrev cX9_firstOf : ByteArray := prog_11_method_5_code
def yX9_firstOf : MethodName := ⟨RX9, "firstOf", "(I)I"⟩
abbrev cX9_consumer : ByteArray := prog_11_method_6_code
def yX9_consumer : MethodName := ⟨RX9, "consumer", "(IIII)I"⟩
abbrev cX9_placeOf : ByteArray := prog_11_method_7_code
def yX9_placeOf : MethodName := ⟨RX9, "placeOf", "(I)I"⟩
abbrev cX9_bound : ByteArray := prog_11_method_8_code
def yX9_bound : MethodName := ⟨RX9, "bound", "(I)I"⟩
abbrev cX9_claim : ByteArray := prog_11_method_9_code
def yX9_claim : MethodName := ⟨RX9, "claim", "(II)J"⟩
abbrev cX9_publish : ByteArray := prog_11_method_10_code
def yX9_publish : MethodName := ⟨RX9, "publish", "(IJJ)Z"⟩
abbrev cX9_put : ByteArray := prog_11_method_11_code
def yX9_put : MethodName := ⟨RX9, "put", "(II)V"⟩
abbrev cX9_record : ByteArray := prog_11_method_12_code
def yX9_record : MethodName := ⟨RX9, "record", "(II)V"⟩
abbrev cX9_handles : ByteArray := prog_11_method_13_code
def yX9_handles : MethodName := ⟨RX9, "handles", "(II)Z"⟩
abbrev cX9_answer : ByteArray := prog_11_method_14_code
def yX9_answer : MethodName := ⟨RX9, "answer", "(II)I"⟩
abbrev cX9_batch : ByteArray := prog_11_method_15_code
def yX9_batch : MethodName := ⟨RX9, "batch", "(II)I"⟩
abbrev cX9_work : ByteArray := prog_11_method_16_code
def yX9_work : MethodName := ⟨RX9, "work", "(II)I"⟩
abbrev cX9_none : ByteArray := prog_11_method_17_code
def yX9_none : MethodName := ⟨RX9, "none", "(I)Z"⟩
abbrev cX9_run : ByteArray := prog_11_method_18_code
def yX9_run : MethodName := ⟨RX9, "run", "(II)I"⟩
abbrev cX9_place : ByteArray := prog_11_method_19_code
def yX9_place : MethodName := ⟨RX9, "place", "(I)J"⟩
abbrev cX9_total : ByteArray := prog_11_method_20_code
def yX9_total : MethodName := ⟨RX9, "total", "(I)J"⟩
abbrev cX9_level : ByteArray := prog_11_method_21_code
def yX9_level : MethodName := ⟨RX9, "level", "(I)F"⟩
abbrev cX9_mean : ByteArray := prog_11_method_22_code
def yX9_mean : MethodName := ⟨RX9, "mean", "(I)D"⟩
abbrev cX9_noJournal : ByteArray := prog_11_method_23_code
def yX9_noJournal : MethodName := ⟨RX9, "noJournal", "(I)Z"⟩
abbrev cX9_octet : ByteArray := prog_11_method_24_code
def yX9_octet : MethodName := ⟨RX9, "octet", "(II)I"⟩
abbrev cX9_tear : ByteArray := prog_11_method_25_code
def yX9_tear : MethodName := ⟨RX9, "tear", "(II)I"⟩
abbrev cX9_whole : ByteArray := prog_11_method_26_code
def yX9_whole : MethodName := ⟨RX9, "whole", "(I)Z"⟩
abbrev cX9_replay : ByteArray := prog_11_method_27_code
def yX9_replay : MethodName := ⟨RX9, "replay", "(I)I"⟩
abbrev cX9_replayed : ByteArray := prog_11_method_28_code
def yX9_replayed : MethodName := ⟨RX9, "replayed", "()J"⟩
abbrev cX9_count : ByteArray := prog_11_method_29_code
def yX9_count : MethodName := ⟨RX9, "count", "(II)I"⟩
abbrev cX9_state : ByteArray := prog_11_method_30_code
def yX9_state : MethodName := ⟨RX9, "state", "(IJ)J"⟩
def RJ9 : String := "java/lang/Math"
def TJ9 : u_T := fun k => match k with
  | _ => ("", "", "", false)
def tyJ9 : Nat → FieldType := fun k => match k with
  | _ => .int
abbrev wsJ90 : List Cond := u_ws RJ9 TJ9 0
theorem nmJ9 : ∀ a, a < 0 → ∀ b, b < 0 → a ≠ b → (TJ9 a).2.1 ≠ (TJ9 b).2.1 := by decide +kernel
theorem tyJ9_ok : ∀ k, k < 0 → parseFieldDescriptor (TJ9 k).2.2.1 = some (tyJ9 k) := by decide +kernel
abbrev cJ9_min_f86c9 : ByteArray := prog_16_method_70_code
def yJ9_min_f86c9 : MethodName := ⟨RJ9, "min", "(JJ)J"⟩
def RJ0 : String := "java/lang/String"
def TJ0 : u_T := fun k => match k with
  | _ => ("", "", "", false)
def tyJ0 : Nat → FieldType := fun k => match k with
  | _ => .int
abbrev wsJ00 : List Cond := u_ws RJ0 TJ0 0
theorem nmJ0 : ∀ a, a < 0 → ∀ b, b < 0 → a ≠ b → (TJ0 a).2.1 ≠ (TJ0 b).2.1 := by decide +kernel
theorem tyJ0_ok : ∀ k, k < 0 → parseFieldDescriptor (TJ0 k).2.2.1 = some (tyJ0 k) := by decide +kernel
def RL : String := "RingPipelineLaw"
abbrev cL_cell : ByteArray := method_2_code
def yL_cell : MethodName := ⟨RL, "cell", "([II)I"⟩
abbrev cL_consumer : ByteArray := method_3_code
def yL_consumer : MethodName := ⟨RL, "consumer", "(LRingPipeline;IIII[J)I"⟩
abbrev cL_claim : ByteArray := method_4_code
def yL_claim : MethodName := ⟨RL, "claim", "(LRingPipeline;II[J)I"⟩
abbrev cL_publish : ByteArray := method_5_code
def yL_publish : MethodName := ⟨RL, "publish", "(LRingPipeline;IJJ[J)I"⟩
abbrev cL_run : ByteArray := method_6_code
def yL_run : MethodName := ⟨RL, "run", "(LRingPipeline;II[J)I"⟩
abbrev cL_place : ByteArray := method_7_code
def yL_place : MethodName := ⟨RL, "place", "(LRingPipeline;I[J)I"⟩
abbrev cL_total : ByteArray := method_8_code
def yL_total : MethodName := ⟨RL, "total", "(LRingPipeline;I[J)I"⟩
abbrev cL_level : ByteArray := method_9_code
def yL_level : MethodName := ⟨RL, "level", "(LRingPipeline;I[D)I"⟩
abbrev cL_mean : ByteArray := method_10_code
def yL_mean : MethodName := ⟨RL, "mean", "(LRingPipeline;I[D)I"⟩
abbrev cL_octet : ByteArray := method_11_code
def yL_octet : MethodName := ⟨RL, "octet", "(LRingPipeline;II[J)I"⟩
abbrev cL_tear : ByteArray := method_12_code
def yL_tear : MethodName := ⟨RL, "tear", "(LRingPipeline;II[J)I"⟩
abbrev cL_replay : ByteArray := method_13_code
def yL_replay : MethodName := ⟨RL, "replay", "(LRingPipeline;I[J)I"⟩
abbrev cL_count : ByteArray := method_14_code
def yL_count : MethodName := ⟨RL, "count", "(LRingPipeline;II[J)I"⟩
abbrev cL_state : ByteArray := method_15_code
def yL_state : MethodName := ⟨RL, "state", "(LRingPipeline;IJ[J)I"⟩
abbrev cL_law : ByteArray := code
def yL_law : MethodName := ⟨RL, "law", "([I)Z"⟩
abbrev vwCl : List vw_C := [(RX0, TX0, 15), (RX2, TX2, 3), (RX3, TX3, 4), (RX4, TX4, 4), (RX5, TX5, 5), (RX6, TX6, 2), (RX7, TX7, 2), (RX8, TX8, 6), (RX9, TX9, 28)]
end
section
/-- the words that a call may carry, of all that the Statement gives: one list for every method -/
def TB : List Cond := lw_tbl.filter goodWord
theorem tb_of {w : Cond} (h : w ∈ lw_tbl) (g : goodWord w = true) : w ∈ TB := List.mem_filter.mpr ⟨h, g⟩
theorem tb_lw {w : Cond} (h : w ∈ TB) : w ∈ lw_tbl := (List.mem_filter.mp h).1
theorem tb_good {w : Cond} (h : w ∈ TB) : (w.onTables && w.keeps) = true ∨ ∃ ty, w = .arrayClass ty := good_of_word (List.mem_filter.mp h).2
theorem tb_1 {w : Cond} (i : Nat) (h : tables_1_1[i]? = some w) : w ∈ lw_tbl := List.mem_append_right _ (List.mem_append_left _ (List.mem_of_getElem? h))
theorem tb_2 {w : Cond} (i : Nat) (h : tables_1_2[i]? = some w) : w ∈ lw_tbl := List.mem_append_right _ (List.mem_append_right _ (List.mem_append_left _ (List.mem_of_getElem? h)))
theorem tb_3 {w : Cond} (i : Nat) (h : tables_1_3[i]? = some w) : w ∈ lw_tbl := List.mem_append_right _ (List.mem_append_right _ (List.mem_append_right _ (List.mem_append_left _ (List.mem_of_getElem? h))))
theorem tb_4 {w : Cond} (i : Nat) (h : tables_1_4[i]? = some w) : w ∈ lw_tbl := List.mem_append_right _ (List.mem_append_right _ (List.mem_append_right _ (List.mem_append_right _ (List.mem_of_getElem? h))))
theorem tb_s {w : Cond} (i : Nat) (h : (k2_sels lw_privs)[i]? = some w) : w ∈ lw_tbl := List.mem_append_left _ (List.mem_of_getElem? h)
theorem tm_0 : (Cond.initialized "RingPipelineLaw") ∈ TB := tb_of (tb_1 0 (by decide +kernel)) (by decide +kernel)
theorem tm_1 : (Cond.initialized "RingPipeline") ∈ TB := tb_of (tb_1 1 (by decide +kernel)) (by decide +kernel)
theorem tm_2 : (Cond.initialized "RingPipeline$Ring") ∈ TB := tb_of (tb_1 2 (by decide +kernel)) (by decide +kernel)
theorem tm_3 : (Cond.initialized "RingPipelineModel") ∈ TB := tb_of (tb_1 3 (by decide +kernel)) (by decide +kernel)
theorem tm_4 : (Cond.initialized "java/lang/Throwable") ∈ TB := tb_of (tb_1 4 (by decide +kernel)) (by decide +kernel)
theorem tm_5 : (Cond.initialized "java/lang/Exception") ∈ TB := tb_of (tb_1 5 (by decide +kernel)) (by decide +kernel)
theorem tm_6 : (Cond.initialized "java/lang/RuntimeException") ∈ TB := tb_of (tb_1 6 (by decide +kernel)) (by decide +kernel)
theorem tm_7 : (Cond.initialized "java/lang/IllegalArgumentException") ∈ TB := tb_of (tb_1 7 (by decide +kernel)) (by decide +kernel)
theorem tm_8 : (Cond.initialized "java/lang/IllegalStateException") ∈ TB := tb_of (tb_1 8 (by decide +kernel)) (by decide +kernel)
theorem tm_9 : (Cond.initialized "RingPipeline$Consumer") ∈ TB := tb_of (tb_1 9 (by decide +kernel)) (by decide +kernel)
theorem tm_10 : (Cond.initialized "RingPipeline$Handler") ∈ TB := tb_of (tb_1 10 (by decide +kernel)) (by decide +kernel)
theorem tm_11 : (Cond.initialized "RingPipeline$Sum") ∈ TB := tb_of (tb_1 11 (by decide +kernel)) (by decide +kernel)
theorem tm_12 : (Cond.initialized "RingPipeline$Smooth") ∈ TB := tb_of (tb_1 12 (by decide +kernel)) (by decide +kernel)
theorem tm_13 : (Cond.initialized "RingPipeline$Mean") ∈ TB := tb_of (tb_1 13 (by decide +kernel)) (by decide +kernel)
theorem tm_14 : (Cond.initialized "RingPipeline$Journal") ∈ TB := tb_of (tb_1 14 (by decide +kernel)) (by decide +kernel)
theorem tm_15 : (Cond.initialized "RingPipeline$Pool") ∈ TB := tb_of (tb_1 15 (by decide +kernel)) (by decide +kernel)
theorem tm_16 : (Cond.initialized "java/lang/Math") ∈ TB := tb_of (tb_1 16 (by decide +kernel)) (by decide +kernel)
theorem tm_17 : (Cond.initialized "java/util/NoSuchElementException") ∈ TB := tb_of (tb_1 17 (by decide +kernel)) (by decide +kernel)
theorem tm_18 : (Cond.initialized "java/lang/IndexOutOfBoundsException") ∈ TB := tb_of (tb_1 18 (by decide +kernel)) (by decide +kernel)
theorem tm_19 : (Cond.classLink "RingPipelineLaw" 8 "RingPipeline") ∈ TB := tb_of (tb_1 19 (by decide +kernel)) (by decide +kernel)
theorem tm_20 : (Cond.instantiable "RingPipeline" 6) ∈ TB := tb_of (tb_1 20 (by decide +kernel)) (by decide +kernel)
theorem tm_21 : (Cond.methodLink "RingPipelineLaw" 71 ⟨"RingPipeline", "<init>", "(I)V"⟩) ∈ TB := tb_of (tb_1 21 (by decide +kernel)) (by decide +kernel)
theorem tm_22 : (Cond.instanceMethod ⟨"RingPipeline", "<init>", "(I)V"⟩) ∈ TB := tb_of (tb_1 22 (by decide +kernel)) (by decide +kernel)
theorem tm_23 : (Cond.code ⟨"RingPipeline", "<init>", "(I)V"⟩ prog_1_method_1_code 2 none) ∈ TB := tb_of (tb_1 23 (by decide +kernel)) (by decide +kernel)
theorem tm_24 : (Cond.methodLink "RingPipeline" 1 ⟨"java/lang/Object", "<init>", "()V"⟩) ∈ TB := tb_of (tb_1 24 (by decide +kernel)) (by decide +kernel)
theorem tm_25 : (Cond.instanceMethod ⟨"java/lang/Object", "<init>", "()V"⟩) ∈ TB := tb_of (tb_1 25 (by decide +kernel)) (by decide +kernel)
theorem tm_26 : (Cond.code ⟨"java/lang/Object", "<init>", "()V"⟩ object_method_1_code 1 none) ∈ TB := tb_of (tb_1 26 (by decide +kernel)) (by decide +kernel)
theorem tm_27 : (Cond.classLink "RingPipeline" 9 "RingPipeline$Consumer") ∈ TB := tb_of (tb_1 27 (by decide +kernel)) (by decide +kernel)
theorem tn_28 : (Cond.arrayOver (.object "RingPipeline$Consumer")) ∈ lw_tbl := tb_1 28 (by decide +kernel)
theorem tm_29 : (Cond.classLink "RingPipeline" 15 "RingPipeline$Pool") ∈ TB := tb_of (tb_1 29 (by decide +kernel)) (by decide +kernel)
theorem tn_30 : (Cond.arrayOver (.object "RingPipeline$Pool")) ∈ lw_tbl := tb_1 30 (by decide +kernel)
theorem tm_31 : (Cond.classLink "RingPipeline" 21 "RingPipeline$Ring") ∈ TB := tb_of (tb_1 31 (by decide +kernel)) (by decide +kernel)
theorem tm_32 : (Cond.instantiable "RingPipeline$Ring" 5) ∈ TB := tb_of (tb_1 32 (by decide +kernel)) (by decide +kernel)
theorem tm_33 : (Cond.methodLink "RingPipeline" 23 ⟨"RingPipeline$Ring", "<init>", "(I)V"⟩) ∈ TB := tb_of (tb_1 33 (by decide +kernel)) (by decide +kernel)
theorem tm_34 : (Cond.instanceMethod ⟨"RingPipeline$Ring", "<init>", "(I)V"⟩) ∈ TB := tb_of (tb_1 34 (by decide +kernel)) (by decide +kernel)
theorem tm_35 : (Cond.code ⟨"RingPipeline$Ring", "<init>", "(I)V"⟩ prog_7_method_1_code 3 none) ∈ TB := tb_of (tb_1 35 (by decide +kernel)) (by decide +kernel)
theorem tm_36 : (Cond.methodLink "RingPipeline$Ring" 3 ⟨"java/lang/Object", "<init>", "()V"⟩) ∈ TB := tb_of (tb_1 36 (by decide +kernel)) (by decide +kernel)
theorem tm_37 : (Cond.constantLong "RingPipeline$Ring" 9 (-1)) ∈ TB := tb_of (tb_1 37 (by decide +kernel)) (by decide +kernel)
theorem tm_38 : (Cond.fieldLink "RingPipeline$Ring" 20 "RingPipeline$Ring" "values" "[J") ∈ TB := tb_of (tb_1 38 (by decide +kernel)) (by decide +kernel)
theorem tm_39 : (Cond.fieldLink "RingPipeline$Ring" 24 "RingPipeline$Ring" "producers" "[I") ∈ TB := tb_of (tb_1 39 (by decide +kernel)) (by decide +kernel)
theorem tm_40 : (Cond.fieldLink "RingPipeline$Ring" 28 "RingPipeline$Ring" "published" "[J") ∈ TB := tb_of (tb_1 40 (by decide +kernel)) (by decide +kernel)
theorem tm_41 : (Cond.fieldLink "RingPipeline$Ring" 11 "RingPipeline$Ring" "cursor" "J") ∈ TB := tb_of (tb_1 41 (by decide +kernel)) (by decide +kernel)
theorem tm_42 : (Cond.fieldLink "RingPipeline" 52 "RingPipeline$Ring" "cursor" "J") ∈ TB := tb_of (tb_1 42 (by decide +kernel)) (by decide +kernel)
theorem tm_43 : (Cond.fieldLink "RingPipeline$Ring" 17 "RingPipeline$Ring" "available" "J") ∈ TB := tb_of (tb_1 43 (by decide +kernel)) (by decide +kernel)
theorem tm_44 : (Cond.fieldLink "RingPipeline" 108 "RingPipeline$Ring" "available" "J") ∈ TB := tb_of (tb_1 44 (by decide +kernel)) (by decide +kernel)
theorem tm_45 : (Cond.laysFinal "RingPipeline$Ring" "RingPipeline$Ring" "values" "[J") ∈ TB := tb_of (tb_1 45 (by decide +kernel)) (by decide +kernel)
theorem tm_46 : (Cond.soleField "RingPipeline$Ring" "values") ∈ TB := tb_of (tb_1 46 (by decide +kernel)) (by decide +kernel)
theorem tm_47 : (Cond.laysFinal "RingPipeline$Ring" "RingPipeline$Ring" "producers" "[I") ∈ TB := tb_of (tb_1 47 (by decide +kernel)) (by decide +kernel)
theorem tm_48 : (Cond.soleField "RingPipeline$Ring" "producers") ∈ TB := tb_of (tb_1 48 (by decide +kernel)) (by decide +kernel)
theorem tm_49 : (Cond.laysFinal "RingPipeline$Ring" "RingPipeline$Ring" "published" "[J") ∈ TB := tb_of (tb_1 49 (by decide +kernel)) (by decide +kernel)
theorem tm_50 : (Cond.soleField "RingPipeline$Ring" "published") ∈ TB := tb_of (tb_1 50 (by decide +kernel)) (by decide +kernel)
theorem tm_51 : (Cond.lays "RingPipeline$Ring" "RingPipeline$Ring" "cursor" "J") ∈ TB := tb_of (tb_1 51 (by decide +kernel)) (by decide +kernel)
theorem tm_52 : (Cond.soleField "RingPipeline$Ring" "cursor") ∈ TB := tb_of (tb_1 52 (by decide +kernel)) (by decide +kernel)
theorem tm_53 : (Cond.lays "RingPipeline$Ring" "RingPipeline$Ring" "available" "J") ∈ TB := tb_of (tb_1 53 (by decide +kernel)) (by decide +kernel)
theorem tm_54 : (Cond.soleField "RingPipeline$Ring" "available") ∈ TB := tb_of (tb_1 54 (by decide +kernel)) (by decide +kernel)
theorem tm_55 : (Cond.superclass "RingPipeline$Ring" "java/lang/Object") ∈ TB := tb_of (tb_1 55 (by decide +kernel)) (by decide +kernel)
theorem tm_56 : (Cond.arrayClass .long) ∈ TB := tb_of (tb_1 56 (by decide +kernel)) (by decide +kernel)
theorem tm_57 : (Cond.arrayClass .int) ∈ TB := tb_of (tb_1 57 (by decide +kernel)) (by decide +kernel)
theorem tm_58 : (Cond.fieldLink "RingPipeline" 26 "RingPipeline" "ring" "LRingPipeline$Ring;") ∈ TB := tb_of (tb_1 58 (by decide +kernel)) (by decide +kernel)
theorem tm_59 : (Cond.fieldLink "RingPipeline" 11 "RingPipeline" "consumers" "[LRingPipeline$Consumer;") ∈ TB := tb_of (tb_1 59 (by decide +kernel)) (by decide +kernel)
theorem tm_60 : (Cond.fieldLink "RingPipeline" 17 "RingPipeline" "pools" "[LRingPipeline$Pool;") ∈ TB := tb_of (tb_1 60 (by decide +kernel)) (by decide +kernel)
theorem tm_61 : (Cond.fieldLink "RingPipeline" 41 "RingPipeline" "made" "I") ∈ TB := tb_of (tb_1 61 (by decide +kernel)) (by decide +kernel)
theorem tm_62 : (Cond.fieldLink "RingPipeline" 218 "RingPipeline" "hungOn" "I") ∈ TB := tb_of (tb_1 62 (by decide +kernel)) (by decide +kernel)
theorem tm_63 : (Cond.fieldLink "RingPipeline" 185 "RingPipeline" "replayedSum" "J") ∈ TB := tb_of (tb_1 63 (by decide +kernel)) (by decide +kernel)
theorem tm_64 : (Cond.laysFinal "RingPipeline" "RingPipeline" "ring" "LRingPipeline$Ring;") ∈ TB := tb_of (tb_1 64 (by decide +kernel)) (by decide +kernel)
theorem tm_65 : (Cond.soleField "RingPipeline" "ring") ∈ TB := tb_of (tb_1 65 (by decide +kernel)) (by decide +kernel)
theorem tm_66 : (Cond.laysFinal "RingPipeline" "RingPipeline" "consumers" "[LRingPipeline$Consumer;") ∈ TB := tb_of (tb_1 66 (by decide +kernel)) (by decide +kernel)
theorem tm_67 : (Cond.soleField "RingPipeline" "consumers") ∈ TB := tb_of (tb_1 67 (by decide +kernel)) (by decide +kernel)
theorem tm_68 : (Cond.laysFinal "RingPipeline" "RingPipeline" "pools" "[LRingPipeline$Pool;") ∈ TB := tb_of (tb_1 68 (by decide +kernel)) (by decide +kernel)
theorem tm_69 : (Cond.soleField "RingPipeline" "pools") ∈ TB := tb_of (tb_1 69 (by decide +kernel)) (by decide +kernel)
theorem tm_70 : (Cond.lays "RingPipeline" "RingPipeline" "made" "I") ∈ TB := tb_of (tb_1 70 (by decide +kernel)) (by decide +kernel)
theorem tm_71 : (Cond.soleField "RingPipeline" "made") ∈ TB := tb_of (tb_1 71 (by decide +kernel)) (by decide +kernel)
theorem tm_72 : (Cond.lays "RingPipeline" "RingPipeline" "hungOn" "I") ∈ TB := tb_of (tb_1 72 (by decide +kernel)) (by decide +kernel)
theorem tm_73 : (Cond.soleField "RingPipeline" "hungOn") ∈ TB := tb_of (tb_1 73 (by decide +kernel)) (by decide +kernel)
theorem tm_74 : (Cond.lays "RingPipeline" "RingPipeline" "replayedSum" "J") ∈ TB := tb_of (tb_1 74 (by decide +kernel)) (by decide +kernel)
theorem tm_75 : (Cond.soleField "RingPipeline" "replayedSum") ∈ TB := tb_of (tb_1 75 (by decide +kernel)) (by decide +kernel)
theorem tm_76 : (Cond.superclass "RingPipeline" "java/lang/Object") ∈ TB := tb_of (tb_1 76 (by decide +kernel)) (by decide +kernel)
theorem tm_77 : (Cond.methodLink "RingPipelineLaw" 121 ⟨"RingPipeline", "replayed", "()J"⟩) ∈ TB := tb_of (tb_1 77 (by decide +kernel)) (by decide +kernel)
theorem tm_78 : (Cond.instanceMethod ⟨"RingPipeline", "replayed", "()J"⟩) ∈ TB := tb_of (tb_1 78 (by decide +kernel)) (by decide +kernel)
theorem tm_79 : (Cond.selects "RingPipeline" ⟨"RingPipeline", "replayed", "()J"⟩ ⟨"RingPipeline", "replayed", "()J"⟩) ∈ TB := tb_of (tb_1 79 (by decide +kernel)) (by decide +kernel)
theorem tm_80 : (Cond.code ⟨"RingPipeline", "replayed", "()J"⟩ prog_1_method_13_code 1 (some .long)) ∈ TB := tb_of (tb_1 80 (by decide +kernel)) (by decide +kernel)
theorem tm_81 : (Cond.methodLink "RingPipelineLaw" 65 ⟨"RingPipelineLaw", "cell", "([II)I"⟩) ∈ TB := tb_of (tb_1 81 (by decide +kernel)) (by decide +kernel)
theorem tm_82 : (Cond.static ⟨"RingPipelineLaw", "cell", "([II)I"⟩) ∈ TB := tb_of (tb_1 82 (by decide +kernel)) (by decide +kernel)
theorem tm_83 : (Cond.code ⟨"RingPipelineLaw", "cell", "([II)I"⟩ method_2_code 2 (some .int)) ∈ TB := tb_of (tb_1 83 (by decide +kernel)) (by decide +kernel)
theorem tm_84 : (Cond.methodLink "RingPipelineLaw" 77 ⟨"RingPipelineLaw", "consumer", "(LRingPipeline;IIII[J)I"⟩) ∈ TB := tb_of (tb_1 84 (by decide +kernel)) (by decide +kernel)
theorem tm_85 : (Cond.static ⟨"RingPipelineLaw", "consumer", "(LRingPipeline;IIII[J)I"⟩) ∈ TB := tb_of (tb_1 85 (by decide +kernel)) (by decide +kernel)
theorem tm_86 : (Cond.codeWith ⟨"RingPipelineLaw", "consumer", "(LRingPipeline;IIII[J)I"⟩ method_3_code 7 (some .int) [(0, 14, 17, 13), (0, 14, 21, 15)]) ∈ TB := tb_of (tb_1 86 (by decide +kernel)) (by decide +kernel)
theorem tm_87 : (Cond.classLink "RingPipelineLaw" 13 "java/lang/IllegalArgumentException") ∈ TB := tb_of (tb_1 87 (by decide +kernel)) (by decide +kernel)
theorem tm_88 : (Cond.classLink "RingPipelineLaw" 15 "java/lang/IllegalStateException") ∈ TB := tb_of (tb_1 88 (by decide +kernel)) (by decide +kernel)
theorem tm_89 : (Cond.methodLink "RingPipelineLaw" 7 ⟨"RingPipeline", "consumer", "(IIII)I"⟩) ∈ TB := tb_of (tb_1 89 (by decide +kernel)) (by decide +kernel)
theorem tm_90 : (Cond.instanceMethod ⟨"RingPipeline", "consumer", "(IIII)I"⟩) ∈ TB := tb_of (tb_1 90 (by decide +kernel)) (by decide +kernel)
theorem tm_91 : (Cond.selects "RingPipeline" ⟨"RingPipeline", "consumer", "(IIII)I"⟩ ⟨"RingPipeline", "consumer", "(IIII)I"⟩) ∈ TB := tb_of (tb_1 91 (by decide +kernel)) (by decide +kernel)
theorem tm_92 : (Cond.code ⟨"RingPipeline", "consumer", "(IIII)I"⟩ prog_1_method_2_code 5 (some .int)) ∈ TB := tb_of (tb_1 92 (by decide +kernel)) (by decide +kernel)
theorem tm_93 : (Cond.methodLink "RingPipeline" 30 ⟨"RingPipeline", "isWithin", "(III)Z"⟩) ∈ TB := tb_of (tb_1 93 (by decide +kernel)) (by decide +kernel)
theorem tm_94 : (Cond.static ⟨"RingPipeline", "isWithin", "(III)Z"⟩) ∈ TB := tb_of (tb_1 94 (by decide +kernel)) (by decide +kernel)
theorem tm_95 : (Cond.code ⟨"RingPipeline", "isWithin", "(III)Z"⟩ prog_1_method_16_code 3 (some .boolean)) ∈ TB := tb_of (tb_1 95 (by decide +kernel)) (by decide +kernel)
theorem tm_96 : (Cond.classLink "RingPipeline" 34 "java/lang/IllegalArgumentException") ∈ TB := tb_of (tb_1 96 (by decide +kernel)) (by decide +kernel)
theorem tm_97 : (Cond.instantiable "java/lang/IllegalArgumentException" 6) ∈ TB := tb_of (tb_1 97 (by decide +kernel)) (by decide +kernel)
theorem tn_98 : (Cond.castable "java/lang/IllegalArgumentException" "java/lang/IllegalArgumentException") ∈ lw_tbl := tb_1 98 (by decide +kernel)
theorem tn_99 : (Cond.declares ⟨"java/lang/RuntimeException", "<init>", "()V"⟩) ∈ lw_tbl := tb_1 99 (by decide +kernel)
theorem tn_100 : (Cond.declares ⟨"java/lang/RuntimeException", "<init>", "(Ljava/lang/String;)V"⟩) ∈ lw_tbl := tb_1 100 (by decide +kernel)
theorem tn_101 : (Cond.declares ⟨"java/lang/Exception", "<init>", "()V"⟩) ∈ lw_tbl := tb_1 101 (by decide +kernel)
theorem tn_102 : (Cond.declares ⟨"java/lang/Exception", "<init>", "(Ljava/lang/String;)V"⟩) ∈ lw_tbl := tb_1 102 (by decide +kernel)
theorem tn_103 : (Cond.declares ⟨"java/lang/Throwable", "<init>", "()V"⟩) ∈ lw_tbl := tb_1 103 (by decide +kernel)
theorem tn_104 : (Cond.declares ⟨"java/lang/Throwable", "<init>", "(Ljava/lang/String;)V"⟩) ∈ lw_tbl := tb_1 104 (by decide +kernel)
theorem tm_105 : (Cond.selects "java/lang/IllegalArgumentException" ⟨"java/lang/Throwable", "fillInStackTrace", "(I)Ljava/lang/Throwable;"⟩ ⟨"java/lang/Throwable", "fillInStackTrace", "(I)Ljava/lang/Throwable;"⟩) ∈ TB := tb_of (tb_1 105 (by decide +kernel)) (by decide +kernel)
theorem tm_106 : (Cond.selects "java/lang/IllegalArgumentException" ⟨"java/lang/Throwable", "fillInStackTrace", "()Ljava/lang/Throwable;"⟩ ⟨"java/lang/Throwable", "fillInStackTrace", "()Ljava/lang/Throwable;"⟩) ∈ TB := tb_of (tb_1 106 (by decide +kernel)) (by decide +kernel)
theorem tm_107 : (Cond.lays "java/lang/IllegalArgumentException" "java/lang/Throwable" "cause" "Ljava/lang/Throwable;") ∈ TB := tb_of (tb_1 107 (by decide +kernel)) (by decide +kernel)
theorem tm_108 : (Cond.lays "java/lang/Throwable" "java/lang/Throwable" "cause" "Ljava/lang/Throwable;") ∈ TB := tb_of (tb_1 108 (by decide +kernel)) (by decide +kernel)
theorem tm_109 : (Cond.lays "java/lang/IllegalArgumentException" "java/lang/Throwable" "stackTrace" "[Ljava/lang/StackTraceElement;") ∈ TB := tb_of (tb_1 109 (by decide +kernel)) (by decide +kernel)
theorem tm_110 : (Cond.lays "java/lang/Throwable" "java/lang/Throwable" "stackTrace" "[Ljava/lang/StackTraceElement;") ∈ TB := tb_of (tb_1 110 (by decide +kernel)) (by decide +kernel)
theorem tm_111 : (Cond.lays "java/lang/IllegalArgumentException" "java/lang/Throwable" "suppressedExceptions" "Ljava/util/List;") ∈ TB := tb_of (tb_1 111 (by decide +kernel)) (by decide +kernel)
theorem tm_112 : (Cond.lays "java/lang/Throwable" "java/lang/Throwable" "suppressedExceptions" "Ljava/util/List;") ∈ TB := tb_of (tb_1 112 (by decide +kernel)) (by decide +kernel)
theorem tm_113 : (Cond.lays "java/lang/IllegalArgumentException" "java/lang/Throwable" "detailMessage" "Ljava/lang/String;") ∈ TB := tb_of (tb_1 113 (by decide +kernel)) (by decide +kernel)
theorem tm_114 : (Cond.lays "java/lang/Throwable" "java/lang/Throwable" "detailMessage" "Ljava/lang/String;") ∈ TB := tb_of (tb_1 114 (by decide +kernel)) (by decide +kernel)
theorem tm_115 : (Cond.lays "java/lang/IllegalArgumentException" "java/lang/Throwable" "backtrace" "Ljava/lang/Object;") ∈ TB := tb_of (tb_1 115 (by decide +kernel)) (by decide +kernel)
theorem tm_116 : (Cond.lays "java/lang/Throwable" "java/lang/Throwable" "backtrace" "Ljava/lang/Object;") ∈ TB := tb_of (tb_1 116 (by decide +kernel)) (by decide +kernel)
theorem tm_117 : (Cond.fieldLink "java/lang/Throwable" 198 "java/lang/Throwable" "backtrace" "Ljava/lang/Object;") ∈ TB := tb_of (tb_1 117 (by decide +kernel)) (by decide +kernel)
theorem tm_118 : (Cond.superclass "java/lang/Throwable" "java/lang/Object") ∈ TB := tb_of (tb_1 118 (by decide +kernel)) (by decide +kernel)
theorem tm_119 : (Cond.instanceMethod ⟨"java/lang/Throwable", "<init>", "()V"⟩) ∈ TB := tb_of (tb_1 119 (by decide +kernel)) (by decide +kernel)
theorem tm_120 : (Cond.code ⟨"java/lang/Throwable", "<init>", "()V"⟩ prog_19_method_1_code 1 none) ∈ TB := tb_of (tb_1 120 (by decide +kernel)) (by decide +kernel)
theorem tm_121 : (Cond.methodLink "java/lang/Throwable" 1 ⟨"java/lang/Object", "<init>", "()V"⟩) ∈ TB := tb_of (tb_1 121 (by decide +kernel)) (by decide +kernel)
theorem tm_122 : (Cond.fieldLink "java/lang/Throwable" 13 "java/lang/Throwable" "UNASSIGNED_STACK" "[Ljava/lang/StackTraceElement;") ∈ TB := tb_of (tb_1 122 (by decide +kernel)) (by decide +kernel)
theorem tn_123 : (Cond.laysStatic "java/lang/Throwable" "UNASSIGNED_STACK" "[Ljava/lang/StackTraceElement;") ∈ lw_tbl := tb_1 123 (by decide +kernel)
theorem tm_124 : (Cond.fieldLink "java/lang/Throwable" 20 "java/lang/Throwable" "SUPPRESSED_SENTINEL" "Ljava/util/List;") ∈ TB := tb_of (tb_1 124 (by decide +kernel)) (by decide +kernel)
theorem tn_125 : (Cond.laysStatic "java/lang/Throwable" "SUPPRESSED_SENTINEL" "Ljava/util/List;") ∈ lw_tbl := tb_1 125 (by decide +kernel)
theorem tm_126 : (Cond.methodLink "java/lang/Throwable" 27 ⟨"java/lang/Throwable", "fillInStackTrace", "()Ljava/lang/Throwable;"⟩) ∈ TB := tb_of (tb_1 126 (by decide +kernel)) (by decide +kernel)
theorem tm_127 : (Cond.instanceMethod ⟨"java/lang/Throwable", "fillInStackTrace", "()Ljava/lang/Throwable;"⟩) ∈ TB := tb_of (tb_1 127 (by decide +kernel)) (by decide +kernel)
theorem tm_128 : (Cond.sameMethod "java/lang/Throwable" "java/lang/Throwable" "fillInStackTrace" "()Ljava/lang/Throwable;") ∈ TB := tb_of (tb_1 128 (by decide +kernel)) (by decide +kernel)
theorem tm_129 : (Cond.selects "java/lang/IllegalStateException" ⟨"java/lang/Throwable", "fillInStackTrace", "()Ljava/lang/Throwable;"⟩ ⟨"java/lang/Throwable", "fillInStackTrace", "()Ljava/lang/Throwable;"⟩) ∈ TB := tb_of (tb_1 129 (by decide +kernel)) (by decide +kernel)
theorem tm_130 : (Cond.selects "java/lang/IndexOutOfBoundsException" ⟨"java/lang/Throwable", "fillInStackTrace", "()Ljava/lang/Throwable;"⟩ ⟨"java/lang/Throwable", "fillInStackTrace", "()Ljava/lang/Throwable;"⟩) ∈ TB := tb_of (tb_1 130 (by decide +kernel)) (by decide +kernel)
theorem tm_131 : (Cond.selects "java/util/NoSuchElementException" ⟨"java/lang/Throwable", "fillInStackTrace", "()Ljava/lang/Throwable;"⟩ ⟨"java/lang/Throwable", "fillInStackTrace", "()Ljava/lang/Throwable;"⟩) ∈ TB := tb_of (tb_1 131 (by decide +kernel)) (by decide +kernel)
theorem tm_132 : (Cond.codeSync ⟨"java/lang/Throwable", "fillInStackTrace", "()Ljava/lang/Throwable;"⟩ prog_19_method_18_code 1 (some (.object "java/lang/Throwable"))) ∈ TB := tb_of (tb_1 132 (by decide +kernel)) (by decide +kernel)
theorem tm_133 : (Cond.methodLink "java/lang/Throwable" 202 ⟨"java/lang/Throwable", "fillInStackTrace", "(I)Ljava/lang/Throwable;"⟩) ∈ TB := tb_of (tb_1 133 (by decide +kernel)) (by decide +kernel)
theorem tn_134 : (Cond.privateMethod ⟨"java/lang/Throwable", "fillInStackTrace", "(I)Ljava/lang/Throwable;"⟩) ∈ lw_tbl := tb_1 134 (by decide +kernel)
theorem tm_135 : (Cond.instanceMethod ⟨"java/lang/Throwable", "fillInStackTrace", "(I)Ljava/lang/Throwable;"⟩) ∈ TB := tb_of (tb_1 135 (by decide +kernel)) (by decide +kernel)
theorem tm_136 : (Cond.instantiable "java/lang/Throwable" 6) ∈ TB := tb_of (tb_1 136 (by decide +kernel)) (by decide +kernel)
theorem tm_137 : (Cond.native ⟨"java/lang/Throwable", "fillInStackTrace", "(I)Ljava/lang/Throwable;"⟩) ∈ TB := tb_of (tb_1 137 (by decide +kernel)) (by decide +kernel)
theorem tn_138 : (Cond.stringRef "RingPipeline" 36 "no such kind or policy") ∈ lw_tbl := tb_1 138 (by decide +kernel)
theorem tm_139 : (Cond.methodLink "RingPipeline" 38 ⟨"java/lang/IllegalArgumentException", "<init>", "(Ljava/lang/String;)V"⟩) ∈ TB := tb_of (tb_1 139 (by decide +kernel)) (by decide +kernel)
theorem tm_140 : (Cond.instanceMethod ⟨"java/lang/IllegalArgumentException", "<init>", "(Ljava/lang/String;)V"⟩) ∈ TB := tb_of (tb_1 140 (by decide +kernel)) (by decide +kernel)
theorem tm_141 : (Cond.code ⟨"java/lang/IllegalArgumentException", "<init>", "(Ljava/lang/String;)V"⟩ prog_13_method_2_code 2 none) ∈ TB := tb_of (tb_1 141 (by decide +kernel)) (by decide +kernel)
theorem tm_142 : (Cond.methodLink "java/lang/IllegalArgumentException" 7 ⟨"java/lang/RuntimeException", "<init>", "(Ljava/lang/String;)V"⟩) ∈ TB := tb_of (tb_1 142 (by decide +kernel)) (by decide +kernel)
theorem tm_143 : (Cond.instanceMethod ⟨"java/lang/RuntimeException", "<init>", "(Ljava/lang/String;)V"⟩) ∈ TB := tb_of (tb_1 143 (by decide +kernel)) (by decide +kernel)
theorem tm_144 : (Cond.code ⟨"java/lang/RuntimeException", "<init>", "(Ljava/lang/String;)V"⟩ prog_17_method_2_code 2 none) ∈ TB := tb_of (tb_1 144 (by decide +kernel)) (by decide +kernel)
theorem tm_145 : (Cond.methodLink "java/lang/RuntimeException" 7 ⟨"java/lang/Exception", "<init>", "(Ljava/lang/String;)V"⟩) ∈ TB := tb_of (tb_1 145 (by decide +kernel)) (by decide +kernel)
theorem tm_146 : (Cond.instanceMethod ⟨"java/lang/Exception", "<init>", "(Ljava/lang/String;)V"⟩) ∈ TB := tb_of (tb_1 146 (by decide +kernel)) (by decide +kernel)
theorem tm_147 : (Cond.code ⟨"java/lang/Exception", "<init>", "(Ljava/lang/String;)V"⟩ prog_12_method_2_code 2 none) ∈ TB := tb_of (tb_1 147 (by decide +kernel)) (by decide +kernel)
theorem tm_148 : (Cond.methodLink "java/lang/Exception" 7 ⟨"java/lang/Throwable", "<init>", "(Ljava/lang/String;)V"⟩) ∈ TB := tb_of (tb_1 148 (by decide +kernel)) (by decide +kernel)
theorem tm_149 : (Cond.instanceMethod ⟨"java/lang/Throwable", "<init>", "(Ljava/lang/String;)V"⟩) ∈ TB := tb_of (tb_1 149 (by decide +kernel)) (by decide +kernel)
theorem tm_150 : (Cond.code ⟨"java/lang/Throwable", "<init>", "(Ljava/lang/String;)V"⟩ prog_19_method_2_code 2 none) ∈ TB := tb_of (tb_1 150 (by decide +kernel)) (by decide +kernel)
theorem tm_152 : (Cond.fieldLink "java/lang/Throwable" 31 "java/lang/Throwable" "detailMessage" "Ljava/lang/String;") ∈ TB := tb_of (tb_1 152 (by decide +kernel)) (by decide +kernel)
theorem tm_153 : (Cond.fieldLink "java/lang/Throwable" 7 "java/lang/Throwable" "cause" "Ljava/lang/Throwable;") ∈ TB := tb_of (tb_1 153 (by decide +kernel)) (by decide +kernel)
theorem tm_154 : (Cond.fieldLink "java/lang/Throwable" 17 "java/lang/Throwable" "stackTrace" "[Ljava/lang/StackTraceElement;") ∈ TB := tb_of (tb_1 154 (by decide +kernel)) (by decide +kernel)
theorem tm_155 : (Cond.fieldLink "java/lang/Throwable" 24 "java/lang/Throwable" "suppressedExceptions" "Ljava/util/List;") ∈ TB := tb_of (tb_1 155 (by decide +kernel)) (by decide +kernel)
theorem tm_156 : (Cond.soleField "java/lang/Throwable" "backtrace") ∈ TB := tb_of (tb_1 156 (by decide +kernel)) (by decide +kernel)
theorem tm_157 : (Cond.soleField "java/lang/Throwable" "detailMessage") ∈ TB := tb_of (tb_1 157 (by decide +kernel)) (by decide +kernel)
theorem tm_158 : (Cond.soleField "java/lang/Throwable" "cause") ∈ TB := tb_of (tb_1 158 (by decide +kernel)) (by decide +kernel)
theorem tm_159 : (Cond.soleField "java/lang/Throwable" "stackTrace") ∈ TB := tb_of (tb_1 159 (by decide +kernel)) (by decide +kernel)
theorem tm_160 : (Cond.lays "java/lang/IllegalArgumentException" "java/lang/Throwable" "depth" "I") ∈ TB := tb_of (tb_1 160 (by decide +kernel)) (by decide +kernel)
theorem tm_161 : (Cond.soleField "java/lang/Throwable" "depth") ∈ TB := tb_of (tb_1 161 (by decide +kernel)) (by decide +kernel)
theorem tm_162 : (Cond.soleField "java/lang/Throwable" "suppressedExceptions") ∈ TB := tb_of (tb_1 162 (by decide +kernel)) (by decide +kernel)
theorem tm_163 : (Cond.superclass "java/lang/IllegalArgumentException" "java/lang/RuntimeException") ∈ TB := tb_of (tb_1 163 (by decide +kernel)) (by decide +kernel)
theorem tm_164 : (Cond.arrayClass .byte) ∈ TB := tb_of (tb_1 164 (by decide +kernel)) (by decide +kernel)
theorem tn_165 : (Cond.stringRef "RingPipeline" 45 "hangs on consumers that there are not") ∈ lw_tbl := tb_1 165 (by decide +kernel)
theorem tm_166 : (Cond.methodLink "RingPipeline" 47 ⟨"RingPipeline", "mayJoin", "(III)Z"⟩) ∈ TB := tb_of (tb_1 166 (by decide +kernel)) (by decide +kernel)
theorem tn_167 : (Cond.privateMethod ⟨"RingPipeline", "mayJoin", "(III)Z"⟩) ∈ lw_tbl := tb_1 167 (by decide +kernel)
theorem tm_168 : (Cond.instanceMethod ⟨"RingPipeline", "mayJoin", "(III)Z"⟩) ∈ TB := tb_of (tb_1 168 (by decide +kernel)) (by decide +kernel)
theorem tm_169 : (Cond.code ⟨"RingPipeline", "mayJoin", "(III)Z"⟩ prog_1_method_19_code 4 (some .boolean)) ∈ TB := tb_of (tb_1 169 (by decide +kernel)) (by decide +kernel)
theorem tn_170 : (Cond.stringRef "RingPipeline" 50 "no such pool, or not fit for it") ∈ lw_tbl := tb_1 170 (by decide +kernel)
theorem tm_171 : (Cond.classLink "RingPipeline" 56 "java/lang/IllegalStateException") ∈ TB := tb_of (tb_1 171 (by decide +kernel)) (by decide +kernel)
theorem tm_172 : (Cond.instantiable "java/lang/IllegalStateException" 6) ∈ TB := tb_of (tb_1 172 (by decide +kernel)) (by decide +kernel)
theorem tn_173 : (Cond.castable "java/lang/IllegalStateException" "java/lang/IllegalStateException") ∈ lw_tbl := tb_1 173 (by decide +kernel)
theorem tm_174 : (Cond.selects "java/lang/IllegalStateException" ⟨"java/lang/Throwable", "fillInStackTrace", "(I)Ljava/lang/Throwable;"⟩ ⟨"java/lang/Throwable", "fillInStackTrace", "(I)Ljava/lang/Throwable;"⟩) ∈ TB := tb_of (tb_1 174 (by decide +kernel)) (by decide +kernel)
theorem tm_175 : (Cond.lays "java/lang/IllegalStateException" "java/lang/Throwable" "cause" "Ljava/lang/Throwable;") ∈ TB := tb_of (tb_1 175 (by decide +kernel)) (by decide +kernel)
theorem tm_176 : (Cond.lays "java/lang/IllegalStateException" "java/lang/Throwable" "stackTrace" "[Ljava/lang/StackTraceElement;") ∈ TB := tb_of (tb_1 176 (by decide +kernel)) (by decide +kernel)
theorem tm_177 : (Cond.lays "java/lang/IllegalStateException" "java/lang/Throwable" "suppressedExceptions" "Ljava/util/List;") ∈ TB := tb_of (tb_1 177 (by decide +kernel)) (by decide +kernel)
theorem tm_178 : (Cond.lays "java/lang/IllegalStateException" "java/lang/Throwable" "detailMessage" "Ljava/lang/String;") ∈ TB := tb_of (tb_1 178 (by decide +kernel)) (by decide +kernel)
theorem tm_179 : (Cond.lays "java/lang/IllegalStateException" "java/lang/Throwable" "backtrace" "Ljava/lang/Object;") ∈ TB := tb_of (tb_1 179 (by decide +kernel)) (by decide +kernel)
theorem tn_180 : (Cond.stringRef "RingPipeline" 58 "there are eight, or something was claimed") ∈ lw_tbl := tb_1 180 (by decide +kernel)
theorem tm_181 : (Cond.methodLink "RingPipeline" 60 ⟨"java/lang/IllegalStateException", "<init>", "(Ljava/lang/String;)V"⟩) ∈ TB := tb_of (tb_1 181 (by decide +kernel)) (by decide +kernel)
theorem tm_182 : (Cond.instanceMethod ⟨"java/lang/IllegalStateException", "<init>", "(Ljava/lang/String;)V"⟩) ∈ TB := tb_of (tb_1 182 (by decide +kernel)) (by decide +kernel)
theorem tm_183 : (Cond.code ⟨"java/lang/IllegalStateException", "<init>", "(Ljava/lang/String;)V"⟩ prog_14_method_2_code 2 none) ∈ TB := tb_of (tb_1 183 (by decide +kernel)) (by decide +kernel)
theorem tm_184 : (Cond.methodLink "java/lang/IllegalStateException" 7 ⟨"java/lang/RuntimeException", "<init>", "(Ljava/lang/String;)V"⟩) ∈ TB := tb_of (tb_1 184 (by decide +kernel)) (by decide +kernel)
theorem tm_185 : (Cond.lays "java/lang/IllegalStateException" "java/lang/Throwable" "depth" "I") ∈ TB := tb_of (tb_1 185 (by decide +kernel)) (by decide +kernel)
theorem tm_186 : (Cond.superclass "java/lang/IllegalStateException" "java/lang/RuntimeException") ∈ TB := tb_of (tb_1 186 (by decide +kernel)) (by decide +kernel)
theorem tm_187 : (Cond.instantiable "RingPipeline$Consumer" 15) ∈ TB := tb_of (tb_1 187 (by decide +kernel)) (by decide +kernel)
theorem tm_188 : (Cond.methodLink "RingPipeline" 61 ⟨"RingPipeline", "newHandler", "(I)LRingPipeline$Handler;"⟩) ∈ TB := tb_of (tb_1 188 (by decide +kernel)) (by decide +kernel)
theorem tm_189 : (Cond.static ⟨"RingPipeline", "newHandler", "(I)LRingPipeline$Handler;"⟩) ∈ TB := tb_of (tb_1 189 (by decide +kernel)) (by decide +kernel)
theorem tm_190 : (Cond.code ⟨"RingPipeline", "newHandler", "(I)LRingPipeline$Handler;"⟩ prog_1_method_22_code 1 (some (.object "RingPipeline$Handler"))) ∈ TB := tb_of (tb_1 190 (by decide +kernel)) (by decide +kernel)
theorem tm_191 : (Cond.classLink "RingPipeline" 221 "RingPipeline$Sum") ∈ TB := tb_of (tb_1 191 (by decide +kernel)) (by decide +kernel)
theorem tm_192 : (Cond.instantiable "RingPipeline$Sum" 2) ∈ TB := tb_of (tb_1 192 (by decide +kernel)) (by decide +kernel)
theorem tn_193 : (Cond.methodLinkNest "RingPipeline" 223 ⟨"RingPipeline$Sum", "<init>", "()V"⟩ "RingPipeline") ∈ lw_tbl := tb_1 193 (by decide +kernel)
theorem tm_194 : (Cond.instanceMethod ⟨"RingPipeline$Sum", "<init>", "()V"⟩) ∈ TB := tb_of (tb_1 194 (by decide +kernel)) (by decide +kernel)
theorem tm_195 : (Cond.code ⟨"RingPipeline$Sum", "<init>", "()V"⟩ prog_9_method_1_code 1 none) ∈ TB := tb_of (tb_1 195 (by decide +kernel)) (by decide +kernel)
theorem tn_196 : (Cond.methodLinkNest "RingPipeline$Sum" 1 ⟨"RingPipeline$Handler", "<init>", "()V"⟩ "RingPipeline") ∈ lw_tbl := tb_1 196 (by decide +kernel)
theorem tm_197 : (Cond.instanceMethod ⟨"RingPipeline$Handler", "<init>", "()V"⟩) ∈ TB := tb_of (tb_1 197 (by decide +kernel)) (by decide +kernel)
theorem tm_198 : (Cond.code ⟨"RingPipeline$Handler", "<init>", "()V"⟩ prog_3_method_1_code 1 none) ∈ TB := tb_of (tb_1 198 (by decide +kernel)) (by decide +kernel)
theorem tm_199 : (Cond.methodLink "RingPipeline$Handler" 1 ⟨"java/lang/Object", "<init>", "()V"⟩) ∈ TB := tb_of (tb_1 199 (by decide +kernel)) (by decide +kernel)
theorem tm_200 : (Cond.fieldLink "RingPipeline$Sum" 11 "RingPipeline$Sum" "total" "J") ∈ TB := tb_of (tb_1 200 (by decide +kernel)) (by decide +kernel)
theorem tm_201 : (Cond.fieldLink "RingPipeline$Sum" 15 "RingPipeline$Sum" "kept" "J") ∈ TB := tb_of (tb_1 201 (by decide +kernel)) (by decide +kernel)
theorem tm_202 : (Cond.lays "RingPipeline$Sum" "RingPipeline$Sum" "total" "J") ∈ TB := tb_of (tb_1 202 (by decide +kernel)) (by decide +kernel)
theorem tm_203 : (Cond.soleField "RingPipeline$Sum" "total") ∈ TB := tb_of (tb_1 203 (by decide +kernel)) (by decide +kernel)
theorem tm_204 : (Cond.lays "RingPipeline$Sum" "RingPipeline$Sum" "kept" "J") ∈ TB := tb_of (tb_1 204 (by decide +kernel)) (by decide +kernel)
theorem tm_205 : (Cond.soleField "RingPipeline$Sum" "kept") ∈ TB := tb_of (tb_1 205 (by decide +kernel)) (by decide +kernel)
theorem tm_206 : (Cond.superclass "RingPipeline$Sum" "RingPipeline$Handler") ∈ TB := tb_of (tb_1 206 (by decide +kernel)) (by decide +kernel)
theorem tm_207 : (Cond.classLink "RingPipeline" 143 "RingPipeline$Smooth") ∈ TB := tb_of (tb_1 207 (by decide +kernel)) (by decide +kernel)
theorem tm_208 : (Cond.instantiable "RingPipeline$Smooth" 2) ∈ TB := tb_of (tb_1 208 (by decide +kernel)) (by decide +kernel)
theorem tn_209 : (Cond.methodLinkNest "RingPipeline" 224 ⟨"RingPipeline$Smooth", "<init>", "()V"⟩ "RingPipeline") ∈ lw_tbl := tb_1 209 (by decide +kernel)
theorem tm_210 : (Cond.instanceMethod ⟨"RingPipeline$Smooth", "<init>", "()V"⟩) ∈ TB := tb_of (tb_1 210 (by decide +kernel)) (by decide +kernel)
theorem tm_211 : (Cond.code ⟨"RingPipeline$Smooth", "<init>", "()V"⟩ prog_8_method_1_code 1 none) ∈ TB := tb_of (tb_1 211 (by decide +kernel)) (by decide +kernel)
theorem tn_212 : (Cond.methodLinkNest "RingPipeline$Smooth" 1 ⟨"RingPipeline$Handler", "<init>", "()V"⟩ "RingPipeline") ∈ lw_tbl := tb_1 212 (by decide +kernel)
theorem tm_213 : (Cond.fieldLink "RingPipeline$Smooth" 7 "RingPipeline$Smooth" "level" "F") ∈ TB := tb_of (tb_1 213 (by decide +kernel)) (by decide +kernel)
theorem tm_214 : (Cond.fieldLink "RingPipeline" 145 "RingPipeline$Smooth" "level" "F") ∈ TB := tb_of (tb_1 214 (by decide +kernel)) (by decide +kernel)
theorem tm_215 : (Cond.fieldLink "RingPipeline$Smooth" 14 "RingPipeline$Smooth" "kept" "F") ∈ TB := tb_of (tb_1 215 (by decide +kernel)) (by decide +kernel)
theorem tm_216 : (Cond.lays "RingPipeline$Smooth" "RingPipeline$Smooth" "level" "F") ∈ TB := tb_of (tb_1 216 (by decide +kernel)) (by decide +kernel)
theorem tm_217 : (Cond.soleField "RingPipeline$Smooth" "level") ∈ TB := tb_of (tb_1 217 (by decide +kernel)) (by decide +kernel)
theorem tm_218 : (Cond.lays "RingPipeline$Smooth" "RingPipeline$Smooth" "kept" "F") ∈ TB := tb_of (tb_1 218 (by decide +kernel)) (by decide +kernel)
theorem tm_219 : (Cond.soleField "RingPipeline$Smooth" "kept") ∈ TB := tb_of (tb_1 219 (by decide +kernel)) (by decide +kernel)
theorem tm_220 : (Cond.superclass "RingPipeline$Smooth" "RingPipeline$Handler") ∈ TB := tb_of (tb_1 220 (by decide +kernel)) (by decide +kernel)
theorem tm_221 : (Cond.classLink "RingPipeline" 151 "RingPipeline$Mean") ∈ TB := tb_of (tb_1 221 (by decide +kernel)) (by decide +kernel)
theorem tm_222 : (Cond.instantiable "RingPipeline$Mean" 4) ∈ TB := tb_of (tb_1 222 (by decide +kernel)) (by decide +kernel)
theorem tn_223 : (Cond.methodLinkNest "RingPipeline" 225 ⟨"RingPipeline$Mean", "<init>", "()V"⟩ "RingPipeline") ∈ lw_tbl := tb_1 223 (by decide +kernel)
theorem tm_224 : (Cond.instanceMethod ⟨"RingPipeline$Mean", "<init>", "()V"⟩) ∈ TB := tb_of (tb_1 224 (by decide +kernel)) (by decide +kernel)
theorem tm_225 : (Cond.code ⟨"RingPipeline$Mean", "<init>", "()V"⟩ prog_5_method_1_code 1 none) ∈ TB := tb_of (tb_1 225 (by decide +kernel)) (by decide +kernel)
theorem tn_226 : (Cond.methodLinkNest "RingPipeline$Mean" 1 ⟨"RingPipeline$Handler", "<init>", "()V"⟩ "RingPipeline") ∈ lw_tbl := tb_1 226 (by decide +kernel)
theorem tm_227 : (Cond.fieldLink "RingPipeline$Mean" 13 "RingPipeline$Mean" "mean" "D") ∈ TB := tb_of (tb_1 227 (by decide +kernel)) (by decide +kernel)
theorem tm_228 : (Cond.fieldLink "RingPipeline" 153 "RingPipeline$Mean" "mean" "D") ∈ TB := tb_of (tb_1 228 (by decide +kernel)) (by decide +kernel)
theorem tm_229 : (Cond.fieldLink "RingPipeline$Mean" 7 "RingPipeline$Mean" "events" "I") ∈ TB := tb_of (tb_1 229 (by decide +kernel)) (by decide +kernel)
theorem tm_230 : (Cond.fieldLink "RingPipeline$Mean" 17 "RingPipeline$Mean" "keptMean" "D") ∈ TB := tb_of (tb_1 230 (by decide +kernel)) (by decide +kernel)
theorem tm_231 : (Cond.fieldLink "RingPipeline$Mean" 20 "RingPipeline$Mean" "keptEvents" "I") ∈ TB := tb_of (tb_1 231 (by decide +kernel)) (by decide +kernel)
theorem tm_232 : (Cond.lays "RingPipeline$Mean" "RingPipeline$Mean" "mean" "D") ∈ TB := tb_of (tb_1 232 (by decide +kernel)) (by decide +kernel)
theorem tm_233 : (Cond.soleField "RingPipeline$Mean" "mean") ∈ TB := tb_of (tb_1 233 (by decide +kernel)) (by decide +kernel)
theorem tm_234 : (Cond.lays "RingPipeline$Mean" "RingPipeline$Mean" "events" "I") ∈ TB := tb_of (tb_1 234 (by decide +kernel)) (by decide +kernel)
theorem tm_235 : (Cond.soleField "RingPipeline$Mean" "events") ∈ TB := tb_of (tb_1 235 (by decide +kernel)) (by decide +kernel)
theorem tm_236 : (Cond.lays "RingPipeline$Mean" "RingPipeline$Mean" "keptMean" "D") ∈ TB := tb_of (tb_1 236 (by decide +kernel)) (by decide +kernel)
theorem tm_237 : (Cond.soleField "RingPipeline$Mean" "keptMean") ∈ TB := tb_of (tb_1 237 (by decide +kernel)) (by decide +kernel)
theorem tm_238 : (Cond.lays "RingPipeline$Mean" "RingPipeline$Mean" "keptEvents" "I") ∈ TB := tb_of (tb_1 238 (by decide +kernel)) (by decide +kernel)
theorem tm_239 : (Cond.soleField "RingPipeline$Mean" "keptEvents") ∈ TB := tb_of (tb_1 239 (by decide +kernel)) (by decide +kernel)
theorem tm_240 : (Cond.superclass "RingPipeline$Mean" "RingPipeline$Handler") ∈ TB := tb_of (tb_2 0 (by decide +kernel)) (by decide +kernel)
theorem tm_241 : (Cond.classLink "RingPipeline" 164 "RingPipeline$Journal") ∈ TB := tb_of (tb_2 1 (by decide +kernel)) (by decide +kernel)
theorem tm_242 : (Cond.instantiable "RingPipeline$Journal" 3) ∈ TB := tb_of (tb_2 2 (by decide +kernel)) (by decide +kernel)
theorem tn_243 : (Cond.methodLinkNest "RingPipeline" 226 ⟨"RingPipeline$Journal", "<init>", "()V"⟩ "RingPipeline") ∈ lw_tbl := tb_2 3 (by decide +kernel)
theorem tm_244 : (Cond.instanceMethod ⟨"RingPipeline$Journal", "<init>", "()V"⟩) ∈ TB := tb_of (tb_2 4 (by decide +kernel)) (by decide +kernel)
theorem tm_245 : (Cond.code ⟨"RingPipeline$Journal", "<init>", "()V"⟩ prog_4_method_1_code 1 none) ∈ TB := tb_of (tb_2 5 (by decide +kernel)) (by decide +kernel)
theorem tn_246 : (Cond.methodLinkNest "RingPipeline$Journal" 1 ⟨"RingPipeline$Handler", "<init>", "()V"⟩ "RingPipeline") ∈ lw_tbl := tb_2 6 (by decide +kernel)
theorem tm_247 : (Cond.fieldLink "RingPipeline$Journal" 9 "RingPipeline$Journal" "bytes" "[B") ∈ TB := tb_of (tb_2 7 (by decide +kernel)) (by decide +kernel)
theorem tm_248 : (Cond.fieldLink "RingPipeline$Journal" 13 "RingPipeline$Journal" "length" "I") ∈ TB := tb_of (tb_2 8 (by decide +kernel)) (by decide +kernel)
theorem tm_249 : (Cond.fieldLink "RingPipeline" 163 "RingPipeline$Journal" "length" "I") ∈ TB := tb_of (tb_2 9 (by decide +kernel)) (by decide +kernel)
theorem tm_250 : (Cond.fieldLink "RingPipeline$Journal" 27 "RingPipeline$Journal" "keptLength" "I") ∈ TB := tb_of (tb_2 10 (by decide +kernel)) (by decide +kernel)
theorem tm_251 : (Cond.laysFinal "RingPipeline$Journal" "RingPipeline$Journal" "bytes" "[B") ∈ TB := tb_of (tb_2 11 (by decide +kernel)) (by decide +kernel)
theorem tm_252 : (Cond.soleField "RingPipeline$Journal" "bytes") ∈ TB := tb_of (tb_2 12 (by decide +kernel)) (by decide +kernel)
theorem tm_253 : (Cond.lays "RingPipeline$Journal" "RingPipeline$Journal" "length" "I") ∈ TB := tb_of (tb_2 13 (by decide +kernel)) (by decide +kernel)
theorem tm_254 : (Cond.soleField "RingPipeline$Journal" "length") ∈ TB := tb_of (tb_2 14 (by decide +kernel)) (by decide +kernel)
theorem tm_255 : (Cond.lays "RingPipeline$Journal" "RingPipeline$Journal" "keptLength" "I") ∈ TB := tb_of (tb_2 15 (by decide +kernel)) (by decide +kernel)
theorem tm_256 : (Cond.soleField "RingPipeline$Journal" "keptLength") ∈ TB := tb_of (tb_2 16 (by decide +kernel)) (by decide +kernel)
theorem tm_257 : (Cond.superclass "RingPipeline$Journal" "RingPipeline$Handler") ∈ TB := tb_of (tb_2 17 (by decide +kernel)) (by decide +kernel)
theorem tm_258 : (Cond.methodLink "RingPipeline" 65 ⟨"RingPipeline", "poolToJoin", "(II)LRingPipeline$Pool;"⟩) ∈ TB := tb_of (tb_2 18 (by decide +kernel)) (by decide +kernel)
theorem tn_259 : (Cond.privateMethod ⟨"RingPipeline", "poolToJoin", "(II)LRingPipeline$Pool;"⟩) ∈ lw_tbl := tb_2 19 (by decide +kernel)
theorem tm_260 : (Cond.instanceMethod ⟨"RingPipeline", "poolToJoin", "(II)LRingPipeline$Pool;"⟩) ∈ TB := tb_of (tb_2 20 (by decide +kernel)) (by decide +kernel)
theorem tm_261 : (Cond.code ⟨"RingPipeline", "poolToJoin", "(II)LRingPipeline$Pool;"⟩ prog_1_method_20_code 3 (some (.object "RingPipeline$Pool"))) ∈ TB := tb_of (tb_2 21 (by decide +kernel)) (by decide +kernel)
theorem tm_262 : (Cond.instantiable "RingPipeline$Pool" 4) ∈ TB := tb_of (tb_2 22 (by decide +kernel)) (by decide +kernel)
theorem tm_263 : (Cond.methodLink "RingPipeline" 210 ⟨"RingPipeline$Pool", "<init>", "(I)V"⟩) ∈ TB := tb_of (tb_2 23 (by decide +kernel)) (by decide +kernel)
theorem tm_264 : (Cond.instanceMethod ⟨"RingPipeline$Pool", "<init>", "(I)V"⟩) ∈ TB := tb_of (tb_2 24 (by decide +kernel)) (by decide +kernel)
theorem tm_265 : (Cond.code ⟨"RingPipeline$Pool", "<init>", "(I)V"⟩ prog_6_method_1_code 2 none) ∈ TB := tb_of (tb_2 25 (by decide +kernel)) (by decide +kernel)
theorem tm_266 : (Cond.methodLink "RingPipeline$Pool" 3 ⟨"java/lang/Object", "<init>", "()V"⟩) ∈ TB := tb_of (tb_2 26 (by decide +kernel)) (by decide +kernel)
theorem tm_267 : (Cond.classLink "RingPipeline$Pool" 9 "RingPipeline$Consumer") ∈ TB := tb_of (tb_2 27 (by decide +kernel)) (by decide +kernel)
theorem tm_268 : (Cond.fieldLink "RingPipeline$Pool" 17 "RingPipeline$Pool" "on" "I") ∈ TB := tb_of (tb_2 28 (by decide +kernel)) (by decide +kernel)
theorem tm_269 : (Cond.fieldLink "RingPipeline" 209 "RingPipeline$Pool" "on" "I") ∈ TB := tb_of (tb_2 29 (by decide +kernel)) (by decide +kernel)
theorem tm_270 : (Cond.fieldLink "RingPipeline$Pool" 11 "RingPipeline$Pool" "workers" "[LRingPipeline$Consumer;") ∈ TB := tb_of (tb_2 30 (by decide +kernel)) (by decide +kernel)
theorem tm_271 : (Cond.fieldLink "RingPipeline$Pool" 21 "RingPipeline$Pool" "size" "I") ∈ TB := tb_of (tb_2 31 (by decide +kernel)) (by decide +kernel)
theorem tm_272 : (Cond.fieldLink "RingPipeline$Pool" 24 "RingPipeline$Pool" "next" "J") ∈ TB := tb_of (tb_2 32 (by decide +kernel)) (by decide +kernel)
theorem tm_273 : (Cond.laysFinal "RingPipeline$Pool" "RingPipeline$Pool" "on" "I") ∈ TB := tb_of (tb_2 33 (by decide +kernel)) (by decide +kernel)
theorem tm_274 : (Cond.soleField "RingPipeline$Pool" "on") ∈ TB := tb_of (tb_2 34 (by decide +kernel)) (by decide +kernel)
theorem tm_275 : (Cond.laysFinal "RingPipeline$Pool" "RingPipeline$Pool" "workers" "[LRingPipeline$Consumer;") ∈ TB := tb_of (tb_2 35 (by decide +kernel)) (by decide +kernel)
theorem tm_276 : (Cond.soleField "RingPipeline$Pool" "workers") ∈ TB := tb_of (tb_2 36 (by decide +kernel)) (by decide +kernel)
theorem tm_277 : (Cond.lays "RingPipeline$Pool" "RingPipeline$Pool" "size" "I") ∈ TB := tb_of (tb_2 37 (by decide +kernel)) (by decide +kernel)
theorem tm_278 : (Cond.soleField "RingPipeline$Pool" "size") ∈ TB := tb_of (tb_2 38 (by decide +kernel)) (by decide +kernel)
theorem tm_279 : (Cond.lays "RingPipeline$Pool" "RingPipeline$Pool" "next" "J") ∈ TB := tb_of (tb_2 39 (by decide +kernel)) (by decide +kernel)
theorem tm_280 : (Cond.soleField "RingPipeline$Pool" "next") ∈ TB := tb_of (tb_2 40 (by decide +kernel)) (by decide +kernel)
theorem tm_281 : (Cond.superclass "RingPipeline$Pool" "java/lang/Object") ∈ TB := tb_of (tb_2 41 (by decide +kernel)) (by decide +kernel)
theorem tm_282 : (Cond.methodLink "RingPipeline" 69 ⟨"RingPipeline$Consumer", "<init>", "(LRingPipeline$Handler;IILRingPipeline$Pool;)V"⟩) ∈ TB := tb_of (tb_2 42 (by decide +kernel)) (by decide +kernel)
theorem tm_283 : (Cond.instanceMethod ⟨"RingPipeline$Consumer", "<init>", "(LRingPipeline$Handler;IILRingPipeline$Pool;)V"⟩) ∈ TB := tb_of (tb_2 43 (by decide +kernel)) (by decide +kernel)
theorem tm_284 : (Cond.code ⟨"RingPipeline$Consumer", "<init>", "(LRingPipeline$Handler;IILRingPipeline$Pool;)V"⟩ prog_2_method_1_code 5 none) ∈ TB := tb_of (tb_2 44 (by decide +kernel)) (by decide +kernel)
theorem tm_285 : (Cond.methodLink "RingPipeline$Consumer" 3 ⟨"java/lang/Object", "<init>", "()V"⟩) ∈ TB := tb_of (tb_2 45 (by decide +kernel)) (by decide +kernel)
theorem tm_286 : (Cond.constantLong "RingPipeline$Consumer" 9 (-1)) ∈ TB := tb_of (tb_2 46 (by decide +kernel)) (by decide +kernel)
theorem tm_287 : (Cond.fieldLink "RingPipeline$Consumer" 23 "RingPipeline$Consumer" "handler" "LRingPipeline$Handler;") ∈ TB := tb_of (tb_2 47 (by decide +kernel)) (by decide +kernel)
theorem tm_288 : (Cond.fieldLink "RingPipeline" 134 "RingPipeline$Consumer" "handler" "LRingPipeline$Handler;") ∈ TB := tb_of (tb_2 48 (by decide +kernel)) (by decide +kernel)
theorem tm_289 : (Cond.fieldLink "RingPipeline$Consumer" 27 "RingPipeline$Consumer" "on" "I") ∈ TB := tb_of (tb_2 49 (by decide +kernel)) (by decide +kernel)
theorem tm_290 : (Cond.fieldLink "RingPipeline" 123 "RingPipeline$Consumer" "on" "I") ∈ TB := tb_of (tb_2 50 (by decide +kernel)) (by decide +kernel)
theorem tm_291 : (Cond.fieldLink "RingPipeline$Consumer" 34 "RingPipeline$Consumer" "pool" "LRingPipeline$Pool;") ∈ TB := tb_of (tb_2 51 (by decide +kernel)) (by decide +kernel)
theorem tm_292 : (Cond.fieldLink "RingPipeline" 211 "RingPipeline$Consumer" "pool" "LRingPipeline$Pool;") ∈ TB := tb_of (tb_2 52 (by decide +kernel)) (by decide +kernel)
theorem tm_293 : (Cond.fieldLink "RingPipeline$Consumer" 31 "RingPipeline$Consumer" "policy" "I") ∈ TB := tb_of (tb_2 53 (by decide +kernel)) (by decide +kernel)
theorem tm_294 : (Cond.fieldLink "RingPipeline$Consumer" 11 "RingPipeline$Consumer" "place" "J") ∈ TB := tb_of (tb_2 54 (by decide +kernel)) (by decide +kernel)
theorem tm_295 : (Cond.fieldLink "RingPipeline$Consumer" 17 "RingPipeline$Consumer" "event" "J") ∈ TB := tb_of (tb_2 55 (by decide +kernel)) (by decide +kernel)
theorem tm_296 : (Cond.fieldLink "RingPipeline$Pool" 28 "RingPipeline$Consumer" "event" "J") ∈ TB := tb_of (tb_2 56 (by decide +kernel)) (by decide +kernel)
theorem tm_297 : (Cond.fieldLink "RingPipeline$Consumer" 82 "RingPipeline$Consumer" "handled" "I") ∈ TB := tb_of (tb_2 57 (by decide +kernel)) (by decide +kernel)
theorem tm_298 : (Cond.fieldLink "RingPipeline" 188 "RingPipeline$Consumer" "handled" "I") ∈ TB := tb_of (tb_2 58 (by decide +kernel)) (by decide +kernel)
theorem tm_299 : (Cond.fieldLink "RingPipeline$Consumer" 91 "RingPipeline$Consumer" "ignored" "I") ∈ TB := tb_of (tb_2 59 (by decide +kernel)) (by decide +kernel)
theorem tm_300 : (Cond.fieldLink "RingPipeline" 191 "RingPipeline$Consumer" "ignored" "I") ∈ TB := tb_of (tb_2 60 (by decide +kernel)) (by decide +kernel)
theorem tm_301 : (Cond.fieldLink "RingPipeline$Consumer" 112 "RingPipeline$Consumer" "rewound" "I") ∈ TB := tb_of (tb_2 61 (by decide +kernel)) (by decide +kernel)
theorem tm_302 : (Cond.fieldLink "RingPipeline" 194 "RingPipeline$Consumer" "rewound" "I") ∈ TB := tb_of (tb_2 62 (by decide +kernel)) (by decide +kernel)
theorem tm_303 : (Cond.fieldLink "RingPipeline$Consumer" 59 "RingPipeline$Consumer" "halted" "Z") ∈ TB := tb_of (tb_2 63 (by decide +kernel)) (by decide +kernel)
theorem tm_304 : (Cond.fieldLink "RingPipeline" 117 "RingPipeline$Consumer" "halted" "Z") ∈ TB := tb_of (tb_2 64 (by decide +kernel)) (by decide +kernel)
theorem tm_305 : (Cond.fieldLink "RingPipeline$Consumer" 20 "RingPipeline$Consumer" "threwAt" "J") ∈ TB := tb_of (tb_2 65 (by decide +kernel)) (by decide +kernel)
theorem tm_306 : (Cond.fieldLink "RingPipeline$Consumer" 94 "RingPipeline$Consumer" "threwThere" "I") ∈ TB := tb_of (tb_2 66 (by decide +kernel)) (by decide +kernel)
theorem tm_307 : (Cond.fieldLink "RingPipeline$Consumer" 97 "RingPipeline$Consumer" "placeAtStart" "J") ∈ TB := tb_of (tb_2 67 (by decide +kernel)) (by decide +kernel)
theorem tm_308 : (Cond.fieldLink "RingPipeline$Consumer" 100 "RingPipeline$Consumer" "handledAtStart" "I") ∈ TB := tb_of (tb_2 68 (by decide +kernel)) (by decide +kernel)
theorem tm_309 : (Cond.fieldLink "RingPipeline$Consumer" 103 "RingPipeline$Consumer" "ignoredAtStart" "I") ∈ TB := tb_of (tb_2 69 (by decide +kernel)) (by decide +kernel)
theorem tm_310 : (Cond.laysFinal "RingPipeline$Consumer" "RingPipeline$Consumer" "handler" "LRingPipeline$Handler;") ∈ TB := tb_of (tb_2 70 (by decide +kernel)) (by decide +kernel)
theorem tm_311 : (Cond.soleField "RingPipeline$Consumer" "handler") ∈ TB := tb_of (tb_2 71 (by decide +kernel)) (by decide +kernel)
theorem tm_312 : (Cond.laysFinal "RingPipeline$Consumer" "RingPipeline$Consumer" "on" "I") ∈ TB := tb_of (tb_2 72 (by decide +kernel)) (by decide +kernel)
theorem tm_313 : (Cond.soleField "RingPipeline$Consumer" "on") ∈ TB := tb_of (tb_2 73 (by decide +kernel)) (by decide +kernel)
theorem tm_314 : (Cond.laysFinal "RingPipeline$Consumer" "RingPipeline$Consumer" "pool" "LRingPipeline$Pool;") ∈ TB := tb_of (tb_2 74 (by decide +kernel)) (by decide +kernel)
theorem tm_315 : (Cond.soleField "RingPipeline$Consumer" "pool") ∈ TB := tb_of (tb_2 75 (by decide +kernel)) (by decide +kernel)
theorem tm_316 : (Cond.laysFinal "RingPipeline$Consumer" "RingPipeline$Consumer" "policy" "I") ∈ TB := tb_of (tb_2 76 (by decide +kernel)) (by decide +kernel)
theorem tm_317 : (Cond.soleField "RingPipeline$Consumer" "policy") ∈ TB := tb_of (tb_2 77 (by decide +kernel)) (by decide +kernel)
theorem tm_318 : (Cond.lays "RingPipeline$Consumer" "RingPipeline$Consumer" "place" "J") ∈ TB := tb_of (tb_2 78 (by decide +kernel)) (by decide +kernel)
theorem tm_319 : (Cond.soleField "RingPipeline$Consumer" "place") ∈ TB := tb_of (tb_2 79 (by decide +kernel)) (by decide +kernel)
theorem tm_320 : (Cond.lays "RingPipeline$Consumer" "RingPipeline$Consumer" "event" "J") ∈ TB := tb_of (tb_2 80 (by decide +kernel)) (by decide +kernel)
theorem tm_321 : (Cond.soleField "RingPipeline$Consumer" "event") ∈ TB := tb_of (tb_2 81 (by decide +kernel)) (by decide +kernel)
theorem tm_322 : (Cond.lays "RingPipeline$Consumer" "RingPipeline$Consumer" "handled" "I") ∈ TB := tb_of (tb_2 82 (by decide +kernel)) (by decide +kernel)
theorem tm_323 : (Cond.soleField "RingPipeline$Consumer" "handled") ∈ TB := tb_of (tb_2 83 (by decide +kernel)) (by decide +kernel)
theorem tm_324 : (Cond.lays "RingPipeline$Consumer" "RingPipeline$Consumer" "ignored" "I") ∈ TB := tb_of (tb_2 84 (by decide +kernel)) (by decide +kernel)
theorem tm_325 : (Cond.soleField "RingPipeline$Consumer" "ignored") ∈ TB := tb_of (tb_2 85 (by decide +kernel)) (by decide +kernel)
theorem tm_326 : (Cond.lays "RingPipeline$Consumer" "RingPipeline$Consumer" "rewound" "I") ∈ TB := tb_of (tb_2 86 (by decide +kernel)) (by decide +kernel)
theorem tm_327 : (Cond.soleField "RingPipeline$Consumer" "rewound") ∈ TB := tb_of (tb_2 87 (by decide +kernel)) (by decide +kernel)
theorem tm_328 : (Cond.lays "RingPipeline$Consumer" "RingPipeline$Consumer" "halted" "Z") ∈ TB := tb_of (tb_2 88 (by decide +kernel)) (by decide +kernel)
theorem tm_329 : (Cond.soleField "RingPipeline$Consumer" "halted") ∈ TB := tb_of (tb_2 89 (by decide +kernel)) (by decide +kernel)
theorem tm_330 : (Cond.lays "RingPipeline$Consumer" "RingPipeline$Consumer" "threwAt" "J") ∈ TB := tb_of (tb_2 90 (by decide +kernel)) (by decide +kernel)
theorem tm_331 : (Cond.soleField "RingPipeline$Consumer" "threwAt") ∈ TB := tb_of (tb_2 91 (by decide +kernel)) (by decide +kernel)
theorem tm_332 : (Cond.lays "RingPipeline$Consumer" "RingPipeline$Consumer" "threwThere" "I") ∈ TB := tb_of (tb_2 92 (by decide +kernel)) (by decide +kernel)
theorem tm_333 : (Cond.soleField "RingPipeline$Consumer" "threwThere") ∈ TB := tb_of (tb_2 93 (by decide +kernel)) (by decide +kernel)
theorem tm_334 : (Cond.lays "RingPipeline$Consumer" "RingPipeline$Consumer" "placeAtStart" "J") ∈ TB := tb_of (tb_2 94 (by decide +kernel)) (by decide +kernel)
theorem tm_335 : (Cond.soleField "RingPipeline$Consumer" "placeAtStart") ∈ TB := tb_of (tb_2 95 (by decide +kernel)) (by decide +kernel)
theorem tm_336 : (Cond.lays "RingPipeline$Consumer" "RingPipeline$Consumer" "handledAtStart" "I") ∈ TB := tb_of (tb_2 96 (by decide +kernel)) (by decide +kernel)
theorem tm_337 : (Cond.soleField "RingPipeline$Consumer" "handledAtStart") ∈ TB := tb_of (tb_2 97 (by decide +kernel)) (by decide +kernel)
theorem tm_338 : (Cond.lays "RingPipeline$Consumer" "RingPipeline$Consumer" "ignoredAtStart" "I") ∈ TB := tb_of (tb_2 98 (by decide +kernel)) (by decide +kernel)
theorem tm_339 : (Cond.soleField "RingPipeline$Consumer" "ignoredAtStart") ∈ TB := tb_of (tb_2 99 (by decide +kernel)) (by decide +kernel)
theorem tm_340 : (Cond.superclass "RingPipeline$Consumer" "java/lang/Object") ∈ TB := tb_of (tb_2 100 (by decide +kernel)) (by decide +kernel)
theorem tm_341 : (Cond.methodLink "RingPipeline" 72 ⟨"RingPipeline", "add", "(LRingPipeline$Consumer;)I"⟩) ∈ TB := tb_of (tb_2 101 (by decide +kernel)) (by decide +kernel)
theorem tn_342 : (Cond.privateMethod ⟨"RingPipeline", "add", "(LRingPipeline$Consumer;)I"⟩) ∈ lw_tbl := tb_2 102 (by decide +kernel)
theorem tm_343 : (Cond.instanceMethod ⟨"RingPipeline", "add", "(LRingPipeline$Consumer;)I"⟩) ∈ TB := tb_of (tb_2 103 (by decide +kernel)) (by decide +kernel)
theorem tm_344 : (Cond.code ⟨"RingPipeline", "add", "(LRingPipeline$Consumer;)I"⟩ prog_1_method_21_code 2 (some .int)) ∈ TB := tb_of (tb_2 104 (by decide +kernel)) (by decide +kernel)
theorem tm_345 : (Cond.methodLink "RingPipeline" 215 ⟨"RingPipeline$Pool", "add", "(LRingPipeline$Consumer;)V"⟩) ∈ TB := tb_of (tb_2 105 (by decide +kernel)) (by decide +kernel)
theorem tm_346 : (Cond.instanceMethod ⟨"RingPipeline$Pool", "add", "(LRingPipeline$Consumer;)V"⟩) ∈ TB := tb_of (tb_2 106 (by decide +kernel)) (by decide +kernel)
theorem tm_347 : (Cond.selects "RingPipeline$Pool" ⟨"RingPipeline$Pool", "add", "(LRingPipeline$Consumer;)V"⟩ ⟨"RingPipeline$Pool", "add", "(LRingPipeline$Consumer;)V"⟩) ∈ TB := tb_of (tb_2 107 (by decide +kernel)) (by decide +kernel)
theorem tm_348 : (Cond.code ⟨"RingPipeline$Pool", "add", "(LRingPipeline$Consumer;)V"⟩ prog_6_method_2_code 2 none) ∈ TB := tb_of (tb_2 108 (by decide +kernel)) (by decide +kernel)
theorem tm_349 : (Cond.methodLink "RingPipelineLaw" 85 ⟨"RingPipelineLaw", "claim", "(LRingPipeline;II[J)I"⟩) ∈ TB := tb_of (tb_2 109 (by decide +kernel)) (by decide +kernel)
theorem tm_350 : (Cond.static ⟨"RingPipelineLaw", "claim", "(LRingPipeline;II[J)I"⟩) ∈ TB := tb_of (tb_2 110 (by decide +kernel)) (by decide +kernel)
theorem tm_351 : (Cond.codeWith ⟨"RingPipelineLaw", "claim", "(LRingPipeline;II[J)I"⟩ method_4_code 5 (some .int) [(0, 9, 12, 13), (0, 9, 16, 15)]) ∈ TB := tb_of (tb_2 111 (by decide +kernel)) (by decide +kernel)
theorem tm_352 : (Cond.methodLink "RingPipelineLaw" 17 ⟨"RingPipeline", "claim", "(II)J"⟩) ∈ TB := tb_of (tb_2 112 (by decide +kernel)) (by decide +kernel)
theorem tm_353 : (Cond.instanceMethod ⟨"RingPipeline", "claim", "(II)J"⟩) ∈ TB := tb_of (tb_2 113 (by decide +kernel)) (by decide +kernel)
theorem tm_354 : (Cond.selects "RingPipeline" ⟨"RingPipeline", "claim", "(II)J"⟩ ⟨"RingPipeline", "claim", "(II)J"⟩) ∈ TB := tb_of (tb_2 114 (by decide +kernel)) (by decide +kernel)
theorem tm_355 : (Cond.code ⟨"RingPipeline", "claim", "(II)J"⟩ prog_1_method_3_code 3 (some .long)) ∈ TB := tb_of (tb_2 115 (by decide +kernel)) (by decide +kernel)
theorem tm_356 : (Cond.methodLink "RingPipeline" 76 ⟨"RingPipeline$Ring", "slots", "()I"⟩) ∈ TB := tb_of (tb_2 116 (by decide +kernel)) (by decide +kernel)
theorem tm_357 : (Cond.instanceMethod ⟨"RingPipeline$Ring", "slots", "()I"⟩) ∈ TB := tb_of (tb_2 117 (by decide +kernel)) (by decide +kernel)
theorem tm_358 : (Cond.selects "RingPipeline$Ring" ⟨"RingPipeline$Ring", "slots", "()I"⟩ ⟨"RingPipeline$Ring", "slots", "()I"⟩) ∈ TB := tb_of (tb_2 118 (by decide +kernel)) (by decide +kernel)
theorem tm_359 : (Cond.code ⟨"RingPipeline$Ring", "slots", "()I"⟩ prog_7_method_2_code 1 (some .int)) ∈ TB := tb_of (tb_2 119 (by decide +kernel)) (by decide +kernel)
theorem tn_360 : (Cond.stringRef "RingPipeline" 80 "no such producer, or not so many slots") ∈ lw_tbl := tb_2 120 (by decide +kernel)
theorem tm_361 : (Cond.methodLink "RingPipeline" 82 ⟨"RingPipeline", "lastInLine", "()I"⟩) ∈ TB := tb_of (tb_2 121 (by decide +kernel)) (by decide +kernel)
theorem tn_362 : (Cond.privateMethod ⟨"RingPipeline", "lastInLine", "()I"⟩) ∈ lw_tbl := tb_2 122 (by decide +kernel)
theorem tm_363 : (Cond.instanceMethod ⟨"RingPipeline", "lastInLine", "()I"⟩) ∈ TB := tb_of (tb_2 123 (by decide +kernel)) (by decide +kernel)
theorem tm_364 : (Cond.code ⟨"RingPipeline", "lastInLine", "()I"⟩ prog_1_method_23_code 1 (some .int)) ∈ TB := tb_of (tb_2 124 (by decide +kernel)) (by decide +kernel)
theorem tm_365 : (Cond.methodLink "RingPipeline" 85 ⟨"RingPipeline", "leastPlace", "(I)J"⟩) ∈ TB := tb_of (tb_2 125 (by decide +kernel)) (by decide +kernel)
theorem tn_366 : (Cond.privateMethod ⟨"RingPipeline", "leastPlace", "(I)J"⟩) ∈ lw_tbl := tb_2 126 (by decide +kernel)
theorem tm_367 : (Cond.instanceMethod ⟨"RingPipeline", "leastPlace", "(I)J"⟩) ∈ TB := tb_of (tb_2 127 (by decide +kernel)) (by decide +kernel)
theorem tm_368 : (Cond.code ⟨"RingPipeline", "leastPlace", "(I)J"⟩ prog_1_method_24_code 6 (some .long)) ∈ TB := tb_of (tb_2 128 (by decide +kernel)) (by decide +kernel)
theorem tm_369 : (Cond.methodLink "RingPipeline" 130 ⟨"RingPipeline$Consumer", "reached", "()J"⟩) ∈ TB := tb_of (tb_2 129 (by decide +kernel)) (by decide +kernel)
theorem tm_370 : (Cond.instanceMethod ⟨"RingPipeline$Consumer", "reached", "()J"⟩) ∈ TB := tb_of (tb_2 130 (by decide +kernel)) (by decide +kernel)
theorem tm_371 : (Cond.selects "RingPipeline$Consumer" ⟨"RingPipeline$Consumer", "reached", "()J"⟩ ⟨"RingPipeline$Consumer", "reached", "()J"⟩) ∈ TB := tb_of (tb_2 131 (by decide +kernel)) (by decide +kernel)
theorem tm_372 : (Cond.code ⟨"RingPipeline$Consumer", "reached", "()J"⟩ prog_2_method_2_code 1 (some .long)) ∈ TB := tb_of (tb_2 132 (by decide +kernel)) (by decide +kernel)
theorem tm_373 : (Cond.methodLink "RingPipeline$Consumer" 38 ⟨"RingPipeline$Pool", "reached", "()J"⟩) ∈ TB := tb_of (tb_2 133 (by decide +kernel)) (by decide +kernel)
theorem tm_374 : (Cond.instanceMethod ⟨"RingPipeline$Pool", "reached", "()J"⟩) ∈ TB := tb_of (tb_2 134 (by decide +kernel)) (by decide +kernel)
theorem tm_375 : (Cond.selects "RingPipeline$Pool" ⟨"RingPipeline$Pool", "reached", "()J"⟩ ⟨"RingPipeline$Pool", "reached", "()J"⟩) ∈ TB := tb_of (tb_2 135 (by decide +kernel)) (by decide +kernel)
theorem tm_376 : (Cond.code ⟨"RingPipeline$Pool", "reached", "()J"⟩ prog_6_method_4_code 4 (some .long)) ∈ TB := tb_of (tb_2 136 (by decide +kernel)) (by decide +kernel)
theorem tm_377 : (Cond.constantLong "RingPipeline$Pool" 31 (-1)) ∈ TB := tb_of (tb_2 137 (by decide +kernel)) (by decide +kernel)
theorem tm_378 : (Cond.methodLink "RingPipeline$Pool" 33 ⟨"java/lang/Math", "min", "(JJ)J"⟩) ∈ TB := tb_of (tb_2 138 (by decide +kernel)) (by decide +kernel)
theorem tm_379 : (Cond.static ⟨"java/lang/Math", "min", "(JJ)J"⟩) ∈ TB := tb_of (tb_2 139 (by decide +kernel)) (by decide +kernel)
theorem tm_380 : (Cond.code ⟨"java/lang/Math", "min", "(JJ)J"⟩ prog_16_method_70_code 4 (some .long)) ∈ TB := tb_of (tb_2 140 (by decide +kernel)) (by decide +kernel)
theorem tm_381 : (Cond.methodLink "RingPipeline" 227 ⟨"java/lang/Math", "min", "(JJ)J"⟩) ∈ TB := tb_of (tb_2 141 (by decide +kernel)) (by decide +kernel)
theorem tn_382 : (Cond.stringRef "RingPipeline" 89 "no room") ∈ lw_tbl := tb_2 142 (by decide +kernel)
theorem tm_383 : (Cond.methodLink "RingPipeline" 91 ⟨"RingPipeline$Ring", "reserve", "(II)J"⟩) ∈ TB := tb_of (tb_2 143 (by decide +kernel)) (by decide +kernel)
theorem tm_384 : (Cond.instanceMethod ⟨"RingPipeline$Ring", "reserve", "(II)J"⟩) ∈ TB := tb_of (tb_2 144 (by decide +kernel)) (by decide +kernel)
theorem tm_385 : (Cond.selects "RingPipeline$Ring" ⟨"RingPipeline$Ring", "reserve", "(II)J"⟩ ⟨"RingPipeline$Ring", "reserve", "(II)J"⟩) ∈ TB := tb_of (tb_2 145 (by decide +kernel)) (by decide +kernel)
theorem tm_386 : (Cond.code ⟨"RingPipeline$Ring", "reserve", "(II)J"⟩ prog_7_method_4_code 6 (some .long)) ∈ TB := tb_of (tb_2 146 (by decide +kernel)) (by decide +kernel)
theorem tm_387 : (Cond.methodLink "RingPipeline$Ring" 31 ⟨"RingPipeline$Ring", "slotOf", "(J)I"⟩) ∈ TB := tb_of (tb_2 147 (by decide +kernel)) (by decide +kernel)
theorem tm_388 : (Cond.instanceMethod ⟨"RingPipeline$Ring", "slotOf", "(J)I"⟩) ∈ TB := tb_of (tb_2 148 (by decide +kernel)) (by decide +kernel)
theorem tm_389 : (Cond.selects "RingPipeline$Ring" ⟨"RingPipeline$Ring", "slotOf", "(J)I"⟩ ⟨"RingPipeline$Ring", "slotOf", "(J)I"⟩) ∈ TB := tb_of (tb_2 149 (by decide +kernel)) (by decide +kernel)
theorem tm_390 : (Cond.code ⟨"RingPipeline$Ring", "slotOf", "(J)I"⟩ prog_7_method_3_code 3 (some .int)) ∈ TB := tb_of (tb_2 150 (by decide +kernel)) (by decide +kernel)
theorem tm_391 : (Cond.methodLink "RingPipelineLaw" 91 ⟨"RingPipelineLaw", "publish", "(LRingPipeline;IJJ[J)I"⟩) ∈ TB := tb_of (tb_2 151 (by decide +kernel)) (by decide +kernel)
theorem tm_392 : (Cond.static ⟨"RingPipelineLaw", "publish", "(LRingPipeline;IJJ[J)I"⟩) ∈ TB := tb_of (tb_2 152 (by decide +kernel)) (by decide +kernel)
theorem tm_393 : (Cond.codeWith ⟨"RingPipelineLaw", "publish", "(LRingPipeline;IJJ[J)I"⟩ method_5_code 8 (some .int) [(0, 20, 23, 25)]) ∈ TB := tb_of (tb_2 153 (by decide +kernel)) (by decide +kernel)
theorem tm_394 : (Cond.classLink "RingPipelineLaw" 25 "java/util/NoSuchElementException") ∈ TB := tb_of (tb_2 154 (by decide +kernel)) (by decide +kernel)
theorem tm_395 : (Cond.methodLink "RingPipelineLaw" 21 ⟨"RingPipeline", "publish", "(IJJ)Z"⟩) ∈ TB := tb_of (tb_2 155 (by decide +kernel)) (by decide +kernel)
theorem tm_396 : (Cond.instanceMethod ⟨"RingPipeline", "publish", "(IJJ)Z"⟩) ∈ TB := tb_of (tb_2 156 (by decide +kernel)) (by decide +kernel)
theorem tm_397 : (Cond.selects "RingPipeline" ⟨"RingPipeline", "publish", "(IJJ)Z"⟩ ⟨"RingPipeline", "publish", "(IJJ)Z"⟩) ∈ TB := tb_of (tb_2 157 (by decide +kernel)) (by decide +kernel)
theorem tm_398 : (Cond.code ⟨"RingPipeline", "publish", "(IJJ)Z"⟩ prog_1_method_4_code 6 (some .boolean)) ∈ TB := tb_of (tb_2 158 (by decide +kernel)) (by decide +kernel)
theorem tm_399 : (Cond.methodLink "RingPipeline" 95 ⟨"RingPipeline$Ring", "isOpen", "(IJ)Z"⟩) ∈ TB := tb_of (tb_2 159 (by decide +kernel)) (by decide +kernel)
theorem tm_400 : (Cond.instanceMethod ⟨"RingPipeline$Ring", "isOpen", "(IJ)Z"⟩) ∈ TB := tb_of (tb_2 160 (by decide +kernel)) (by decide +kernel)
theorem tm_401 : (Cond.selects "RingPipeline$Ring" ⟨"RingPipeline$Ring", "isOpen", "(IJ)Z"⟩ ⟨"RingPipeline$Ring", "isOpen", "(IJ)Z"⟩) ∈ TB := tb_of (tb_2 161 (by decide +kernel)) (by decide +kernel)
theorem tm_402 : (Cond.code ⟨"RingPipeline$Ring", "isOpen", "(IJ)Z"⟩ prog_7_method_5_code 5 (some .boolean)) ∈ TB := tb_of (tb_2 162 (by decide +kernel)) (by decide +kernel)
theorem tm_403 : (Cond.classLink "RingPipeline" 99 "java/util/NoSuchElementException") ∈ TB := tb_of (tb_2 163 (by decide +kernel)) (by decide +kernel)
theorem tm_404 : (Cond.instantiable "java/util/NoSuchElementException" 6) ∈ TB := tb_of (tb_2 164 (by decide +kernel)) (by decide +kernel)
theorem tn_405 : (Cond.castable "java/util/NoSuchElementException" "java/util/NoSuchElementException") ∈ lw_tbl := tb_2 165 (by decide +kernel)
theorem tm_406 : (Cond.selects "java/util/NoSuchElementException" ⟨"java/lang/Throwable", "fillInStackTrace", "(I)Ljava/lang/Throwable;"⟩ ⟨"java/lang/Throwable", "fillInStackTrace", "(I)Ljava/lang/Throwable;"⟩) ∈ TB := tb_of (tb_2 166 (by decide +kernel)) (by decide +kernel)
theorem tm_407 : (Cond.lays "java/util/NoSuchElementException" "java/lang/Throwable" "cause" "Ljava/lang/Throwable;") ∈ TB := tb_of (tb_2 167 (by decide +kernel)) (by decide +kernel)
theorem tm_408 : (Cond.lays "java/util/NoSuchElementException" "java/lang/Throwable" "stackTrace" "[Ljava/lang/StackTraceElement;") ∈ TB := tb_of (tb_2 168 (by decide +kernel)) (by decide +kernel)
theorem tm_409 : (Cond.lays "java/util/NoSuchElementException" "java/lang/Throwable" "suppressedExceptions" "Ljava/util/List;") ∈ TB := tb_of (tb_2 169 (by decide +kernel)) (by decide +kernel)
theorem tm_410 : (Cond.lays "java/util/NoSuchElementException" "java/lang/Throwable" "detailMessage" "Ljava/lang/String;") ∈ TB := tb_of (tb_2 170 (by decide +kernel)) (by decide +kernel)
theorem tm_411 : (Cond.lays "java/util/NoSuchElementException" "java/lang/Throwable" "backtrace" "Ljava/lang/Object;") ∈ TB := tb_of (tb_2 171 (by decide +kernel)) (by decide +kernel)
theorem tn_412 : (Cond.stringRef "RingPipeline" 101 "not claimed by this producer, or published") ∈ lw_tbl := tb_2 172 (by decide +kernel)
theorem tm_413 : (Cond.methodLink "RingPipeline" 103 ⟨"java/util/NoSuchElementException", "<init>", "(Ljava/lang/String;)V"⟩) ∈ TB := tb_of (tb_2 173 (by decide +kernel)) (by decide +kernel)
theorem tm_414 : (Cond.instanceMethod ⟨"java/util/NoSuchElementException", "<init>", "(Ljava/lang/String;)V"⟩) ∈ TB := tb_of (tb_2 174 (by decide +kernel)) (by decide +kernel)
theorem tm_415 : (Cond.code ⟨"java/util/NoSuchElementException", "<init>", "(Ljava/lang/String;)V"⟩ prog_20_method_4_code 2 none) ∈ TB := tb_of (tb_2 175 (by decide +kernel)) (by decide +kernel)
theorem tm_416 : (Cond.methodLink "java/util/NoSuchElementException" 13 ⟨"java/lang/RuntimeException", "<init>", "(Ljava/lang/String;)V"⟩) ∈ TB := tb_of (tb_2 176 (by decide +kernel)) (by decide +kernel)
theorem tm_417 : (Cond.lays "java/util/NoSuchElementException" "java/lang/Throwable" "depth" "I") ∈ TB := tb_of (tb_2 177 (by decide +kernel)) (by decide +kernel)
theorem tm_418 : (Cond.superclass "java/util/NoSuchElementException" "java/lang/RuntimeException") ∈ TB := tb_of (tb_2 178 (by decide +kernel)) (by decide +kernel)
theorem tm_419 : (Cond.methodLink "RingPipeline" 104 ⟨"RingPipeline$Ring", "write", "(JJ)V"⟩) ∈ TB := tb_of (tb_2 179 (by decide +kernel)) (by decide +kernel)
theorem tm_420 : (Cond.instanceMethod ⟨"RingPipeline$Ring", "write", "(JJ)V"⟩) ∈ TB := tb_of (tb_2 180 (by decide +kernel)) (by decide +kernel)
theorem tm_421 : (Cond.selects "RingPipeline$Ring" ⟨"RingPipeline$Ring", "write", "(JJ)V"⟩ ⟨"RingPipeline$Ring", "write", "(JJ)V"⟩) ∈ TB := tb_of (tb_2 181 (by decide +kernel)) (by decide +kernel)
theorem tm_422 : (Cond.code ⟨"RingPipeline$Ring", "write", "(JJ)V"⟩ prog_7_method_6_code 7 none) ∈ TB := tb_of (tb_2 182 (by decide +kernel)) (by decide +kernel)
theorem tm_423 : (Cond.methodLink "RingPipelineLaw" 95 ⟨"RingPipelineLaw", "run", "(LRingPipeline;II[J)I"⟩) ∈ TB := tb_of (tb_2 183 (by decide +kernel)) (by decide +kernel)
theorem tm_424 : (Cond.static ⟨"RingPipelineLaw", "run", "(LRingPipeline;II[J)I"⟩) ∈ TB := tb_of (tb_2 184 (by decide +kernel)) (by decide +kernel)
theorem tm_425 : (Cond.codeWith ⟨"RingPipelineLaw", "run", "(LRingPipeline;II[J)I"⟩ method_6_code 5 (some .int) [(0, 10, 13, 13), (0, 10, 17, 15)]) ∈ TB := tb_of (tb_2 185 (by decide +kernel)) (by decide +kernel)
theorem tm_426 : (Cond.methodLink "RingPipelineLaw" 27 ⟨"RingPipeline", "run", "(II)I"⟩) ∈ TB := tb_of (tb_2 186 (by decide +kernel)) (by decide +kernel)
theorem tm_427 : (Cond.instanceMethod ⟨"RingPipeline", "run", "(II)I"⟩) ∈ TB := tb_of (tb_2 187 (by decide +kernel)) (by decide +kernel)
theorem tm_428 : (Cond.selects "RingPipeline" ⟨"RingPipeline", "run", "(II)I"⟩ ⟨"RingPipeline", "run", "(II)I"⟩) ∈ TB := tb_of (tb_2 188 (by decide +kernel)) (by decide +kernel)
theorem tm_429 : (Cond.code ⟨"RingPipeline", "run", "(II)I"⟩ prog_1_method_5_code 4 (some .int)) ∈ TB := tb_of (tb_2 189 (by decide +kernel)) (by decide +kernel)
theorem tm_430 : (Cond.methodLink "RingPipeline" 111 ⟨"RingPipeline", "existing", "(I)LRingPipeline$Consumer;"⟩) ∈ TB := tb_of (tb_2 190 (by decide +kernel)) (by decide +kernel)
theorem tn_431 : (Cond.privateMethod ⟨"RingPipeline", "existing", "(I)LRingPipeline$Consumer;"⟩) ∈ lw_tbl := tb_2 191 (by decide +kernel)
theorem tm_432 : (Cond.instanceMethod ⟨"RingPipeline", "existing", "(I)LRingPipeline$Consumer;"⟩) ∈ TB := tb_of (tb_2 192 (by decide +kernel)) (by decide +kernel)
theorem tm_433 : (Cond.code ⟨"RingPipeline", "existing", "(I)LRingPipeline$Consumer;"⟩ prog_1_method_17_code 3 (some (.object "RingPipeline$Consumer"))) ∈ TB := tb_of (tb_2 193 (by decide +kernel)) (by decide +kernel)
theorem tn_434 : (Cond.stringRef "RingPipeline" 205 "no such consumer") ∈ lw_tbl := tb_2 194 (by decide +kernel)
theorem tn_435 : (Cond.stringRef "RingPipeline" 115 "m is not 1 .. 20") ∈ lw_tbl := tb_2 195 (by decide +kernel)
theorem tn_436 : (Cond.stringRef "RingPipeline" 121 "it halted before") ∈ lw_tbl := tb_2 196 (by decide +kernel)
theorem tm_437 : (Cond.methodLink "RingPipeline" 126 ⟨"RingPipeline$Consumer", "advance", "(LRingPipeline$Ring;JI)I"⟩) ∈ TB := tb_of (tb_2 197 (by decide +kernel)) (by decide +kernel)
theorem tm_438 : (Cond.instanceMethod ⟨"RingPipeline$Consumer", "advance", "(LRingPipeline$Ring;JI)I"⟩) ∈ TB := tb_of (tb_2 198 (by decide +kernel)) (by decide +kernel)
theorem tm_439 : (Cond.selects "RingPipeline$Consumer" ⟨"RingPipeline$Consumer", "advance", "(LRingPipeline$Ring;JI)I"⟩ ⟨"RingPipeline$Consumer", "advance", "(LRingPipeline$Ring;JI)I"⟩) ∈ TB := tb_of (tb_2 199 (by decide +kernel)) (by decide +kernel)
theorem tm_440 : (Cond.code ⟨"RingPipeline$Consumer", "advance", "(LRingPipeline$Ring;JI)I"⟩ prog_2_method_3_code 5 (some .int)) ∈ TB := tb_of (tb_2 200 (by decide +kernel)) (by decide +kernel)
theorem tm_441 : (Cond.methodLink "RingPipeline$Consumer" 44 ⟨"RingPipeline$Consumer", "goThrough", "(LRingPipeline$Ring;JI)I"⟩) ∈ TB := tb_of (tb_2 201 (by decide +kernel)) (by decide +kernel)
theorem tn_442 : (Cond.privateMethod ⟨"RingPipeline$Consumer", "goThrough", "(LRingPipeline$Ring;JI)I"⟩) ∈ lw_tbl := tb_2 202 (by decide +kernel)
theorem tm_443 : (Cond.instanceMethod ⟨"RingPipeline$Consumer", "goThrough", "(LRingPipeline$Ring;JI)I"⟩) ∈ TB := tb_of (tb_2 203 (by decide +kernel)) (by decide +kernel)
theorem tm_444 : (Cond.code ⟨"RingPipeline$Consumer", "goThrough", "(LRingPipeline$Ring;JI)I"⟩ prog_2_method_4_code 6 (some .int)) ∈ TB := tb_of (tb_2 204 (by decide +kernel)) (by decide +kernel)
theorem tm_445 : (Cond.methodLink "RingPipeline$Consumer" 52 ⟨"RingPipeline$Consumer", "startBatch", "()V"⟩) ∈ TB := tb_of (tb_2 205 (by decide +kernel)) (by decide +kernel)
theorem tn_446 : (Cond.privateMethod ⟨"RingPipeline$Consumer", "startBatch", "()V"⟩) ∈ lw_tbl := tb_2 206 (by decide +kernel)
theorem tm_447 : (Cond.instanceMethod ⟨"RingPipeline$Consumer", "startBatch", "()V"⟩) ∈ TB := tb_of (tb_2 207 (by decide +kernel)) (by decide +kernel)
theorem tm_448 : (Cond.code ⟨"RingPipeline$Consumer", "startBatch", "()V"⟩ prog_2_method_8_code 1 none) ∈ TB := tb_of (tb_2 208 (by decide +kernel)) (by decide +kernel)
theorem tm_449 : (Cond.methodLink "RingPipeline$Consumer" 106 ⟨"RingPipeline$Handler", "keep", "()V"⟩) ∈ TB := tb_of (tb_2 209 (by decide +kernel)) (by decide +kernel)
theorem tn_450 : (Cond.declares ⟨"RingPipeline$Handler", "keep", "()V"⟩) ∈ lw_tbl := tb_2 210 (by decide +kernel)
theorem tm_451 : (Cond.sameMethod "RingPipeline$Handler" "RingPipeline$Handler" "keep" "()V") ∈ TB := tb_of (tb_2 211 (by decide +kernel)) (by decide +kernel)
theorem tm_452 : (Cond.selects "RingPipeline$Journal" ⟨"RingPipeline$Handler", "keep", "()V"⟩ ⟨"RingPipeline$Journal", "keep", "()V"⟩) ∈ TB := tb_of (tb_2 212 (by decide +kernel)) (by decide +kernel)
theorem tm_453 : (Cond.instanceMethod ⟨"RingPipeline$Journal", "keep", "()V"⟩) ∈ TB := tb_of (tb_2 213 (by decide +kernel)) (by decide +kernel)
theorem tm_454 : (Cond.code ⟨"RingPipeline$Journal", "keep", "()V"⟩ prog_4_method_3_code 1 none) ∈ TB := tb_of (tb_2 214 (by decide +kernel)) (by decide +kernel)
theorem tm_455 : (Cond.selects "RingPipeline$Mean" ⟨"RingPipeline$Handler", "keep", "()V"⟩ ⟨"RingPipeline$Mean", "keep", "()V"⟩) ∈ TB := tb_of (tb_2 215 (by decide +kernel)) (by decide +kernel)
theorem tm_456 : (Cond.instanceMethod ⟨"RingPipeline$Mean", "keep", "()V"⟩) ∈ TB := tb_of (tb_2 216 (by decide +kernel)) (by decide +kernel)
theorem tm_457 : (Cond.code ⟨"RingPipeline$Mean", "keep", "()V"⟩ prog_5_method_3_code 1 none) ∈ TB := tb_of (tb_2 217 (by decide +kernel)) (by decide +kernel)
theorem tm_458 : (Cond.selects "RingPipeline$Smooth" ⟨"RingPipeline$Handler", "keep", "()V"⟩ ⟨"RingPipeline$Smooth", "keep", "()V"⟩) ∈ TB := tb_of (tb_2 218 (by decide +kernel)) (by decide +kernel)
theorem tm_459 : (Cond.instanceMethod ⟨"RingPipeline$Smooth", "keep", "()V"⟩) ∈ TB := tb_of (tb_2 219 (by decide +kernel)) (by decide +kernel)
theorem tm_460 : (Cond.code ⟨"RingPipeline$Smooth", "keep", "()V"⟩ prog_8_method_3_code 1 none) ∈ TB := tb_of (tb_2 220 (by decide +kernel)) (by decide +kernel)
theorem tm_461 : (Cond.selects "RingPipeline$Sum" ⟨"RingPipeline$Handler", "keep", "()V"⟩ ⟨"RingPipeline$Sum", "keep", "()V"⟩) ∈ TB := tb_of (tb_2 221 (by decide +kernel)) (by decide +kernel)
theorem tm_462 : (Cond.instanceMethod ⟨"RingPipeline$Sum", "keep", "()V"⟩) ∈ TB := tb_of (tb_2 222 (by decide +kernel)) (by decide +kernel)
theorem tm_463 : (Cond.code ⟨"RingPipeline$Sum", "keep", "()V"⟩ prog_9_method_3_code 1 none) ∈ TB := tb_of (tb_2 223 (by decide +kernel)) (by decide +kernel)
theorem tm_464 : (Cond.methodLink "RingPipeline$Consumer" 55 ⟨"RingPipeline$Consumer", "passes", "(LRingPipeline$Ring;J)Z"⟩) ∈ TB := tb_of (tb_2 224 (by decide +kernel)) (by decide +kernel)
theorem tn_465 : (Cond.privateMethod ⟨"RingPipeline$Consumer", "passes", "(LRingPipeline$Ring;J)Z"⟩) ∈ lw_tbl := tb_2 225 (by decide +kernel)
theorem tm_466 : (Cond.instanceMethod ⟨"RingPipeline$Consumer", "passes", "(LRingPipeline$Ring;J)Z"⟩) ∈ TB := tb_of (tb_2 226 (by decide +kernel)) (by decide +kernel)
theorem tm_467 : (Cond.code ⟨"RingPipeline$Consumer", "passes", "(LRingPipeline$Ring;J)Z"⟩ prog_2_method_6_code 4 (some .boolean)) ∈ TB := tb_of (tb_2 227 (by decide +kernel)) (by decide +kernel)
theorem tm_468 : (Cond.methodLink "RingPipeline$Consumer" 66 ⟨"RingPipeline$Ring", "valueOf", "(J)J"⟩) ∈ TB := tb_of (tb_2 228 (by decide +kernel)) (by decide +kernel)
theorem tm_469 : (Cond.instanceMethod ⟨"RingPipeline$Ring", "valueOf", "(J)J"⟩) ∈ TB := tb_of (tb_2 229 (by decide +kernel)) (by decide +kernel)
theorem tm_470 : (Cond.selects "RingPipeline$Ring" ⟨"RingPipeline$Ring", "valueOf", "(J)J"⟩ ⟨"RingPipeline$Ring", "valueOf", "(J)J"⟩) ∈ TB := tb_of (tb_2 230 (by decide +kernel)) (by decide +kernel)
theorem tm_471 : (Cond.code ⟨"RingPipeline$Ring", "valueOf", "(J)J"⟩ prog_7_method_8_code 3 (some .long)) ∈ TB := tb_of (tb_2 231 (by decide +kernel)) (by decide +kernel)
theorem tm_472 : (Cond.methodLink "RingPipeline$Consumer" 72 ⟨"RingPipeline$Ring", "producerOf", "(J)I"⟩) ∈ TB := tb_of (tb_2 232 (by decide +kernel)) (by decide +kernel)
theorem tm_473 : (Cond.instanceMethod ⟨"RingPipeline$Ring", "producerOf", "(J)I"⟩) ∈ TB := tb_of (tb_2 233 (by decide +kernel)) (by decide +kernel)
theorem tm_474 : (Cond.selects "RingPipeline$Ring" ⟨"RingPipeline$Ring", "producerOf", "(J)I"⟩ ⟨"RingPipeline$Ring", "producerOf", "(J)I"⟩) ∈ TB := tb_of (tb_2 234 (by decide +kernel)) (by decide +kernel)
theorem tm_475 : (Cond.code ⟨"RingPipeline$Ring", "producerOf", "(J)I"⟩ prog_7_method_9_code 3 (some .int)) ∈ TB := tb_of (tb_2 235 (by decide +kernel)) (by decide +kernel)
theorem tm_476 : (Cond.methodLink "RingPipeline$Consumer" 76 ⟨"RingPipeline$Handler", "handles", "(JJI)Z"⟩) ∈ TB := tb_of (tb_2 236 (by decide +kernel)) (by decide +kernel)
theorem tn_477 : (Cond.declares ⟨"RingPipeline$Handler", "handles", "(JJI)Z"⟩) ∈ lw_tbl := tb_2 237 (by decide +kernel)
theorem tm_478 : (Cond.sameMethod "RingPipeline$Handler" "RingPipeline$Handler" "handles" "(JJI)Z") ∈ TB := tb_of (tb_2 238 (by decide +kernel)) (by decide +kernel)
theorem tm_479 : (Cond.selects "RingPipeline$Journal" ⟨"RingPipeline$Handler", "handles", "(JJI)Z"⟩ ⟨"RingPipeline$Journal", "handles", "(JJI)Z"⟩) ∈ TB := tb_of (tb_2 239 (by decide +kernel)) (by decide +kernel)
theorem tm_480 : (Cond.instanceMethod ⟨"RingPipeline$Journal", "handles", "(JJI)Z"⟩) ∈ TB := tb_of (tb_3 0 (by decide +kernel)) (by decide +kernel)
theorem tm_481 : (Cond.code ⟨"RingPipeline$Journal", "handles", "(JJI)Z"⟩ prog_4_method_2_code 8 (some .boolean)) ∈ TB := tb_of (tb_3 1 (by decide +kernel)) (by decide +kernel)
theorem tm_482 : (Cond.constantLong "RingPipeline$Journal" 17 13) ∈ TB := tb_of (tb_3 2 (by decide +kernel)) (by decide +kernel)
theorem tm_483 : (Cond.methodLink "RingPipeline$Journal" 19 ⟨"RingPipeline$Journal", "append", "(J)V"⟩) ∈ TB := tb_of (tb_3 3 (by decide +kernel)) (by decide +kernel)
theorem tn_484 : (Cond.privateMethod ⟨"RingPipeline$Journal", "append", "(J)V"⟩) ∈ lw_tbl := tb_3 4 (by decide +kernel)
theorem tm_485 : (Cond.instanceMethod ⟨"RingPipeline$Journal", "append", "(J)V"⟩) ∈ TB := tb_of (tb_3 5 (by decide +kernel)) (by decide +kernel)
theorem tm_486 : (Cond.code ⟨"RingPipeline$Journal", "append", "(J)V"⟩ prog_4_method_9_code 3 none) ∈ TB := tb_of (tb_3 6 (by decide +kernel)) (by decide +kernel)
theorem tm_487 : (Cond.methodLink "RingPipeline$Journal" 23 ⟨"RingPipeline$Journal", "sumOfRecordAt", "(I)I"⟩) ∈ TB := tb_of (tb_3 7 (by decide +kernel)) (by decide +kernel)
theorem tn_488 : (Cond.privateMethod ⟨"RingPipeline$Journal", "sumOfRecordAt", "(I)I"⟩) ∈ lw_tbl := tb_3 8 (by decide +kernel)
theorem tm_489 : (Cond.instanceMethod ⟨"RingPipeline$Journal", "sumOfRecordAt", "(I)I"⟩) ∈ TB := tb_of (tb_3 9 (by decide +kernel)) (by decide +kernel)
theorem tm_490 : (Cond.code ⟨"RingPipeline$Journal", "sumOfRecordAt", "(I)I"⟩ prog_4_method_11_code 4 (some .int)) ∈ TB := tb_of (tb_3 10 (by decide +kernel)) (by decide +kernel)
theorem tm_491 : (Cond.methodLink "RingPipeline$Journal" 38 ⟨"RingPipeline$Journal", "byteAt", "(I)I"⟩) ∈ TB := tb_of (tb_3 11 (by decide +kernel)) (by decide +kernel)
theorem tm_492 : (Cond.instanceMethod ⟨"RingPipeline$Journal", "byteAt", "(I)I"⟩) ∈ TB := tb_of (tb_3 12 (by decide +kernel)) (by decide +kernel)
theorem tm_493 : (Cond.selects "RingPipeline$Journal" ⟨"RingPipeline$Journal", "byteAt", "(I)I"⟩ ⟨"RingPipeline$Journal", "byteAt", "(I)I"⟩) ∈ TB := tb_of (tb_3 13 (by decide +kernel)) (by decide +kernel)
theorem tm_494 : (Cond.code ⟨"RingPipeline$Journal", "byteAt", "(I)I"⟩ prog_4_method_6_code 2 (some .int)) ∈ TB := tb_of (tb_3 14 (by decide +kernel)) (by decide +kernel)
theorem tm_495 : (Cond.selects "RingPipeline$Mean" ⟨"RingPipeline$Handler", "handles", "(JJI)Z"⟩ ⟨"RingPipeline$Mean", "handles", "(JJI)Z"⟩) ∈ TB := tb_of (tb_3 15 (by decide +kernel)) (by decide +kernel)
theorem tm_496 : (Cond.instanceMethod ⟨"RingPipeline$Mean", "handles", "(JJI)Z"⟩) ∈ TB := tb_of (tb_3 16 (by decide +kernel)) (by decide +kernel)
theorem tm_497 : (Cond.code ⟨"RingPipeline$Mean", "handles", "(JJI)Z"⟩ prog_5_method_2_code 6 (some .boolean)) ∈ TB := tb_of (tb_3 17 (by decide +kernel)) (by decide +kernel)
theorem tm_498 : (Cond.selects "RingPipeline$Smooth" ⟨"RingPipeline$Handler", "handles", "(JJI)Z"⟩ ⟨"RingPipeline$Smooth", "handles", "(JJI)Z"⟩) ∈ TB := tb_of (tb_3 18 (by decide +kernel)) (by decide +kernel)
theorem tm_499 : (Cond.instanceMethod ⟨"RingPipeline$Smooth", "handles", "(JJI)Z"⟩) ∈ TB := tb_of (tb_3 19 (by decide +kernel)) (by decide +kernel)
theorem tm_500 : (Cond.code ⟨"RingPipeline$Smooth", "handles", "(JJI)Z"⟩ prog_8_method_2_code 6 (some .boolean)) ∈ TB := tb_of (tb_3 20 (by decide +kernel)) (by decide +kernel)
theorem tm_501 : (Cond.constantFloat "RingPipeline$Smooth" 13 1048576000) ∈ TB := tb_of (tb_3 21 (by decide +kernel)) (by decide +kernel)
theorem tm_502 : (Cond.selects "RingPipeline$Sum" ⟨"RingPipeline$Handler", "handles", "(JJI)Z"⟩ ⟨"RingPipeline$Sum", "handles", "(JJI)Z"⟩) ∈ TB := tb_of (tb_3 22 (by decide +kernel)) (by decide +kernel)
theorem tm_503 : (Cond.instanceMethod ⟨"RingPipeline$Sum", "handles", "(JJI)Z"⟩) ∈ TB := tb_of (tb_3 23 (by decide +kernel)) (by decide +kernel)
theorem tm_504 : (Cond.code ⟨"RingPipeline$Sum", "handles", "(JJI)Z"⟩ prog_9_method_2_code 6 (some .boolean)) ∈ TB := tb_of (tb_3 24 (by decide +kernel)) (by decide +kernel)
theorem tm_505 : (Cond.constantLong "RingPipeline$Sum" 9 (-1)) ∈ TB := tb_of (tb_3 25 (by decide +kernel)) (by decide +kernel)
theorem tm_506 : (Cond.methodLink "RingPipeline$Consumer" 85 ⟨"RingPipeline$Consumer", "throwsAgain", "(J)I"⟩) ∈ TB := tb_of (tb_3 26 (by decide +kernel)) (by decide +kernel)
theorem tn_507 : (Cond.privateMethod ⟨"RingPipeline$Consumer", "throwsAgain", "(J)I"⟩) ∈ lw_tbl := tb_3 27 (by decide +kernel)
theorem tm_508 : (Cond.instanceMethod ⟨"RingPipeline$Consumer", "throwsAgain", "(J)I"⟩) ∈ TB := tb_of (tb_3 28 (by decide +kernel)) (by decide +kernel)
theorem tm_509 : (Cond.code ⟨"RingPipeline$Consumer", "throwsAgain", "(J)I"⟩ prog_2_method_7_code 3 (some .int)) ∈ TB := tb_of (tb_3 29 (by decide +kernel)) (by decide +kernel)
theorem tm_510 : (Cond.methodLink "RingPipeline$Consumer" 88 ⟨"RingPipeline$Consumer", "returnToStart", "()V"⟩) ∈ TB := tb_of (tb_3 30 (by decide +kernel)) (by decide +kernel)
theorem tn_511 : (Cond.privateMethod ⟨"RingPipeline$Consumer", "returnToStart", "()V"⟩) ∈ lw_tbl := tb_3 31 (by decide +kernel)
theorem tm_512 : (Cond.instanceMethod ⟨"RingPipeline$Consumer", "returnToStart", "()V"⟩) ∈ TB := tb_of (tb_3 32 (by decide +kernel)) (by decide +kernel)
theorem tm_513 : (Cond.code ⟨"RingPipeline$Consumer", "returnToStart", "()V"⟩ prog_2_method_9_code 1 none) ∈ TB := tb_of (tb_3 33 (by decide +kernel)) (by decide +kernel)
theorem tm_514 : (Cond.methodLink "RingPipeline$Consumer" 109 ⟨"RingPipeline$Handler", "restore", "()V"⟩) ∈ TB := tb_of (tb_3 34 (by decide +kernel)) (by decide +kernel)
theorem tn_515 : (Cond.declares ⟨"RingPipeline$Handler", "restore", "()V"⟩) ∈ lw_tbl := tb_3 35 (by decide +kernel)
theorem tm_516 : (Cond.sameMethod "RingPipeline$Handler" "RingPipeline$Handler" "restore" "()V") ∈ TB := tb_of (tb_3 36 (by decide +kernel)) (by decide +kernel)
theorem tm_517 : (Cond.selects "RingPipeline$Journal" ⟨"RingPipeline$Handler", "restore", "()V"⟩ ⟨"RingPipeline$Journal", "restore", "()V"⟩) ∈ TB := tb_of (tb_3 37 (by decide +kernel)) (by decide +kernel)
theorem tm_518 : (Cond.instanceMethod ⟨"RingPipeline$Journal", "restore", "()V"⟩) ∈ TB := tb_of (tb_3 38 (by decide +kernel)) (by decide +kernel)
theorem tm_519 : (Cond.code ⟨"RingPipeline$Journal", "restore", "()V"⟩ prog_4_method_4_code 1 none) ∈ TB := tb_of (tb_3 39 (by decide +kernel)) (by decide +kernel)
theorem tm_520 : (Cond.selects "RingPipeline$Mean" ⟨"RingPipeline$Handler", "restore", "()V"⟩ ⟨"RingPipeline$Mean", "restore", "()V"⟩) ∈ TB := tb_of (tb_3 40 (by decide +kernel)) (by decide +kernel)
theorem tm_521 : (Cond.instanceMethod ⟨"RingPipeline$Mean", "restore", "()V"⟩) ∈ TB := tb_of (tb_3 41 (by decide +kernel)) (by decide +kernel)
theorem tm_522 : (Cond.code ⟨"RingPipeline$Mean", "restore", "()V"⟩ prog_5_method_4_code 1 none) ∈ TB := tb_of (tb_3 42 (by decide +kernel)) (by decide +kernel)
theorem tm_523 : (Cond.selects "RingPipeline$Smooth" ⟨"RingPipeline$Handler", "restore", "()V"⟩ ⟨"RingPipeline$Smooth", "restore", "()V"⟩) ∈ TB := tb_of (tb_3 43 (by decide +kernel)) (by decide +kernel)
theorem tm_524 : (Cond.instanceMethod ⟨"RingPipeline$Smooth", "restore", "()V"⟩) ∈ TB := tb_of (tb_3 44 (by decide +kernel)) (by decide +kernel)
theorem tm_525 : (Cond.code ⟨"RingPipeline$Smooth", "restore", "()V"⟩ prog_8_method_4_code 1 none) ∈ TB := tb_of (tb_3 45 (by decide +kernel)) (by decide +kernel)
theorem tm_526 : (Cond.selects "RingPipeline$Sum" ⟨"RingPipeline$Handler", "restore", "()V"⟩ ⟨"RingPipeline$Sum", "restore", "()V"⟩) ∈ TB := tb_of (tb_3 46 (by decide +kernel)) (by decide +kernel)
theorem tm_527 : (Cond.instanceMethod ⟨"RingPipeline$Sum", "restore", "()V"⟩) ∈ TB := tb_of (tb_3 47 (by decide +kernel)) (by decide +kernel)
theorem tm_528 : (Cond.code ⟨"RingPipeline$Sum", "restore", "()V"⟩ prog_9_method_4_code 1 none) ∈ TB := tb_of (tb_3 48 (by decide +kernel)) (by decide +kernel)
theorem tm_529 : (Cond.methodLink "RingPipeline$Consumer" 48 ⟨"RingPipeline$Consumer", "share", "(LRingPipeline$Pool;LRingPipeline$Ring;JI)I"⟩) ∈ TB := tb_of (tb_3 49 (by decide +kernel)) (by decide +kernel)
theorem tn_530 : (Cond.privateMethod ⟨"RingPipeline$Consumer", "share", "(LRingPipeline$Pool;LRingPipeline$Ring;JI)I"⟩) ∈ lw_tbl := tb_3 50 (by decide +kernel)
theorem tm_531 : (Cond.instanceMethod ⟨"RingPipeline$Consumer", "share", "(LRingPipeline$Pool;LRingPipeline$Ring;JI)I"⟩) ∈ TB := tb_of (tb_3 51 (by decide +kernel)) (by decide +kernel)
theorem tm_532 : (Cond.code ⟨"RingPipeline$Consumer", "share", "(LRingPipeline$Pool;LRingPipeline$Ring;JI)I"⟩ prog_2_method_5_code 7 (some .int)) ∈ TB := tb_of (tb_3 52 (by decide +kernel)) (by decide +kernel)
theorem tm_533 : (Cond.methodLink "RingPipeline$Consumer" 63 ⟨"RingPipeline$Pool", "takeNext", "()J"⟩) ∈ TB := tb_of (tb_3 53 (by decide +kernel)) (by decide +kernel)
theorem tm_534 : (Cond.instanceMethod ⟨"RingPipeline$Pool", "takeNext", "()J"⟩) ∈ TB := tb_of (tb_3 54 (by decide +kernel)) (by decide +kernel)
theorem tm_535 : (Cond.selects "RingPipeline$Pool" ⟨"RingPipeline$Pool", "takeNext", "()J"⟩ ⟨"RingPipeline$Pool", "takeNext", "()J"⟩) ∈ TB := tb_of (tb_3 55 (by decide +kernel)) (by decide +kernel)
theorem tm_536 : (Cond.code ⟨"RingPipeline$Pool", "takeNext", "()J"⟩ prog_6_method_3_code 1 (some .long)) ∈ TB := tb_of (tb_3 56 (by decide +kernel)) (by decide +kernel)
theorem tm_537 : (Cond.methodLink "RingPipelineLaw" 98 ⟨"RingPipelineLaw", "place", "(LRingPipeline;I[J)I"⟩) ∈ TB := tb_of (tb_3 57 (by decide +kernel)) (by decide +kernel)
theorem tm_538 : (Cond.static ⟨"RingPipelineLaw", "place", "(LRingPipeline;I[J)I"⟩) ∈ TB := tb_of (tb_3 58 (by decide +kernel)) (by decide +kernel)
theorem tm_539 : (Cond.codeWith ⟨"RingPipelineLaw", "place", "(LRingPipeline;I[J)I"⟩ method_7_code 4 (some .int) [(0, 8, 11, 13)]) ∈ TB := tb_of (tb_3 59 (by decide +kernel)) (by decide +kernel)
theorem tm_540 : (Cond.methodLink "RingPipelineLaw" 31 ⟨"RingPipeline", "place", "(I)J"⟩) ∈ TB := tb_of (tb_3 60 (by decide +kernel)) (by decide +kernel)
theorem tm_541 : (Cond.instanceMethod ⟨"RingPipeline", "place", "(I)J"⟩) ∈ TB := tb_of (tb_3 61 (by decide +kernel)) (by decide +kernel)
theorem tm_542 : (Cond.selects "RingPipeline" ⟨"RingPipeline", "place", "(I)J"⟩ ⟨"RingPipeline", "place", "(I)J"⟩) ∈ TB := tb_of (tb_3 62 (by decide +kernel)) (by decide +kernel)
theorem tm_543 : (Cond.code ⟨"RingPipeline", "place", "(I)J"⟩ prog_1_method_6_code 2 (some .long)) ∈ TB := tb_of (tb_3 63 (by decide +kernel)) (by decide +kernel)
theorem tm_544 : (Cond.methodLink "RingPipelineLaw" 102 ⟨"RingPipelineLaw", "total", "(LRingPipeline;I[J)I"⟩) ∈ TB := tb_of (tb_3 64 (by decide +kernel)) (by decide +kernel)
theorem tm_545 : (Cond.static ⟨"RingPipelineLaw", "total", "(LRingPipeline;I[J)I"⟩) ∈ TB := tb_of (tb_3 65 (by decide +kernel)) (by decide +kernel)
theorem tm_546 : (Cond.codeWith ⟨"RingPipelineLaw", "total", "(LRingPipeline;I[J)I"⟩ method_8_code 4 (some .int) [(0, 8, 11, 13)]) ∈ TB := tb_of (tb_3 66 (by decide +kernel)) (by decide +kernel)
theorem tm_547 : (Cond.methodLink "RingPipelineLaw" 35 ⟨"RingPipeline", "total", "(I)J"⟩) ∈ TB := tb_of (tb_3 67 (by decide +kernel)) (by decide +kernel)
theorem tm_548 : (Cond.instanceMethod ⟨"RingPipeline", "total", "(I)J"⟩) ∈ TB := tb_of (tb_3 68 (by decide +kernel)) (by decide +kernel)
theorem tm_549 : (Cond.selects "RingPipeline" ⟨"RingPipeline", "total", "(I)J"⟩ ⟨"RingPipeline", "total", "(I)J"⟩) ∈ TB := tb_of (tb_3 69 (by decide +kernel)) (by decide +kernel)
theorem tm_550 : (Cond.code ⟨"RingPipeline", "total", "(I)J"⟩ prog_1_method_7_code 2 (some .long)) ∈ TB := tb_of (tb_3 70 (by decide +kernel)) (by decide +kernel)
theorem tm_551 : (Cond.methodLink "RingPipeline" 138 ⟨"RingPipeline$Handler", "amount", "()J"⟩) ∈ TB := tb_of (tb_3 71 (by decide +kernel)) (by decide +kernel)
theorem tm_552 : (Cond.instanceMethod ⟨"RingPipeline$Handler", "amount", "()J"⟩) ∈ TB := tb_of (tb_3 72 (by decide +kernel)) (by decide +kernel)
theorem tm_553 : (Cond.sameMethod "RingPipeline$Handler" "RingPipeline$Handler" "amount" "()J") ∈ TB := tb_of (tb_3 73 (by decide +kernel)) (by decide +kernel)
theorem tm_554 : (Cond.selects "RingPipeline$Journal" ⟨"RingPipeline$Handler", "amount", "()J"⟩ ⟨"RingPipeline$Journal", "amount", "()J"⟩) ∈ TB := tb_of (tb_3 74 (by decide +kernel)) (by decide +kernel)
theorem tm_555 : (Cond.instanceMethod ⟨"RingPipeline$Journal", "amount", "()J"⟩) ∈ TB := tb_of (tb_3 75 (by decide +kernel)) (by decide +kernel)
theorem tm_556 : (Cond.code ⟨"RingPipeline$Journal", "amount", "()J"⟩ prog_4_method_5_code 1 (some .long)) ∈ TB := tb_of (tb_3 76 (by decide +kernel)) (by decide +kernel)
theorem tm_557 : (Cond.selects "RingPipeline$Mean" ⟨"RingPipeline$Handler", "amount", "()J"⟩ ⟨"RingPipeline$Handler", "amount", "()J"⟩) ∈ TB := tb_of (tb_3 77 (by decide +kernel)) (by decide +kernel)
theorem tm_558 : (Cond.selects "RingPipeline$Smooth" ⟨"RingPipeline$Handler", "amount", "()J"⟩ ⟨"RingPipeline$Handler", "amount", "()J"⟩) ∈ TB := tb_of (tb_3 78 (by decide +kernel)) (by decide +kernel)
theorem tm_559 : (Cond.selects "RingPipeline$Sum" ⟨"RingPipeline$Handler", "amount", "()J"⟩ ⟨"RingPipeline$Sum", "amount", "()J"⟩) ∈ TB := tb_of (tb_3 79 (by decide +kernel)) (by decide +kernel)
theorem tm_560 : (Cond.instanceMethod ⟨"RingPipeline$Sum", "amount", "()J"⟩) ∈ TB := tb_of (tb_3 80 (by decide +kernel)) (by decide +kernel)
theorem tm_561 : (Cond.code ⟨"RingPipeline$Sum", "amount", "()J"⟩ prog_9_method_5_code 1 (some .long)) ∈ TB := tb_of (tb_3 81 (by decide +kernel)) (by decide +kernel)
theorem tm_562 : (Cond.code ⟨"RingPipeline$Handler", "amount", "()J"⟩ prog_3_method_5_code 1 (some .long)) ∈ TB := tb_of (tb_3 82 (by decide +kernel)) (by decide +kernel)
theorem tm_563 : (Cond.methodLink "RingPipelineLaw" 105 ⟨"RingPipelineLaw", "level", "(LRingPipeline;I[D)I"⟩) ∈ TB := tb_of (tb_3 83 (by decide +kernel)) (by decide +kernel)
theorem tm_564 : (Cond.static ⟨"RingPipelineLaw", "level", "(LRingPipeline;I[D)I"⟩) ∈ TB := tb_of (tb_3 84 (by decide +kernel)) (by decide +kernel)
theorem tm_565 : (Cond.codeWith ⟨"RingPipelineLaw", "level", "(LRingPipeline;I[D)I"⟩ method_9_code 4 (some .int) [(0, 9, 12, 13)]) ∈ TB := tb_of (tb_3 85 (by decide +kernel)) (by decide +kernel)
theorem tm_566 : (Cond.methodLink "RingPipelineLaw" 38 ⟨"RingPipeline", "level", "(I)F"⟩) ∈ TB := tb_of (tb_3 86 (by decide +kernel)) (by decide +kernel)
theorem tm_567 : (Cond.instanceMethod ⟨"RingPipeline", "level", "(I)F"⟩) ∈ TB := tb_of (tb_3 87 (by decide +kernel)) (by decide +kernel)
theorem tm_568 : (Cond.selects "RingPipeline" ⟨"RingPipeline", "level", "(I)F"⟩ ⟨"RingPipeline", "level", "(I)F"⟩) ∈ TB := tb_of (tb_3 88 (by decide +kernel)) (by decide +kernel)
theorem tm_569 : (Cond.code ⟨"RingPipeline", "level", "(I)F"⟩ prog_1_method_8_code 4 (some .float)) ∈ TB := tb_of (tb_3 89 (by decide +kernel)) (by decide +kernel)
theorem tn_570 : (Cond.stringRef "RingPipeline" 149 "no SMOOTH") ∈ lw_tbl := tb_3 90 (by decide +kernel)
theorem tm_571 : (Cond.methodLink "RingPipelineLaw" 109 ⟨"RingPipelineLaw", "mean", "(LRingPipeline;I[D)I"⟩) ∈ TB := tb_of (tb_3 91 (by decide +kernel)) (by decide +kernel)
theorem tm_572 : (Cond.static ⟨"RingPipelineLaw", "mean", "(LRingPipeline;I[D)I"⟩) ∈ TB := tb_of (tb_3 92 (by decide +kernel)) (by decide +kernel)
theorem tm_573 : (Cond.codeWith ⟨"RingPipelineLaw", "mean", "(LRingPipeline;I[D)I"⟩ method_10_code 4 (some .int) [(0, 8, 11, 13)]) ∈ TB := tb_of (tb_3 93 (by decide +kernel)) (by decide +kernel)
theorem tm_574 : (Cond.methodLink "RingPipelineLaw" 42 ⟨"RingPipeline", "mean", "(I)D"⟩) ∈ TB := tb_of (tb_3 94 (by decide +kernel)) (by decide +kernel)
theorem tm_575 : (Cond.instanceMethod ⟨"RingPipeline", "mean", "(I)D"⟩) ∈ TB := tb_of (tb_3 95 (by decide +kernel)) (by decide +kernel)
theorem tm_576 : (Cond.selects "RingPipeline" ⟨"RingPipeline", "mean", "(I)D"⟩ ⟨"RingPipeline", "mean", "(I)D"⟩) ∈ TB := tb_of (tb_3 96 (by decide +kernel)) (by decide +kernel)
theorem tm_577 : (Cond.code ⟨"RingPipeline", "mean", "(I)D"⟩ prog_1_method_9_code 4 (some .double)) ∈ TB := tb_of (tb_3 97 (by decide +kernel)) (by decide +kernel)
theorem tn_578 : (Cond.stringRef "RingPipeline" 157 "no MEAN") ∈ lw_tbl := tb_3 98 (by decide +kernel)
theorem tm_579 : (Cond.methodLink "RingPipelineLaw" 112 ⟨"RingPipelineLaw", "octet", "(LRingPipeline;II[J)I"⟩) ∈ TB := tb_of (tb_3 99 (by decide +kernel)) (by decide +kernel)
theorem tm_580 : (Cond.static ⟨"RingPipelineLaw", "octet", "(LRingPipeline;II[J)I"⟩) ∈ TB := tb_of (tb_3 100 (by decide +kernel)) (by decide +kernel)
theorem tm_581 : (Cond.codeWith ⟨"RingPipelineLaw", "octet", "(LRingPipeline;II[J)I"⟩ method_11_code 5 (some .int) [(0, 10, 13, 13), (0, 10, 17, 49)]) ∈ TB := tb_of (tb_3 101 (by decide +kernel)) (by decide +kernel)
theorem tm_582 : (Cond.classLink "RingPipelineLaw" 49 "java/lang/IndexOutOfBoundsException") ∈ TB := tb_of (tb_3 102 (by decide +kernel)) (by decide +kernel)
theorem tm_583 : (Cond.methodLink "RingPipelineLaw" 46 ⟨"RingPipeline", "octet", "(II)I"⟩) ∈ TB := tb_of (tb_3 103 (by decide +kernel)) (by decide +kernel)
theorem tm_584 : (Cond.instanceMethod ⟨"RingPipeline", "octet", "(II)I"⟩) ∈ TB := tb_of (tb_3 104 (by decide +kernel)) (by decide +kernel)
theorem tm_585 : (Cond.selects "RingPipeline" ⟨"RingPipeline", "octet", "(II)I"⟩ ⟨"RingPipeline", "octet", "(II)I"⟩) ∈ TB := tb_of (tb_3 105 (by decide +kernel)) (by decide +kernel)
theorem tm_586 : (Cond.code ⟨"RingPipeline", "octet", "(II)I"⟩ prog_1_method_10_code 4 (some .int)) ∈ TB := tb_of (tb_3 106 (by decide +kernel)) (by decide +kernel)
theorem tm_587 : (Cond.methodLink "RingPipeline" 159 ⟨"RingPipeline", "journalOf", "(I)LRingPipeline$Journal;"⟩) ∈ TB := tb_of (tb_3 107 (by decide +kernel)) (by decide +kernel)
theorem tn_588 : (Cond.privateMethod ⟨"RingPipeline", "journalOf", "(I)LRingPipeline$Journal;"⟩) ∈ lw_tbl := tb_3 108 (by decide +kernel)
theorem tm_589 : (Cond.instanceMethod ⟨"RingPipeline", "journalOf", "(I)LRingPipeline$Journal;"⟩) ∈ TB := tb_of (tb_3 109 (by decide +kernel)) (by decide +kernel)
theorem tm_590 : (Cond.code ⟨"RingPipeline", "journalOf", "(I)LRingPipeline$Journal;"⟩ prog_1_method_18_code 4 (some (.object "RingPipeline$Journal"))) ∈ TB := tb_of (tb_3 110 (by decide +kernel)) (by decide +kernel)
theorem tn_591 : (Cond.stringRef "RingPipeline" 207 "no JOURNAL") ∈ lw_tbl := tb_3 111 (by decide +kernel)
theorem tm_592 : (Cond.classLink "RingPipeline" 168 "java/lang/IndexOutOfBoundsException") ∈ TB := tb_of (tb_3 112 (by decide +kernel)) (by decide +kernel)
theorem tm_593 : (Cond.instantiable "java/lang/IndexOutOfBoundsException" 6) ∈ TB := tb_of (tb_3 113 (by decide +kernel)) (by decide +kernel)
theorem tn_594 : (Cond.castable "java/lang/IndexOutOfBoundsException" "java/lang/IndexOutOfBoundsException") ∈ lw_tbl := tb_3 114 (by decide +kernel)
theorem tm_595 : (Cond.selects "java/lang/IndexOutOfBoundsException" ⟨"java/lang/Throwable", "fillInStackTrace", "(I)Ljava/lang/Throwable;"⟩ ⟨"java/lang/Throwable", "fillInStackTrace", "(I)Ljava/lang/Throwable;"⟩) ∈ TB := tb_of (tb_3 115 (by decide +kernel)) (by decide +kernel)
theorem tm_596 : (Cond.lays "java/lang/IndexOutOfBoundsException" "java/lang/Throwable" "cause" "Ljava/lang/Throwable;") ∈ TB := tb_of (tb_3 116 (by decide +kernel)) (by decide +kernel)
theorem tm_597 : (Cond.lays "java/lang/IndexOutOfBoundsException" "java/lang/Throwable" "stackTrace" "[Ljava/lang/StackTraceElement;") ∈ TB := tb_of (tb_3 117 (by decide +kernel)) (by decide +kernel)
theorem tm_598 : (Cond.lays "java/lang/IndexOutOfBoundsException" "java/lang/Throwable" "suppressedExceptions" "Ljava/util/List;") ∈ TB := tb_of (tb_3 118 (by decide +kernel)) (by decide +kernel)
theorem tm_599 : (Cond.lays "java/lang/IndexOutOfBoundsException" "java/lang/Throwable" "detailMessage" "Ljava/lang/String;") ∈ TB := tb_of (tb_3 119 (by decide +kernel)) (by decide +kernel)
theorem tm_600 : (Cond.lays "java/lang/IndexOutOfBoundsException" "java/lang/Throwable" "backtrace" "Ljava/lang/Object;") ∈ TB := tb_of (tb_3 120 (by decide +kernel)) (by decide +kernel)
theorem tn_601 : (Cond.stringRef "RingPipeline" 170 "no such byte") ∈ lw_tbl := tb_3 121 (by decide +kernel)
theorem tm_602 : (Cond.methodLink "RingPipeline" 172 ⟨"java/lang/IndexOutOfBoundsException", "<init>", "(Ljava/lang/String;)V"⟩) ∈ TB := tb_of (tb_3 122 (by decide +kernel)) (by decide +kernel)
theorem tm_603 : (Cond.instanceMethod ⟨"java/lang/IndexOutOfBoundsException", "<init>", "(Ljava/lang/String;)V"⟩) ∈ TB := tb_of (tb_3 123 (by decide +kernel)) (by decide +kernel)
theorem tm_604 : (Cond.code ⟨"java/lang/IndexOutOfBoundsException", "<init>", "(Ljava/lang/String;)V"⟩ prog_15_method_2_code 2 none) ∈ TB := tb_of (tb_3 124 (by decide +kernel)) (by decide +kernel)
theorem tm_605 : (Cond.methodLink "java/lang/IndexOutOfBoundsException" 7 ⟨"java/lang/RuntimeException", "<init>", "(Ljava/lang/String;)V"⟩) ∈ TB := tb_of (tb_3 125 (by decide +kernel)) (by decide +kernel)
theorem tm_606 : (Cond.lays "java/lang/IndexOutOfBoundsException" "java/lang/Throwable" "depth" "I") ∈ TB := tb_of (tb_3 126 (by decide +kernel)) (by decide +kernel)
theorem tm_607 : (Cond.superclass "java/lang/IndexOutOfBoundsException" "java/lang/RuntimeException") ∈ TB := tb_of (tb_3 127 (by decide +kernel)) (by decide +kernel)
theorem tm_608 : (Cond.methodLink "RingPipeline" 173 ⟨"RingPipeline$Journal", "byteAt", "(I)I"⟩) ∈ TB := tb_of (tb_3 128 (by decide +kernel)) (by decide +kernel)
theorem tm_609 : (Cond.methodLink "RingPipelineLaw" 115 ⟨"RingPipelineLaw", "tear", "(LRingPipeline;II[J)I"⟩) ∈ TB := tb_of (tb_3 129 (by decide +kernel)) (by decide +kernel)
theorem tm_610 : (Cond.static ⟨"RingPipelineLaw", "tear", "(LRingPipeline;II[J)I"⟩) ∈ TB := tb_of (tb_3 130 (by decide +kernel)) (by decide +kernel)
theorem tm_611 : (Cond.codeWith ⟨"RingPipelineLaw", "tear", "(LRingPipeline;II[J)I"⟩ method_12_code 5 (some .int) [(0, 10, 13, 13)]) ∈ TB := tb_of (tb_3 131 (by decide +kernel)) (by decide +kernel)
theorem tm_612 : (Cond.methodLink "RingPipelineLaw" 51 ⟨"RingPipeline", "tear", "(II)I"⟩) ∈ TB := tb_of (tb_3 132 (by decide +kernel)) (by decide +kernel)
theorem tm_613 : (Cond.instanceMethod ⟨"RingPipeline", "tear", "(II)I"⟩) ∈ TB := tb_of (tb_3 133 (by decide +kernel)) (by decide +kernel)
theorem tm_614 : (Cond.selects "RingPipeline" ⟨"RingPipeline", "tear", "(II)I"⟩ ⟨"RingPipeline", "tear", "(II)I"⟩) ∈ TB := tb_of (tb_3 134 (by decide +kernel)) (by decide +kernel)
theorem tm_615 : (Cond.code ⟨"RingPipeline", "tear", "(II)I"⟩ prog_1_method_11_code 4 (some .int)) ∈ TB := tb_of (tb_3 135 (by decide +kernel)) (by decide +kernel)
theorem tn_616 : (Cond.stringRef "RingPipeline" 177 "it has not so many bytes") ∈ lw_tbl := tb_3 136 (by decide +kernel)
theorem tm_617 : (Cond.methodLink "RingPipelineLaw" 118 ⟨"RingPipelineLaw", "replay", "(LRingPipeline;I[J)I"⟩) ∈ TB := tb_of (tb_3 137 (by decide +kernel)) (by decide +kernel)
theorem tm_618 : (Cond.static ⟨"RingPipelineLaw", "replay", "(LRingPipeline;I[J)I"⟩) ∈ TB := tb_of (tb_3 138 (by decide +kernel)) (by decide +kernel)
theorem tm_619 : (Cond.codeWith ⟨"RingPipelineLaw", "replay", "(LRingPipeline;I[J)I"⟩ method_13_code 4 (some .int) [(0, 9, 12, 13)]) ∈ TB := tb_of (tb_3 139 (by decide +kernel)) (by decide +kernel)
theorem tm_620 : (Cond.methodLink "RingPipelineLaw" 54 ⟨"RingPipeline", "replay", "(I)I"⟩) ∈ TB := tb_of (tb_3 140 (by decide +kernel)) (by decide +kernel)
theorem tm_621 : (Cond.instanceMethod ⟨"RingPipeline", "replay", "(I)I"⟩) ∈ TB := tb_of (tb_3 141 (by decide +kernel)) (by decide +kernel)
theorem tm_622 : (Cond.selects "RingPipeline" ⟨"RingPipeline", "replay", "(I)I"⟩ ⟨"RingPipeline", "replay", "(I)I"⟩) ∈ TB := tb_of (tb_3 142 (by decide +kernel)) (by decide +kernel)
theorem tm_623 : (Cond.code ⟨"RingPipeline", "replay", "(I)I"⟩ prog_1_method_12_code 4 (some .int)) ∈ TB := tb_of (tb_3 143 (by decide +kernel)) (by decide +kernel)
theorem tm_624 : (Cond.methodLink "RingPipeline" 179 ⟨"RingPipeline$Journal", "soundRecords", "()I"⟩) ∈ TB := tb_of (tb_3 144 (by decide +kernel)) (by decide +kernel)
theorem tm_625 : (Cond.instanceMethod ⟨"RingPipeline$Journal", "soundRecords", "()I"⟩) ∈ TB := tb_of (tb_3 145 (by decide +kernel)) (by decide +kernel)
theorem tm_626 : (Cond.selects "RingPipeline$Journal" ⟨"RingPipeline$Journal", "soundRecords", "()I"⟩ ⟨"RingPipeline$Journal", "soundRecords", "()I"⟩) ∈ TB := tb_of (tb_3 146 (by decide +kernel)) (by decide +kernel)
theorem tm_627 : (Cond.code ⟨"RingPipeline$Journal", "soundRecords", "()I"⟩ prog_4_method_7_code 3 (some .int)) ∈ TB := tb_of (tb_3 147 (by decide +kernel)) (by decide +kernel)
theorem tm_628 : (Cond.methodLink "RingPipeline$Journal" 30 ⟨"RingPipeline$Journal", "isSoundAt", "(I)Z"⟩) ∈ TB := tb_of (tb_3 148 (by decide +kernel)) (by decide +kernel)
theorem tn_629 : (Cond.privateMethod ⟨"RingPipeline$Journal", "isSoundAt", "(I)Z"⟩) ∈ lw_tbl := tb_3 149 (by decide +kernel)
theorem tm_630 : (Cond.instanceMethod ⟨"RingPipeline$Journal", "isSoundAt", "(I)Z"⟩) ∈ TB := tb_of (tb_3 150 (by decide +kernel)) (by decide +kernel)
theorem tm_631 : (Cond.code ⟨"RingPipeline$Journal", "isSoundAt", "(I)Z"⟩ prog_4_method_10_code 2 (some .boolean)) ∈ TB := tb_of (tb_3 151 (by decide +kernel)) (by decide +kernel)
theorem tm_632 : (Cond.methodLink "RingPipeline" 182 ⟨"RingPipeline$Journal", "sumOfFirst", "(I)J"⟩) ∈ TB := tb_of (tb_3 152 (by decide +kernel)) (by decide +kernel)
theorem tm_633 : (Cond.instanceMethod ⟨"RingPipeline$Journal", "sumOfFirst", "(I)J"⟩) ∈ TB := tb_of (tb_3 153 (by decide +kernel)) (by decide +kernel)
theorem tm_634 : (Cond.selects "RingPipeline$Journal" ⟨"RingPipeline$Journal", "sumOfFirst", "(I)J"⟩ ⟨"RingPipeline$Journal", "sumOfFirst", "(I)J"⟩) ∈ TB := tb_of (tb_3 154 (by decide +kernel)) (by decide +kernel)
theorem tm_635 : (Cond.code ⟨"RingPipeline$Journal", "sumOfFirst", "(I)J"⟩ prog_4_method_8_code 5 (some .long)) ∈ TB := tb_of (tb_3 155 (by decide +kernel)) (by decide +kernel)
theorem tm_636 : (Cond.methodLink "RingPipeline$Journal" 34 ⟨"RingPipeline$Journal", "valueAt", "(I)J"⟩) ∈ TB := tb_of (tb_3 156 (by decide +kernel)) (by decide +kernel)
theorem tn_637 : (Cond.privateMethod ⟨"RingPipeline$Journal", "valueAt", "(I)J"⟩) ∈ lw_tbl := tb_3 157 (by decide +kernel)
theorem tm_638 : (Cond.instanceMethod ⟨"RingPipeline$Journal", "valueAt", "(I)J"⟩) ∈ TB := tb_of (tb_3 158 (by decide +kernel)) (by decide +kernel)
theorem tm_639 : (Cond.code ⟨"RingPipeline$Journal", "valueAt", "(I)J"⟩ prog_4_method_12_code 5 (some .long)) ∈ TB := tb_of (tb_3 159 (by decide +kernel)) (by decide +kernel)
theorem tm_640 : (Cond.methodLink "RingPipelineLaw" 126 ⟨"RingPipelineLaw", "count", "(LRingPipeline;II[J)I"⟩) ∈ TB := tb_of (tb_3 160 (by decide +kernel)) (by decide +kernel)
theorem tm_641 : (Cond.static ⟨"RingPipelineLaw", "count", "(LRingPipeline;II[J)I"⟩) ∈ TB := tb_of (tb_3 161 (by decide +kernel)) (by decide +kernel)
theorem tm_642 : (Cond.codeWith ⟨"RingPipelineLaw", "count", "(LRingPipeline;II[J)I"⟩ method_14_code 5 (some .int) [(0, 10, 13, 13)]) ∈ TB := tb_of (tb_3 162 (by decide +kernel)) (by decide +kernel)
theorem tm_643 : (Cond.methodLink "RingPipelineLaw" 58 ⟨"RingPipeline", "count", "(II)I"⟩) ∈ TB := tb_of (tb_3 163 (by decide +kernel)) (by decide +kernel)
theorem tm_644 : (Cond.instanceMethod ⟨"RingPipeline", "count", "(II)I"⟩) ∈ TB := tb_of (tb_3 164 (by decide +kernel)) (by decide +kernel)
theorem tm_645 : (Cond.selects "RingPipeline" ⟨"RingPipeline", "count", "(II)I"⟩ ⟨"RingPipeline", "count", "(II)I"⟩) ∈ TB := tb_of (tb_3 165 (by decide +kernel)) (by decide +kernel)
theorem tm_646 : (Cond.code ⟨"RingPipeline", "count", "(II)I"⟩ prog_1_method_14_code 4 (some .int)) ∈ TB := tb_of (tb_3 166 (by decide +kernel)) (by decide +kernel)
theorem tn_647 : (Cond.stringRef "RingPipeline" 197 "what is not 0 .. 3") ∈ lw_tbl := tb_3 167 (by decide +kernel)
theorem tm_648 : (Cond.methodLink "RingPipelineLaw" 129 ⟨"RingPipelineLaw", "state", "(LRingPipeline;IJ[J)I"⟩) ∈ TB := tb_of (tb_3 168 (by decide +kernel)) (by decide +kernel)
theorem tm_649 : (Cond.static ⟨"RingPipelineLaw", "state", "(LRingPipeline;IJ[J)I"⟩) ∈ TB := tb_of (tb_3 169 (by decide +kernel)) (by decide +kernel)
theorem tm_650 : (Cond.codeWith ⟨"RingPipelineLaw", "state", "(LRingPipeline;IJ[J)I"⟩ method_15_code 6 (some .int) [(0, 10, 13, 13)]) ∈ TB := tb_of (tb_3 170 (by decide +kernel)) (by decide +kernel)
theorem tm_651 : (Cond.methodLink "RingPipelineLaw" 61 ⟨"RingPipeline", "state", "(IJ)J"⟩) ∈ TB := tb_of (tb_3 171 (by decide +kernel)) (by decide +kernel)
theorem tm_652 : (Cond.instanceMethod ⟨"RingPipeline", "state", "(IJ)J"⟩) ∈ TB := tb_of (tb_3 172 (by decide +kernel)) (by decide +kernel)
theorem tm_653 : (Cond.selects "RingPipeline" ⟨"RingPipeline", "state", "(IJ)J"⟩ ⟨"RingPipeline", "state", "(IJ)J"⟩) ∈ TB := tb_of (tb_3 173 (by decide +kernel)) (by decide +kernel)
theorem tm_654 : (Cond.code ⟨"RingPipeline", "state", "(IJ)J"⟩ prog_1_method_15_code 4 (some .long)) ∈ TB := tb_of (tb_3 174 (by decide +kernel)) (by decide +kernel)
theorem tm_655 : (Cond.methodLink "RingPipeline" 199 ⟨"RingPipeline$Ring", "publishedInSlotOf", "(J)J"⟩) ∈ TB := tb_of (tb_3 175 (by decide +kernel)) (by decide +kernel)
theorem tm_656 : (Cond.instanceMethod ⟨"RingPipeline$Ring", "publishedInSlotOf", "(J)J"⟩) ∈ TB := tb_of (tb_3 176 (by decide +kernel)) (by decide +kernel)
theorem tm_657 : (Cond.selects "RingPipeline$Ring" ⟨"RingPipeline$Ring", "publishedInSlotOf", "(J)J"⟩ ⟨"RingPipeline$Ring", "publishedInSlotOf", "(J)J"⟩) ∈ TB := tb_of (tb_3 177 (by decide +kernel)) (by decide +kernel)
theorem tm_658 : (Cond.code ⟨"RingPipeline$Ring", "publishedInSlotOf", "(J)J"⟩ prog_7_method_7_code 3 (some .long)) ∈ TB := tb_of (tb_3 178 (by decide +kernel)) (by decide +kernel)
theorem tn_659 : (Cond.stringRef "RingPipeline" 203 "what is not 0 .. 2, or the sequence is below 0") ∈ lw_tbl := tb_3 179 (by decide +kernel)
theorem tm_660 : (Cond.classLink "RingPipelineLaw" 74 "RingPipelineModel") ∈ TB := tb_of (tb_3 180 (by decide +kernel)) (by decide +kernel)
theorem tm_661 : (Cond.instantiable "RingPipelineModel" 28) ∈ TB := tb_of (tb_3 181 (by decide +kernel)) (by decide +kernel)
theorem tm_662 : (Cond.methodLink "RingPipelineLaw" 76 ⟨"RingPipelineModel", "<init>", "(I)V"⟩) ∈ TB := tb_of (tb_3 182 (by decide +kernel)) (by decide +kernel)
theorem tm_663 : (Cond.instanceMethod ⟨"RingPipelineModel", "<init>", "(I)V"⟩) ∈ TB := tb_of (tb_3 183 (by decide +kernel)) (by decide +kernel)
theorem tm_664 : (Cond.code ⟨"RingPipelineModel", "<init>", "(I)V"⟩ prog_11_method_1_code 3 none) ∈ TB := tb_of (tb_3 184 (by decide +kernel)) (by decide +kernel)
theorem tm_665 : (Cond.methodLink "RingPipelineModel" 1 ⟨"java/lang/Object", "<init>", "()V"⟩) ∈ TB := tb_of (tb_3 185 (by decide +kernel)) (by decide +kernel)
theorem tm_666 : (Cond.fieldLink "RingPipelineModel" 91 "RingPipelineModel" "thrown" "I") ∈ TB := tb_of (tb_3 186 (by decide +kernel)) (by decide +kernel)
theorem tm_667 : (Cond.fieldLink "RingPipelineModel" 88 "RingPipelineModel" "slots" "I") ∈ TB := tb_of (tb_3 187 (by decide +kernel)) (by decide +kernel)
theorem tm_668 : (Cond.fieldLink "RingPipelineModel" 7 "RingPipelineModel" "sequences" "[B") ∈ TB := tb_of (tb_3 188 (by decide +kernel)) (by decide +kernel)
theorem tm_669 : (Cond.fieldLink "RingPipelineModel" 13 "RingPipelineModel" "cursor" "I") ∈ TB := tb_of (tb_3 189 (by decide +kernel)) (by decide +kernel)
theorem tm_670 : (Cond.fieldLink "RingPipelineModel" 17 "RingPipelineModel" "available" "I") ∈ TB := tb_of (tb_3 190 (by decide +kernel)) (by decide +kernel)
theorem tm_671 : (Cond.fieldLink "RingPipelineModel" 20 "RingPipelineModel" "value" "[J") ∈ TB := tb_of (tb_3 191 (by decide +kernel)) (by decide +kernel)
theorem tm_672 : (Cond.fieldLink "RingPipelineModel" 24 "RingPipelineModel" "producers" "[I") ∈ TB := tb_of (tb_3 192 (by decide +kernel)) (by decide +kernel)
theorem tm_673 : (Cond.fieldLink "RingPipelineModel" 28 "RingPipelineModel" "latest" "[I") ∈ TB := tb_of (tb_3 193 (by decide +kernel)) (by decide +kernel)
theorem tm_674 : (Cond.fieldLink "RingPipelineModel" 94 "RingPipelineModel" "consumers" "I") ∈ TB := tb_of (tb_3 194 (by decide +kernel)) (by decide +kernel)
theorem tm_675 : (Cond.fieldLink "RingPipelineModel" 31 "RingPipelineModel" "kind" "[I") ∈ TB := tb_of (tb_3 195 (by decide +kernel)) (by decide +kernel)
theorem tm_676 : (Cond.fieldLink "RingPipelineModel" 34 "RingPipelineModel" "on" "[I") ∈ TB := tb_of (tb_3 196 (by decide +kernel)) (by decide +kernel)
theorem tm_677 : (Cond.fieldLink "RingPipelineModel" 37 "RingPipelineModel" "policy" "[I") ∈ TB := tb_of (tb_3 197 (by decide +kernel)) (by decide +kernel)
theorem tm_678 : (Cond.fieldLink "RingPipelineModel" 40 "RingPipelineModel" "pool" "[I") ∈ TB := tb_of (tb_3 198 (by decide +kernel)) (by decide +kernel)
theorem tm_679 : (Cond.fieldLink "RingPipelineModel" 43 "RingPipelineModel" "place" "[I") ∈ TB := tb_of (tb_3 199 (by decide +kernel)) (by decide +kernel)
theorem tm_680 : (Cond.fieldLink "RingPipelineModel" 46 "RingPipelineModel" "halted" "[Z") ∈ TB := tb_of (tb_3 200 (by decide +kernel)) (by decide +kernel)
theorem tm_681 : (Cond.fieldLink "RingPipelineModel" 50 "RingPipelineModel" "handled" "[I") ∈ TB := tb_of (tb_3 201 (by decide +kernel)) (by decide +kernel)
theorem tm_682 : (Cond.fieldLink "RingPipelineModel" 53 "RingPipelineModel" "ignored" "[I") ∈ TB := tb_of (tb_3 202 (by decide +kernel)) (by decide +kernel)
theorem tm_683 : (Cond.fieldLink "RingPipelineModel" 56 "RingPipelineModel" "rewound" "[I") ∈ TB := tb_of (tb_3 203 (by decide +kernel)) (by decide +kernel)
theorem tm_684 : (Cond.fieldLink "RingPipelineModel" 59 "RingPipelineModel" "threwAt" "[I") ∈ TB := tb_of (tb_3 204 (by decide +kernel)) (by decide +kernel)
theorem tm_685 : (Cond.fieldLink "RingPipelineModel" 62 "RingPipelineModel" "times" "[I") ∈ TB := tb_of (tb_3 205 (by decide +kernel)) (by decide +kernel)
theorem tm_686 : (Cond.fieldLink "RingPipelineModel" 65 "RingPipelineModel" "has" "[I") ∈ TB := tb_of (tb_3 206 (by decide +kernel)) (by decide +kernel)
theorem tm_687 : (Cond.fieldLink "RingPipelineModel" 68 "RingPipelineModel" "taken" "[I") ∈ TB := tb_of (tb_3 207 (by decide +kernel)) (by decide +kernel)
theorem tm_688 : (Cond.fieldLink "RingPipelineModel" 71 "RingPipelineModel" "totals" "[J") ∈ TB := tb_of (tb_3 208 (by decide +kernel)) (by decide +kernel)
theorem tm_689 : (Cond.fieldLink "RingPipelineModel" 74 "RingPipelineModel" "levels" "[F") ∈ TB := tb_of (tb_3 209 (by decide +kernel)) (by decide +kernel)
theorem tm_690 : (Cond.fieldLink "RingPipelineModel" 78 "RingPipelineModel" "means" "[D") ∈ TB := tb_of (tb_3 210 (by decide +kernel)) (by decide +kernel)
theorem tm_691 : (Cond.fieldLink "RingPipelineModel" 82 "RingPipelineModel" "sizes" "[I") ∈ TB := tb_of (tb_3 211 (by decide +kernel)) (by decide +kernel)
theorem tm_692 : (Cond.fieldLink "RingPipelineModel" 85 "RingPipelineModel" "bytes" "[I") ∈ TB := tb_of (tb_3 212 (by decide +kernel)) (by decide +kernel)
theorem tm_693 : (Cond.fieldLink "RingPipelineModel" 145 "RingPipelineModel" "replayed" "J") ∈ TB := tb_of (tb_3 213 (by decide +kernel)) (by decide +kernel)
theorem tm_694 : (Cond.lays "RingPipelineModel" "RingPipelineModel" "thrown" "I") ∈ TB := tb_of (tb_3 214 (by decide +kernel)) (by decide +kernel)
theorem tm_695 : (Cond.soleField "RingPipelineModel" "thrown") ∈ TB := tb_of (tb_3 215 (by decide +kernel)) (by decide +kernel)
theorem tm_696 : (Cond.laysFinal "RingPipelineModel" "RingPipelineModel" "slots" "I") ∈ TB := tb_of (tb_3 216 (by decide +kernel)) (by decide +kernel)
theorem tm_697 : (Cond.soleField "RingPipelineModel" "slots") ∈ TB := tb_of (tb_3 217 (by decide +kernel)) (by decide +kernel)
theorem tm_698 : (Cond.laysFinal "RingPipelineModel" "RingPipelineModel" "sequences" "[B") ∈ TB := tb_of (tb_3 218 (by decide +kernel)) (by decide +kernel)
theorem tm_699 : (Cond.soleField "RingPipelineModel" "sequences") ∈ TB := tb_of (tb_3 219 (by decide +kernel)) (by decide +kernel)
theorem tm_700 : (Cond.lays "RingPipelineModel" "RingPipelineModel" "cursor" "I") ∈ TB := tb_of (tb_3 220 (by decide +kernel)) (by decide +kernel)
theorem tm_701 : (Cond.soleField "RingPipelineModel" "cursor") ∈ TB := tb_of (tb_3 221 (by decide +kernel)) (by decide +kernel)
theorem tm_702 : (Cond.lays "RingPipelineModel" "RingPipelineModel" "available" "I") ∈ TB := tb_of (tb_3 222 (by decide +kernel)) (by decide +kernel)
theorem tm_703 : (Cond.soleField "RingPipelineModel" "available") ∈ TB := tb_of (tb_3 223 (by decide +kernel)) (by decide +kernel)
theorem tm_704 : (Cond.laysFinal "RingPipelineModel" "RingPipelineModel" "value" "[J") ∈ TB := tb_of (tb_3 224 (by decide +kernel)) (by decide +kernel)
theorem tm_705 : (Cond.soleField "RingPipelineModel" "value") ∈ TB := tb_of (tb_3 225 (by decide +kernel)) (by decide +kernel)
theorem tm_706 : (Cond.laysFinal "RingPipelineModel" "RingPipelineModel" "producers" "[I") ∈ TB := tb_of (tb_3 226 (by decide +kernel)) (by decide +kernel)
theorem tm_707 : (Cond.soleField "RingPipelineModel" "producers") ∈ TB := tb_of (tb_3 227 (by decide +kernel)) (by decide +kernel)
theorem tm_708 : (Cond.laysFinal "RingPipelineModel" "RingPipelineModel" "latest" "[I") ∈ TB := tb_of (tb_3 228 (by decide +kernel)) (by decide +kernel)
theorem tm_709 : (Cond.soleField "RingPipelineModel" "latest") ∈ TB := tb_of (tb_3 229 (by decide +kernel)) (by decide +kernel)
theorem tm_710 : (Cond.lays "RingPipelineModel" "RingPipelineModel" "consumers" "I") ∈ TB := tb_of (tb_3 230 (by decide +kernel)) (by decide +kernel)
theorem tm_711 : (Cond.soleField "RingPipelineModel" "consumers") ∈ TB := tb_of (tb_3 231 (by decide +kernel)) (by decide +kernel)
theorem tm_712 : (Cond.laysFinal "RingPipelineModel" "RingPipelineModel" "kind" "[I") ∈ TB := tb_of (tb_3 232 (by decide +kernel)) (by decide +kernel)
theorem tm_713 : (Cond.soleField "RingPipelineModel" "kind") ∈ TB := tb_of (tb_3 233 (by decide +kernel)) (by decide +kernel)
theorem tm_714 : (Cond.laysFinal "RingPipelineModel" "RingPipelineModel" "on" "[I") ∈ TB := tb_of (tb_3 234 (by decide +kernel)) (by decide +kernel)
theorem tm_715 : (Cond.soleField "RingPipelineModel" "on") ∈ TB := tb_of (tb_3 235 (by decide +kernel)) (by decide +kernel)
theorem tm_716 : (Cond.laysFinal "RingPipelineModel" "RingPipelineModel" "policy" "[I") ∈ TB := tb_of (tb_3 236 (by decide +kernel)) (by decide +kernel)
theorem tm_717 : (Cond.soleField "RingPipelineModel" "policy") ∈ TB := tb_of (tb_3 237 (by decide +kernel)) (by decide +kernel)
theorem tm_718 : (Cond.laysFinal "RingPipelineModel" "RingPipelineModel" "pool" "[I") ∈ TB := tb_of (tb_3 238 (by decide +kernel)) (by decide +kernel)
theorem tm_719 : (Cond.soleField "RingPipelineModel" "pool") ∈ TB := tb_of (tb_3 239 (by decide +kernel)) (by decide +kernel)
theorem tm_720 : (Cond.laysFinal "RingPipelineModel" "RingPipelineModel" "place" "[I") ∈ TB := tb_of (tb_4 0 (by decide +kernel)) (by decide +kernel)
theorem tm_721 : (Cond.soleField "RingPipelineModel" "place") ∈ TB := tb_of (tb_4 1 (by decide +kernel)) (by decide +kernel)
theorem tm_722 : (Cond.laysFinal "RingPipelineModel" "RingPipelineModel" "halted" "[Z") ∈ TB := tb_of (tb_4 2 (by decide +kernel)) (by decide +kernel)
theorem tm_723 : (Cond.soleField "RingPipelineModel" "halted") ∈ TB := tb_of (tb_4 3 (by decide +kernel)) (by decide +kernel)
theorem tm_724 : (Cond.laysFinal "RingPipelineModel" "RingPipelineModel" "handled" "[I") ∈ TB := tb_of (tb_4 4 (by decide +kernel)) (by decide +kernel)
theorem tm_725 : (Cond.soleField "RingPipelineModel" "handled") ∈ TB := tb_of (tb_4 5 (by decide +kernel)) (by decide +kernel)
theorem tm_726 : (Cond.laysFinal "RingPipelineModel" "RingPipelineModel" "ignored" "[I") ∈ TB := tb_of (tb_4 6 (by decide +kernel)) (by decide +kernel)
theorem tm_727 : (Cond.soleField "RingPipelineModel" "ignored") ∈ TB := tb_of (tb_4 7 (by decide +kernel)) (by decide +kernel)
theorem tm_728 : (Cond.laysFinal "RingPipelineModel" "RingPipelineModel" "rewound" "[I") ∈ TB := tb_of (tb_4 8 (by decide +kernel)) (by decide +kernel)
theorem tm_729 : (Cond.soleField "RingPipelineModel" "rewound") ∈ TB := tb_of (tb_4 9 (by decide +kernel)) (by decide +kernel)
theorem tm_730 : (Cond.laysFinal "RingPipelineModel" "RingPipelineModel" "threwAt" "[I") ∈ TB := tb_of (tb_4 10 (by decide +kernel)) (by decide +kernel)
theorem tm_731 : (Cond.soleField "RingPipelineModel" "threwAt") ∈ TB := tb_of (tb_4 11 (by decide +kernel)) (by decide +kernel)
theorem tm_732 : (Cond.laysFinal "RingPipelineModel" "RingPipelineModel" "times" "[I") ∈ TB := tb_of (tb_4 12 (by decide +kernel)) (by decide +kernel)
theorem tm_733 : (Cond.soleField "RingPipelineModel" "times") ∈ TB := tb_of (tb_4 13 (by decide +kernel)) (by decide +kernel)
theorem tm_734 : (Cond.laysFinal "RingPipelineModel" "RingPipelineModel" "has" "[I") ∈ TB := tb_of (tb_4 14 (by decide +kernel)) (by decide +kernel)
theorem tm_735 : (Cond.soleField "RingPipelineModel" "has") ∈ TB := tb_of (tb_4 15 (by decide +kernel)) (by decide +kernel)
theorem tm_736 : (Cond.laysFinal "RingPipelineModel" "RingPipelineModel" "taken" "[I") ∈ TB := tb_of (tb_4 16 (by decide +kernel)) (by decide +kernel)
theorem tm_737 : (Cond.soleField "RingPipelineModel" "taken") ∈ TB := tb_of (tb_4 17 (by decide +kernel)) (by decide +kernel)
theorem tm_738 : (Cond.laysFinal "RingPipelineModel" "RingPipelineModel" "totals" "[J") ∈ TB := tb_of (tb_4 18 (by decide +kernel)) (by decide +kernel)
theorem tm_739 : (Cond.soleField "RingPipelineModel" "totals") ∈ TB := tb_of (tb_4 19 (by decide +kernel)) (by decide +kernel)
theorem tm_740 : (Cond.laysFinal "RingPipelineModel" "RingPipelineModel" "levels" "[F") ∈ TB := tb_of (tb_4 20 (by decide +kernel)) (by decide +kernel)
theorem tm_741 : (Cond.soleField "RingPipelineModel" "levels") ∈ TB := tb_of (tb_4 21 (by decide +kernel)) (by decide +kernel)
theorem tm_742 : (Cond.laysFinal "RingPipelineModel" "RingPipelineModel" "means" "[D") ∈ TB := tb_of (tb_4 22 (by decide +kernel)) (by decide +kernel)
theorem tm_743 : (Cond.soleField "RingPipelineModel" "means") ∈ TB := tb_of (tb_4 23 (by decide +kernel)) (by decide +kernel)
theorem tm_744 : (Cond.laysFinal "RingPipelineModel" "RingPipelineModel" "sizes" "[I") ∈ TB := tb_of (tb_4 24 (by decide +kernel)) (by decide +kernel)
theorem tm_745 : (Cond.soleField "RingPipelineModel" "sizes") ∈ TB := tb_of (tb_4 25 (by decide +kernel)) (by decide +kernel)
theorem tm_746 : (Cond.laysFinal "RingPipelineModel" "RingPipelineModel" "bytes" "[I") ∈ TB := tb_of (tb_4 26 (by decide +kernel)) (by decide +kernel)
theorem tm_747 : (Cond.soleField "RingPipelineModel" "bytes") ∈ TB := tb_of (tb_4 27 (by decide +kernel)) (by decide +kernel)
theorem tm_748 : (Cond.lays "RingPipelineModel" "RingPipelineModel" "replayed" "J") ∈ TB := tb_of (tb_4 28 (by decide +kernel)) (by decide +kernel)
theorem tm_749 : (Cond.soleField "RingPipelineModel" "replayed") ∈ TB := tb_of (tb_4 29 (by decide +kernel)) (by decide +kernel)
theorem tm_750 : (Cond.superclass "RingPipelineModel" "java/lang/Object") ∈ TB := tb_of (tb_4 30 (by decide +kernel)) (by decide +kernel)
theorem tm_751 : (Cond.arrayClass .boolean) ∈ TB := tb_of (tb_4 31 (by decide +kernel)) (by decide +kernel)
theorem tm_752 : (Cond.arrayClass .float) ∈ TB := tb_of (tb_4 32 (by decide +kernel)) (by decide +kernel)
theorem tm_753 : (Cond.arrayClass .double) ∈ TB := tb_of (tb_4 33 (by decide +kernel)) (by decide +kernel)
theorem tm_754 : (Cond.methodLink "RingPipelineLaw" 81 ⟨"RingPipelineModel", "thrown", "()I"⟩) ∈ TB := tb_of (tb_4 34 (by decide +kernel)) (by decide +kernel)
theorem tm_755 : (Cond.instanceMethod ⟨"RingPipelineModel", "thrown", "()I"⟩) ∈ TB := tb_of (tb_4 35 (by decide +kernel)) (by decide +kernel)
theorem tm_756 : (Cond.selects "RingPipelineModel" ⟨"RingPipelineModel", "thrown", "()I"⟩ ⟨"RingPipelineModel", "thrown", "()I"⟩) ∈ TB := tb_of (tb_4 36 (by decide +kernel)) (by decide +kernel)
theorem tm_757 : (Cond.code ⟨"RingPipelineModel", "thrown", "()I"⟩ prog_11_method_2_code 1 (some .int)) ∈ TB := tb_of (tb_4 37 (by decide +kernel)) (by decide +kernel)
theorem tm_758 : (Cond.methodLink "RingPipelineLaw" 80 ⟨"RingPipelineModel", "consumer", "(IIII)I"⟩) ∈ TB := tb_of (tb_4 38 (by decide +kernel)) (by decide +kernel)
theorem tm_759 : (Cond.instanceMethod ⟨"RingPipelineModel", "consumer", "(IIII)I"⟩) ∈ TB := tb_of (tb_4 39 (by decide +kernel)) (by decide +kernel)
theorem tm_760 : (Cond.selects "RingPipelineModel" ⟨"RingPipelineModel", "consumer", "(IIII)I"⟩ ⟨"RingPipelineModel", "consumer", "(IIII)I"⟩) ∈ TB := tb_of (tb_4 40 (by decide +kernel)) (by decide +kernel)
theorem tm_761 : (Cond.code ⟨"RingPipelineModel", "consumer", "(IIII)I"⟩ prog_11_method_6_code 6 (some .int)) ∈ TB := tb_of (tb_4 41 (by decide +kernel)) (by decide +kernel)
theorem tm_762 : (Cond.methodLink "RingPipelineModel" 97 ⟨"RingPipelineModel", "within", "(III)Z"⟩) ∈ TB := tb_of (tb_4 42 (by decide +kernel)) (by decide +kernel)
theorem tm_763 : (Cond.static ⟨"RingPipelineModel", "within", "(III)Z"⟩) ∈ TB := tb_of (tb_4 43 (by decide +kernel)) (by decide +kernel)
theorem tm_764 : (Cond.code ⟨"RingPipelineModel", "within", "(III)Z"⟩ prog_11_method_4_code 3 (some .boolean)) ∈ TB := tb_of (tb_4 44 (by decide +kernel)) (by decide +kernel)
theorem tm_765 : (Cond.methodLink "RingPipelineModel" 101 ⟨"RingPipelineModel", "firstOf", "(I)I"⟩) ∈ TB := tb_of (tb_4 45 (by decide +kernel)) (by decide +kernel)
theorem tn_766 : (Cond.privateMethod ⟨"RingPipelineModel", "firstOf", "(I)I"⟩) ∈ lw_tbl := tb_4 46 (by decide +kernel)
theorem tm_767 : (Cond.instanceMethod ⟨"RingPipelineModel", "firstOf", "(I)I"⟩) ∈ TB := tb_of (tb_4 47 (by decide +kernel)) (by decide +kernel)
theorem tm_768 : (Cond.code ⟨"RingPipelineModel", "firstOf", "(I)I"⟩ prog_11_method_5_code 4 (some .int)) ∈ TB := tb_of (tb_4 48 (by decide +kernel)) (by decide +kernel)
theorem tm_769 : (Cond.methodLink "RingPipelineModel" 105 ⟨"RingPipelineModel", "fail", "(I)I"⟩) ∈ TB := tb_of (tb_4 49 (by decide +kernel)) (by decide +kernel)
theorem tn_770 : (Cond.privateMethod ⟨"RingPipelineModel", "fail", "(I)I"⟩) ∈ lw_tbl := tb_4 50 (by decide +kernel)
theorem tm_771 : (Cond.instanceMethod ⟨"RingPipelineModel", "fail", "(I)I"⟩) ∈ TB := tb_of (tb_4 51 (by decide +kernel)) (by decide +kernel)
theorem tm_772 : (Cond.code ⟨"RingPipelineModel", "fail", "(I)I"⟩ prog_11_method_3_code 2 (some .int)) ∈ TB := tb_of (tb_4 52 (by decide +kernel)) (by decide +kernel)
theorem tm_773 : (Cond.methodLink "RingPipelineLaw" 88 ⟨"RingPipelineModel", "claim", "(II)J"⟩) ∈ TB := tb_of (tb_4 53 (by decide +kernel)) (by decide +kernel)
theorem tm_774 : (Cond.instanceMethod ⟨"RingPipelineModel", "claim", "(II)J"⟩) ∈ TB := tb_of (tb_4 54 (by decide +kernel)) (by decide +kernel)
theorem tm_775 : (Cond.selects "RingPipelineModel" ⟨"RingPipelineModel", "claim", "(II)J"⟩ ⟨"RingPipelineModel", "claim", "(II)J"⟩) ∈ TB := tb_of (tb_4 55 (by decide +kernel)) (by decide +kernel)
theorem tm_776 : (Cond.code ⟨"RingPipelineModel", "claim", "(II)J"⟩ prog_11_method_9_code 7 (some .long)) ∈ TB := tb_of (tb_4 56 (by decide +kernel)) (by decide +kernel)
theorem tm_777 : (Cond.methodLink "RingPipelineModel" 108 ⟨"RingPipelineModel", "placeOf", "(I)I"⟩) ∈ TB := tb_of (tb_4 57 (by decide +kernel)) (by decide +kernel)
theorem tn_778 : (Cond.privateMethod ⟨"RingPipelineModel", "placeOf", "(I)I"⟩) ∈ lw_tbl := tb_4 58 (by decide +kernel)
theorem tm_779 : (Cond.instanceMethod ⟨"RingPipelineModel", "placeOf", "(I)I"⟩) ∈ TB := tb_of (tb_4 59 (by decide +kernel)) (by decide +kernel)
theorem tm_780 : (Cond.code ⟨"RingPipelineModel", "placeOf", "(I)I"⟩ prog_11_method_7_code 4 (some .int)) ∈ TB := tb_of (tb_4 60 (by decide +kernel)) (by decide +kernel)
theorem tm_781 : (Cond.methodLink "RingPipelineLaw" 94 ⟨"RingPipelineModel", "publish", "(IJJ)Z"⟩) ∈ TB := tb_of (tb_4 61 (by decide +kernel)) (by decide +kernel)
theorem tm_782 : (Cond.instanceMethod ⟨"RingPipelineModel", "publish", "(IJJ)Z"⟩) ∈ TB := tb_of (tb_4 62 (by decide +kernel)) (by decide +kernel)
theorem tm_783 : (Cond.selects "RingPipelineModel" ⟨"RingPipelineModel", "publish", "(IJJ)Z"⟩ ⟨"RingPipelineModel", "publish", "(IJJ)Z"⟩) ∈ TB := tb_of (tb_4 63 (by decide +kernel)) (by decide +kernel)
theorem tm_784 : (Cond.code ⟨"RingPipelineModel", "publish", "(IJJ)Z"⟩ prog_11_method_10_code 8 (some .boolean)) ∈ TB := tb_of (tb_4 64 (by decide +kernel)) (by decide +kernel)
theorem tm_785 : (Cond.methodLink "RingPipelineLaw" 97 ⟨"RingPipelineModel", "run", "(II)I"⟩) ∈ TB := tb_of (tb_4 65 (by decide +kernel)) (by decide +kernel)
theorem tm_786 : (Cond.instanceMethod ⟨"RingPipelineModel", "run", "(II)I"⟩) ∈ TB := tb_of (tb_4 66 (by decide +kernel)) (by decide +kernel)
theorem tm_787 : (Cond.selects "RingPipelineModel" ⟨"RingPipelineModel", "run", "(II)I"⟩ ⟨"RingPipelineModel", "run", "(II)I"⟩) ∈ TB := tb_of (tb_4 67 (by decide +kernel)) (by decide +kernel)
theorem tm_788 : (Cond.code ⟨"RingPipelineModel", "run", "(II)I"⟩ prog_11_method_18_code 3 (some .int)) ∈ TB := tb_of (tb_4 68 (by decide +kernel)) (by decide +kernel)
theorem tm_789 : (Cond.methodLink "RingPipelineModel" 132 ⟨"RingPipelineModel", "none", "(I)Z"⟩) ∈ TB := tb_of (tb_4 69 (by decide +kernel)) (by decide +kernel)
theorem tn_790 : (Cond.privateMethod ⟨"RingPipelineModel", "none", "(I)Z"⟩) ∈ lw_tbl := tb_4 70 (by decide +kernel)
theorem tm_791 : (Cond.instanceMethod ⟨"RingPipelineModel", "none", "(I)Z"⟩) ∈ TB := tb_of (tb_4 71 (by decide +kernel)) (by decide +kernel)
theorem tm_792 : (Cond.code ⟨"RingPipelineModel", "none", "(I)Z"⟩ prog_11_method_17_code 2 (some .boolean)) ∈ TB := tb_of (tb_4 72 (by decide +kernel)) (by decide +kernel)
theorem tm_793 : (Cond.methodLink "RingPipelineModel" 136 ⟨"RingPipelineModel", "batch", "(II)I"⟩) ∈ TB := tb_of (tb_4 73 (by decide +kernel)) (by decide +kernel)
theorem tn_794 : (Cond.privateMethod ⟨"RingPipelineModel", "batch", "(II)I"⟩) ∈ lw_tbl := tb_4 74 (by decide +kernel)
theorem tm_795 : (Cond.instanceMethod ⟨"RingPipelineModel", "batch", "(II)I"⟩) ∈ TB := tb_of (tb_4 75 (by decide +kernel)) (by decide +kernel)
theorem tm_796 : (Cond.code ⟨"RingPipelineModel", "batch", "(II)I"⟩ prog_11_method_15_code 16 (some .int)) ∈ TB := tb_of (tb_4 76 (by decide +kernel)) (by decide +kernel)
theorem tm_797 : (Cond.methodLink "RingPipelineModel" 121 ⟨"RingPipelineModel", "bound", "(I)I"⟩) ∈ TB := tb_of (tb_4 77 (by decide +kernel)) (by decide +kernel)
theorem tn_798 : (Cond.privateMethod ⟨"RingPipelineModel", "bound", "(I)I"⟩) ∈ lw_tbl := tb_4 78 (by decide +kernel)
theorem tm_799 : (Cond.instanceMethod ⟨"RingPipelineModel", "bound", "(I)I"⟩) ∈ TB := tb_of (tb_4 79 (by decide +kernel)) (by decide +kernel)
theorem tm_800 : (Cond.code ⟨"RingPipelineModel", "bound", "(I)I"⟩ prog_11_method_8_code 5 (some .int)) ∈ TB := tb_of (tb_4 80 (by decide +kernel)) (by decide +kernel)
theorem tm_801 : (Cond.methodLink "RingPipelineModel" 124 ⟨"RingPipelineModel", "handles", "(II)Z"⟩) ∈ TB := tb_of (tb_4 81 (by decide +kernel)) (by decide +kernel)
theorem tn_802 : (Cond.privateMethod ⟨"RingPipelineModel", "handles", "(II)Z"⟩) ∈ lw_tbl := tb_4 82 (by decide +kernel)
theorem tm_803 : (Cond.instanceMethod ⟨"RingPipelineModel", "handles", "(II)Z"⟩) ∈ TB := tb_of (tb_4 83 (by decide +kernel)) (by decide +kernel)
theorem tm_804 : (Cond.code ⟨"RingPipelineModel", "handles", "(II)Z"⟩ prog_11_method_13_code 5 (some .boolean)) ∈ TB := tb_of (tb_4 84 (by decide +kernel)) (by decide +kernel)
theorem tm_805 : (Cond.constantLong "RingPipelineModel" 115 (-1)) ∈ TB := tb_of (tb_4 85 (by decide +kernel)) (by decide +kernel)
theorem tm_806 : (Cond.constantFloat "RingPipelineModel" 117 1048576000) ∈ TB := tb_of (tb_4 86 (by decide +kernel)) (by decide +kernel)
theorem tm_807 : (Cond.methodLink "RingPipelineModel" 118 ⟨"RingPipelineModel", "record", "(II)V"⟩) ∈ TB := tb_of (tb_4 87 (by decide +kernel)) (by decide +kernel)
theorem tn_808 : (Cond.privateMethod ⟨"RingPipelineModel", "record", "(II)V"⟩) ∈ lw_tbl := tb_4 88 (by decide +kernel)
theorem tm_809 : (Cond.instanceMethod ⟨"RingPipelineModel", "record", "(II)V"⟩) ∈ TB := tb_of (tb_4 89 (by decide +kernel)) (by decide +kernel)
theorem tm_810 : (Cond.code ⟨"RingPipelineModel", "record", "(II)V"⟩ prog_11_method_12_code 8 none) ∈ TB := tb_of (tb_4 90 (by decide +kernel)) (by decide +kernel)
theorem tm_811 : (Cond.methodLink "RingPipelineModel" 111 ⟨"RingPipelineModel", "put", "(II)V"⟩) ∈ TB := tb_of (tb_4 91 (by decide +kernel)) (by decide +kernel)
theorem tn_812 : (Cond.privateMethod ⟨"RingPipelineModel", "put", "(II)V"⟩) ∈ lw_tbl := tb_4 92 (by decide +kernel)
theorem tm_813 : (Cond.instanceMethod ⟨"RingPipelineModel", "put", "(II)V"⟩) ∈ TB := tb_of (tb_4 93 (by decide +kernel)) (by decide +kernel)
theorem tm_814 : (Cond.code ⟨"RingPipelineModel", "put", "(II)V"⟩ prog_11_method_11_code 3 none) ∈ TB := tb_of (tb_4 94 (by decide +kernel)) (by decide +kernel)
theorem tm_815 : (Cond.methodLink "RingPipelineModel" 128 ⟨"RingPipelineModel", "answer", "(II)I"⟩) ∈ TB := tb_of (tb_4 95 (by decide +kernel)) (by decide +kernel)
theorem tn_816 : (Cond.privateMethod ⟨"RingPipelineModel", "answer", "(II)I"⟩) ∈ lw_tbl := tb_4 96 (by decide +kernel)
theorem tm_817 : (Cond.instanceMethod ⟨"RingPipelineModel", "answer", "(II)I"⟩) ∈ TB := tb_of (tb_4 97 (by decide +kernel)) (by decide +kernel)
theorem tm_818 : (Cond.code ⟨"RingPipelineModel", "answer", "(II)I"⟩ prog_11_method_14_code 3 (some .int)) ∈ TB := tb_of (tb_4 98 (by decide +kernel)) (by decide +kernel)
theorem tm_819 : (Cond.methodLink "RingPipelineModel" 139 ⟨"RingPipelineModel", "work", "(II)I"⟩) ∈ TB := tb_of (tb_4 99 (by decide +kernel)) (by decide +kernel)
theorem tn_820 : (Cond.privateMethod ⟨"RingPipelineModel", "work", "(II)I"⟩) ∈ lw_tbl := tb_4 100 (by decide +kernel)
theorem tm_821 : (Cond.instanceMethod ⟨"RingPipelineModel", "work", "(II)I"⟩) ∈ TB := tb_of (tb_4 101 (by decide +kernel)) (by decide +kernel)
theorem tm_822 : (Cond.code ⟨"RingPipelineModel", "work", "(II)I"⟩ prog_11_method_16_code 8 (some .int)) ∈ TB := tb_of (tb_4 102 (by decide +kernel)) (by decide +kernel)
theorem tm_823 : (Cond.methodLink "RingPipelineLaw" 101 ⟨"RingPipelineModel", "place", "(I)J"⟩) ∈ TB := tb_of (tb_4 103 (by decide +kernel)) (by decide +kernel)
theorem tm_824 : (Cond.instanceMethod ⟨"RingPipelineModel", "place", "(I)J"⟩) ∈ TB := tb_of (tb_4 104 (by decide +kernel)) (by decide +kernel)
theorem tm_825 : (Cond.selects "RingPipelineModel" ⟨"RingPipelineModel", "place", "(I)J"⟩ ⟨"RingPipelineModel", "place", "(I)J"⟩) ∈ TB := tb_of (tb_4 105 (by decide +kernel)) (by decide +kernel)
theorem tm_826 : (Cond.code ⟨"RingPipelineModel", "place", "(I)J"⟩ prog_11_method_19_code 2 (some .long)) ∈ TB := tb_of (tb_4 106 (by decide +kernel)) (by decide +kernel)
theorem tm_827 : (Cond.methodLink "RingPipelineLaw" 104 ⟨"RingPipelineModel", "total", "(I)J"⟩) ∈ TB := tb_of (tb_4 107 (by decide +kernel)) (by decide +kernel)
theorem tm_828 : (Cond.instanceMethod ⟨"RingPipelineModel", "total", "(I)J"⟩) ∈ TB := tb_of (tb_4 108 (by decide +kernel)) (by decide +kernel)
theorem tm_829 : (Cond.selects "RingPipelineModel" ⟨"RingPipelineModel", "total", "(I)J"⟩ ⟨"RingPipelineModel", "total", "(I)J"⟩) ∈ TB := tb_of (tb_4 109 (by decide +kernel)) (by decide +kernel)
theorem tm_830 : (Cond.code ⟨"RingPipelineModel", "total", "(I)J"⟩ prog_11_method_20_code 2 (some .long)) ∈ TB := tb_of (tb_4 110 (by decide +kernel)) (by decide +kernel)
theorem tm_831 : (Cond.methodLink "RingPipelineLaw" 108 ⟨"RingPipelineModel", "level", "(I)F"⟩) ∈ TB := tb_of (tb_4 111 (by decide +kernel)) (by decide +kernel)
theorem tm_832 : (Cond.instanceMethod ⟨"RingPipelineModel", "level", "(I)F"⟩) ∈ TB := tb_of (tb_4 112 (by decide +kernel)) (by decide +kernel)
theorem tm_833 : (Cond.selects "RingPipelineModel" ⟨"RingPipelineModel", "level", "(I)F"⟩ ⟨"RingPipelineModel", "level", "(I)F"⟩) ∈ TB := tb_of (tb_4 113 (by decide +kernel)) (by decide +kernel)
theorem tm_834 : (Cond.code ⟨"RingPipelineModel", "level", "(I)F"⟩ prog_11_method_21_code 2 (some .float)) ∈ TB := tb_of (tb_4 114 (by decide +kernel)) (by decide +kernel)
theorem tm_835 : (Cond.methodLink "RingPipelineLaw" 111 ⟨"RingPipelineModel", "mean", "(I)D"⟩) ∈ TB := tb_of (tb_4 115 (by decide +kernel)) (by decide +kernel)
theorem tm_836 : (Cond.instanceMethod ⟨"RingPipelineModel", "mean", "(I)D"⟩) ∈ TB := tb_of (tb_4 116 (by decide +kernel)) (by decide +kernel)
theorem tm_837 : (Cond.selects "RingPipelineModel" ⟨"RingPipelineModel", "mean", "(I)D"⟩ ⟨"RingPipelineModel", "mean", "(I)D"⟩) ∈ TB := tb_of (tb_4 117 (by decide +kernel)) (by decide +kernel)
theorem tm_838 : (Cond.code ⟨"RingPipelineModel", "mean", "(I)D"⟩ prog_11_method_22_code 2 (some .double)) ∈ TB := tb_of (tb_4 118 (by decide +kernel)) (by decide +kernel)
theorem tm_839 : (Cond.methodLink "RingPipelineLaw" 114 ⟨"RingPipelineModel", "octet", "(II)I"⟩) ∈ TB := tb_of (tb_4 119 (by decide +kernel)) (by decide +kernel)
theorem tm_840 : (Cond.instanceMethod ⟨"RingPipelineModel", "octet", "(II)I"⟩) ∈ TB := tb_of (tb_4 120 (by decide +kernel)) (by decide +kernel)
theorem tm_841 : (Cond.selects "RingPipelineModel" ⟨"RingPipelineModel", "octet", "(II)I"⟩ ⟨"RingPipelineModel", "octet", "(II)I"⟩) ∈ TB := tb_of (tb_4 121 (by decide +kernel)) (by decide +kernel)
theorem tm_842 : (Cond.code ⟨"RingPipelineModel", "octet", "(II)I"⟩ prog_11_method_24_code 3 (some .int)) ∈ TB := tb_of (tb_4 122 (by decide +kernel)) (by decide +kernel)
theorem tm_843 : (Cond.methodLink "RingPipelineModel" 142 ⟨"RingPipelineModel", "noJournal", "(I)Z"⟩) ∈ TB := tb_of (tb_4 123 (by decide +kernel)) (by decide +kernel)
theorem tn_844 : (Cond.privateMethod ⟨"RingPipelineModel", "noJournal", "(I)Z"⟩) ∈ lw_tbl := tb_4 124 (by decide +kernel)
theorem tm_845 : (Cond.instanceMethod ⟨"RingPipelineModel", "noJournal", "(I)Z"⟩) ∈ TB := tb_of (tb_4 125 (by decide +kernel)) (by decide +kernel)
theorem tm_846 : (Cond.code ⟨"RingPipelineModel", "noJournal", "(I)Z"⟩ prog_11_method_23_code 2 (some .boolean)) ∈ TB := tb_of (tb_4 126 (by decide +kernel)) (by decide +kernel)
theorem tm_847 : (Cond.methodLink "RingPipelineLaw" 117 ⟨"RingPipelineModel", "tear", "(II)I"⟩) ∈ TB := tb_of (tb_4 127 (by decide +kernel)) (by decide +kernel)
theorem tm_848 : (Cond.instanceMethod ⟨"RingPipelineModel", "tear", "(II)I"⟩) ∈ TB := tb_of (tb_4 128 (by decide +kernel)) (by decide +kernel)
theorem tm_849 : (Cond.selects "RingPipelineModel" ⟨"RingPipelineModel", "tear", "(II)I"⟩ ⟨"RingPipelineModel", "tear", "(II)I"⟩) ∈ TB := tb_of (tb_4 129 (by decide +kernel)) (by decide +kernel)
theorem tm_850 : (Cond.code ⟨"RingPipelineModel", "tear", "(II)I"⟩ prog_11_method_25_code 3 (some .int)) ∈ TB := tb_of (tb_4 130 (by decide +kernel)) (by decide +kernel)
theorem tm_851 : (Cond.methodLink "RingPipelineLaw" 120 ⟨"RingPipelineModel", "replay", "(I)I"⟩) ∈ TB := tb_of (tb_4 131 (by decide +kernel)) (by decide +kernel)
theorem tm_852 : (Cond.instanceMethod ⟨"RingPipelineModel", "replay", "(I)I"⟩) ∈ TB := tb_of (tb_4 132 (by decide +kernel)) (by decide +kernel)
theorem tm_853 : (Cond.selects "RingPipelineModel" ⟨"RingPipelineModel", "replay", "(I)I"⟩ ⟨"RingPipelineModel", "replay", "(I)I"⟩) ∈ TB := tb_of (tb_4 133 (by decide +kernel)) (by decide +kernel)
theorem tm_854 : (Cond.code ⟨"RingPipelineModel", "replay", "(I)I"⟩ prog_11_method_27_code 6 (some .int)) ∈ TB := tb_of (tb_4 134 (by decide +kernel)) (by decide +kernel)
theorem tm_855 : (Cond.methodLink "RingPipelineModel" 149 ⟨"RingPipelineModel", "whole", "(I)Z"⟩) ∈ TB := tb_of (tb_4 135 (by decide +kernel)) (by decide +kernel)
theorem tn_856 : (Cond.privateMethod ⟨"RingPipelineModel", "whole", "(I)Z"⟩) ∈ lw_tbl := tb_4 136 (by decide +kernel)
theorem tm_857 : (Cond.instanceMethod ⟨"RingPipelineModel", "whole", "(I)Z"⟩) ∈ TB := tb_of (tb_4 137 (by decide +kernel)) (by decide +kernel)
theorem tm_858 : (Cond.code ⟨"RingPipelineModel", "whole", "(I)Z"⟩ prog_11_method_26_code 4 (some .boolean)) ∈ TB := tb_of (tb_4 138 (by decide +kernel)) (by decide +kernel)
theorem tm_859 : (Cond.methodLink "RingPipelineLaw" 125 ⟨"RingPipelineModel", "replayed", "()J"⟩) ∈ TB := tb_of (tb_4 139 (by decide +kernel)) (by decide +kernel)
theorem tm_860 : (Cond.instanceMethod ⟨"RingPipelineModel", "replayed", "()J"⟩) ∈ TB := tb_of (tb_4 140 (by decide +kernel)) (by decide +kernel)
theorem tm_861 : (Cond.selects "RingPipelineModel" ⟨"RingPipelineModel", "replayed", "()J"⟩ ⟨"RingPipelineModel", "replayed", "()J"⟩) ∈ TB := tb_of (tb_4 141 (by decide +kernel)) (by decide +kernel)
theorem tm_862 : (Cond.code ⟨"RingPipelineModel", "replayed", "()J"⟩ prog_11_method_28_code 1 (some .long)) ∈ TB := tb_of (tb_4 142 (by decide +kernel)) (by decide +kernel)
theorem tm_863 : (Cond.methodLink "RingPipelineLaw" 128 ⟨"RingPipelineModel", "count", "(II)I"⟩) ∈ TB := tb_of (tb_4 143 (by decide +kernel)) (by decide +kernel)
theorem tm_864 : (Cond.instanceMethod ⟨"RingPipelineModel", "count", "(II)I"⟩) ∈ TB := tb_of (tb_4 144 (by decide +kernel)) (by decide +kernel)
theorem tm_865 : (Cond.selects "RingPipelineModel" ⟨"RingPipelineModel", "count", "(II)I"⟩ ⟨"RingPipelineModel", "count", "(II)I"⟩) ∈ TB := tb_of (tb_4 145 (by decide +kernel)) (by decide +kernel)
theorem tm_866 : (Cond.code ⟨"RingPipelineModel", "count", "(II)I"⟩ prog_11_method_29_code 3 (some .int)) ∈ TB := tb_of (tb_4 146 (by decide +kernel)) (by decide +kernel)
theorem tm_867 : (Cond.methodLink "RingPipelineLaw" 132 ⟨"RingPipelineModel", "state", "(IJ)J"⟩) ∈ TB := tb_of (tb_4 147 (by decide +kernel)) (by decide +kernel)
theorem tm_868 : (Cond.instanceMethod ⟨"RingPipelineModel", "state", "(IJ)J"⟩) ∈ TB := tb_of (tb_4 148 (by decide +kernel)) (by decide +kernel)
theorem tm_869 : (Cond.selects "RingPipelineModel" ⟨"RingPipelineModel", "state", "(IJ)J"⟩ ⟨"RingPipelineModel", "state", "(IJ)J"⟩) ∈ TB := tb_of (tb_4 149 (by decide +kernel)) (by decide +kernel)
theorem tm_870 : (Cond.code ⟨"RingPipelineModel", "state", "(IJ)J"⟩ prog_11_method_30_code 4 (some .long)) ∈ TB := tb_of (tb_4 150 (by decide +kernel)) (by decide +kernel)
theorem tm_871 : (Cond.constantLong "RingPipelineLaw" 89 4294967295) ∈ TB := tb_of (tb_4 151 (by decide +kernel)) (by decide +kernel)
theorem tm_872 : (Cond.sameMethod "java/lang/Throwable" "java/lang/Throwable" "fillInStackTrace" "(I)Ljava/lang/Throwable;") ∈ TB := tb_of (tb_4 152 (by decide +kernel)) (by decide +kernel)
theorem tn_873 : (Cond.castable "RingPipeline$Smooth" "RingPipeline$Smooth") ∈ lw_tbl := tb_4 153 (by decide +kernel)
theorem tn_874 : (Cond.castable "RingPipeline$Mean" "RingPipeline$Mean") ∈ lw_tbl := tb_4 154 (by decide +kernel)
theorem tn_875 : (Cond.castable "RingPipeline$Journal" "RingPipeline$Journal") ∈ lw_tbl := tb_4 155 (by decide +kernel)
theorem tm_876 : (Cond.selects "java/lang/Throwable" ⟨"java/lang/Throwable", "fillInStackTrace", "(I)Ljava/lang/Throwable;"⟩ ⟨"java/lang/Throwable", "fillInStackTrace", "(I)Ljava/lang/Throwable;"⟩) ∈ TB := tb_of (tb_s 0 (by decide +kernel)) (by decide +kernel)
theorem tm_877 : (Cond.selects "RingPipeline" ⟨"RingPipeline", "mayJoin", "(III)Z"⟩ ⟨"RingPipeline", "mayJoin", "(III)Z"⟩) ∈ TB := tb_of (tb_s 1 (by decide +kernel)) (by decide +kernel)
theorem tm_878 : (Cond.selects "RingPipeline" ⟨"RingPipeline", "poolToJoin", "(II)LRingPipeline$Pool;"⟩ ⟨"RingPipeline", "poolToJoin", "(II)LRingPipeline$Pool;"⟩) ∈ TB := tb_of (tb_s 2 (by decide +kernel)) (by decide +kernel)
theorem tm_879 : (Cond.selects "RingPipeline" ⟨"RingPipeline", "add", "(LRingPipeline$Consumer;)I"⟩ ⟨"RingPipeline", "add", "(LRingPipeline$Consumer;)I"⟩) ∈ TB := tb_of (tb_s 3 (by decide +kernel)) (by decide +kernel)
theorem tm_880 : (Cond.selects "RingPipeline" ⟨"RingPipeline", "lastInLine", "()I"⟩ ⟨"RingPipeline", "lastInLine", "()I"⟩) ∈ TB := tb_of (tb_s 4 (by decide +kernel)) (by decide +kernel)
theorem tm_881 : (Cond.selects "RingPipeline" ⟨"RingPipeline", "leastPlace", "(I)J"⟩ ⟨"RingPipeline", "leastPlace", "(I)J"⟩) ∈ TB := tb_of (tb_s 5 (by decide +kernel)) (by decide +kernel)
theorem tm_882 : (Cond.selects "RingPipeline" ⟨"RingPipeline", "existing", "(I)LRingPipeline$Consumer;"⟩ ⟨"RingPipeline", "existing", "(I)LRingPipeline$Consumer;"⟩) ∈ TB := tb_of (tb_s 6 (by decide +kernel)) (by decide +kernel)
theorem tm_883 : (Cond.selects "RingPipeline$Consumer" ⟨"RingPipeline$Consumer", "goThrough", "(LRingPipeline$Ring;JI)I"⟩ ⟨"RingPipeline$Consumer", "goThrough", "(LRingPipeline$Ring;JI)I"⟩) ∈ TB := tb_of (tb_s 7 (by decide +kernel)) (by decide +kernel)
theorem tm_884 : (Cond.selects "RingPipeline$Consumer" ⟨"RingPipeline$Consumer", "startBatch", "()V"⟩ ⟨"RingPipeline$Consumer", "startBatch", "()V"⟩) ∈ TB := tb_of (tb_s 8 (by decide +kernel)) (by decide +kernel)
theorem tm_885 : (Cond.selects "RingPipeline$Consumer" ⟨"RingPipeline$Consumer", "passes", "(LRingPipeline$Ring;J)Z"⟩ ⟨"RingPipeline$Consumer", "passes", "(LRingPipeline$Ring;J)Z"⟩) ∈ TB := tb_of (tb_s 9 (by decide +kernel)) (by decide +kernel)
theorem tm_886 : (Cond.selects "RingPipeline$Journal" ⟨"RingPipeline$Journal", "append", "(J)V"⟩ ⟨"RingPipeline$Journal", "append", "(J)V"⟩) ∈ TB := tb_of (tb_s 10 (by decide +kernel)) (by decide +kernel)
theorem tm_887 : (Cond.selects "RingPipeline$Journal" ⟨"RingPipeline$Journal", "sumOfRecordAt", "(I)I"⟩ ⟨"RingPipeline$Journal", "sumOfRecordAt", "(I)I"⟩) ∈ TB := tb_of (tb_s 11 (by decide +kernel)) (by decide +kernel)
theorem tm_888 : (Cond.selects "RingPipeline$Consumer" ⟨"RingPipeline$Consumer", "throwsAgain", "(J)I"⟩ ⟨"RingPipeline$Consumer", "throwsAgain", "(J)I"⟩) ∈ TB := tb_of (tb_s 12 (by decide +kernel)) (by decide +kernel)
theorem tm_889 : (Cond.selects "RingPipeline$Consumer" ⟨"RingPipeline$Consumer", "returnToStart", "()V"⟩ ⟨"RingPipeline$Consumer", "returnToStart", "()V"⟩) ∈ TB := tb_of (tb_s 13 (by decide +kernel)) (by decide +kernel)
theorem tm_890 : (Cond.selects "RingPipeline$Consumer" ⟨"RingPipeline$Consumer", "share", "(LRingPipeline$Pool;LRingPipeline$Ring;JI)I"⟩ ⟨"RingPipeline$Consumer", "share", "(LRingPipeline$Pool;LRingPipeline$Ring;JI)I"⟩) ∈ TB := tb_of (tb_s 14 (by decide +kernel)) (by decide +kernel)
theorem tm_891 : (Cond.selects "RingPipeline" ⟨"RingPipeline", "journalOf", "(I)LRingPipeline$Journal;"⟩ ⟨"RingPipeline", "journalOf", "(I)LRingPipeline$Journal;"⟩) ∈ TB := tb_of (tb_s 15 (by decide +kernel)) (by decide +kernel)
theorem tm_892 : (Cond.selects "RingPipeline$Journal" ⟨"RingPipeline$Journal", "isSoundAt", "(I)Z"⟩ ⟨"RingPipeline$Journal", "isSoundAt", "(I)Z"⟩) ∈ TB := tb_of (tb_s 16 (by decide +kernel)) (by decide +kernel)
theorem tm_893 : (Cond.selects "RingPipeline$Journal" ⟨"RingPipeline$Journal", "valueAt", "(I)J"⟩ ⟨"RingPipeline$Journal", "valueAt", "(I)J"⟩) ∈ TB := tb_of (tb_s 17 (by decide +kernel)) (by decide +kernel)
theorem tm_894 : (Cond.selects "RingPipelineModel" ⟨"RingPipelineModel", "firstOf", "(I)I"⟩ ⟨"RingPipelineModel", "firstOf", "(I)I"⟩) ∈ TB := tb_of (tb_s 18 (by decide +kernel)) (by decide +kernel)
theorem tm_895 : (Cond.selects "RingPipelineModel" ⟨"RingPipelineModel", "fail", "(I)I"⟩ ⟨"RingPipelineModel", "fail", "(I)I"⟩) ∈ TB := tb_of (tb_s 19 (by decide +kernel)) (by decide +kernel)
theorem tm_896 : (Cond.selects "RingPipelineModel" ⟨"RingPipelineModel", "placeOf", "(I)I"⟩ ⟨"RingPipelineModel", "placeOf", "(I)I"⟩) ∈ TB := tb_of (tb_s 20 (by decide +kernel)) (by decide +kernel)
theorem tm_897 : (Cond.selects "RingPipelineModel" ⟨"RingPipelineModel", "none", "(I)Z"⟩ ⟨"RingPipelineModel", "none", "(I)Z"⟩) ∈ TB := tb_of (tb_s 21 (by decide +kernel)) (by decide +kernel)
theorem tm_898 : (Cond.selects "RingPipelineModel" ⟨"RingPipelineModel", "batch", "(II)I"⟩ ⟨"RingPipelineModel", "batch", "(II)I"⟩) ∈ TB := tb_of (tb_s 22 (by decide +kernel)) (by decide +kernel)
theorem tm_899 : (Cond.selects "RingPipelineModel" ⟨"RingPipelineModel", "bound", "(I)I"⟩ ⟨"RingPipelineModel", "bound", "(I)I"⟩) ∈ TB := tb_of (tb_s 23 (by decide +kernel)) (by decide +kernel)
theorem tm_900 : (Cond.selects "RingPipelineModel" ⟨"RingPipelineModel", "handles", "(II)Z"⟩ ⟨"RingPipelineModel", "handles", "(II)Z"⟩) ∈ TB := tb_of (tb_s 24 (by decide +kernel)) (by decide +kernel)
theorem tm_901 : (Cond.selects "RingPipelineModel" ⟨"RingPipelineModel", "record", "(II)V"⟩ ⟨"RingPipelineModel", "record", "(II)V"⟩) ∈ TB := tb_of (tb_s 25 (by decide +kernel)) (by decide +kernel)
theorem tm_902 : (Cond.selects "RingPipelineModel" ⟨"RingPipelineModel", "put", "(II)V"⟩ ⟨"RingPipelineModel", "put", "(II)V"⟩) ∈ TB := tb_of (tb_s 26 (by decide +kernel)) (by decide +kernel)
theorem tm_903 : (Cond.selects "RingPipelineModel" ⟨"RingPipelineModel", "answer", "(II)I"⟩ ⟨"RingPipelineModel", "answer", "(II)I"⟩) ∈ TB := tb_of (tb_s 27 (by decide +kernel)) (by decide +kernel)
theorem tm_904 : (Cond.selects "RingPipelineModel" ⟨"RingPipelineModel", "work", "(II)I"⟩ ⟨"RingPipelineModel", "work", "(II)I"⟩) ∈ TB := tb_of (tb_s 28 (by decide +kernel)) (by decide +kernel)
theorem tm_905 : (Cond.selects "RingPipelineModel" ⟨"RingPipelineModel", "noJournal", "(I)Z"⟩ ⟨"RingPipelineModel", "noJournal", "(I)Z"⟩) ∈ TB := tb_of (tb_s 29 (by decide +kernel)) (by decide +kernel)
theorem tm_906 : (Cond.selects "RingPipelineModel" ⟨"RingPipelineModel", "whole", "(I)Z"⟩ ⟨"RingPipelineModel", "whole", "(I)Z"⟩) ∈ TB := tb_of (tb_s 30 (by decide +kernel)) (by decide +kernel)
end
section
theorem dX0_init_0 : decode cX0_init 0 = .ok (.aload_n 0, 1) := by decide +kernel
theorem dX0_init_1 : decode cX0_init 1 = .ok (.invokespecial 3, 3) := by decide +kernel
theorem dX0_init_4 : decode cX0_init 4 = .ok (.aload_n 0, 1) := by decide +kernel
theorem dX0_init_5 : decode cX0_init 5 = .ok (.ldc2_w 9, 3) := by decide +kernel
theorem dX0_init_8 : decode cX0_init 8 = .ok (.putfield 11, 3) := by decide +kernel
theorem dX0_init_11 : decode cX0_init 11 = .ok (.aload_n 0, 1) := by decide +kernel
theorem dX0_init_12 : decode cX0_init 12 = .ok (.ldc2_w 9, 3) := by decide +kernel
theorem dX0_init_15 : decode cX0_init 15 = .ok (.putfield 17, 3) := by decide +kernel
theorem dX0_init_18 : decode cX0_init 18 = .ok (.aload_n 0, 1) := by decide +kernel
theorem dX0_init_19 : decode cX0_init 19 = .ok (.ldc2_w 9, 3) := by decide +kernel
theorem dX0_init_22 : decode cX0_init 22 = .ok (.putfield 20, 3) := by decide +kernel
theorem dX0_init_25 : decode cX0_init 25 = .ok (.aload_n 0, 1) := by decide +kernel
theorem dX0_init_26 : decode cX0_init 26 = .ok (.aload_n 1, 1) := by decide +kernel
theorem dX0_init_27 : decode cX0_init 27 = .ok (.putfield 23, 3) := by decide +kernel
theorem dX0_init_30 : decode cX0_init 30 = .ok (.aload_n 0, 1) := by decide +kernel
theorem dX0_init_31 : decode cX0_init 31 = .ok (.iload_n 2, 1) := by decide +kernel
theorem dX0_init_32 : decode cX0_init 32 = .ok (.putfield 27, 3) := by decide +kernel
theorem dX0_init_35 : decode cX0_init 35 = .ok (.aload_n 0, 1) := by decide +kernel
theorem dX0_init_36 : decode cX0_init 36 = .ok (.iload_n 3, 1) := by decide +kernel
theorem dX0_init_37 : decode cX0_init 37 = .ok (.putfield 31, 3) := by decide +kernel
theorem dX0_init_40 : decode cX0_init 40 = .ok (.aload_n 0, 1) := by decide +kernel
theorem dX0_init_41 : decode cX0_init 41 = .ok (.aload 4, 2) := by decide +kernel
theorem dX0_init_43 : decode cX0_init 43 = .ok (.putfield 34, 3) := by decide +kernel
theorem dX0_init_46 : decode cX0_init 46 = .ok (.return_, 1) := by decide +kernel
theorem dX0_reached_0 : decode cX0_reached 0 = .ok (.aload_n 0, 1) := by decide +kernel
theorem dX0_reached_1 : decode cX0_reached 1 = .ok (.getfield 34, 3) := by decide +kernel
theorem dX0_reached_4 : decode cX0_reached 4 = .ok (.ifnonnull 10, 3) := by decide +kernel
theorem dX0_reached_7 : decode cX0_reached 7 = .ok (.aload_n 0, 1) := by decide +kernel
theorem dX0_reached_8 : decode cX0_reached 8 = .ok (.getfield 11, 3) := by decide +kernel
theorem dX0_reached_11 : decode cX0_reached 11 = .ok (.goto 10, 3) := by decide +kernel
theorem dX0_reached_14 : decode cX0_reached 14 = .ok (.aload_n 0, 1) := by decide +kernel
theorem dX0_reached_15 : decode cX0_reached 15 = .ok (.getfield 34, 3) := by decide +kernel
theorem dX0_reached_18 : decode cX0_reached 18 = .ok (.invokevirtual 38, 3) := by decide +kernel
theorem dX0_reached_21 : decode cX0_reached 21 = .ok (.lreturn, 1) := by decide +kernel
theorem dX0_advance_0 : decode cX0_advance 0 = .ok (.aload_n 0, 1) := by decide +kernel
theorem dX0_advance_1 : decode cX0_advance 1 = .ok (.getfield 34, 3) := by decide +kernel
theorem dX0_advance_4 : decode cX0_advance 4 = .ok (.ifnonnull 14, 3) := by decide +kernel
theorem dX0_advance_7 : decode cX0_advance 7 = .ok (.aload_n 0, 1) := by decide +kernel
theorem dX0_advance_8 : decode cX0_advance 8 = .ok (.aload_n 1, 1) := by decide +kernel
theorem dX0_advance_9 : decode cX0_advance 9 = .ok (.lload_n 2, 1) := by decide +kernel
theorem dX0_advance_10 : decode cX0_advance 10 = .ok (.iload 4, 2) := by decide +kernel
theorem dX0_advance_12 : decode cX0_advance 12 = .ok (.invokevirtual 44, 3) := by decide +kernel
theorem dX0_advance_15 : decode cX0_advance 15 = .ok (.goto 15, 3) := by decide +kernel
theorem dX0_advance_18 : decode cX0_advance 18 = .ok (.aload_n 0, 1) := by decide +kernel
theorem dX0_advance_19 : decode cX0_advance 19 = .ok (.aload_n 0, 1) := by decide +kernel
theorem dX0_advance_20 : decode cX0_advance 20 = .ok (.getfield 34, 3) := by decide +kernel
theorem dX0_advance_23 : decode cX0_advance 23 = .ok (.aload_n 1, 1) := by decide +kernel
theorem dX0_advance_24 : decode cX0_advance 24 = .ok (.lload_n 2, 1) := by decide +kernel
theorem dX0_advance_25 : decode cX0_advance 25 = .ok (.iload 4, 2) := by decide +kernel
theorem dX0_advance_27 : decode cX0_advance 27 = .ok (.invokevirtual 48, 3) := by decide +kernel
theorem dX0_advance_30 : decode cX0_advance 30 = .ok (.ireturn, 1) := by decide +kernel
theorem dX0_goThrough_0 : decode cX0_goThrough 0 = .ok (.aload_n 0, 1) := by decide +kernel
theorem dX0_goThrough_1 : decode cX0_goThrough 1 = .ok (.invokevirtual 52, 3) := by decide +kernel
theorem dX0_goThrough_4 : decode cX0_goThrough 4 = .ok (.iconst 0, 1) := by decide +kernel
theorem dX0_goThrough_5 : decode cX0_goThrough 5 = .ok (.istore 5, 2) := by decide +kernel
theorem dX0_goThrough_7 : decode cX0_goThrough 7 = .ok (.iload 5, 2) := by decide +kernel
theorem dX0_goThrough_9 : decode cX0_goThrough 9 = .ok (.iload 4, 2) := by decide +kernel
theorem dX0_goThrough_11 : decode cX0_goThrough 11 = .ok (.if_icmp .ge 56, 3) := by decide +kernel
theorem dX0_goThrough_14 : decode cX0_goThrough 14 = .ok (.aload_n 0, 1) := by decide +kernel
theorem dX0_goThrough_15 : decode cX0_goThrough 15 = .ok (.getfield 11, 3) := by decide +kernel
theorem dX0_goThrough_18 : decode cX0_goThrough 18 = .ok (.lload_n 2, 1) := by decide +kernel
theorem dX0_goThrough_19 : decode cX0_goThrough 19 = .ok (.lcmp, 1) := by decide +kernel
theorem dX0_goThrough_20 : decode cX0_goThrough 20 = .ok (.ifCond .ge 47, 3) := by decide +kernel
theorem dX0_goThrough_23 : decode cX0_goThrough 23 = .ok (.aload_n 0, 1) := by decide +kernel
theorem dX0_goThrough_24 : decode cX0_goThrough 24 = .ok (.aload_n 1, 1) := by decide +kernel
theorem dX0_goThrough_25 : decode cX0_goThrough 25 = .ok (.aload_n 0, 1) := by decide +kernel
theorem dX0_goThrough_26 : decode cX0_goThrough 26 = .ok (.getfield 11, 3) := by decide +kernel
theorem dX0_goThrough_29 : decode cX0_goThrough 29 = .ok (.lconst 1, 1) := by decide +kernel
theorem dX0_goThrough_30 : decode cX0_goThrough 30 = .ok (.ladd, 1) := by decide +kernel
theorem dX0_goThrough_31 : decode cX0_goThrough 31 = .ok (.invokevirtual 55, 3) := by decide +kernel
theorem dX0_goThrough_34 : decode cX0_goThrough 34 = .ok (.ifCond .ne 17, 3) := by decide +kernel
theorem dX0_goThrough_37 : decode cX0_goThrough 37 = .ok (.aload_n 0, 1) := by decide +kernel
theorem dX0_goThrough_38 : decode cX0_goThrough 38 = .ok (.getfield 59, 3) := by decide +kernel
theorem dX0_goThrough_41 : decode cX0_goThrough 41 = .ok (.ifCond .eq 8, 3) := by decide +kernel
theorem dX0_goThrough_44 : decode cX0_goThrough 44 = .ok (.iload 5, 2) := by decide +kernel
theorem dX0_goThrough_46 : decode cX0_goThrough 46 = .ok (.goto 4, 3) := by decide +kernel
theorem dX0_goThrough_49 : decode cX0_goThrough 49 = .ok (.iconst (-1), 1) := by decide +kernel
theorem dX0_goThrough_50 : decode cX0_goThrough 50 = .ok (.ireturn, 1) := by decide +kernel
theorem dX0_goThrough_51 : decode cX0_goThrough 51 = .ok (.aload_n 0, 1) := by decide +kernel
theorem dX0_goThrough_52 : decode cX0_goThrough 52 = .ok (.dup, 1) := by decide +kernel
theorem dX0_goThrough_53 : decode cX0_goThrough 53 = .ok (.getfield 11, 3) := by decide +kernel
theorem dX0_goThrough_56 : decode cX0_goThrough 56 = .ok (.lconst 1, 1) := by decide +kernel
theorem dX0_goThrough_57 : decode cX0_goThrough 57 = .ok (.ladd, 1) := by decide +kernel
theorem dX0_goThrough_58 : decode cX0_goThrough 58 = .ok (.putfield 11, 3) := by decide +kernel
theorem dX0_goThrough_61 : decode cX0_goThrough 61 = .ok (.iinc 5 1, 3) := by decide +kernel
theorem dX0_goThrough_64 : decode cX0_goThrough 64 = .ok (.goto (-57), 3) := by decide +kernel
theorem dX0_goThrough_67 : decode cX0_goThrough 67 = .ok (.iload 5, 2) := by decide +kernel
theorem dX0_goThrough_69 : decode cX0_goThrough 69 = .ok (.ireturn, 1) := by decide +kernel
theorem dX0_share_0 : decode cX0_share 0 = .ok (.iconst 0, 1) := by decide +kernel
theorem dX0_share_1 : decode cX0_share 1 = .ok (.istore 6, 2) := by decide +kernel
theorem dX0_share_3 : decode cX0_share 3 = .ok (.iload 6, 2) := by decide +kernel
theorem dX0_share_5 : decode cX0_share 5 = .ok (.iload 5, 2) := by decide +kernel
theorem dX0_share_7 : decode cX0_share 7 = .ok (.if_icmp .ge 59, 3) := by decide +kernel
theorem dX0_share_10 : decode cX0_share 10 = .ok (.aload_n 0, 1) := by decide +kernel
theorem dX0_share_11 : decode cX0_share 11 = .ok (.getfield 17, 3) := by decide +kernel
theorem dX0_share_14 : decode cX0_share 14 = .ok (.ldc2_w 9, 3) := by decide +kernel
theorem dX0_share_17 : decode cX0_share 17 = .ok (.lcmp, 1) := by decide +kernel
theorem dX0_share_18 : decode cX0_share 18 = .ok (.ifCond .ne 11, 3) := by decide +kernel
theorem dX0_share_21 : decode cX0_share 21 = .ok (.aload_n 0, 1) := by decide +kernel
theorem dX0_share_22 : decode cX0_share 22 = .ok (.aload_n 1, 1) := by decide +kernel
theorem dX0_share_23 : decode cX0_share 23 = .ok (.invokevirtual 63, 3) := by decide +kernel
theorem dX0_share_26 : decode cX0_share 26 = .ok (.putfield 17, 3) := by decide +kernel
theorem dX0_share_29 : decode cX0_share 29 = .ok (.aload_n 0, 1) := by decide +kernel
theorem dX0_share_30 : decode cX0_share 30 = .ok (.getfield 17, 3) := by decide +kernel
theorem dX0_share_33 : decode cX0_share 33 = .ok (.lload_n 3, 1) := by decide +kernel
theorem dX0_share_34 : decode cX0_share 34 = .ok (.lcmp, 1) := by decide +kernel
theorem dX0_share_35 : decode cX0_share 35 = .ok (.ifCond .gt 15, 3) := by decide +kernel
theorem dX0_share_38 : decode cX0_share 38 = .ok (.aload_n 0, 1) := by decide +kernel
theorem dX0_share_39 : decode cX0_share 39 = .ok (.aload_n 2, 1) := by decide +kernel
theorem dX0_share_40 : decode cX0_share 40 = .ok (.aload_n 0, 1) := by decide +kernel
theorem dX0_share_41 : decode cX0_share 41 = .ok (.getfield 17, 3) := by decide +kernel
theorem dX0_share_44 : decode cX0_share 44 = .ok (.invokevirtual 55, 3) := by decide +kernel
theorem dX0_share_47 : decode cX0_share 47 = .ok (.ifCond .ne 6, 3) := by decide +kernel
theorem dX0_share_50 : decode cX0_share 50 = .ok (.iload 6, 2) := by decide +kernel
theorem dX0_share_52 : decode cX0_share 52 = .ok (.ireturn, 1) := by decide +kernel
theorem dX0_share_53 : decode cX0_share 53 = .ok (.aload_n 0, 1) := by decide +kernel
theorem dX0_share_54 : decode cX0_share 54 = .ok (.ldc2_w 9, 3) := by decide +kernel
theorem dX0_share_57 : decode cX0_share 57 = .ok (.putfield 17, 3) := by decide +kernel
theorem dX0_share_60 : decode cX0_share 60 = .ok (.iinc 6 1, 3) := by decide +kernel
theorem dX0_share_63 : decode cX0_share 63 = .ok (.goto (-60), 3) := by decide +kernel
theorem dX0_share_66 : decode cX0_share 66 = .ok (.iload 6, 2) := by decide +kernel
theorem dX0_share_68 : decode cX0_share 68 = .ok (.ireturn, 1) := by decide +kernel
theorem dX0_passes_0 : decode cX0_passes 0 = .ok (.aload_n 0, 1) := by decide +kernel
theorem dX0_passes_1 : decode cX0_passes 1 = .ok (.getfield 23, 3) := by decide +kernel
theorem dX0_passes_4 : decode cX0_passes 4 = .ok (.lload_n 2, 1) := by decide +kernel
theorem dX0_passes_5 : decode cX0_passes 5 = .ok (.aload_n 1, 1) := by decide +kernel
theorem dX0_passes_6 : decode cX0_passes 6 = .ok (.lload_n 2, 1) := by decide +kernel
theorem dX0_passes_7 : decode cX0_passes 7 = .ok (.invokevirtual 66, 3) := by decide +kernel
theorem dX0_passes_10 : decode cX0_passes 10 = .ok (.aload_n 1, 1) := by decide +kernel
theorem dX0_passes_11 : decode cX0_passes 11 = .ok (.lload_n 2, 1) := by decide +kernel
theorem dX0_passes_12 : decode cX0_passes 12 = .ok (.invokevirtual 72, 3) := by decide +kernel
theorem dX0_passes_15 : decode cX0_passes 15 = .ok (.invokevirtual 76, 3) := by decide +kernel
theorem dX0_passes_18 : decode cX0_passes 18 = .ok (.ifCond .eq 15, 3) := by decide +kernel
theorem dX0_passes_21 : decode cX0_passes 21 = .ok (.aload_n 0, 1) := by decide +kernel
theorem dX0_passes_22 : decode cX0_passes 22 = .ok (.dup, 1) := by decide +kernel
theorem dX0_passes_23 : decode cX0_passes 23 = .ok (.getfield 82, 3) := by decide +kernel
theorem dX0_passes_26 : decode cX0_passes 26 = .ok (.iconst 1, 1) := by decide +kernel
theorem dX0_passes_27 : decode cX0_passes 27 = .ok (.iadd, 1) := by decide +kernel
theorem dX0_passes_28 : decode cX0_passes 28 = .ok (.putfield 82, 3) := by decide +kernel
theorem dX0_passes_31 : decode cX0_passes 31 = .ok (.iconst 1, 1) := by decide +kernel
theorem dX0_passes_32 : decode cX0_passes 32 = .ok (.ireturn, 1) := by decide +kernel
theorem dX0_passes_33 : decode cX0_passes 33 = .ok (.aload_n 0, 1) := by decide +kernel
theorem dX0_passes_34 : decode cX0_passes 34 = .ok (.getfield 31, 3) := by decide +kernel
theorem dX0_passes_37 : decode cX0_passes 37 = .ok (.iconst 1, 1) := by decide +kernel
theorem dX0_passes_38 : decode cX0_passes 38 = .ok (.if_icmp .ne 10, 3) := by decide +kernel
theorem dX0_passes_41 : decode cX0_passes 41 = .ok (.aload_n 0, 1) := by decide +kernel
theorem dX0_passes_42 : decode cX0_passes 42 = .ok (.iconst 1, 1) := by decide +kernel
theorem dX0_passes_43 : decode cX0_passes 43 = .ok (.putfield 59, 3) := by decide +kernel
theorem dX0_passes_46 : decode cX0_passes 46 = .ok (.iconst 0, 1) := by decide +kernel
theorem dX0_passes_47 : decode cX0_passes 47 = .ok (.ireturn, 1) := by decide +kernel
theorem dX0_passes_48 : decode cX0_passes 48 = .ok (.aload_n 0, 1) := by decide +kernel
theorem dX0_passes_49 : decode cX0_passes 49 = .ok (.getfield 31, 3) := by decide +kernel
theorem dX0_passes_52 : decode cX0_passes 52 = .ok (.iconst 2, 1) := by decide +kernel
theorem dX0_passes_53 : decode cX0_passes 53 = .ok (.if_icmp .ne 18, 3) := by decide +kernel
theorem dX0_passes_56 : decode cX0_passes 56 = .ok (.aload_n 0, 1) := by decide +kernel
theorem dX0_passes_57 : decode cX0_passes 57 = .ok (.lload_n 2, 1) := by decide +kernel
theorem dX0_passes_58 : decode cX0_passes 58 = .ok (.invokevirtual 85, 3) := by decide +kernel
theorem dX0_passes_61 : decode cX0_passes 61 = .ok (.iconst 3, 1) := by decide +kernel
theorem dX0_passes_62 : decode cX0_passes 62 = .ok (.if_icmp .ge 9, 3) := by decide +kernel
theorem dX0_passes_65 : decode cX0_passes 65 = .ok (.aload_n 0, 1) := by decide +kernel
theorem dX0_passes_66 : decode cX0_passes 66 = .ok (.invokevirtual 88, 3) := by decide +kernel
theorem dX0_passes_69 : decode cX0_passes 69 = .ok (.iconst 0, 1) := by decide +kernel
theorem dX0_passes_70 : decode cX0_passes 70 = .ok (.ireturn, 1) := by decide +kernel
theorem dX0_passes_71 : decode cX0_passes 71 = .ok (.aload_n 0, 1) := by decide +kernel
theorem dX0_passes_72 : decode cX0_passes 72 = .ok (.dup, 1) := by decide +kernel
theorem dX0_passes_73 : decode cX0_passes 73 = .ok (.getfield 91, 3) := by decide +kernel
theorem dX0_passes_76 : decode cX0_passes 76 = .ok (.iconst 1, 1) := by decide +kernel
theorem dX0_passes_77 : decode cX0_passes 77 = .ok (.iadd, 1) := by decide +kernel
theorem dX0_passes_78 : decode cX0_passes 78 = .ok (.putfield 91, 3) := by decide +kernel
theorem dX0_passes_81 : decode cX0_passes 81 = .ok (.iconst 1, 1) := by decide +kernel
theorem dX0_passes_82 : decode cX0_passes 82 = .ok (.ireturn, 1) := by decide +kernel
theorem dX0_throwsAgain_0 : decode cX0_throwsAgain 0 = .ok (.aload_n 0, 1) := by decide +kernel
theorem dX0_throwsAgain_1 : decode cX0_throwsAgain 1 = .ok (.lload_n 1, 1) := by decide +kernel
theorem dX0_throwsAgain_2 : decode cX0_throwsAgain 2 = .ok (.aload_n 0, 1) := by decide +kernel
theorem dX0_throwsAgain_3 : decode cX0_throwsAgain 3 = .ok (.getfield 20, 3) := by decide +kernel
theorem dX0_throwsAgain_6 : decode cX0_throwsAgain 6 = .ok (.lcmp, 1) := by decide +kernel
theorem dX0_throwsAgain_7 : decode cX0_throwsAgain 7 = .ok (.ifCond .ne 12, 3) := by decide +kernel
theorem dX0_throwsAgain_10 : decode cX0_throwsAgain 10 = .ok (.aload_n 0, 1) := by decide +kernel
theorem dX0_throwsAgain_11 : decode cX0_throwsAgain 11 = .ok (.getfield 94, 3) := by decide +kernel
theorem dX0_throwsAgain_14 : decode cX0_throwsAgain 14 = .ok (.iconst 1, 1) := by decide +kernel
theorem dX0_throwsAgain_15 : decode cX0_throwsAgain 15 = .ok (.iadd, 1) := by decide +kernel
theorem dX0_throwsAgain_16 : decode cX0_throwsAgain 16 = .ok (.goto 4, 3) := by decide +kernel
theorem dX0_throwsAgain_19 : decode cX0_throwsAgain 19 = .ok (.iconst 1, 1) := by decide +kernel
theorem dX0_throwsAgain_20 : decode cX0_throwsAgain 20 = .ok (.putfield 94, 3) := by decide +kernel
theorem dX0_throwsAgain_23 : decode cX0_throwsAgain 23 = .ok (.aload_n 0, 1) := by decide +kernel
theorem dX0_throwsAgain_24 : decode cX0_throwsAgain 24 = .ok (.lload_n 1, 1) := by decide +kernel
theorem dX0_throwsAgain_25 : decode cX0_throwsAgain 25 = .ok (.putfield 20, 3) := by decide +kernel
theorem dX0_throwsAgain_28 : decode cX0_throwsAgain 28 = .ok (.aload_n 0, 1) := by decide +kernel
theorem dX0_throwsAgain_29 : decode cX0_throwsAgain 29 = .ok (.getfield 94, 3) := by decide +kernel
theorem dX0_throwsAgain_32 : decode cX0_throwsAgain 32 = .ok (.ireturn, 1) := by decide +kernel
theorem dX0_startBatch_0 : decode cX0_startBatch 0 = .ok (.aload_n 0, 1) := by decide +kernel
theorem dX0_startBatch_1 : decode cX0_startBatch 1 = .ok (.aload_n 0, 1) := by decide +kernel
theorem dX0_startBatch_2 : decode cX0_startBatch 2 = .ok (.getfield 11, 3) := by decide +kernel
theorem dX0_startBatch_5 : decode cX0_startBatch 5 = .ok (.putfield 97, 3) := by decide +kernel
theorem dX0_startBatch_8 : decode cX0_startBatch 8 = .ok (.aload_n 0, 1) := by decide +kernel
theorem dX0_startBatch_9 : decode cX0_startBatch 9 = .ok (.aload_n 0, 1) := by decide +kernel
theorem dX0_startBatch_10 : decode cX0_startBatch 10 = .ok (.getfield 82, 3) := by decide +kernel
theorem dX0_startBatch_13 : decode cX0_startBatch 13 = .ok (.putfield 100, 3) := by decide +kernel
theorem dX0_startBatch_16 : decode cX0_startBatch 16 = .ok (.aload_n 0, 1) := by decide +kernel
theorem dX0_startBatch_17 : decode cX0_startBatch 17 = .ok (.aload_n 0, 1) := by decide +kernel
theorem dX0_startBatch_18 : decode cX0_startBatch 18 = .ok (.getfield 91, 3) := by decide +kernel
theorem dX0_startBatch_21 : decode cX0_startBatch 21 = .ok (.putfield 103, 3) := by decide +kernel
theorem dX0_startBatch_24 : decode cX0_startBatch 24 = .ok (.aload_n 0, 1) := by decide +kernel
theorem dX0_startBatch_25 : decode cX0_startBatch 25 = .ok (.getfield 23, 3) := by decide +kernel
theorem dX0_startBatch_28 : decode cX0_startBatch 28 = .ok (.invokevirtual 106, 3) := by decide +kernel
theorem dX0_startBatch_31 : decode cX0_startBatch 31 = .ok (.return_, 1) := by decide +kernel
theorem dX0_returnToStart_0 : decode cX0_returnToStart 0 = .ok (.aload_n 0, 1) := by decide +kernel
theorem dX0_returnToStart_1 : decode cX0_returnToStart 1 = .ok (.aload_n 0, 1) := by decide +kernel
theorem dX0_returnToStart_2 : decode cX0_returnToStart 2 = .ok (.getfield 97, 3) := by decide +kernel
theorem dX0_returnToStart_5 : decode cX0_returnToStart 5 = .ok (.putfield 11, 3) := by decide +kernel
theorem dX0_returnToStart_8 : decode cX0_returnToStart 8 = .ok (.aload_n 0, 1) := by decide +kernel
theorem dX0_returnToStart_9 : decode cX0_returnToStart 9 = .ok (.aload_n 0, 1) := by decide +kernel
theorem dX0_returnToStart_10 : decode cX0_returnToStart 10 = .ok (.getfield 100, 3) := by decide +kernel
theorem dX0_returnToStart_13 : decode cX0_returnToStart 13 = .ok (.putfield 82, 3) := by decide +kernel
theorem dX0_returnToStart_16 : decode cX0_returnToStart 16 = .ok (.aload_n 0, 1) := by decide +kernel
theorem dX0_returnToStart_17 : decode cX0_returnToStart 17 = .ok (.aload_n 0, 1) := by decide +kernel
theorem dX0_returnToStart_18 : decode cX0_returnToStart 18 = .ok (.getfield 103, 3) := by decide +kernel
theorem dX0_returnToStart_21 : decode cX0_returnToStart 21 = .ok (.putfield 91, 3) := by decide +kernel
theorem dX0_returnToStart_24 : decode cX0_returnToStart 24 = .ok (.aload_n 0, 1) := by decide +kernel
theorem dX0_returnToStart_25 : decode cX0_returnToStart 25 = .ok (.getfield 23, 3) := by decide +kernel
theorem dX0_returnToStart_28 : decode cX0_returnToStart 28 = .ok (.invokevirtual 109, 3) := by decide +kernel
theorem dX0_returnToStart_31 : decode cX0_returnToStart 31 = .ok (.aload_n 0, 1) := by decide +kernel
theorem dX0_returnToStart_32 : decode cX0_returnToStart 32 = .ok (.dup, 1) := by decide +kernel
theorem dX0_returnToStart_33 : decode cX0_returnToStart 33 = .ok (.getfield 112, 3) := by decide +kernel
theorem dX0_returnToStart_36 : decode cX0_returnToStart 36 = .ok (.iconst 1, 1) := by decide +kernel
theorem dX0_returnToStart_37 : decode cX0_returnToStart 37 = .ok (.iadd, 1) := by decide +kernel
theorem dX0_returnToStart_38 : decode cX0_returnToStart 38 = .ok (.putfield 112, 3) := by decide +kernel
theorem dX0_returnToStart_41 : decode cX0_returnToStart 41 = .ok (.return_, 1) := by decide +kernel
theorem dX1_init_0 : decode cX1_init 0 = .ok (.aload_n 0, 1) := by decide +kernel
theorem dX1_init_1 : decode cX1_init 1 = .ok (.invokespecial 1, 3) := by decide +kernel
theorem dX1_init_4 : decode cX1_init 4 = .ok (.return_, 1) := by decide +kernel
theorem dX1_amount_0 : decode cX1_amount 0 = .ok (.lconst 0, 1) := by decide +kernel
theorem dX1_amount_1 : decode cX1_amount 1 = .ok (.lreturn, 1) := by decide +kernel
theorem dX2_init_0 : decode cX2_init 0 = .ok (.aload_n 0, 1) := by decide +kernel
theorem dX2_init_1 : decode cX2_init 1 = .ok (.invokespecial 1, 3) := by decide +kernel
theorem dX2_init_4 : decode cX2_init 4 = .ok (.aload_n 0, 1) := by decide +kernel
theorem dX2_init_5 : decode cX2_init 5 = .ok (.sipush 400, 3) := by decide +kernel
theorem dX2_init_8 : decode cX2_init 8 = .ok (.newarray .byte, 2) := by decide +kernel
theorem dX2_init_10 : decode cX2_init 10 = .ok (.putfield 9, 3) := by decide +kernel
theorem dX2_init_13 : decode cX2_init 13 = .ok (.return_, 1) := by decide +kernel
theorem dX2_handles_0 : decode cX2_handles 0 = .ok (.lload_n 3, 1) := by decide +kernel
theorem dX2_handles_1 : decode cX2_handles 1 = .ok (.lconst 0, 1) := by decide +kernel
theorem dX2_handles_2 : decode cX2_handles 2 = .ok (.lcmp, 1) := by decide +kernel
theorem dX2_handles_3 : decode cX2_handles 3 = .ok (.ifCond .lt 16, 3) := by decide +kernel
theorem dX2_handles_6 : decode cX2_handles 6 = .ok (.bipush 13, 2) := by decide +kernel
theorem dX2_handles_8 : decode cX2_handles 8 = .ok (.sipush 400, 3) := by decide +kernel
theorem dX2_handles_11 : decode cX2_handles 11 = .ok (.aload_n 0, 1) := by decide +kernel
theorem dX2_handles_12 : decode cX2_handles 12 = .ok (.getfield 13, 3) := by decide +kernel
theorem dX2_handles_15 : decode cX2_handles 15 = .ok (.isub, 1) := by decide +kernel
theorem dX2_handles_16 : decode cX2_handles 16 = .ok (.if_icmp .le 5, 3) := by decide +kernel
theorem dX2_handles_19 : decode cX2_handles 19 = .ok (.iconst 0, 1) := by decide +kernel
theorem dX2_handles_20 : decode cX2_handles 20 = .ok (.ireturn, 1) := by decide +kernel
theorem dX2_handles_21 : decode cX2_handles 21 = .ok (.aload_n 0, 1) := by decide +kernel
theorem dX2_handles_22 : decode cX2_handles 22 = .ok (.getfield 13, 3) := by decide +kernel
theorem dX2_handles_25 : decode cX2_handles 25 = .ok (.istore 6, 2) := by decide +kernel
theorem dX2_handles_27 : decode cX2_handles 27 = .ok (.aload_n 0, 1) := by decide +kernel
theorem dX2_handles_28 : decode cX2_handles 28 = .ok (.ldc2_w 17, 3) := by decide +kernel
theorem dX2_handles_31 : decode cX2_handles 31 = .ok (.invokevirtual 19, 3) := by decide +kernel
theorem dX2_handles_34 : decode cX2_handles 34 = .ok (.aload_n 0, 1) := by decide +kernel
theorem dX2_handles_35 : decode cX2_handles 35 = .ok (.lload_n 1, 1) := by decide +kernel
theorem dX2_handles_36 : decode cX2_handles 36 = .ok (.bipush 8, 2) := by decide +kernel
theorem dX2_handles_38 : decode cX2_handles 38 = .ok (.lushr, 1) := by decide +kernel
theorem dX2_handles_39 : decode cX2_handles 39 = .ok (.invokevirtual 19, 3) := by decide +kernel
theorem dX2_handles_42 : decode cX2_handles 42 = .ok (.aload_n 0, 1) := by decide +kernel
theorem dX2_handles_43 : decode cX2_handles 43 = .ok (.lload_n 1, 1) := by decide +kernel
theorem dX2_handles_44 : decode cX2_handles 44 = .ok (.invokevirtual 19, 3) := by decide +kernel
theorem dX2_handles_47 : decode cX2_handles 47 = .ok (.bipush 7, 2) := by decide +kernel
theorem dX2_handles_49 : decode cX2_handles 49 = .ok (.istore 7, 2) := by decide +kernel
theorem dX2_handles_51 : decode cX2_handles 51 = .ok (.iload 7, 2) := by decide +kernel
theorem dX2_handles_53 : decode cX2_handles 53 = .ok (.ifCond .lt 20, 3) := by decide +kernel
theorem dX2_handles_56 : decode cX2_handles 56 = .ok (.aload_n 0, 1) := by decide +kernel
theorem dX2_handles_57 : decode cX2_handles 57 = .ok (.lload_n 3, 1) := by decide +kernel
theorem dX2_handles_58 : decode cX2_handles 58 = .ok (.bipush 8, 2) := by decide +kernel
theorem dX2_handles_60 : decode cX2_handles 60 = .ok (.iload 7, 2) := by decide +kernel
theorem dX2_handles_62 : decode cX2_handles 62 = .ok (.imul, 1) := by decide +kernel
theorem dX2_handles_63 : decode cX2_handles 63 = .ok (.lushr, 1) := by decide +kernel
theorem dX2_handles_64 : decode cX2_handles 64 = .ok (.invokevirtual 19, 3) := by decide +kernel
theorem dX2_handles_67 : decode cX2_handles 67 = .ok (.iinc 7 (-1), 3) := by decide +kernel
theorem dX2_handles_70 : decode cX2_handles 70 = .ok (.goto (-19), 3) := by decide +kernel
theorem dX2_handles_73 : decode cX2_handles 73 = .ok (.aload_n 0, 1) := by decide +kernel
theorem dX2_handles_74 : decode cX2_handles 74 = .ok (.iload 5, 2) := by decide +kernel
theorem dX2_handles_76 : decode cX2_handles 76 = .ok (.i2l, 1) := by decide +kernel
theorem dX2_handles_77 : decode cX2_handles 77 = .ok (.invokevirtual 19, 3) := by decide +kernel
theorem dX2_handles_80 : decode cX2_handles 80 = .ok (.aload_n 0, 1) := by decide +kernel
theorem dX2_handles_81 : decode cX2_handles 81 = .ok (.aload_n 0, 1) := by decide +kernel
theorem dX2_handles_82 : decode cX2_handles 82 = .ok (.iload 6, 2) := by decide +kernel
theorem dX2_handles_84 : decode cX2_handles 84 = .ok (.invokevirtual 23, 3) := by decide +kernel
theorem dX2_handles_87 : decode cX2_handles 87 = .ok (.i2l, 1) := by decide +kernel
theorem dX2_handles_88 : decode cX2_handles 88 = .ok (.invokevirtual 19, 3) := by decide +kernel
theorem dX2_handles_91 : decode cX2_handles 91 = .ok (.iconst 1, 1) := by decide +kernel
theorem dX2_handles_92 : decode cX2_handles 92 = .ok (.ireturn, 1) := by decide +kernel
theorem dX2_keep_0 : decode cX2_keep 0 = .ok (.aload_n 0, 1) := by decide +kernel
theorem dX2_keep_1 : decode cX2_keep 1 = .ok (.aload_n 0, 1) := by decide +kernel
theorem dX2_keep_2 : decode cX2_keep 2 = .ok (.getfield 13, 3) := by decide +kernel
theorem dX2_keep_5 : decode cX2_keep 5 = .ok (.putfield 27, 3) := by decide +kernel
theorem dX2_keep_8 : decode cX2_keep 8 = .ok (.return_, 1) := by decide +kernel
theorem dX2_restore_0 : decode cX2_restore 0 = .ok (.aload_n 0, 1) := by decide +kernel
theorem dX2_restore_1 : decode cX2_restore 1 = .ok (.aload_n 0, 1) := by decide +kernel
theorem dX2_restore_2 : decode cX2_restore 2 = .ok (.getfield 27, 3) := by decide +kernel
theorem dX2_restore_5 : decode cX2_restore 5 = .ok (.putfield 13, 3) := by decide +kernel
theorem dX2_restore_8 : decode cX2_restore 8 = .ok (.return_, 1) := by decide +kernel
theorem dX2_amount_0 : decode cX2_amount 0 = .ok (.aload_n 0, 1) := by decide +kernel
theorem dX2_amount_1 : decode cX2_amount 1 = .ok (.getfield 13, 3) := by decide +kernel
theorem dX2_amount_4 : decode cX2_amount 4 = .ok (.i2l, 1) := by decide +kernel
theorem dX2_amount_5 : decode cX2_amount 5 = .ok (.lreturn, 1) := by decide +kernel
theorem dX2_byteAt_0 : decode cX2_byteAt 0 = .ok (.iload_n 1, 1) := by decide +kernel
theorem dX2_byteAt_1 : decode cX2_byteAt 1 = .ok (.ifCond .lt 24, 3) := by decide +kernel
theorem dX2_byteAt_4 : decode cX2_byteAt 4 = .ok (.iload_n 1, 1) := by decide +kernel
theorem dX2_byteAt_5 : decode cX2_byteAt 5 = .ok (.aload_n 0, 1) := by decide +kernel
theorem dX2_byteAt_6 : decode cX2_byteAt 6 = .ok (.getfield 13, 3) := by decide +kernel
theorem dX2_byteAt_9 : decode cX2_byteAt 9 = .ok (.if_icmp .ge 16, 3) := by decide +kernel
theorem dX2_byteAt_12 : decode cX2_byteAt 12 = .ok (.aload_n 0, 1) := by decide +kernel
theorem dX2_byteAt_13 : decode cX2_byteAt 13 = .ok (.getfield 9, 3) := by decide +kernel
theorem dX2_byteAt_16 : decode cX2_byteAt 16 = .ok (.iload_n 1, 1) := by decide +kernel
theorem dX2_byteAt_17 : decode cX2_byteAt 17 = .ok (.baload, 1) := by decide +kernel
theorem dX2_byteAt_18 : decode cX2_byteAt 18 = .ok (.sipush 255, 3) := by decide +kernel
theorem dX2_byteAt_21 : decode cX2_byteAt 21 = .ok (.iand, 1) := by decide +kernel
theorem dX2_byteAt_22 : decode cX2_byteAt 22 = .ok (.goto 4, 3) := by decide +kernel
theorem dX2_byteAt_25 : decode cX2_byteAt 25 = .ok (.iconst 0, 1) := by decide +kernel
theorem dX2_byteAt_26 : decode cX2_byteAt 26 = .ok (.ireturn, 1) := by decide +kernel
theorem dX2_soundRecords_0 : decode cX2_soundRecords 0 = .ok (.iconst 0, 1) := by decide +kernel
theorem dX2_soundRecords_1 : decode cX2_soundRecords 1 = .ok (.istore_n 1, 1) := by decide +kernel
theorem dX2_soundRecords_2 : decode cX2_soundRecords 2 = .ok (.iconst 0, 1) := by decide +kernel
theorem dX2_soundRecords_3 : decode cX2_soundRecords 3 = .ok (.istore_n 2, 1) := by decide +kernel
theorem dX2_soundRecords_4 : decode cX2_soundRecords 4 = .ok (.iload_n 2, 1) := by decide +kernel
theorem dX2_soundRecords_5 : decode cX2_soundRecords 5 = .ok (.bipush 13, 2) := by decide +kernel
theorem dX2_soundRecords_7 : decode cX2_soundRecords 7 = .ok (.iadd, 1) := by decide +kernel
theorem dX2_soundRecords_8 : decode cX2_soundRecords 8 = .ok (.aload_n 0, 1) := by decide +kernel
theorem dX2_soundRecords_9 : decode cX2_soundRecords 9 = .ok (.getfield 13, 3) := by decide +kernel
theorem dX2_soundRecords_12 : decode cX2_soundRecords 12 = .ok (.if_icmp .gt 23, 3) := by decide +kernel
theorem dX2_soundRecords_15 : decode cX2_soundRecords 15 = .ok (.aload_n 0, 1) := by decide +kernel
theorem dX2_soundRecords_16 : decode cX2_soundRecords 16 = .ok (.iload_n 2, 1) := by decide +kernel
theorem dX2_soundRecords_17 : decode cX2_soundRecords 17 = .ok (.invokevirtual 30, 3) := by decide +kernel
theorem dX2_soundRecords_20 : decode cX2_soundRecords 20 = .ok (.ifCond .ne 6, 3) := by decide +kernel
theorem dX2_soundRecords_23 : decode cX2_soundRecords 23 = .ok (.goto 12, 3) := by decide +kernel
theorem dX2_soundRecords_26 : decode cX2_soundRecords 26 = .ok (.iinc 1 1, 3) := by decide +kernel
theorem dX2_soundRecords_29 : decode cX2_soundRecords 29 = .ok (.iinc 2 13, 3) := by decide +kernel
theorem dX2_soundRecords_32 : decode cX2_soundRecords 32 = .ok (.goto (-28), 3) := by decide +kernel
theorem dX2_soundRecords_35 : decode cX2_soundRecords 35 = .ok (.iload_n 1, 1) := by decide +kernel
theorem dX2_soundRecords_36 : decode cX2_soundRecords 36 = .ok (.ireturn, 1) := by decide +kernel
theorem dX2_sumOfFirst_0 : decode cX2_sumOfFirst 0 = .ok (.lconst 0, 1) := by decide +kernel
theorem dX2_sumOfFirst_1 : decode cX2_sumOfFirst 1 = .ok (.lstore_n 2, 1) := by decide +kernel
theorem dX2_sumOfFirst_2 : decode cX2_sumOfFirst 2 = .ok (.iconst 0, 1) := by decide +kernel
theorem dX2_sumOfFirst_3 : decode cX2_sumOfFirst 3 = .ok (.istore 4, 2) := by decide +kernel
theorem dX2_sumOfFirst_5 : decode cX2_sumOfFirst 5 = .ok (.iload 4, 2) := by decide +kernel
theorem dX2_sumOfFirst_7 : decode cX2_sumOfFirst 7 = .ok (.iload_n 1, 1) := by decide +kernel
theorem dX2_sumOfFirst_8 : decode cX2_sumOfFirst 8 = .ok (.if_icmp .ge 23, 3) := by decide +kernel
theorem dX2_sumOfFirst_11 : decode cX2_sumOfFirst 11 = .ok (.lload_n 2, 1) := by decide +kernel
theorem dX2_sumOfFirst_12 : decode cX2_sumOfFirst 12 = .ok (.aload_n 0, 1) := by decide +kernel
theorem dX2_sumOfFirst_13 : decode cX2_sumOfFirst 13 = .ok (.bipush 13, 2) := by decide +kernel
theorem dX2_sumOfFirst_15 : decode cX2_sumOfFirst 15 = .ok (.iload 4, 2) := by decide +kernel
theorem dX2_sumOfFirst_17 : decode cX2_sumOfFirst 17 = .ok (.imul, 1) := by decide +kernel
theorem dX2_sumOfFirst_18 : decode cX2_sumOfFirst 18 = .ok (.iconst 3, 1) := by decide +kernel
theorem dX2_sumOfFirst_19 : decode cX2_sumOfFirst 19 = .ok (.iadd, 1) := by decide +kernel
theorem dX2_sumOfFirst_20 : decode cX2_sumOfFirst 20 = .ok (.invokevirtual 34, 3) := by decide +kernel
theorem dX2_sumOfFirst_23 : decode cX2_sumOfFirst 23 = .ok (.ladd, 1) := by decide +kernel
theorem dX2_sumOfFirst_24 : decode cX2_sumOfFirst 24 = .ok (.lstore_n 2, 1) := by decide +kernel
theorem dX2_sumOfFirst_25 : decode cX2_sumOfFirst 25 = .ok (.iinc 4 1, 3) := by decide +kernel
theorem dX2_sumOfFirst_28 : decode cX2_sumOfFirst 28 = .ok (.goto (-23), 3) := by decide +kernel
theorem dX2_sumOfFirst_31 : decode cX2_sumOfFirst 31 = .ok (.lload_n 2, 1) := by decide +kernel
theorem dX2_sumOfFirst_32 : decode cX2_sumOfFirst 32 = .ok (.lreturn, 1) := by decide +kernel
theorem dX2_append_0 : decode cX2_append 0 = .ok (.aload_n 0, 1) := by decide +kernel
theorem dX2_append_1 : decode cX2_append 1 = .ok (.getfield 13, 3) := by decide +kernel
theorem dX2_append_4 : decode cX2_append 4 = .ok (.aload_n 0, 1) := by decide +kernel
theorem dX2_append_5 : decode cX2_append 5 = .ok (.getfield 9, 3) := by decide +kernel
theorem dX2_append_8 : decode cX2_append 8 = .ok (.arraylength, 1) := by decide +kernel
theorem dX2_append_9 : decode cX2_append 9 = .ok (.if_icmp .ge 25, 3) := by decide +kernel
theorem dX2_append_12 : decode cX2_append 12 = .ok (.aload_n 0, 1) := by decide +kernel
theorem dX2_append_13 : decode cX2_append 13 = .ok (.getfield 9, 3) := by decide +kernel
theorem dX2_append_16 : decode cX2_append 16 = .ok (.aload_n 0, 1) := by decide +kernel
theorem dX2_append_17 : decode cX2_append 17 = .ok (.getfield 13, 3) := by decide +kernel
theorem dX2_append_20 : decode cX2_append 20 = .ok (.lload_n 1, 1) := by decide +kernel
theorem dX2_append_21 : decode cX2_append 21 = .ok (.l2i, 1) := by decide +kernel
theorem dX2_append_22 : decode cX2_append 22 = .ok (.i2b, 1) := by decide +kernel
theorem dX2_append_23 : decode cX2_append 23 = .ok (.bastore, 1) := by decide +kernel
theorem dX2_append_24 : decode cX2_append 24 = .ok (.aload_n 0, 1) := by decide +kernel
theorem dX2_append_25 : decode cX2_append 25 = .ok (.dup, 1) := by decide +kernel
theorem dX2_append_26 : decode cX2_append 26 = .ok (.getfield 13, 3) := by decide +kernel
theorem dX2_append_29 : decode cX2_append 29 = .ok (.iconst 1, 1) := by decide +kernel
theorem dX2_append_30 : decode cX2_append 30 = .ok (.iadd, 1) := by decide +kernel
theorem dX2_append_31 : decode cX2_append 31 = .ok (.putfield 13, 3) := by decide +kernel
theorem dX2_append_34 : decode cX2_append 34 = .ok (.return_, 1) := by decide +kernel
theorem dX2_isSoundAt_0 : decode cX2_isSoundAt 0 = .ok (.aload_n 0, 1) := by decide +kernel
theorem dX2_isSoundAt_1 : decode cX2_isSoundAt 1 = .ok (.iload_n 1, 1) := by decide +kernel
theorem dX2_isSoundAt_2 : decode cX2_isSoundAt 2 = .ok (.invokevirtual 38, 3) := by decide +kernel
theorem dX2_isSoundAt_5 : decode cX2_isSoundAt 5 = .ok (.bipush 13, 2) := by decide +kernel
theorem dX2_isSoundAt_7 : decode cX2_isSoundAt 7 = .ok (.if_icmp .ne 25, 3) := by decide +kernel
theorem dX2_isSoundAt_10 : decode cX2_isSoundAt 10 = .ok (.aload_n 0, 1) := by decide +kernel
theorem dX2_isSoundAt_11 : decode cX2_isSoundAt 11 = .ok (.iload_n 1, 1) := by decide +kernel
theorem dX2_isSoundAt_12 : decode cX2_isSoundAt 12 = .ok (.bipush 13, 2) := by decide +kernel
theorem dX2_isSoundAt_14 : decode cX2_isSoundAt 14 = .ok (.iadd, 1) := by decide +kernel
theorem dX2_isSoundAt_15 : decode cX2_isSoundAt 15 = .ok (.iconst 1, 1) := by decide +kernel
theorem dX2_isSoundAt_16 : decode cX2_isSoundAt 16 = .ok (.isub, 1) := by decide +kernel
theorem dX2_isSoundAt_17 : decode cX2_isSoundAt 17 = .ok (.invokevirtual 38, 3) := by decide +kernel
theorem dX2_isSoundAt_20 : decode cX2_isSoundAt 20 = .ok (.aload_n 0, 1) := by decide +kernel
theorem dX2_isSoundAt_21 : decode cX2_isSoundAt 21 = .ok (.iload_n 1, 1) := by decide +kernel
theorem dX2_isSoundAt_22 : decode cX2_isSoundAt 22 = .ok (.invokevirtual 23, 3) := by decide +kernel
theorem dX2_isSoundAt_25 : decode cX2_isSoundAt 25 = .ok (.if_icmp .ne 7, 3) := by decide +kernel
theorem dX2_isSoundAt_28 : decode cX2_isSoundAt 28 = .ok (.iconst 1, 1) := by decide +kernel
theorem dX2_isSoundAt_29 : decode cX2_isSoundAt 29 = .ok (.goto 4, 3) := by decide +kernel
theorem dX2_isSoundAt_32 : decode cX2_isSoundAt 32 = .ok (.iconst 0, 1) := by decide +kernel
theorem dX2_isSoundAt_33 : decode cX2_isSoundAt 33 = .ok (.ireturn, 1) := by decide +kernel
theorem dX2_sumOfRecordAt_0 : decode cX2_sumOfRecordAt 0 = .ok (.iconst 0, 1) := by decide +kernel
theorem dX2_sumOfRecordAt_1 : decode cX2_sumOfRecordAt 1 = .ok (.istore_n 2, 1) := by decide +kernel
theorem dX2_sumOfRecordAt_2 : decode cX2_sumOfRecordAt 2 = .ok (.iconst 0, 1) := by decide +kernel
theorem dX2_sumOfRecordAt_3 : decode cX2_sumOfRecordAt 3 = .ok (.istore_n 3, 1) := by decide +kernel
theorem dX2_sumOfRecordAt_4 : decode cX2_sumOfRecordAt 4 = .ok (.iload_n 3, 1) := by decide +kernel
theorem dX2_sumOfRecordAt_5 : decode cX2_sumOfRecordAt 5 = .ok (.bipush 12, 2) := by decide +kernel
theorem dX2_sumOfRecordAt_7 : decode cX2_sumOfRecordAt 7 = .ok (.if_icmp .ge 19, 3) := by decide +kernel
theorem dX2_sumOfRecordAt_10 : decode cX2_sumOfRecordAt 10 = .ok (.iload_n 2, 1) := by decide +kernel
theorem dX2_sumOfRecordAt_11 : decode cX2_sumOfRecordAt 11 = .ok (.aload_n 0, 1) := by decide +kernel
theorem dX2_sumOfRecordAt_12 : decode cX2_sumOfRecordAt 12 = .ok (.iload_n 1, 1) := by decide +kernel
theorem dX2_sumOfRecordAt_13 : decode cX2_sumOfRecordAt 13 = .ok (.iload_n 3, 1) := by decide +kernel
theorem dX2_sumOfRecordAt_14 : decode cX2_sumOfRecordAt 14 = .ok (.iadd, 1) := by decide +kernel
theorem dX2_sumOfRecordAt_15 : decode cX2_sumOfRecordAt 15 = .ok (.invokevirtual 38, 3) := by decide +kernel
theorem dX2_sumOfRecordAt_18 : decode cX2_sumOfRecordAt 18 = .ok (.iadd, 1) := by decide +kernel
theorem dX2_sumOfRecordAt_19 : decode cX2_sumOfRecordAt 19 = .ok (.istore_n 2, 1) := by decide +kernel
theorem dX2_sumOfRecordAt_20 : decode cX2_sumOfRecordAt 20 = .ok (.iinc 3 1, 3) := by decide +kernel
theorem dX2_sumOfRecordAt_23 : decode cX2_sumOfRecordAt 23 = .ok (.goto (-19), 3) := by decide +kernel
theorem dX2_sumOfRecordAt_26 : decode cX2_sumOfRecordAt 26 = .ok (.iload_n 2, 1) := by decide +kernel
theorem dX2_sumOfRecordAt_27 : decode cX2_sumOfRecordAt 27 = .ok (.sipush 255, 3) := by decide +kernel
theorem dX2_sumOfRecordAt_30 : decode cX2_sumOfRecordAt 30 = .ok (.iand, 1) := by decide +kernel
theorem dX2_sumOfRecordAt_31 : decode cX2_sumOfRecordAt 31 = .ok (.ireturn, 1) := by decide +kernel
theorem dX2_valueAt_0 : decode cX2_valueAt 0 = .ok (.lconst 0, 1) := by decide +kernel
theorem dX2_valueAt_1 : decode cX2_valueAt 1 = .ok (.lstore_n 2, 1) := by decide +kernel
theorem dX2_valueAt_2 : decode cX2_valueAt 2 = .ok (.iconst 0, 1) := by decide +kernel
theorem dX2_valueAt_3 : decode cX2_valueAt 3 = .ok (.istore 4, 2) := by decide +kernel
theorem dX2_valueAt_5 : decode cX2_valueAt 5 = .ok (.iload 4, 2) := by decide +kernel
theorem dX2_valueAt_7 : decode cX2_valueAt 7 = .ok (.bipush 8, 2) := by decide +kernel
theorem dX2_valueAt_9 : decode cX2_valueAt 9 = .ok (.if_icmp .ge 24, 3) := by decide +kernel
theorem dX2_valueAt_12 : decode cX2_valueAt 12 = .ok (.lload_n 2, 1) := by decide +kernel
theorem dX2_valueAt_13 : decode cX2_valueAt 13 = .ok (.bipush 8, 2) := by decide +kernel
theorem dX2_valueAt_15 : decode cX2_valueAt 15 = .ok (.lshl, 1) := by decide +kernel
theorem dX2_valueAt_16 : decode cX2_valueAt 16 = .ok (.aload_n 0, 1) := by decide +kernel
theorem dX2_valueAt_17 : decode cX2_valueAt 17 = .ok (.iload_n 1, 1) := by decide +kernel
theorem dX2_valueAt_18 : decode cX2_valueAt 18 = .ok (.iload 4, 2) := by decide +kernel
theorem dX2_valueAt_20 : decode cX2_valueAt 20 = .ok (.iadd, 1) := by decide +kernel
theorem dX2_valueAt_21 : decode cX2_valueAt 21 = .ok (.invokevirtual 38, 3) := by decide +kernel
theorem dX2_valueAt_24 : decode cX2_valueAt 24 = .ok (.i2l, 1) := by decide +kernel
theorem dX2_valueAt_25 : decode cX2_valueAt 25 = .ok (.lor, 1) := by decide +kernel
theorem dX2_valueAt_26 : decode cX2_valueAt 26 = .ok (.lstore_n 2, 1) := by decide +kernel
theorem dX2_valueAt_27 : decode cX2_valueAt 27 = .ok (.iinc 4 1, 3) := by decide +kernel
theorem dX2_valueAt_30 : decode cX2_valueAt 30 = .ok (.goto (-25), 3) := by decide +kernel
theorem dX2_valueAt_33 : decode cX2_valueAt 33 = .ok (.lload_n 2, 1) := by decide +kernel
theorem dX2_valueAt_34 : decode cX2_valueAt 34 = .ok (.lreturn, 1) := by decide +kernel
theorem dX3_init_0 : decode cX3_init 0 = .ok (.aload_n 0, 1) := by decide +kernel
theorem dX3_init_1 : decode cX3_init 1 = .ok (.invokespecial 1, 3) := by decide +kernel
theorem dX3_init_4 : decode cX3_init 4 = .ok (.return_, 1) := by decide +kernel
theorem dX3_handles_0 : decode cX3_handles 0 = .ok (.lload_n 3, 1) := by decide +kernel
theorem dX3_handles_1 : decode cX3_handles 1 = .ok (.lconst 0, 1) := by decide +kernel
theorem dX3_handles_2 : decode cX3_handles 2 = .ok (.lcmp, 1) := by decide +kernel
theorem dX3_handles_3 : decode cX3_handles 3 = .ok (.ifCond .ge 5, 3) := by decide +kernel
theorem dX3_handles_6 : decode cX3_handles 6 = .ok (.iconst 0, 1) := by decide +kernel
theorem dX3_handles_7 : decode cX3_handles 7 = .ok (.ireturn, 1) := by decide +kernel
theorem dX3_handles_8 : decode cX3_handles 8 = .ok (.aload_n 0, 1) := by decide +kernel
theorem dX3_handles_9 : decode cX3_handles 9 = .ok (.dup, 1) := by decide +kernel
theorem dX3_handles_10 : decode cX3_handles 10 = .ok (.getfield 7, 3) := by decide +kernel
theorem dX3_handles_13 : decode cX3_handles 13 = .ok (.iconst 1, 1) := by decide +kernel
theorem dX3_handles_14 : decode cX3_handles 14 = .ok (.iadd, 1) := by decide +kernel
theorem dX3_handles_15 : decode cX3_handles 15 = .ok (.putfield 7, 3) := by decide +kernel
theorem dX3_handles_18 : decode cX3_handles 18 = .ok (.aload_n 0, 1) := by decide +kernel
theorem dX3_handles_19 : decode cX3_handles 19 = .ok (.aload_n 0, 1) := by decide +kernel
theorem dX3_handles_20 : decode cX3_handles 20 = .ok (.getfield 13, 3) := by decide +kernel
theorem dX3_handles_23 : decode cX3_handles 23 = .ok (.lload_n 3, 1) := by decide +kernel
theorem dX3_handles_24 : decode cX3_handles 24 = .ok (.l2d, 1) := by decide +kernel
theorem dX3_handles_25 : decode cX3_handles 25 = .ok (.aload_n 0, 1) := by decide +kernel
theorem dX3_handles_26 : decode cX3_handles 26 = .ok (.getfield 13, 3) := by decide +kernel
theorem dX3_handles_29 : decode cX3_handles 29 = .ok (.dsub, 1) := by decide +kernel
theorem dX3_handles_30 : decode cX3_handles 30 = .ok (.aload_n 0, 1) := by decide +kernel
theorem dX3_handles_31 : decode cX3_handles 31 = .ok (.getfield 7, 3) := by decide +kernel
theorem dX3_handles_34 : decode cX3_handles 34 = .ok (.i2d, 1) := by decide +kernel
theorem dX3_handles_35 : decode cX3_handles 35 = .ok (.ddiv, 1) := by decide +kernel
theorem dX3_handles_36 : decode cX3_handles 36 = .ok (.dadd, 1) := by decide +kernel
theorem dX3_handles_37 : decode cX3_handles 37 = .ok (.putfield 13, 3) := by decide +kernel
theorem dX3_handles_40 : decode cX3_handles 40 = .ok (.iconst 1, 1) := by decide +kernel
theorem dX3_handles_41 : decode cX3_handles 41 = .ok (.ireturn, 1) := by decide +kernel
theorem dX3_keep_0 : decode cX3_keep 0 = .ok (.aload_n 0, 1) := by decide +kernel
theorem dX3_keep_1 : decode cX3_keep 1 = .ok (.aload_n 0, 1) := by decide +kernel
theorem dX3_keep_2 : decode cX3_keep 2 = .ok (.getfield 13, 3) := by decide +kernel
theorem dX3_keep_5 : decode cX3_keep 5 = .ok (.putfield 17, 3) := by decide +kernel
theorem dX3_keep_8 : decode cX3_keep 8 = .ok (.aload_n 0, 1) := by decide +kernel
theorem dX3_keep_9 : decode cX3_keep 9 = .ok (.aload_n 0, 1) := by decide +kernel
theorem dX3_keep_10 : decode cX3_keep 10 = .ok (.getfield 7, 3) := by decide +kernel
theorem dX3_keep_13 : decode cX3_keep 13 = .ok (.putfield 20, 3) := by decide +kernel
theorem dX3_keep_16 : decode cX3_keep 16 = .ok (.return_, 1) := by decide +kernel
theorem dX3_restore_0 : decode cX3_restore 0 = .ok (.aload_n 0, 1) := by decide +kernel
theorem dX3_restore_1 : decode cX3_restore 1 = .ok (.aload_n 0, 1) := by decide +kernel
theorem dX3_restore_2 : decode cX3_restore 2 = .ok (.getfield 17, 3) := by decide +kernel
theorem dX3_restore_5 : decode cX3_restore 5 = .ok (.putfield 13, 3) := by decide +kernel
theorem dX3_restore_8 : decode cX3_restore 8 = .ok (.aload_n 0, 1) := by decide +kernel
theorem dX3_restore_9 : decode cX3_restore 9 = .ok (.aload_n 0, 1) := by decide +kernel
theorem dX3_restore_10 : decode cX3_restore 10 = .ok (.getfield 20, 3) := by decide +kernel
theorem dX3_restore_13 : decode cX3_restore 13 = .ok (.putfield 7, 3) := by decide +kernel
theorem dX3_restore_16 : decode cX3_restore 16 = .ok (.return_, 1) := by decide +kernel
theorem dX4_init_0 : decode cX4_init 0 = .ok (.aload_n 0, 1) := by decide +kernel
theorem dX4_init_1 : decode cX4_init 1 = .ok (.invokespecial 3, 3) := by decide +kernel
theorem dX4_init_4 : decode cX4_init 4 = .ok (.aload_n 0, 1) := by decide +kernel
theorem dX4_init_5 : decode cX4_init 5 = .ok (.bipush 8, 2) := by decide +kernel
theorem dX4_init_7 : decode cX4_init 7 = .ok (.anewarray 9, 3) := by decide +kernel
theorem dX4_init_10 : decode cX4_init 10 = .ok (.putfield 11, 3) := by decide +kernel
theorem dX4_init_13 : decode cX4_init 13 = .ok (.aload_n 0, 1) := by decide +kernel
theorem dX4_init_14 : decode cX4_init 14 = .ok (.iload_n 1, 1) := by decide +kernel
theorem dX4_init_15 : decode cX4_init 15 = .ok (.putfield 17, 3) := by decide +kernel
theorem dX4_init_18 : decode cX4_init 18 = .ok (.return_, 1) := by decide +kernel
theorem dX4_add_0 : decode cX4_add 0 = .ok (.aload_n 0, 1) := by decide +kernel
theorem dX4_add_1 : decode cX4_add 1 = .ok (.getfield 21, 3) := by decide +kernel
theorem dX4_add_4 : decode cX4_add 4 = .ok (.aload_n 0, 1) := by decide +kernel
theorem dX4_add_5 : decode cX4_add 5 = .ok (.getfield 11, 3) := by decide +kernel
theorem dX4_add_8 : decode cX4_add 8 = .ok (.arraylength, 1) := by decide +kernel
theorem dX4_add_9 : decode cX4_add 9 = .ok (.if_icmp .ge 23, 3) := by decide +kernel
theorem dX4_add_12 : decode cX4_add 12 = .ok (.aload_n 0, 1) := by decide +kernel
theorem dX4_add_13 : decode cX4_add 13 = .ok (.getfield 11, 3) := by decide +kernel
theorem dX4_add_16 : decode cX4_add 16 = .ok (.aload_n 0, 1) := by decide +kernel
theorem dX4_add_17 : decode cX4_add 17 = .ok (.getfield 21, 3) := by decide +kernel
theorem dX4_add_20 : decode cX4_add 20 = .ok (.aload_n 1, 1) := by decide +kernel
theorem dX4_add_21 : decode cX4_add 21 = .ok (.aastore, 1) := by decide +kernel
theorem dX4_add_22 : decode cX4_add 22 = .ok (.aload_n 0, 1) := by decide +kernel
theorem dX4_add_23 : decode cX4_add 23 = .ok (.dup, 1) := by decide +kernel
theorem dX4_add_24 : decode cX4_add 24 = .ok (.getfield 21, 3) := by decide +kernel
theorem dX4_add_27 : decode cX4_add 27 = .ok (.iconst 1, 1) := by decide +kernel
theorem dX4_add_28 : decode cX4_add 28 = .ok (.iadd, 1) := by decide +kernel
theorem dX4_add_29 : decode cX4_add 29 = .ok (.putfield 21, 3) := by decide +kernel
theorem dX4_add_32 : decode cX4_add 32 = .ok (.return_, 1) := by decide +kernel
theorem dX4_takeNext_0 : decode cX4_takeNext 0 = .ok (.aload_n 0, 1) := by decide +kernel
theorem dX4_takeNext_1 : decode cX4_takeNext 1 = .ok (.dup, 1) := by decide +kernel
theorem dX4_takeNext_2 : decode cX4_takeNext 2 = .ok (.getfield 24, 3) := by decide +kernel
theorem dX4_takeNext_5 : decode cX4_takeNext 5 = .ok (.lconst 1, 1) := by decide +kernel
theorem dX4_takeNext_6 : decode cX4_takeNext 6 = .ok (.ladd, 1) := by decide +kernel
theorem dX4_takeNext_7 : decode cX4_takeNext 7 = .ok (.putfield 24, 3) := by decide +kernel
theorem dX4_takeNext_10 : decode cX4_takeNext 10 = .ok (.aload_n 0, 1) := by decide +kernel
theorem dX4_takeNext_11 : decode cX4_takeNext 11 = .ok (.getfield 24, 3) := by decide +kernel
theorem dX4_takeNext_14 : decode cX4_takeNext 14 = .ok (.lconst 1, 1) := by decide +kernel
theorem dX4_takeNext_15 : decode cX4_takeNext 15 = .ok (.lsub, 1) := by decide +kernel
theorem dX4_takeNext_16 : decode cX4_takeNext 16 = .ok (.lreturn, 1) := by decide +kernel
theorem dX4_reached_0 : decode cX4_reached 0 = .ok (.aload_n 0, 1) := by decide +kernel
theorem dX4_reached_1 : decode cX4_reached 1 = .ok (.getfield 24, 3) := by decide +kernel
theorem dX4_reached_4 : decode cX4_reached 4 = .ok (.lstore_n 1, 1) := by decide +kernel
theorem dX4_reached_5 : decode cX4_reached 5 = .ok (.iconst 0, 1) := by decide +kernel
theorem dX4_reached_6 : decode cX4_reached 6 = .ok (.istore_n 3, 1) := by decide +kernel
theorem dX4_reached_7 : decode cX4_reached 7 = .ok (.iload_n 3, 1) := by decide +kernel
theorem dX4_reached_8 : decode cX4_reached 8 = .ok (.aload_n 0, 1) := by decide +kernel
theorem dX4_reached_9 : decode cX4_reached 9 = .ok (.getfield 21, 3) := by decide +kernel
theorem dX4_reached_12 : decode cX4_reached 12 = .ok (.if_icmp .ge 48, 3) := by decide +kernel
theorem dX4_reached_15 : decode cX4_reached 15 = .ok (.aload_n 0, 1) := by decide +kernel
theorem dX4_reached_16 : decode cX4_reached 16 = .ok (.getfield 11, 3) := by decide +kernel
theorem dX4_reached_19 : decode cX4_reached 19 = .ok (.iload_n 3, 1) := by decide +kernel
theorem dX4_reached_20 : decode cX4_reached 20 = .ok (.aaload, 1) := by decide +kernel
theorem dX4_reached_21 : decode cX4_reached 21 = .ok (.ifnull 33, 3) := by decide +kernel
theorem dX4_reached_24 : decode cX4_reached 24 = .ok (.aload_n 0, 1) := by decide +kernel
theorem dX4_reached_25 : decode cX4_reached 25 = .ok (.getfield 11, 3) := by decide +kernel
theorem dX4_reached_28 : decode cX4_reached 28 = .ok (.iload_n 3, 1) := by decide +kernel
theorem dX4_reached_29 : decode cX4_reached 29 = .ok (.aaload, 1) := by decide +kernel
theorem dX4_reached_30 : decode cX4_reached 30 = .ok (.getfield 28, 3) := by decide +kernel
theorem dX4_reached_33 : decode cX4_reached 33 = .ok (.ldc2_w 31, 3) := by decide +kernel
theorem dX4_reached_36 : decode cX4_reached 36 = .ok (.lcmp, 1) := by decide +kernel
theorem dX4_reached_37 : decode cX4_reached 37 = .ok (.ifCond .eq 17, 3) := by decide +kernel
theorem dX4_reached_40 : decode cX4_reached 40 = .ok (.lload_n 1, 1) := by decide +kernel
theorem dX4_reached_41 : decode cX4_reached 41 = .ok (.aload_n 0, 1) := by decide +kernel
theorem dX4_reached_42 : decode cX4_reached 42 = .ok (.getfield 11, 3) := by decide +kernel
theorem dX4_reached_45 : decode cX4_reached 45 = .ok (.iload_n 3, 1) := by decide +kernel
theorem dX4_reached_46 : decode cX4_reached 46 = .ok (.aaload, 1) := by decide +kernel
theorem dX4_reached_47 : decode cX4_reached 47 = .ok (.getfield 28, 3) := by decide +kernel
theorem dX4_reached_50 : decode cX4_reached 50 = .ok (.invokestatic 33, 3) := by decide +kernel
theorem dX4_reached_53 : decode cX4_reached 53 = .ok (.lstore_n 1, 1) := by decide +kernel
theorem dX4_reached_54 : decode cX4_reached 54 = .ok (.iinc 3 1, 3) := by decide +kernel
theorem dX4_reached_57 : decode cX4_reached 57 = .ok (.goto (-50), 3) := by decide +kernel
theorem dX4_reached_60 : decode cX4_reached 60 = .ok (.lload_n 1, 1) := by decide +kernel
theorem dX4_reached_61 : decode cX4_reached 61 = .ok (.lconst 1, 1) := by decide +kernel
theorem dX4_reached_62 : decode cX4_reached 62 = .ok (.lsub, 1) := by decide +kernel
theorem dX4_reached_63 : decode cX4_reached 63 = .ok (.lreturn, 1) := by decide +kernel
theorem dX5_init_0 : decode cX5_init 0 = .ok (.aload_n 0, 1) := by decide +kernel
theorem dX5_init_1 : decode cX5_init 1 = .ok (.invokespecial 3, 3) := by decide +kernel
theorem dX5_init_4 : decode cX5_init 4 = .ok (.aload_n 0, 1) := by decide +kernel
theorem dX5_init_5 : decode cX5_init 5 = .ok (.ldc2_w 9, 3) := by decide +kernel
theorem dX5_init_8 : decode cX5_init 8 = .ok (.putfield 11, 3) := by decide +kernel
theorem dX5_init_11 : decode cX5_init 11 = .ok (.aload_n 0, 1) := by decide +kernel
theorem dX5_init_12 : decode cX5_init 12 = .ok (.ldc2_w 9, 3) := by decide +kernel
theorem dX5_init_15 : decode cX5_init 15 = .ok (.putfield 17, 3) := by decide +kernel
theorem dX5_init_18 : decode cX5_init 18 = .ok (.aload_n 0, 1) := by decide +kernel
theorem dX5_init_19 : decode cX5_init 19 = .ok (.iload_n 1, 1) := by decide +kernel
theorem dX5_init_20 : decode cX5_init 20 = .ok (.newarray .long, 2) := by decide +kernel
theorem dX5_init_22 : decode cX5_init 22 = .ok (.putfield 20, 3) := by decide +kernel
theorem dX5_init_25 : decode cX5_init 25 = .ok (.aload_n 0, 1) := by decide +kernel
theorem dX5_init_26 : decode cX5_init 26 = .ok (.iload_n 1, 1) := by decide +kernel
theorem dX5_init_27 : decode cX5_init 27 = .ok (.newarray .int, 2) := by decide +kernel
theorem dX5_init_29 : decode cX5_init 29 = .ok (.putfield 24, 3) := by decide +kernel
theorem dX5_init_32 : decode cX5_init 32 = .ok (.aload_n 0, 1) := by decide +kernel
theorem dX5_init_33 : decode cX5_init 33 = .ok (.iload_n 1, 1) := by decide +kernel
theorem dX5_init_34 : decode cX5_init 34 = .ok (.newarray .long, 2) := by decide +kernel
theorem dX5_init_36 : decode cX5_init 36 = .ok (.putfield 28, 3) := by decide +kernel
theorem dX5_init_39 : decode cX5_init 39 = .ok (.iconst 0, 1) := by decide +kernel
theorem dX5_init_40 : decode cX5_init 40 = .ok (.istore_n 2, 1) := by decide +kernel
theorem dX5_init_41 : decode cX5_init 41 = .ok (.iload_n 2, 1) := by decide +kernel
theorem dX5_init_42 : decode cX5_init 42 = .ok (.iload_n 1, 1) := by decide +kernel
theorem dX5_init_43 : decode cX5_init 43 = .ok (.if_icmp .ge 18, 3) := by decide +kernel
theorem dX5_init_46 : decode cX5_init 46 = .ok (.aload_n 0, 1) := by decide +kernel
theorem dX5_init_47 : decode cX5_init 47 = .ok (.getfield 28, 3) := by decide +kernel
theorem dX5_init_50 : decode cX5_init 50 = .ok (.iload_n 2, 1) := by decide +kernel
theorem dX5_init_51 : decode cX5_init 51 = .ok (.ldc2_w 9, 3) := by decide +kernel
theorem dX5_init_54 : decode cX5_init 54 = .ok (.lastore, 1) := by decide +kernel
theorem dX5_init_55 : decode cX5_init 55 = .ok (.iinc 2 1, 3) := by decide +kernel
theorem dX5_init_58 : decode cX5_init 58 = .ok (.goto (-17), 3) := by decide +kernel
theorem dX5_init_61 : decode cX5_init 61 = .ok (.return_, 1) := by decide +kernel
theorem dX5_slots_0 : decode cX5_slots 0 = .ok (.aload_n 0, 1) := by decide +kernel
theorem dX5_slots_1 : decode cX5_slots 1 = .ok (.getfield 20, 3) := by decide +kernel
theorem dX5_slots_4 : decode cX5_slots 4 = .ok (.arraylength, 1) := by decide +kernel
theorem dX5_slots_5 : decode cX5_slots 5 = .ok (.ireturn, 1) := by decide +kernel
theorem dX5_slotOf_0 : decode cX5_slotOf 0 = .ok (.lload_n 1, 1) := by decide +kernel
theorem dX5_slotOf_1 : decode cX5_slotOf 1 = .ok (.aload_n 0, 1) := by decide +kernel
theorem dX5_slotOf_2 : decode cX5_slotOf 2 = .ok (.getfield 20, 3) := by decide +kernel
theorem dX5_slotOf_5 : decode cX5_slotOf 5 = .ok (.arraylength, 1) := by decide +kernel
theorem dX5_slotOf_6 : decode cX5_slotOf 6 = .ok (.iconst 1, 1) := by decide +kernel
theorem dX5_slotOf_7 : decode cX5_slotOf 7 = .ok (.isub, 1) := by decide +kernel
theorem dX5_slotOf_8 : decode cX5_slotOf 8 = .ok (.i2l, 1) := by decide +kernel
theorem dX5_slotOf_9 : decode cX5_slotOf 9 = .ok (.land, 1) := by decide +kernel
theorem dX5_slotOf_10 : decode cX5_slotOf 10 = .ok (.l2i, 1) := by decide +kernel
theorem dX5_slotOf_11 : decode cX5_slotOf 11 = .ok (.ireturn, 1) := by decide +kernel
theorem dX5_reserve_0 : decode cX5_reserve 0 = .ok (.aload_n 0, 1) := by decide +kernel
theorem dX5_reserve_1 : decode cX5_reserve 1 = .ok (.getfield 11, 3) := by decide +kernel
theorem dX5_reserve_4 : decode cX5_reserve 4 = .ok (.lconst 1, 1) := by decide +kernel
theorem dX5_reserve_5 : decode cX5_reserve 5 = .ok (.ladd, 1) := by decide +kernel
theorem dX5_reserve_6 : decode cX5_reserve 6 = .ok (.lstore_n 3, 1) := by decide +kernel
theorem dX5_reserve_7 : decode cX5_reserve 7 = .ok (.iconst 0, 1) := by decide +kernel
theorem dX5_reserve_8 : decode cX5_reserve 8 = .ok (.istore 5, 2) := by decide +kernel
theorem dX5_reserve_10 : decode cX5_reserve 10 = .ok (.iload 5, 2) := by decide +kernel
theorem dX5_reserve_12 : decode cX5_reserve 12 = .ok (.iload_n 2, 1) := by decide +kernel
theorem dX5_reserve_13 : decode cX5_reserve 13 = .ok (.if_icmp .ge 24, 3) := by decide +kernel
theorem dX5_reserve_16 : decode cX5_reserve 16 = .ok (.aload_n 0, 1) := by decide +kernel
theorem dX5_reserve_17 : decode cX5_reserve 17 = .ok (.getfield 24, 3) := by decide +kernel
theorem dX5_reserve_20 : decode cX5_reserve 20 = .ok (.aload_n 0, 1) := by decide +kernel
theorem dX5_reserve_21 : decode cX5_reserve 21 = .ok (.lload_n 3, 1) := by decide +kernel
theorem dX5_reserve_22 : decode cX5_reserve 22 = .ok (.iload 5, 2) := by decide +kernel
theorem dX5_reserve_24 : decode cX5_reserve 24 = .ok (.i2l, 1) := by decide +kernel
theorem dX5_reserve_25 : decode cX5_reserve 25 = .ok (.ladd, 1) := by decide +kernel
theorem dX5_reserve_26 : decode cX5_reserve 26 = .ok (.invokevirtual 31, 3) := by decide +kernel
theorem dX5_reserve_29 : decode cX5_reserve 29 = .ok (.iload_n 1, 1) := by decide +kernel
theorem dX5_reserve_30 : decode cX5_reserve 30 = .ok (.iastore, 1) := by decide +kernel
theorem dX5_reserve_31 : decode cX5_reserve 31 = .ok (.iinc 5 1, 3) := by decide +kernel
theorem dX5_reserve_34 : decode cX5_reserve 34 = .ok (.goto (-24), 3) := by decide +kernel
theorem dX5_reserve_37 : decode cX5_reserve 37 = .ok (.aload_n 0, 1) := by decide +kernel
theorem dX5_reserve_38 : decode cX5_reserve 38 = .ok (.dup, 1) := by decide +kernel
theorem dX5_reserve_39 : decode cX5_reserve 39 = .ok (.getfield 11, 3) := by decide +kernel
theorem dX5_reserve_42 : decode cX5_reserve 42 = .ok (.iload_n 2, 1) := by decide +kernel
theorem dX5_reserve_43 : decode cX5_reserve 43 = .ok (.i2l, 1) := by decide +kernel
theorem dX5_reserve_44 : decode cX5_reserve 44 = .ok (.ladd, 1) := by decide +kernel
theorem dX5_reserve_45 : decode cX5_reserve 45 = .ok (.putfield 11, 3) := by decide +kernel
theorem dX5_reserve_48 : decode cX5_reserve 48 = .ok (.lload_n 3, 1) := by decide +kernel
theorem dX5_reserve_49 : decode cX5_reserve 49 = .ok (.lreturn, 1) := by decide +kernel
theorem dX5_isOpen_0 : decode cX5_isOpen 0 = .ok (.lload_n 2, 1) := by decide +kernel
theorem dX5_isOpen_1 : decode cX5_isOpen 1 = .ok (.lconst 0, 1) := by decide +kernel
theorem dX5_isOpen_2 : decode cX5_isOpen 2 = .ok (.lcmp, 1) := by decide +kernel
theorem dX5_isOpen_3 : decode cX5_isOpen 3 = .ok (.ifCond .lt 12, 3) := by decide +kernel
theorem dX5_isOpen_6 : decode cX5_isOpen 6 = .ok (.lload_n 2, 1) := by decide +kernel
theorem dX5_isOpen_7 : decode cX5_isOpen 7 = .ok (.aload_n 0, 1) := by decide +kernel
theorem dX5_isOpen_8 : decode cX5_isOpen 8 = .ok (.getfield 11, 3) := by decide +kernel
theorem dX5_isOpen_11 : decode cX5_isOpen 11 = .ok (.lcmp, 1) := by decide +kernel
theorem dX5_isOpen_12 : decode cX5_isOpen 12 = .ok (.ifCond .le 5, 3) := by decide +kernel
theorem dX5_isOpen_15 : decode cX5_isOpen 15 = .ok (.iconst 0, 1) := by decide +kernel
theorem dX5_isOpen_16 : decode cX5_isOpen 16 = .ok (.ireturn, 1) := by decide +kernel
theorem dX5_isOpen_17 : decode cX5_isOpen 17 = .ok (.aload_n 0, 1) := by decide +kernel
theorem dX5_isOpen_18 : decode cX5_isOpen 18 = .ok (.lload_n 2, 1) := by decide +kernel
theorem dX5_isOpen_19 : decode cX5_isOpen 19 = .ok (.invokevirtual 31, 3) := by decide +kernel
theorem dX5_isOpen_22 : decode cX5_isOpen 22 = .ok (.istore 4, 2) := by decide +kernel
theorem dX5_isOpen_24 : decode cX5_isOpen 24 = .ok (.aload_n 0, 1) := by decide +kernel
theorem dX5_isOpen_25 : decode cX5_isOpen 25 = .ok (.getfield 28, 3) := by decide +kernel
theorem dX5_isOpen_28 : decode cX5_isOpen 28 = .ok (.iload 4, 2) := by decide +kernel
theorem dX5_isOpen_30 : decode cX5_isOpen 30 = .ok (.laload, 1) := by decide +kernel
theorem dX5_isOpen_31 : decode cX5_isOpen 31 = .ok (.lload_n 2, 1) := by decide +kernel
theorem dX5_isOpen_32 : decode cX5_isOpen 32 = .ok (.lcmp, 1) := by decide +kernel
theorem dX5_isOpen_33 : decode cX5_isOpen 33 = .ok (.ifCond .ge 18, 3) := by decide +kernel
theorem dX5_isOpen_36 : decode cX5_isOpen 36 = .ok (.aload_n 0, 1) := by decide +kernel
theorem dX5_isOpen_37 : decode cX5_isOpen 37 = .ok (.getfield 24, 3) := by decide +kernel
theorem dX5_isOpen_40 : decode cX5_isOpen 40 = .ok (.iload 4, 2) := by decide +kernel
theorem dX5_isOpen_42 : decode cX5_isOpen 42 = .ok (.iaload, 1) := by decide +kernel
theorem dX5_isOpen_43 : decode cX5_isOpen 43 = .ok (.iload_n 1, 1) := by decide +kernel
theorem dX5_isOpen_44 : decode cX5_isOpen 44 = .ok (.if_icmp .ne 7, 3) := by decide +kernel
theorem dX5_isOpen_47 : decode cX5_isOpen 47 = .ok (.iconst 1, 1) := by decide +kernel
theorem dX5_isOpen_48 : decode cX5_isOpen 48 = .ok (.goto 4, 3) := by decide +kernel
theorem dX5_isOpen_51 : decode cX5_isOpen 51 = .ok (.iconst 0, 1) := by decide +kernel
theorem dX5_isOpen_52 : decode cX5_isOpen 52 = .ok (.ireturn, 1) := by decide +kernel
theorem dX5_write_0 : decode cX5_write 0 = .ok (.aload_n 0, 1) := by decide +kernel
theorem dX5_write_1 : decode cX5_write 1 = .ok (.getfield 20, 3) := by decide +kernel
theorem dX5_write_4 : decode cX5_write 4 = .ok (.aload_n 0, 1) := by decide +kernel
theorem dX5_write_5 : decode cX5_write 5 = .ok (.lload_n 1, 1) := by decide +kernel
theorem dX5_write_6 : decode cX5_write 6 = .ok (.invokevirtual 31, 3) := by decide +kernel
theorem dX5_write_9 : decode cX5_write 9 = .ok (.lload_n 3, 1) := by decide +kernel
theorem dX5_write_10 : decode cX5_write 10 = .ok (.lastore, 1) := by decide +kernel
theorem dX5_write_11 : decode cX5_write 11 = .ok (.aload_n 0, 1) := by decide +kernel
theorem dX5_write_12 : decode cX5_write 12 = .ok (.getfield 28, 3) := by decide +kernel
theorem dX5_write_15 : decode cX5_write 15 = .ok (.aload_n 0, 1) := by decide +kernel
theorem dX5_write_16 : decode cX5_write 16 = .ok (.lload_n 1, 1) := by decide +kernel
theorem dX5_write_17 : decode cX5_write 17 = .ok (.invokevirtual 31, 3) := by decide +kernel
theorem dX5_write_20 : decode cX5_write 20 = .ok (.lload_n 1, 1) := by decide +kernel
theorem dX5_write_21 : decode cX5_write 21 = .ok (.lastore, 1) := by decide +kernel
theorem dX5_write_22 : decode cX5_write 22 = .ok (.aload_n 0, 1) := by decide +kernel
theorem dX5_write_23 : decode cX5_write 23 = .ok (.getfield 17, 3) := by decide +kernel
theorem dX5_write_26 : decode cX5_write 26 = .ok (.lconst 1, 1) := by decide +kernel
theorem dX5_write_27 : decode cX5_write 27 = .ok (.ladd, 1) := by decide +kernel
theorem dX5_write_28 : decode cX5_write 28 = .ok (.lstore 5, 2) := by decide +kernel
theorem dX5_write_30 : decode cX5_write 30 = .ok (.lload 5, 2) := by decide +kernel
theorem dX5_write_32 : decode cX5_write 32 = .ok (.aload_n 0, 1) := by decide +kernel
theorem dX5_write_33 : decode cX5_write 33 = .ok (.getfield 11, 3) := by decide +kernel
theorem dX5_write_36 : decode cX5_write 36 = .ok (.lcmp, 1) := by decide +kernel
theorem dX5_write_37 : decode cX5_write 37 = .ok (.ifCond .gt 38, 3) := by decide +kernel
theorem dX5_write_40 : decode cX5_write 40 = .ok (.aload_n 0, 1) := by decide +kernel
theorem dX5_write_41 : decode cX5_write 41 = .ok (.getfield 28, 3) := by decide +kernel
theorem dX5_write_44 : decode cX5_write 44 = .ok (.aload_n 0, 1) := by decide +kernel
theorem dX5_write_45 : decode cX5_write 45 = .ok (.lload 5, 2) := by decide +kernel
theorem dX5_write_47 : decode cX5_write 47 = .ok (.invokevirtual 31, 3) := by decide +kernel
theorem dX5_write_50 : decode cX5_write 50 = .ok (.laload, 1) := by decide +kernel
theorem dX5_write_51 : decode cX5_write 51 = .ok (.lload 5, 2) := by decide +kernel
theorem dX5_write_53 : decode cX5_write 53 = .ok (.lcmp, 1) := by decide +kernel
theorem dX5_write_54 : decode cX5_write 54 = .ok (.ifCond .eq 6, 3) := by decide +kernel
theorem dX5_write_57 : decode cX5_write 57 = .ok (.goto 18, 3) := by decide +kernel
theorem dX5_write_60 : decode cX5_write 60 = .ok (.aload_n 0, 1) := by decide +kernel
theorem dX5_write_61 : decode cX5_write 61 = .ok (.lload 5, 2) := by decide +kernel
theorem dX5_write_63 : decode cX5_write 63 = .ok (.putfield 17, 3) := by decide +kernel
theorem dX5_write_66 : decode cX5_write 66 = .ok (.lload 5, 2) := by decide +kernel
theorem dX5_write_68 : decode cX5_write 68 = .ok (.lconst 1, 1) := by decide +kernel
theorem dX5_write_69 : decode cX5_write 69 = .ok (.ladd, 1) := by decide +kernel
theorem dX5_write_70 : decode cX5_write 70 = .ok (.lstore 5, 2) := by decide +kernel
theorem dX5_write_72 : decode cX5_write 72 = .ok (.goto (-42), 3) := by decide +kernel
theorem dX5_write_75 : decode cX5_write 75 = .ok (.return_, 1) := by decide +kernel
theorem dX5_publishedInSlotOf_0 : decode cX5_publishedInSlotOf 0 = .ok (.aload_n 0, 1) := by decide +kernel
theorem dX5_publishedInSlotOf_1 : decode cX5_publishedInSlotOf 1 = .ok (.getfield 28, 3) := by decide +kernel
theorem dX5_publishedInSlotOf_4 : decode cX5_publishedInSlotOf 4 = .ok (.aload_n 0, 1) := by decide +kernel
theorem dX5_publishedInSlotOf_5 : decode cX5_publishedInSlotOf 5 = .ok (.lload_n 1, 1) := by decide +kernel
theorem dX5_publishedInSlotOf_6 : decode cX5_publishedInSlotOf 6 = .ok (.invokevirtual 31, 3) := by decide +kernel
theorem dX5_publishedInSlotOf_9 : decode cX5_publishedInSlotOf 9 = .ok (.laload, 1) := by decide +kernel
theorem dX5_publishedInSlotOf_10 : decode cX5_publishedInSlotOf 10 = .ok (.lreturn, 1) := by decide +kernel
theorem dX5_valueOf_0 : decode cX5_valueOf 0 = .ok (.aload_n 0, 1) := by decide +kernel
theorem dX5_valueOf_1 : decode cX5_valueOf 1 = .ok (.getfield 20, 3) := by decide +kernel
theorem dX5_valueOf_4 : decode cX5_valueOf 4 = .ok (.aload_n 0, 1) := by decide +kernel
theorem dX5_valueOf_5 : decode cX5_valueOf 5 = .ok (.lload_n 1, 1) := by decide +kernel
theorem dX5_valueOf_6 : decode cX5_valueOf 6 = .ok (.invokevirtual 31, 3) := by decide +kernel
theorem dX5_valueOf_9 : decode cX5_valueOf 9 = .ok (.laload, 1) := by decide +kernel
theorem dX5_valueOf_10 : decode cX5_valueOf 10 = .ok (.lreturn, 1) := by decide +kernel
theorem dX5_producerOf_0 : decode cX5_producerOf 0 = .ok (.aload_n 0, 1) := by decide +kernel
theorem dX5_producerOf_1 : decode cX5_producerOf 1 = .ok (.getfield 24, 3) := by decide +kernel
theorem dX5_producerOf_4 : decode cX5_producerOf 4 = .ok (.aload_n 0, 1) := by decide +kernel
theorem dX5_producerOf_5 : decode cX5_producerOf 5 = .ok (.lload_n 1, 1) := by decide +kernel
theorem dX5_producerOf_6 : decode cX5_producerOf 6 = .ok (.invokevirtual 31, 3) := by decide +kernel
theorem dX5_producerOf_9 : decode cX5_producerOf 9 = .ok (.iaload, 1) := by decide +kernel
theorem dX5_producerOf_10 : decode cX5_producerOf 10 = .ok (.ireturn, 1) := by decide +kernel
theorem dX6_init_0 : decode cX6_init 0 = .ok (.aload_n 0, 1) := by decide +kernel
theorem dX6_init_1 : decode cX6_init 1 = .ok (.invokespecial 1, 3) := by decide +kernel
theorem dX6_init_4 : decode cX6_init 4 = .ok (.return_, 1) := by decide +kernel
theorem dX6_handles_0 : decode cX6_handles 0 = .ok (.lload_n 3, 1) := by decide +kernel
theorem dX6_handles_1 : decode cX6_handles 1 = .ok (.lconst 0, 1) := by decide +kernel
theorem dX6_handles_2 : decode cX6_handles 2 = .ok (.lcmp, 1) := by decide +kernel
theorem dX6_handles_3 : decode cX6_handles 3 = .ok (.ifCond .ge 5, 3) := by decide +kernel
theorem dX6_handles_6 : decode cX6_handles 6 = .ok (.iconst 0, 1) := by decide +kernel
theorem dX6_handles_7 : decode cX6_handles 7 = .ok (.ireturn, 1) := by decide +kernel
theorem dX6_handles_8 : decode cX6_handles 8 = .ok (.aload_n 0, 1) := by decide +kernel
theorem dX6_handles_9 : decode cX6_handles 9 = .ok (.aload_n 0, 1) := by decide +kernel
theorem dX6_handles_10 : decode cX6_handles 10 = .ok (.getfield 7, 3) := by decide +kernel
theorem dX6_handles_13 : decode cX6_handles 13 = .ok (.lload_n 3, 1) := by decide +kernel
theorem dX6_handles_14 : decode cX6_handles 14 = .ok (.l2f, 1) := by decide +kernel
theorem dX6_handles_15 : decode cX6_handles 15 = .ok (.aload_n 0, 1) := by decide +kernel
theorem dX6_handles_16 : decode cX6_handles 16 = .ok (.getfield 7, 3) := by decide +kernel
theorem dX6_handles_19 : decode cX6_handles 19 = .ok (.fsub, 1) := by decide +kernel
theorem dX6_handles_20 : decode cX6_handles 20 = .ok (.ldc 13, 2) := by decide +kernel
theorem dX6_handles_22 : decode cX6_handles 22 = .ok (.fmul, 1) := by decide +kernel
theorem dX6_handles_23 : decode cX6_handles 23 = .ok (.fadd, 1) := by decide +kernel
theorem dX6_handles_24 : decode cX6_handles 24 = .ok (.putfield 7, 3) := by decide +kernel
theorem dX6_handles_27 : decode cX6_handles 27 = .ok (.iconst 1, 1) := by decide +kernel
theorem dX6_handles_28 : decode cX6_handles 28 = .ok (.ireturn, 1) := by decide +kernel
theorem dX6_keep_0 : decode cX6_keep 0 = .ok (.aload_n 0, 1) := by decide +kernel
theorem dX6_keep_1 : decode cX6_keep 1 = .ok (.aload_n 0, 1) := by decide +kernel
theorem dX6_keep_2 : decode cX6_keep 2 = .ok (.getfield 7, 3) := by decide +kernel
theorem dX6_keep_5 : decode cX6_keep 5 = .ok (.putfield 14, 3) := by decide +kernel
theorem dX6_keep_8 : decode cX6_keep 8 = .ok (.return_, 1) := by decide +kernel
theorem dX6_restore_0 : decode cX6_restore 0 = .ok (.aload_n 0, 1) := by decide +kernel
theorem dX6_restore_1 : decode cX6_restore 1 = .ok (.aload_n 0, 1) := by decide +kernel
theorem dX6_restore_2 : decode cX6_restore 2 = .ok (.getfield 14, 3) := by decide +kernel
theorem dX6_restore_5 : decode cX6_restore 5 = .ok (.putfield 7, 3) := by decide +kernel
theorem dX6_restore_8 : decode cX6_restore 8 = .ok (.return_, 1) := by decide +kernel
theorem dX7_init_0 : decode cX7_init 0 = .ok (.aload_n 0, 1) := by decide +kernel
theorem dX7_init_1 : decode cX7_init 1 = .ok (.invokespecial 1, 3) := by decide +kernel
theorem dX7_init_4 : decode cX7_init 4 = .ok (.return_, 1) := by decide +kernel
theorem dX7_handles_0 : decode cX7_handles 0 = .ok (.lload_n 3, 1) := by decide +kernel
theorem dX7_handles_1 : decode cX7_handles 1 = .ok (.ldc2_w 9, 3) := by decide +kernel
theorem dX7_handles_4 : decode cX7_handles 4 = .ok (.lcmp, 1) := by decide +kernel
theorem dX7_handles_5 : decode cX7_handles 5 = .ok (.ifCond .ne 5, 3) := by decide +kernel
theorem dX7_handles_8 : decode cX7_handles 8 = .ok (.iconst 0, 1) := by decide +kernel
theorem dX7_handles_9 : decode cX7_handles 9 = .ok (.ireturn, 1) := by decide +kernel
theorem dX7_handles_10 : decode cX7_handles 10 = .ok (.aload_n 0, 1) := by decide +kernel
theorem dX7_handles_11 : decode cX7_handles 11 = .ok (.dup, 1) := by decide +kernel
theorem dX7_handles_12 : decode cX7_handles 12 = .ok (.getfield 11, 3) := by decide +kernel
theorem dX7_handles_15 : decode cX7_handles 15 = .ok (.lload_n 3, 1) := by decide +kernel
theorem dX7_handles_16 : decode cX7_handles 16 = .ok (.ladd, 1) := by decide +kernel
theorem dX7_handles_17 : decode cX7_handles 17 = .ok (.putfield 11, 3) := by decide +kernel
theorem dX7_handles_20 : decode cX7_handles 20 = .ok (.iconst 1, 1) := by decide +kernel
theorem dX7_handles_21 : decode cX7_handles 21 = .ok (.ireturn, 1) := by decide +kernel
theorem dX7_keep_0 : decode cX7_keep 0 = .ok (.aload_n 0, 1) := by decide +kernel
theorem dX7_keep_1 : decode cX7_keep 1 = .ok (.aload_n 0, 1) := by decide +kernel
theorem dX7_keep_2 : decode cX7_keep 2 = .ok (.getfield 11, 3) := by decide +kernel
theorem dX7_keep_5 : decode cX7_keep 5 = .ok (.putfield 15, 3) := by decide +kernel
theorem dX7_keep_8 : decode cX7_keep 8 = .ok (.return_, 1) := by decide +kernel
theorem dX7_restore_0 : decode cX7_restore 0 = .ok (.aload_n 0, 1) := by decide +kernel
theorem dX7_restore_1 : decode cX7_restore 1 = .ok (.aload_n 0, 1) := by decide +kernel
theorem dX7_restore_2 : decode cX7_restore 2 = .ok (.getfield 15, 3) := by decide +kernel
theorem dX7_restore_5 : decode cX7_restore 5 = .ok (.putfield 11, 3) := by decide +kernel
theorem dX7_restore_8 : decode cX7_restore 8 = .ok (.return_, 1) := by decide +kernel
theorem dX7_amount_0 : decode cX7_amount 0 = .ok (.aload_n 0, 1) := by decide +kernel
theorem dX7_amount_1 : decode cX7_amount 1 = .ok (.getfield 11, 3) := by decide +kernel
theorem dX7_amount_4 : decode cX7_amount 4 = .ok (.lreturn, 1) := by decide +kernel
theorem dJ9_min_f86c9_0 : decode cJ9_min_f86c9 0 = .ok (.lload_n 0, 1) := by decide +kernel
theorem dJ9_min_f86c9_1 : decode cJ9_min_f86c9 1 = .ok (.lload_n 2, 1) := by decide +kernel
theorem dJ9_min_f86c9_2 : decode cJ9_min_f86c9 2 = .ok (.lcmp, 1) := by decide +kernel
theorem dJ9_min_f86c9_3 : decode cJ9_min_f86c9 3 = .ok (.ifCond .gt 7, 3) := by decide +kernel
theorem dJ9_min_f86c9_6 : decode cJ9_min_f86c9 6 = .ok (.lload_n 0, 1) := by decide +kernel
theorem dJ9_min_f86c9_7 : decode cJ9_min_f86c9 7 = .ok (.goto 4, 3) := by decide +kernel
theorem dJ9_min_f86c9_10 : decode cJ9_min_f86c9 10 = .ok (.lload_n 2, 1) := by decide +kernel
theorem dJ9_min_f86c9_11 : decode cJ9_min_f86c9 11 = .ok (.lreturn, 1) := by decide +kernel
end
section
theorem dX8_init_0 : decode cX8_init 0 = .ok (.aload_n 0, 1) := by decide +kernel
theorem dX8_init_1 : decode cX8_init 1 = .ok (.invokespecial 1, 3) := by decide +kernel
theorem dX8_init_4 : decode cX8_init 4 = .ok (.aload_n 0, 1) := by decide +kernel
theorem dX8_init_5 : decode cX8_init 5 = .ok (.bipush 8, 2) := by decide +kernel
theorem dX8_init_7 : decode cX8_init 7 = .ok (.anewarray 9, 3) := by decide +kernel
theorem dX8_init_10 : decode cX8_init 10 = .ok (.putfield 11, 3) := by decide +kernel
theorem dX8_init_13 : decode cX8_init 13 = .ok (.aload_n 0, 1) := by decide +kernel
theorem dX8_init_14 : decode cX8_init 14 = .ok (.iconst 2, 1) := by decide +kernel
theorem dX8_init_15 : decode cX8_init 15 = .ok (.anewarray 15, 3) := by decide +kernel
theorem dX8_init_18 : decode cX8_init 18 = .ok (.putfield 17, 3) := by decide +kernel
theorem dX8_init_21 : decode cX8_init 21 = .ok (.aload_n 0, 1) := by decide +kernel
theorem dX8_init_22 : decode cX8_init 22 = .ok (.new 21, 3) := by decide +kernel
theorem dX8_init_25 : decode cX8_init 25 = .ok (.dup, 1) := by decide +kernel
theorem dX8_init_26 : decode cX8_init 26 = .ok (.iload_n 1, 1) := by decide +kernel
theorem dX8_init_27 : decode cX8_init 27 = .ok (.iconst 4, 1) := by decide +kernel
theorem dX8_init_28 : decode cX8_init 28 = .ok (.if_icmp .eq 9, 3) := by decide +kernel
theorem dX8_init_31 : decode cX8_init 31 = .ok (.iload_n 1, 1) := by decide +kernel
theorem dX8_init_32 : decode cX8_init 32 = .ok (.bipush 16, 2) := by decide +kernel
theorem dX8_init_34 : decode cX8_init 34 = .ok (.if_icmp .ne 7, 3) := by decide +kernel
theorem dX8_init_37 : decode cX8_init 37 = .ok (.iload_n 1, 1) := by decide +kernel
theorem dX8_init_38 : decode cX8_init 38 = .ok (.goto 5, 3) := by decide +kernel
theorem dX8_init_41 : decode cX8_init 41 = .ok (.bipush 8, 2) := by decide +kernel
theorem dX8_init_43 : decode cX8_init 43 = .ok (.invokespecial 23, 3) := by decide +kernel
theorem dX8_init_46 : decode cX8_init 46 = .ok (.putfield 26, 3) := by decide +kernel
theorem dX8_init_49 : decode cX8_init 49 = .ok (.return_, 1) := by decide +kernel
theorem dX8_consumer_0 : decode cX8_consumer 0 = .ok (.iload_n 1, 1) := by decide +kernel
theorem dX8_consumer_1 : decode cX8_consumer 1 = .ok (.iconst 0, 1) := by decide +kernel
theorem dX8_consumer_2 : decode cX8_consumer 2 = .ok (.iconst 3, 1) := by decide +kernel
theorem dX8_consumer_3 : decode cX8_consumer 3 = .ok (.invokestatic 30, 3) := by decide +kernel
theorem dX8_consumer_6 : decode cX8_consumer 6 = .ok (.ifCond .eq 12, 3) := by decide +kernel
theorem dX8_consumer_9 : decode cX8_consumer 9 = .ok (.iload_n 3, 1) := by decide +kernel
theorem dX8_consumer_10 : decode cX8_consumer 10 = .ok (.iconst 0, 1) := by decide +kernel
theorem dX8_consumer_11 : decode cX8_consumer 11 = .ok (.iconst 2, 1) := by decide +kernel
theorem dX8_consumer_12 : decode cX8_consumer 12 = .ok (.invokestatic 30, 3) := by decide +kernel
theorem dX8_consumer_15 : decode cX8_consumer 15 = .ok (.ifCond .ne 13, 3) := by decide +kernel
theorem dX8_consumer_18 : decode cX8_consumer 18 = .ok (.new 34, 3) := by decide +kernel
theorem dX8_consumer_21 : decode cX8_consumer 21 = .ok (.dup, 1) := by decide +kernel
theorem dX8_consumer_22 : decode cX8_consumer 22 = .ok (.ldc 36, 2) := by decide +kernel
theorem dX8_consumer_24 : decode cX8_consumer 24 = .ok (.invokespecial 38, 3) := by decide +kernel
theorem dX8_consumer_27 : decode cX8_consumer 27 = .ok (.athrow, 1) := by decide +kernel
theorem dX8_consumer_28 : decode cX8_consumer 28 = .ok (.iload_n 2, 1) := by decide +kernel
theorem dX8_consumer_29 : decode cX8_consumer 29 = .ok (.aload_n 0, 1) := by decide +kernel
theorem dX8_consumer_30 : decode cX8_consumer 30 = .ok (.getfield 41, 3) := by decide +kernel
theorem dX8_consumer_33 : decode cX8_consumer 33 = .ok (.iushr, 1) := by decide +kernel
theorem dX8_consumer_34 : decode cX8_consumer 34 = .ok (.ifCond .eq 13, 3) := by decide +kernel
theorem dX8_consumer_37 : decode cX8_consumer 37 = .ok (.new 34, 3) := by decide +kernel
theorem dX8_consumer_40 : decode cX8_consumer 40 = .ok (.dup, 1) := by decide +kernel
theorem dX8_consumer_41 : decode cX8_consumer 41 = .ok (.ldc 45, 2) := by decide +kernel
theorem dX8_consumer_43 : decode cX8_consumer 43 = .ok (.invokespecial 38, 3) := by decide +kernel
theorem dX8_consumer_46 : decode cX8_consumer 46 = .ok (.athrow, 1) := by decide +kernel
theorem dX8_consumer_47 : decode cX8_consumer 47 = .ok (.iload 4, 2) := by decide +kernel
theorem dX8_consumer_49 : decode cX8_consumer 49 = .ok (.iconst (-1), 1) := by decide +kernel
theorem dX8_consumer_50 : decode cX8_consumer 50 = .ok (.if_icmp .eq 24, 3) := by decide +kernel
theorem dX8_consumer_53 : decode cX8_consumer 53 = .ok (.aload_n 0, 1) := by decide +kernel
theorem dX8_consumer_54 : decode cX8_consumer 54 = .ok (.iload 4, 2) := by decide +kernel
theorem dX8_consumer_56 : decode cX8_consumer 56 = .ok (.iload_n 2, 1) := by decide +kernel
theorem dX8_consumer_57 : decode cX8_consumer 57 = .ok (.iload_n 3, 1) := by decide +kernel
theorem dX8_consumer_58 : decode cX8_consumer 58 = .ok (.invokevirtual 47, 3) := by decide +kernel
theorem dX8_consumer_61 : decode cX8_consumer 61 = .ok (.ifCond .ne 13, 3) := by decide +kernel
theorem dX8_consumer_64 : decode cX8_consumer 64 = .ok (.new 34, 3) := by decide +kernel
theorem dX8_consumer_67 : decode cX8_consumer 67 = .ok (.dup, 1) := by decide +kernel
theorem dX8_consumer_68 : decode cX8_consumer 68 = .ok (.ldc 50, 2) := by decide +kernel
theorem dX8_consumer_70 : decode cX8_consumer 70 = .ok (.invokespecial 38, 3) := by decide +kernel
theorem dX8_consumer_73 : decode cX8_consumer 73 = .ok (.athrow, 1) := by decide +kernel
theorem dX8_consumer_74 : decode cX8_consumer 74 = .ok (.aload_n 0, 1) := by decide +kernel
theorem dX8_consumer_75 : decode cX8_consumer 75 = .ok (.getfield 41, 3) := by decide +kernel
theorem dX8_consumer_78 : decode cX8_consumer 78 = .ok (.bipush 8, 2) := by decide +kernel
theorem dX8_consumer_80 : decode cX8_consumer 80 = .ok (.if_icmp .ge 15, 3) := by decide +kernel
theorem dX8_consumer_83 : decode cX8_consumer 83 = .ok (.aload_n 0, 1) := by decide +kernel
theorem dX8_consumer_84 : decode cX8_consumer 84 = .ok (.getfield 26, 3) := by decide +kernel
theorem dX8_consumer_87 : decode cX8_consumer 87 = .ok (.getfield 52, 3) := by decide +kernel
theorem dX8_consumer_90 : decode cX8_consumer 90 = .ok (.lconst 0, 1) := by decide +kernel
theorem dX8_consumer_91 : decode cX8_consumer 91 = .ok (.lcmp, 1) := by decide +kernel
theorem dX8_consumer_92 : decode cX8_consumer 92 = .ok (.ifCond .lt 13, 3) := by decide +kernel
theorem dX8_consumer_95 : decode cX8_consumer 95 = .ok (.new 56, 3) := by decide +kernel
theorem dX8_consumer_98 : decode cX8_consumer 98 = .ok (.dup, 1) := by decide +kernel
theorem dX8_consumer_99 : decode cX8_consumer 99 = .ok (.ldc 58, 2) := by decide +kernel
theorem dX8_consumer_101 : decode cX8_consumer 101 = .ok (.invokespecial 60, 3) := by decide +kernel
theorem dX8_consumer_104 : decode cX8_consumer 104 = .ok (.athrow, 1) := by decide +kernel
theorem dX8_consumer_105 : decode cX8_consumer 105 = .ok (.aload_n 0, 1) := by decide +kernel
theorem dX8_consumer_106 : decode cX8_consumer 106 = .ok (.new 9, 3) := by decide +kernel
theorem dX8_consumer_109 : decode cX8_consumer 109 = .ok (.dup, 1) := by decide +kernel
theorem dX8_consumer_110 : decode cX8_consumer 110 = .ok (.iload_n 1, 1) := by decide +kernel
theorem dX8_consumer_111 : decode cX8_consumer 111 = .ok (.invokestatic 61, 3) := by decide +kernel
theorem dX8_consumer_114 : decode cX8_consumer 114 = .ok (.iload_n 2, 1) := by decide +kernel
theorem dX8_consumer_115 : decode cX8_consumer 115 = .ok (.iload_n 3, 1) := by decide +kernel
theorem dX8_consumer_116 : decode cX8_consumer 116 = .ok (.aload_n 0, 1) := by decide +kernel
theorem dX8_consumer_117 : decode cX8_consumer 117 = .ok (.iload 4, 2) := by decide +kernel
theorem dX8_consumer_119 : decode cX8_consumer 119 = .ok (.iload_n 2, 1) := by decide +kernel
theorem dX8_consumer_120 : decode cX8_consumer 120 = .ok (.invokevirtual 65, 3) := by decide +kernel
theorem dX8_consumer_123 : decode cX8_consumer 123 = .ok (.invokespecial 69, 3) := by decide +kernel
theorem dX8_consumer_126 : decode cX8_consumer 126 = .ok (.invokevirtual 72, 3) := by decide +kernel
theorem dX8_consumer_129 : decode cX8_consumer 129 = .ok (.ireturn, 1) := by decide +kernel
theorem dX8_claim_0 : decode cX8_claim 0 = .ok (.iload_n 1, 1) := by decide +kernel
theorem dX8_claim_1 : decode cX8_claim 1 = .ok (.iconst 0, 1) := by decide +kernel
theorem dX8_claim_2 : decode cX8_claim 2 = .ok (.iconst 3, 1) := by decide +kernel
theorem dX8_claim_3 : decode cX8_claim 3 = .ok (.invokestatic 30, 3) := by decide +kernel
theorem dX8_claim_6 : decode cX8_claim 6 = .ok (.ifCond .eq 18, 3) := by decide +kernel
theorem dX8_claim_9 : decode cX8_claim 9 = .ok (.iload_n 2, 1) := by decide +kernel
theorem dX8_claim_10 : decode cX8_claim 10 = .ok (.iconst 1, 1) := by decide +kernel
theorem dX8_claim_11 : decode cX8_claim 11 = .ok (.aload_n 0, 1) := by decide +kernel
theorem dX8_claim_12 : decode cX8_claim 12 = .ok (.getfield 26, 3) := by decide +kernel
theorem dX8_claim_15 : decode cX8_claim 15 = .ok (.invokevirtual 76, 3) := by decide +kernel
theorem dX8_claim_18 : decode cX8_claim 18 = .ok (.invokestatic 30, 3) := by decide +kernel
theorem dX8_claim_21 : decode cX8_claim 21 = .ok (.ifCond .ne 13, 3) := by decide +kernel
theorem dX8_claim_24 : decode cX8_claim 24 = .ok (.new 34, 3) := by decide +kernel
theorem dX8_claim_27 : decode cX8_claim 27 = .ok (.dup, 1) := by decide +kernel
theorem dX8_claim_28 : decode cX8_claim 28 = .ok (.ldc 80, 2) := by decide +kernel
theorem dX8_claim_30 : decode cX8_claim 30 = .ok (.invokespecial 38, 3) := by decide +kernel
theorem dX8_claim_33 : decode cX8_claim 33 = .ok (.athrow, 1) := by decide +kernel
theorem dX8_claim_34 : decode cX8_claim 34 = .ok (.aload_n 0, 1) := by decide +kernel
theorem dX8_claim_35 : decode cX8_claim 35 = .ok (.getfield 26, 3) := by decide +kernel
theorem dX8_claim_38 : decode cX8_claim 38 = .ok (.getfield 52, 3) := by decide +kernel
theorem dX8_claim_41 : decode cX8_claim 41 = .ok (.iload_n 2, 1) := by decide +kernel
theorem dX8_claim_42 : decode cX8_claim 42 = .ok (.i2l, 1) := by decide +kernel
theorem dX8_claim_43 : decode cX8_claim 43 = .ok (.ladd, 1) := by decide +kernel
theorem dX8_claim_44 : decode cX8_claim 44 = .ok (.aload_n 0, 1) := by decide +kernel
theorem dX8_claim_45 : decode cX8_claim 45 = .ok (.getfield 26, 3) := by decide +kernel
theorem dX8_claim_48 : decode cX8_claim 48 = .ok (.invokevirtual 76, 3) := by decide +kernel
theorem dX8_claim_51 : decode cX8_claim 51 = .ok (.i2l, 1) := by decide +kernel
theorem dX8_claim_52 : decode cX8_claim 52 = .ok (.lsub, 1) := by decide +kernel
theorem dX8_claim_53 : decode cX8_claim 53 = .ok (.aload_n 0, 1) := by decide +kernel
theorem dX8_claim_54 : decode cX8_claim 54 = .ok (.aload_n 0, 1) := by decide +kernel
theorem dX8_claim_55 : decode cX8_claim 55 = .ok (.invokevirtual 82, 3) := by decide +kernel
theorem dX8_claim_58 : decode cX8_claim 58 = .ok (.invokevirtual 85, 3) := by decide +kernel
theorem dX8_claim_61 : decode cX8_claim 61 = .ok (.lcmp, 1) := by decide +kernel
theorem dX8_claim_62 : decode cX8_claim 62 = .ok (.ifCond .le 13, 3) := by decide +kernel
theorem dX8_claim_65 : decode cX8_claim 65 = .ok (.new 56, 3) := by decide +kernel
theorem dX8_claim_68 : decode cX8_claim 68 = .ok (.dup, 1) := by decide +kernel
theorem dX8_claim_69 : decode cX8_claim 69 = .ok (.ldc 89, 2) := by decide +kernel
theorem dX8_claim_71 : decode cX8_claim 71 = .ok (.invokespecial 60, 3) := by decide +kernel
theorem dX8_claim_74 : decode cX8_claim 74 = .ok (.athrow, 1) := by decide +kernel
theorem dX8_claim_75 : decode cX8_claim 75 = .ok (.aload_n 0, 1) := by decide +kernel
theorem dX8_claim_76 : decode cX8_claim 76 = .ok (.getfield 26, 3) := by decide +kernel
theorem dX8_claim_79 : decode cX8_claim 79 = .ok (.iload_n 1, 1) := by decide +kernel
theorem dX8_claim_80 : decode cX8_claim 80 = .ok (.iload_n 2, 1) := by decide +kernel
theorem dX8_claim_81 : decode cX8_claim 81 = .ok (.invokevirtual 91, 3) := by decide +kernel
theorem dX8_claim_84 : decode cX8_claim 84 = .ok (.lreturn, 1) := by decide +kernel
theorem dX8_publish_0 : decode cX8_publish 0 = .ok (.aload_n 0, 1) := by decide +kernel
theorem dX8_publish_1 : decode cX8_publish 1 = .ok (.getfield 26, 3) := by decide +kernel
theorem dX8_publish_4 : decode cX8_publish 4 = .ok (.iload_n 1, 1) := by decide +kernel
theorem dX8_publish_5 : decode cX8_publish 5 = .ok (.lload_n 2, 1) := by decide +kernel
theorem dX8_publish_6 : decode cX8_publish 6 = .ok (.invokevirtual 95, 3) := by decide +kernel
theorem dX8_publish_9 : decode cX8_publish 9 = .ok (.ifCond .ne 13, 3) := by decide +kernel
theorem dX8_publish_12 : decode cX8_publish 12 = .ok (.new 99, 3) := by decide +kernel
theorem dX8_publish_15 : decode cX8_publish 15 = .ok (.dup, 1) := by decide +kernel
theorem dX8_publish_16 : decode cX8_publish 16 = .ok (.ldc 101, 2) := by decide +kernel
theorem dX8_publish_18 : decode cX8_publish 18 = .ok (.invokespecial 103, 3) := by decide +kernel
theorem dX8_publish_21 : decode cX8_publish 21 = .ok (.athrow, 1) := by decide +kernel
theorem dX8_publish_22 : decode cX8_publish 22 = .ok (.aload_n 0, 1) := by decide +kernel
theorem dX8_publish_23 : decode cX8_publish 23 = .ok (.getfield 26, 3) := by decide +kernel
theorem dX8_publish_26 : decode cX8_publish 26 = .ok (.lload_n 2, 1) := by decide +kernel
theorem dX8_publish_27 : decode cX8_publish 27 = .ok (.lload 4, 2) := by decide +kernel
theorem dX8_publish_29 : decode cX8_publish 29 = .ok (.invokevirtual 104, 3) := by decide +kernel
theorem dX8_publish_32 : decode cX8_publish 32 = .ok (.lload_n 2, 1) := by decide +kernel
theorem dX8_publish_33 : decode cX8_publish 33 = .ok (.aload_n 0, 1) := by decide +kernel
theorem dX8_publish_34 : decode cX8_publish 34 = .ok (.getfield 26, 3) := by decide +kernel
theorem dX8_publish_37 : decode cX8_publish 37 = .ok (.getfield 108, 3) := by decide +kernel
theorem dX8_publish_40 : decode cX8_publish 40 = .ok (.lcmp, 1) := by decide +kernel
theorem dX8_publish_41 : decode cX8_publish 41 = .ok (.ifCond .gt 7, 3) := by decide +kernel
theorem dX8_publish_44 : decode cX8_publish 44 = .ok (.iconst 1, 1) := by decide +kernel
theorem dX8_publish_45 : decode cX8_publish 45 = .ok (.goto 4, 3) := by decide +kernel
theorem dX8_publish_48 : decode cX8_publish 48 = .ok (.iconst 0, 1) := by decide +kernel
theorem dX8_publish_49 : decode cX8_publish 49 = .ok (.ireturn, 1) := by decide +kernel
theorem dX8_run_0 : decode cX8_run 0 = .ok (.aload_n 0, 1) := by decide +kernel
theorem dX8_run_1 : decode cX8_run 1 = .ok (.iload_n 1, 1) := by decide +kernel
theorem dX8_run_2 : decode cX8_run 2 = .ok (.invokevirtual 111, 3) := by decide +kernel
theorem dX8_run_5 : decode cX8_run 5 = .ok (.astore_n 3, 1) := by decide +kernel
theorem dX8_run_6 : decode cX8_run 6 = .ok (.iload_n 2, 1) := by decide +kernel
theorem dX8_run_7 : decode cX8_run 7 = .ok (.iconst 1, 1) := by decide +kernel
theorem dX8_run_8 : decode cX8_run 8 = .ok (.bipush 20, 2) := by decide +kernel
theorem dX8_run_10 : decode cX8_run 10 = .ok (.invokestatic 30, 3) := by decide +kernel
theorem dX8_run_13 : decode cX8_run 13 = .ok (.ifCond .ne 13, 3) := by decide +kernel
theorem dX8_run_16 : decode cX8_run 16 = .ok (.new 34, 3) := by decide +kernel
theorem dX8_run_19 : decode cX8_run 19 = .ok (.dup, 1) := by decide +kernel
theorem dX8_run_20 : decode cX8_run 20 = .ok (.ldc 115, 2) := by decide +kernel
theorem dX8_run_22 : decode cX8_run 22 = .ok (.invokespecial 38, 3) := by decide +kernel
theorem dX8_run_25 : decode cX8_run 25 = .ok (.athrow, 1) := by decide +kernel
theorem dX8_run_26 : decode cX8_run 26 = .ok (.aload_n 3, 1) := by decide +kernel
theorem dX8_run_27 : decode cX8_run 27 = .ok (.getfield 117, 3) := by decide +kernel
theorem dX8_run_30 : decode cX8_run 30 = .ok (.ifCond .eq 13, 3) := by decide +kernel
theorem dX8_run_33 : decode cX8_run 33 = .ok (.new 56, 3) := by decide +kernel
theorem dX8_run_36 : decode cX8_run 36 = .ok (.dup, 1) := by decide +kernel
theorem dX8_run_37 : decode cX8_run 37 = .ok (.ldc 121, 2) := by decide +kernel
theorem dX8_run_39 : decode cX8_run 39 = .ok (.invokespecial 60, 3) := by decide +kernel
theorem dX8_run_42 : decode cX8_run 42 = .ok (.athrow, 1) := by decide +kernel
theorem dX8_run_43 : decode cX8_run 43 = .ok (.aload_n 3, 1) := by decide +kernel
theorem dX8_run_44 : decode cX8_run 44 = .ok (.aload_n 0, 1) := by decide +kernel
theorem dX8_run_45 : decode cX8_run 45 = .ok (.getfield 26, 3) := by decide +kernel
theorem dX8_run_48 : decode cX8_run 48 = .ok (.aload_n 0, 1) := by decide +kernel
theorem dX8_run_49 : decode cX8_run 49 = .ok (.aload_n 3, 1) := by decide +kernel
theorem dX8_run_50 : decode cX8_run 50 = .ok (.getfield 123, 3) := by decide +kernel
theorem dX8_run_53 : decode cX8_run 53 = .ok (.invokevirtual 85, 3) := by decide +kernel
theorem dX8_run_56 : decode cX8_run 56 = .ok (.iload_n 2, 1) := by decide +kernel
theorem dX8_run_57 : decode cX8_run 57 = .ok (.invokevirtual 126, 3) := by decide +kernel
theorem dX8_run_60 : decode cX8_run 60 = .ok (.ireturn, 1) := by decide +kernel
theorem dX8_place_0 : decode cX8_place 0 = .ok (.aload_n 0, 1) := by decide +kernel
theorem dX8_place_1 : decode cX8_place 1 = .ok (.iload_n 1, 1) := by decide +kernel
theorem dX8_place_2 : decode cX8_place 2 = .ok (.invokevirtual 111, 3) := by decide +kernel
theorem dX8_place_5 : decode cX8_place 5 = .ok (.invokevirtual 130, 3) := by decide +kernel
theorem dX8_place_8 : decode cX8_place 8 = .ok (.lreturn, 1) := by decide +kernel
theorem dX8_total_0 : decode cX8_total 0 = .ok (.aload_n 0, 1) := by decide +kernel
theorem dX8_total_1 : decode cX8_total 1 = .ok (.iload_n 1, 1) := by decide +kernel
theorem dX8_total_2 : decode cX8_total 2 = .ok (.invokevirtual 111, 3) := by decide +kernel
theorem dX8_total_5 : decode cX8_total 5 = .ok (.getfield 134, 3) := by decide +kernel
theorem dX8_total_8 : decode cX8_total 8 = .ok (.invokevirtual 138, 3) := by decide +kernel
theorem dX8_total_11 : decode cX8_total 11 = .ok (.lreturn, 1) := by decide +kernel
theorem dX8_level_0 : decode cX8_level 0 = .ok (.aload_n 0, 1) := by decide +kernel
theorem dX8_level_1 : decode cX8_level 1 = .ok (.iload_n 1, 1) := by decide +kernel
theorem dX8_level_2 : decode cX8_level 2 = .ok (.invokevirtual 111, 3) := by decide +kernel
theorem dX8_level_5 : decode cX8_level 5 = .ok (.getfield 134, 3) := by decide +kernel
theorem dX8_level_8 : decode cX8_level 8 = .ok (.astore_n 3, 1) := by decide +kernel
theorem dX8_level_9 : decode cX8_level 9 = .ok (.aload_n 3, 1) := by decide +kernel
theorem dX8_level_10 : decode cX8_level 10 = .ok (.instanceof 143, 3) := by decide +kernel
theorem dX8_level_13 : decode cX8_level 13 = .ok (.ifCond .eq 13, 3) := by decide +kernel
theorem dX8_level_16 : decode cX8_level 16 = .ok (.aload_n 3, 1) := by decide +kernel
theorem dX8_level_17 : decode cX8_level 17 = .ok (.checkcast 143, 3) := by decide +kernel
theorem dX8_level_20 : decode cX8_level 20 = .ok (.astore_n 2, 1) := by decide +kernel
theorem dX8_level_21 : decode cX8_level 21 = .ok (.aload_n 2, 1) := by decide +kernel
theorem dX8_level_22 : decode cX8_level 22 = .ok (.getfield 145, 3) := by decide +kernel
theorem dX8_level_25 : decode cX8_level 25 = .ok (.freturn, 1) := by decide +kernel
theorem dX8_level_26 : decode cX8_level 26 = .ok (.new 34, 3) := by decide +kernel
theorem dX8_level_29 : decode cX8_level 29 = .ok (.dup, 1) := by decide +kernel
theorem dX8_level_30 : decode cX8_level 30 = .ok (.ldc 149, 2) := by decide +kernel
theorem dX8_level_32 : decode cX8_level 32 = .ok (.invokespecial 38, 3) := by decide +kernel
theorem dX8_level_35 : decode cX8_level 35 = .ok (.athrow, 1) := by decide +kernel
theorem dX8_mean_0 : decode cX8_mean 0 = .ok (.aload_n 0, 1) := by decide +kernel
theorem dX8_mean_1 : decode cX8_mean 1 = .ok (.iload_n 1, 1) := by decide +kernel
theorem dX8_mean_2 : decode cX8_mean 2 = .ok (.invokevirtual 111, 3) := by decide +kernel
theorem dX8_mean_5 : decode cX8_mean 5 = .ok (.getfield 134, 3) := by decide +kernel
theorem dX8_mean_8 : decode cX8_mean 8 = .ok (.astore_n 3, 1) := by decide +kernel
theorem dX8_mean_9 : decode cX8_mean 9 = .ok (.aload_n 3, 1) := by decide +kernel
theorem dX8_mean_10 : decode cX8_mean 10 = .ok (.instanceof 151, 3) := by decide +kernel
theorem dX8_mean_13 : decode cX8_mean 13 = .ok (.ifCond .eq 13, 3) := by decide +kernel
theorem dX8_mean_16 : decode cX8_mean 16 = .ok (.aload_n 3, 1) := by decide +kernel
theorem dX8_mean_17 : decode cX8_mean 17 = .ok (.checkcast 151, 3) := by decide +kernel
theorem dX8_mean_20 : decode cX8_mean 20 = .ok (.astore_n 2, 1) := by decide +kernel
theorem dX8_mean_21 : decode cX8_mean 21 = .ok (.aload_n 2, 1) := by decide +kernel
theorem dX8_mean_22 : decode cX8_mean 22 = .ok (.getfield 153, 3) := by decide +kernel
theorem dX8_mean_25 : decode cX8_mean 25 = .ok (.dreturn, 1) := by decide +kernel
theorem dX8_mean_26 : decode cX8_mean 26 = .ok (.new 34, 3) := by decide +kernel
theorem dX8_mean_29 : decode cX8_mean 29 = .ok (.dup, 1) := by decide +kernel
theorem dX8_mean_30 : decode cX8_mean 30 = .ok (.ldc 157, 2) := by decide +kernel
theorem dX8_mean_32 : decode cX8_mean 32 = .ok (.invokespecial 38, 3) := by decide +kernel
theorem dX8_mean_35 : decode cX8_mean 35 = .ok (.athrow, 1) := by decide +kernel
theorem dX8_octet_0 : decode cX8_octet 0 = .ok (.aload_n 0, 1) := by decide +kernel
theorem dX8_octet_1 : decode cX8_octet 1 = .ok (.iload_n 1, 1) := by decide +kernel
theorem dX8_octet_2 : decode cX8_octet 2 = .ok (.invokevirtual 159, 3) := by decide +kernel
theorem dX8_octet_5 : decode cX8_octet 5 = .ok (.astore_n 3, 1) := by decide +kernel
theorem dX8_octet_6 : decode cX8_octet 6 = .ok (.iload_n 2, 1) := by decide +kernel
theorem dX8_octet_7 : decode cX8_octet 7 = .ok (.iconst 0, 1) := by decide +kernel
theorem dX8_octet_8 : decode cX8_octet 8 = .ok (.aload_n 3, 1) := by decide +kernel
theorem dX8_octet_9 : decode cX8_octet 9 = .ok (.getfield 163, 3) := by decide +kernel
theorem dX8_octet_12 : decode cX8_octet 12 = .ok (.iconst 1, 1) := by decide +kernel
theorem dX8_octet_13 : decode cX8_octet 13 = .ok (.isub, 1) := by decide +kernel
theorem dX8_octet_14 : decode cX8_octet 14 = .ok (.invokestatic 30, 3) := by decide +kernel
theorem dX8_octet_17 : decode cX8_octet 17 = .ok (.ifCond .ne 13, 3) := by decide +kernel
theorem dX8_octet_20 : decode cX8_octet 20 = .ok (.new 168, 3) := by decide +kernel
theorem dX8_octet_23 : decode cX8_octet 23 = .ok (.dup, 1) := by decide +kernel
theorem dX8_octet_24 : decode cX8_octet 24 = .ok (.ldc 170, 2) := by decide +kernel
theorem dX8_octet_26 : decode cX8_octet 26 = .ok (.invokespecial 172, 3) := by decide +kernel
theorem dX8_octet_29 : decode cX8_octet 29 = .ok (.athrow, 1) := by decide +kernel
theorem dX8_octet_30 : decode cX8_octet 30 = .ok (.aload_n 3, 1) := by decide +kernel
theorem dX8_octet_31 : decode cX8_octet 31 = .ok (.iload_n 2, 1) := by decide +kernel
theorem dX8_octet_32 : decode cX8_octet 32 = .ok (.invokevirtual 173, 3) := by decide +kernel
theorem dX8_octet_35 : decode cX8_octet 35 = .ok (.ireturn, 1) := by decide +kernel
theorem dX8_tear_0 : decode cX8_tear 0 = .ok (.aload_n 0, 1) := by decide +kernel
theorem dX8_tear_1 : decode cX8_tear 1 = .ok (.iload_n 1, 1) := by decide +kernel
theorem dX8_tear_2 : decode cX8_tear 2 = .ok (.invokevirtual 159, 3) := by decide +kernel
theorem dX8_tear_5 : decode cX8_tear 5 = .ok (.astore_n 3, 1) := by decide +kernel
theorem dX8_tear_6 : decode cX8_tear 6 = .ok (.iload_n 2, 1) := by decide +kernel
theorem dX8_tear_7 : decode cX8_tear 7 = .ok (.iconst 0, 1) := by decide +kernel
theorem dX8_tear_8 : decode cX8_tear 8 = .ok (.aload_n 3, 1) := by decide +kernel
theorem dX8_tear_9 : decode cX8_tear 9 = .ok (.getfield 163, 3) := by decide +kernel
theorem dX8_tear_12 : decode cX8_tear 12 = .ok (.invokestatic 30, 3) := by decide +kernel
theorem dX8_tear_15 : decode cX8_tear 15 = .ok (.ifCond .ne 13, 3) := by decide +kernel
theorem dX8_tear_18 : decode cX8_tear 18 = .ok (.new 34, 3) := by decide +kernel
theorem dX8_tear_21 : decode cX8_tear 21 = .ok (.dup, 1) := by decide +kernel
theorem dX8_tear_22 : decode cX8_tear 22 = .ok (.ldc 177, 2) := by decide +kernel
theorem dX8_tear_24 : decode cX8_tear 24 = .ok (.invokespecial 38, 3) := by decide +kernel
theorem dX8_tear_27 : decode cX8_tear 27 = .ok (.athrow, 1) := by decide +kernel
theorem dX8_tear_28 : decode cX8_tear 28 = .ok (.aload_n 3, 1) := by decide +kernel
theorem dX8_tear_29 : decode cX8_tear 29 = .ok (.dup, 1) := by decide +kernel
theorem dX8_tear_30 : decode cX8_tear 30 = .ok (.getfield 163, 3) := by decide +kernel
theorem dX8_tear_33 : decode cX8_tear 33 = .ok (.iload_n 2, 1) := by decide +kernel
theorem dX8_tear_34 : decode cX8_tear 34 = .ok (.isub, 1) := by decide +kernel
theorem dX8_tear_35 : decode cX8_tear 35 = .ok (.putfield 163, 3) := by decide +kernel
theorem dX8_tear_38 : decode cX8_tear 38 = .ok (.aload_n 3, 1) := by decide +kernel
theorem dX8_tear_39 : decode cX8_tear 39 = .ok (.getfield 163, 3) := by decide +kernel
theorem dX8_tear_42 : decode cX8_tear 42 = .ok (.ireturn, 1) := by decide +kernel
theorem dX8_replay_0 : decode cX8_replay 0 = .ok (.aload_n 0, 1) := by decide +kernel
theorem dX8_replay_1 : decode cX8_replay 1 = .ok (.iload_n 1, 1) := by decide +kernel
theorem dX8_replay_2 : decode cX8_replay 2 = .ok (.invokevirtual 159, 3) := by decide +kernel
theorem dX8_replay_5 : decode cX8_replay 5 = .ok (.astore_n 2, 1) := by decide +kernel
theorem dX8_replay_6 : decode cX8_replay 6 = .ok (.aload_n 2, 1) := by decide +kernel
theorem dX8_replay_7 : decode cX8_replay 7 = .ok (.invokevirtual 179, 3) := by decide +kernel
theorem dX8_replay_10 : decode cX8_replay 10 = .ok (.istore_n 3, 1) := by decide +kernel
theorem dX8_replay_11 : decode cX8_replay 11 = .ok (.aload_n 0, 1) := by decide +kernel
theorem dX8_replay_12 : decode cX8_replay 12 = .ok (.aload_n 2, 1) := by decide +kernel
theorem dX8_replay_13 : decode cX8_replay 13 = .ok (.iload_n 3, 1) := by decide +kernel
theorem dX8_replay_14 : decode cX8_replay 14 = .ok (.invokevirtual 182, 3) := by decide +kernel
theorem dX8_replay_17 : decode cX8_replay 17 = .ok (.putfield 185, 3) := by decide +kernel
theorem dX8_replay_20 : decode cX8_replay 20 = .ok (.iload_n 3, 1) := by decide +kernel
theorem dX8_replay_21 : decode cX8_replay 21 = .ok (.ireturn, 1) := by decide +kernel
theorem dX8_replayed_0 : decode cX8_replayed 0 = .ok (.aload_n 0, 1) := by decide +kernel
theorem dX8_replayed_1 : decode cX8_replayed 1 = .ok (.getfield 185, 3) := by decide +kernel
theorem dX8_replayed_4 : decode cX8_replayed 4 = .ok (.lreturn, 1) := by decide +kernel
theorem dX8_count_0 : decode cX8_count 0 = .ok (.aload_n 0, 1) := by decide +kernel
theorem dX8_count_1 : decode cX8_count 1 = .ok (.iload_n 1, 1) := by decide +kernel
theorem dX8_count_2 : decode cX8_count 2 = .ok (.invokevirtual 111, 3) := by decide +kernel
theorem dX8_count_5 : decode cX8_count 5 = .ok (.astore_n 3, 1) := by decide +kernel
theorem dX8_count_6 : decode cX8_count 6 = .ok (.iload_n 2, 1) := by decide +kernel
theorem dX8_count_7 : decode cX8_count 7 = .ok (.tableswitch 57 0 3 #[29, 34, 39, 44], 29) := by decide +kernel
theorem dX8_count_36 : decode cX8_count 36 = .ok (.aload_n 3, 1) := by decide +kernel
theorem dX8_count_37 : decode cX8_count 37 = .ok (.getfield 188, 3) := by decide +kernel
theorem dX8_count_40 : decode cX8_count 40 = .ok (.ireturn, 1) := by decide +kernel
theorem dX8_count_41 : decode cX8_count 41 = .ok (.aload_n 3, 1) := by decide +kernel
theorem dX8_count_42 : decode cX8_count 42 = .ok (.getfield 191, 3) := by decide +kernel
theorem dX8_count_45 : decode cX8_count 45 = .ok (.ireturn, 1) := by decide +kernel
theorem dX8_count_46 : decode cX8_count 46 = .ok (.aload_n 3, 1) := by decide +kernel
theorem dX8_count_47 : decode cX8_count 47 = .ok (.getfield 194, 3) := by decide +kernel
theorem dX8_count_50 : decode cX8_count 50 = .ok (.ireturn, 1) := by decide +kernel
theorem dX8_count_51 : decode cX8_count 51 = .ok (.aload_n 3, 1) := by decide +kernel
theorem dX8_count_52 : decode cX8_count 52 = .ok (.getfield 117, 3) := by decide +kernel
theorem dX8_count_55 : decode cX8_count 55 = .ok (.ifCond .eq 7, 3) := by decide +kernel
theorem dX8_count_58 : decode cX8_count 58 = .ok (.iconst 1, 1) := by decide +kernel
theorem dX8_count_59 : decode cX8_count 59 = .ok (.goto 4, 3) := by decide +kernel
theorem dX8_count_62 : decode cX8_count 62 = .ok (.iconst 0, 1) := by decide +kernel
theorem dX8_count_63 : decode cX8_count 63 = .ok (.ireturn, 1) := by decide +kernel
theorem dX8_count_64 : decode cX8_count 64 = .ok (.new 34, 3) := by decide +kernel
theorem dX8_count_67 : decode cX8_count 67 = .ok (.dup, 1) := by decide +kernel
theorem dX8_count_68 : decode cX8_count 68 = .ok (.ldc 197, 2) := by decide +kernel
theorem dX8_count_70 : decode cX8_count 70 = .ok (.invokespecial 38, 3) := by decide +kernel
theorem dX8_count_73 : decode cX8_count 73 = .ok (.athrow, 1) := by decide +kernel
theorem dX8_state_0 : decode cX8_state 0 = .ok (.iload_n 1, 1) := by decide +kernel
theorem dX8_state_1 : decode cX8_state 1 = .ok (.ifCond .ne 11, 3) := by decide +kernel
theorem dX8_state_4 : decode cX8_state 4 = .ok (.aload_n 0, 1) := by decide +kernel
theorem dX8_state_5 : decode cX8_state 5 = .ok (.getfield 26, 3) := by decide +kernel
theorem dX8_state_8 : decode cX8_state 8 = .ok (.getfield 52, 3) := by decide +kernel
theorem dX8_state_11 : decode cX8_state 11 = .ok (.lreturn, 1) := by decide +kernel
theorem dX8_state_12 : decode cX8_state 12 = .ok (.iload_n 1, 1) := by decide +kernel
theorem dX8_state_13 : decode cX8_state 13 = .ok (.iconst 1, 1) := by decide +kernel
theorem dX8_state_14 : decode cX8_state 14 = .ok (.if_icmp .ne 11, 3) := by decide +kernel
theorem dX8_state_17 : decode cX8_state 17 = .ok (.aload_n 0, 1) := by decide +kernel
theorem dX8_state_18 : decode cX8_state 18 = .ok (.getfield 26, 3) := by decide +kernel
theorem dX8_state_21 : decode cX8_state 21 = .ok (.getfield 108, 3) := by decide +kernel
theorem dX8_state_24 : decode cX8_state 24 = .ok (.lreturn, 1) := by decide +kernel
theorem dX8_state_25 : decode cX8_state 25 = .ok (.iload_n 1, 1) := by decide +kernel
theorem dX8_state_26 : decode cX8_state 26 = .ok (.iconst 2, 1) := by decide +kernel
theorem dX8_state_27 : decode cX8_state 27 = .ok (.if_icmp .ne 18, 3) := by decide +kernel
theorem dX8_state_30 : decode cX8_state 30 = .ok (.lload_n 2, 1) := by decide +kernel
theorem dX8_state_31 : decode cX8_state 31 = .ok (.lconst 0, 1) := by decide +kernel
theorem dX8_state_32 : decode cX8_state 32 = .ok (.lcmp, 1) := by decide +kernel
theorem dX8_state_33 : decode cX8_state 33 = .ok (.ifCond .lt 12, 3) := by decide +kernel
theorem dX8_state_36 : decode cX8_state 36 = .ok (.aload_n 0, 1) := by decide +kernel
theorem dX8_state_37 : decode cX8_state 37 = .ok (.getfield 26, 3) := by decide +kernel
theorem dX8_state_40 : decode cX8_state 40 = .ok (.lload_n 2, 1) := by decide +kernel
theorem dX8_state_41 : decode cX8_state 41 = .ok (.invokevirtual 199, 3) := by decide +kernel
theorem dX8_state_44 : decode cX8_state 44 = .ok (.lreturn, 1) := by decide +kernel
theorem dX8_state_45 : decode cX8_state 45 = .ok (.new 34, 3) := by decide +kernel
theorem dX8_state_48 : decode cX8_state 48 = .ok (.dup, 1) := by decide +kernel
theorem dX8_state_49 : decode cX8_state 49 = .ok (.ldc 203, 2) := by decide +kernel
theorem dX8_state_51 : decode cX8_state 51 = .ok (.invokespecial 38, 3) := by decide +kernel
theorem dX8_state_54 : decode cX8_state 54 = .ok (.athrow, 1) := by decide +kernel
theorem dX8_isWithin_0 : decode cX8_isWithin 0 = .ok (.iload_n 1, 1) := by decide +kernel
theorem dX8_isWithin_1 : decode cX8_isWithin 1 = .ok (.iload_n 0, 1) := by decide +kernel
theorem dX8_isWithin_2 : decode cX8_isWithin 2 = .ok (.if_icmp .gt 12, 3) := by decide +kernel
theorem dX8_isWithin_5 : decode cX8_isWithin 5 = .ok (.iload_n 0, 1) := by decide +kernel
theorem dX8_isWithin_6 : decode cX8_isWithin 6 = .ok (.iload_n 2, 1) := by decide +kernel
theorem dX8_isWithin_7 : decode cX8_isWithin 7 = .ok (.if_icmp .gt 7, 3) := by decide +kernel
theorem dX8_isWithin_10 : decode cX8_isWithin 10 = .ok (.iconst 1, 1) := by decide +kernel
theorem dX8_isWithin_11 : decode cX8_isWithin 11 = .ok (.goto 4, 3) := by decide +kernel
theorem dX8_isWithin_14 : decode cX8_isWithin 14 = .ok (.iconst 0, 1) := by decide +kernel
theorem dX8_isWithin_15 : decode cX8_isWithin 15 = .ok (.ireturn, 1) := by decide +kernel
theorem dX8_existing_0 : decode cX8_existing 0 = .ok (.iload_n 1, 1) := by decide +kernel
theorem dX8_existing_1 : decode cX8_existing 1 = .ok (.iconst 0, 1) := by decide +kernel
theorem dX8_existing_2 : decode cX8_existing 2 = .ok (.aload_n 0, 1) := by decide +kernel
theorem dX8_existing_3 : decode cX8_existing 3 = .ok (.getfield 41, 3) := by decide +kernel
theorem dX8_existing_6 : decode cX8_existing 6 = .ok (.iconst 1, 1) := by decide +kernel
theorem dX8_existing_7 : decode cX8_existing 7 = .ok (.isub, 1) := by decide +kernel
theorem dX8_existing_8 : decode cX8_existing 8 = .ok (.invokestatic 30, 3) := by decide +kernel
theorem dX8_existing_11 : decode cX8_existing 11 = .ok (.ifCond .eq 12, 3) := by decide +kernel
theorem dX8_existing_14 : decode cX8_existing 14 = .ok (.aload_n 0, 1) := by decide +kernel
theorem dX8_existing_15 : decode cX8_existing 15 = .ok (.getfield 11, 3) := by decide +kernel
theorem dX8_existing_18 : decode cX8_existing 18 = .ok (.iload_n 1, 1) := by decide +kernel
theorem dX8_existing_19 : decode cX8_existing 19 = .ok (.aaload, 1) := by decide +kernel
theorem dX8_existing_20 : decode cX8_existing 20 = .ok (.goto 4, 3) := by decide +kernel
theorem dX8_existing_23 : decode cX8_existing 23 = .ok (.aconst_null, 1) := by decide +kernel
theorem dX8_existing_24 : decode cX8_existing 24 = .ok (.astore_n 2, 1) := by decide +kernel
theorem dX8_existing_25 : decode cX8_existing 25 = .ok (.aload_n 2, 1) := by decide +kernel
theorem dX8_existing_26 : decode cX8_existing 26 = .ok (.ifnonnull 13, 3) := by decide +kernel
theorem dX8_existing_29 : decode cX8_existing 29 = .ok (.new 34, 3) := by decide +kernel
theorem dX8_existing_32 : decode cX8_existing 32 = .ok (.dup, 1) := by decide +kernel
theorem dX8_existing_33 : decode cX8_existing 33 = .ok (.ldc 205, 2) := by decide +kernel
theorem dX8_existing_35 : decode cX8_existing 35 = .ok (.invokespecial 38, 3) := by decide +kernel
theorem dX8_existing_38 : decode cX8_existing 38 = .ok (.athrow, 1) := by decide +kernel
theorem dX8_existing_39 : decode cX8_existing 39 = .ok (.aload_n 2, 1) := by decide +kernel
theorem dX8_existing_40 : decode cX8_existing 40 = .ok (.areturn, 1) := by decide +kernel
theorem dX8_journalOf_0 : decode cX8_journalOf 0 = .ok (.aload_n 0, 1) := by decide +kernel
theorem dX8_journalOf_1 : decode cX8_journalOf 1 = .ok (.iload_n 1, 1) := by decide +kernel
theorem dX8_journalOf_2 : decode cX8_journalOf 2 = .ok (.invokevirtual 111, 3) := by decide +kernel
theorem dX8_journalOf_5 : decode cX8_journalOf 5 = .ok (.getfield 134, 3) := by decide +kernel
theorem dX8_journalOf_8 : decode cX8_journalOf 8 = .ok (.astore_n 3, 1) := by decide +kernel
theorem dX8_journalOf_9 : decode cX8_journalOf 9 = .ok (.aload_n 3, 1) := by decide +kernel
theorem dX8_journalOf_10 : decode cX8_journalOf 10 = .ok (.instanceof 164, 3) := by decide +kernel
theorem dX8_journalOf_13 : decode cX8_journalOf 13 = .ok (.ifCond .eq 10, 3) := by decide +kernel
theorem dX8_journalOf_16 : decode cX8_journalOf 16 = .ok (.aload_n 3, 1) := by decide +kernel
theorem dX8_journalOf_17 : decode cX8_journalOf 17 = .ok (.checkcast 164, 3) := by decide +kernel
theorem dX8_journalOf_20 : decode cX8_journalOf 20 = .ok (.astore_n 2, 1) := by decide +kernel
theorem dX8_journalOf_21 : decode cX8_journalOf 21 = .ok (.aload_n 2, 1) := by decide +kernel
theorem dX8_journalOf_22 : decode cX8_journalOf 22 = .ok (.areturn, 1) := by decide +kernel
theorem dX8_journalOf_23 : decode cX8_journalOf 23 = .ok (.new 34, 3) := by decide +kernel
theorem dX8_journalOf_26 : decode cX8_journalOf 26 = .ok (.dup, 1) := by decide +kernel
theorem dX8_journalOf_27 : decode cX8_journalOf 27 = .ok (.ldc 207, 2) := by decide +kernel
theorem dX8_journalOf_29 : decode cX8_journalOf 29 = .ok (.invokespecial 38, 3) := by decide +kernel
theorem dX8_journalOf_32 : decode cX8_journalOf 32 = .ok (.athrow, 1) := by decide +kernel
theorem dX8_mayJoin_0 : decode cX8_mayJoin 0 = .ok (.iload_n 1, 1) := by decide +kernel
theorem dX8_mayJoin_1 : decode cX8_mayJoin 1 = .ok (.iconst 0, 1) := by decide +kernel
theorem dX8_mayJoin_2 : decode cX8_mayJoin 2 = .ok (.iconst 1, 1) := by decide +kernel
theorem dX8_mayJoin_3 : decode cX8_mayJoin 3 = .ok (.invokestatic 30, 3) := by decide +kernel
theorem dX8_mayJoin_6 : decode cX8_mayJoin 6 = .ok (.ifCond .eq 8, 3) := by decide +kernel
theorem dX8_mayJoin_9 : decode cX8_mayJoin 9 = .ok (.iload_n 3, 1) := by decide +kernel
theorem dX8_mayJoin_10 : decode cX8_mayJoin 10 = .ok (.iconst 2, 1) := by decide +kernel
theorem dX8_mayJoin_11 : decode cX8_mayJoin 11 = .ok (.if_icmp .ne 5, 3) := by decide +kernel
theorem dX8_mayJoin_14 : decode cX8_mayJoin 14 = .ok (.iconst 0, 1) := by decide +kernel
theorem dX8_mayJoin_15 : decode cX8_mayJoin 15 = .ok (.ireturn, 1) := by decide +kernel
theorem dX8_mayJoin_16 : decode cX8_mayJoin 16 = .ok (.aload_n 0, 1) := by decide +kernel
theorem dX8_mayJoin_17 : decode cX8_mayJoin 17 = .ok (.getfield 17, 3) := by decide +kernel
theorem dX8_mayJoin_20 : decode cX8_mayJoin 20 = .ok (.iload_n 1, 1) := by decide +kernel
theorem dX8_mayJoin_21 : decode cX8_mayJoin 21 = .ok (.aaload, 1) := by decide +kernel
theorem dX8_mayJoin_22 : decode cX8_mayJoin 22 = .ok (.ifnull 16, 3) := by decide +kernel
theorem dX8_mayJoin_25 : decode cX8_mayJoin 25 = .ok (.aload_n 0, 1) := by decide +kernel
theorem dX8_mayJoin_26 : decode cX8_mayJoin 26 = .ok (.getfield 17, 3) := by decide +kernel
theorem dX8_mayJoin_29 : decode cX8_mayJoin 29 = .ok (.iload_n 1, 1) := by decide +kernel
theorem dX8_mayJoin_30 : decode cX8_mayJoin 30 = .ok (.aaload, 1) := by decide +kernel
theorem dX8_mayJoin_31 : decode cX8_mayJoin 31 = .ok (.getfield 209, 3) := by decide +kernel
theorem dX8_mayJoin_34 : decode cX8_mayJoin 34 = .ok (.iload_n 2, 1) := by decide +kernel
theorem dX8_mayJoin_35 : decode cX8_mayJoin 35 = .ok (.if_icmp .ne 7, 3) := by decide +kernel
theorem dX8_mayJoin_38 : decode cX8_mayJoin 38 = .ok (.iconst 1, 1) := by decide +kernel
theorem dX8_mayJoin_39 : decode cX8_mayJoin 39 = .ok (.goto 4, 3) := by decide +kernel
theorem dX8_mayJoin_42 : decode cX8_mayJoin 42 = .ok (.iconst 0, 1) := by decide +kernel
theorem dX8_mayJoin_43 : decode cX8_mayJoin 43 = .ok (.ireturn, 1) := by decide +kernel
theorem dX8_poolToJoin_0 : decode cX8_poolToJoin 0 = .ok (.iload_n 1, 1) := by decide +kernel
theorem dX8_poolToJoin_1 : decode cX8_poolToJoin 1 = .ok (.iconst 0, 1) := by decide +kernel
theorem dX8_poolToJoin_2 : decode cX8_poolToJoin 2 = .ok (.iconst 1, 1) := by decide +kernel
theorem dX8_poolToJoin_3 : decode cX8_poolToJoin 3 = .ok (.invokestatic 30, 3) := by decide +kernel
theorem dX8_poolToJoin_6 : decode cX8_poolToJoin 6 = .ok (.ifCond .ne 5, 3) := by decide +kernel
theorem dX8_poolToJoin_9 : decode cX8_poolToJoin 9 = .ok (.aconst_null, 1) := by decide +kernel
theorem dX8_poolToJoin_10 : decode cX8_poolToJoin 10 = .ok (.areturn, 1) := by decide +kernel
theorem dX8_poolToJoin_11 : decode cX8_poolToJoin 11 = .ok (.aload_n 0, 1) := by decide +kernel
theorem dX8_poolToJoin_12 : decode cX8_poolToJoin 12 = .ok (.getfield 17, 3) := by decide +kernel
theorem dX8_poolToJoin_15 : decode cX8_poolToJoin 15 = .ok (.iload_n 1, 1) := by decide +kernel
theorem dX8_poolToJoin_16 : decode cX8_poolToJoin 16 = .ok (.aaload, 1) := by decide +kernel
theorem dX8_poolToJoin_17 : decode cX8_poolToJoin 17 = .ok (.ifnonnull 17, 3) := by decide +kernel
theorem dX8_poolToJoin_20 : decode cX8_poolToJoin 20 = .ok (.aload_n 0, 1) := by decide +kernel
theorem dX8_poolToJoin_21 : decode cX8_poolToJoin 21 = .ok (.getfield 17, 3) := by decide +kernel
theorem dX8_poolToJoin_24 : decode cX8_poolToJoin 24 = .ok (.iload_n 1, 1) := by decide +kernel
theorem dX8_poolToJoin_25 : decode cX8_poolToJoin 25 = .ok (.new 15, 3) := by decide +kernel
theorem dX8_poolToJoin_28 : decode cX8_poolToJoin 28 = .ok (.dup, 1) := by decide +kernel
theorem dX8_poolToJoin_29 : decode cX8_poolToJoin 29 = .ok (.iload_n 2, 1) := by decide +kernel
theorem dX8_poolToJoin_30 : decode cX8_poolToJoin 30 = .ok (.invokespecial 210, 3) := by decide +kernel
theorem dX8_poolToJoin_33 : decode cX8_poolToJoin 33 = .ok (.aastore, 1) := by decide +kernel
theorem dX8_poolToJoin_34 : decode cX8_poolToJoin 34 = .ok (.aload_n 0, 1) := by decide +kernel
theorem dX8_poolToJoin_35 : decode cX8_poolToJoin 35 = .ok (.getfield 17, 3) := by decide +kernel
theorem dX8_poolToJoin_38 : decode cX8_poolToJoin 38 = .ok (.iload_n 1, 1) := by decide +kernel
theorem dX8_poolToJoin_39 : decode cX8_poolToJoin 39 = .ok (.aaload, 1) := by decide +kernel
theorem dX8_poolToJoin_40 : decode cX8_poolToJoin 40 = .ok (.areturn, 1) := by decide +kernel
theorem dX8_add_0 : decode cX8_add 0 = .ok (.aload_n 1, 1) := by decide +kernel
theorem dX8_add_1 : decode cX8_add 1 = .ok (.getfield 211, 3) := by decide +kernel
theorem dX8_add_4 : decode cX8_add 4 = .ok (.ifnull 11, 3) := by decide +kernel
theorem dX8_add_7 : decode cX8_add 7 = .ok (.aload_n 1, 1) := by decide +kernel
theorem dX8_add_8 : decode cX8_add 8 = .ok (.getfield 211, 3) := by decide +kernel
theorem dX8_add_11 : decode cX8_add 11 = .ok (.aload_n 1, 1) := by decide +kernel
theorem dX8_add_12 : decode cX8_add 12 = .ok (.invokevirtual 215, 3) := by decide +kernel
theorem dX8_add_15 : decode cX8_add 15 = .ok (.aload_n 0, 1) := by decide +kernel
theorem dX8_add_16 : decode cX8_add 16 = .ok (.getfield 11, 3) := by decide +kernel
theorem dX8_add_19 : decode cX8_add 19 = .ok (.aload_n 0, 1) := by decide +kernel
theorem dX8_add_20 : decode cX8_add 20 = .ok (.getfield 41, 3) := by decide +kernel
theorem dX8_add_23 : decode cX8_add 23 = .ok (.aload_n 1, 1) := by decide +kernel
theorem dX8_add_24 : decode cX8_add 24 = .ok (.aastore, 1) := by decide +kernel
theorem dX8_add_25 : decode cX8_add 25 = .ok (.aload_n 0, 1) := by decide +kernel
theorem dX8_add_26 : decode cX8_add 26 = .ok (.dup, 1) := by decide +kernel
theorem dX8_add_27 : decode cX8_add 27 = .ok (.getfield 218, 3) := by decide +kernel
theorem dX8_add_30 : decode cX8_add 30 = .ok (.aload_n 1, 1) := by decide +kernel
theorem dX8_add_31 : decode cX8_add 31 = .ok (.getfield 123, 3) := by decide +kernel
theorem dX8_add_34 : decode cX8_add 34 = .ok (.ior, 1) := by decide +kernel
theorem dX8_add_35 : decode cX8_add 35 = .ok (.putfield 218, 3) := by decide +kernel
theorem dX8_add_38 : decode cX8_add 38 = .ok (.aload_n 0, 1) := by decide +kernel
theorem dX8_add_39 : decode cX8_add 39 = .ok (.dup, 1) := by decide +kernel
theorem dX8_add_40 : decode cX8_add 40 = .ok (.getfield 41, 3) := by decide +kernel
theorem dX8_add_43 : decode cX8_add 43 = .ok (.iconst 1, 1) := by decide +kernel
theorem dX8_add_44 : decode cX8_add 44 = .ok (.iadd, 1) := by decide +kernel
theorem dX8_add_45 : decode cX8_add 45 = .ok (.putfield 41, 3) := by decide +kernel
theorem dX8_add_48 : decode cX8_add 48 = .ok (.aload_n 0, 1) := by decide +kernel
theorem dX8_add_49 : decode cX8_add 49 = .ok (.getfield 41, 3) := by decide +kernel
theorem dX8_add_52 : decode cX8_add 52 = .ok (.iconst 1, 1) := by decide +kernel
theorem dX8_add_53 : decode cX8_add 53 = .ok (.isub, 1) := by decide +kernel
theorem dX8_add_54 : decode cX8_add 54 = .ok (.ireturn, 1) := by decide +kernel
theorem dX8_newHandler_0 : decode cX8_newHandler 0 = .ok (.iload_n 0, 1) := by decide +kernel
theorem dX8_newHandler_1 : decode cX8_newHandler 1 = .ok (.tableswitch 51 0 2 #[27, 35, 43], 27) := by decide +kernel
theorem dX8_newHandler_28 : decode cX8_newHandler 28 = .ok (.new 221, 3) := by decide +kernel
theorem dX8_newHandler_31 : decode cX8_newHandler 31 = .ok (.dup, 1) := by decide +kernel
theorem dX8_newHandler_32 : decode cX8_newHandler 32 = .ok (.invokespecial 223, 3) := by decide +kernel
theorem dX8_newHandler_35 : decode cX8_newHandler 35 = .ok (.areturn, 1) := by decide +kernel
theorem dX8_newHandler_36 : decode cX8_newHandler 36 = .ok (.new 143, 3) := by decide +kernel
theorem dX8_newHandler_39 : decode cX8_newHandler 39 = .ok (.dup, 1) := by decide +kernel
theorem dX8_newHandler_40 : decode cX8_newHandler 40 = .ok (.invokespecial 224, 3) := by decide +kernel
theorem dX8_newHandler_43 : decode cX8_newHandler 43 = .ok (.areturn, 1) := by decide +kernel
theorem dX8_newHandler_44 : decode cX8_newHandler 44 = .ok (.new 151, 3) := by decide +kernel
theorem dX8_newHandler_47 : decode cX8_newHandler 47 = .ok (.dup, 1) := by decide +kernel
theorem dX8_newHandler_48 : decode cX8_newHandler 48 = .ok (.invokespecial 225, 3) := by decide +kernel
theorem dX8_newHandler_51 : decode cX8_newHandler 51 = .ok (.areturn, 1) := by decide +kernel
theorem dX8_newHandler_52 : decode cX8_newHandler 52 = .ok (.new 164, 3) := by decide +kernel
theorem dX8_newHandler_55 : decode cX8_newHandler 55 = .ok (.dup, 1) := by decide +kernel
theorem dX8_newHandler_56 : decode cX8_newHandler 56 = .ok (.invokespecial 226, 3) := by decide +kernel
theorem dX8_newHandler_59 : decode cX8_newHandler 59 = .ok (.areturn, 1) := by decide +kernel
theorem dX8_lastInLine_0 : decode cX8_lastInLine 0 = .ok (.iconst 1, 1) := by decide +kernel
theorem dX8_lastInLine_1 : decode cX8_lastInLine 1 = .ok (.aload_n 0, 1) := by decide +kernel
theorem dX8_lastInLine_2 : decode cX8_lastInLine 2 = .ok (.getfield 41, 3) := by decide +kernel
theorem dX8_lastInLine_5 : decode cX8_lastInLine 5 = .ok (.ishl, 1) := by decide +kernel
theorem dX8_lastInLine_6 : decode cX8_lastInLine 6 = .ok (.iconst 1, 1) := by decide +kernel
theorem dX8_lastInLine_7 : decode cX8_lastInLine 7 = .ok (.isub, 1) := by decide +kernel
theorem dX8_lastInLine_8 : decode cX8_lastInLine 8 = .ok (.aload_n 0, 1) := by decide +kernel
theorem dX8_lastInLine_9 : decode cX8_lastInLine 9 = .ok (.getfield 218, 3) := by decide +kernel
theorem dX8_lastInLine_12 : decode cX8_lastInLine 12 = .ok (.iconst (-1), 1) := by decide +kernel
theorem dX8_lastInLine_13 : decode cX8_lastInLine 13 = .ok (.ixor, 1) := by decide +kernel
theorem dX8_lastInLine_14 : decode cX8_lastInLine 14 = .ok (.iand, 1) := by decide +kernel
theorem dX8_lastInLine_15 : decode cX8_lastInLine 15 = .ok (.ireturn, 1) := by decide +kernel
theorem dX8_leastPlace_0 : decode cX8_leastPlace 0 = .ok (.aload_n 0, 1) := by decide +kernel
theorem dX8_leastPlace_1 : decode cX8_leastPlace 1 = .ok (.getfield 26, 3) := by decide +kernel
theorem dX8_leastPlace_4 : decode cX8_leastPlace 4 = .ok (.getfield 108, 3) := by decide +kernel
theorem dX8_leastPlace_7 : decode cX8_leastPlace 7 = .ok (.lstore_n 2, 1) := by decide +kernel
theorem dX8_leastPlace_8 : decode cX8_leastPlace 8 = .ok (.iconst 0, 1) := by decide +kernel
theorem dX8_leastPlace_9 : decode cX8_leastPlace 9 = .ok (.istore 4, 2) := by decide +kernel
theorem dX8_leastPlace_11 : decode cX8_leastPlace 11 = .ok (.iload 4, 2) := by decide +kernel
theorem dX8_leastPlace_13 : decode cX8_leastPlace 13 = .ok (.aload_n 0, 1) := by decide +kernel
theorem dX8_leastPlace_14 : decode cX8_leastPlace 14 = .ok (.getfield 41, 3) := by decide +kernel
theorem dX8_leastPlace_17 : decode cX8_leastPlace 17 = .ok (.if_icmp .ge 42, 3) := by decide +kernel
theorem dX8_leastPlace_20 : decode cX8_leastPlace 20 = .ok (.aload_n 0, 1) := by decide +kernel
theorem dX8_leastPlace_21 : decode cX8_leastPlace 21 = .ok (.getfield 11, 3) := by decide +kernel
theorem dX8_leastPlace_24 : decode cX8_leastPlace 24 = .ok (.iload 4, 2) := by decide +kernel
theorem dX8_leastPlace_26 : decode cX8_leastPlace 26 = .ok (.aaload, 1) := by decide +kernel
theorem dX8_leastPlace_27 : decode cX8_leastPlace 27 = .ok (.astore 5, 2) := by decide +kernel
theorem dX8_leastPlace_29 : decode cX8_leastPlace 29 = .ok (.aload 5, 2) := by decide +kernel
theorem dX8_leastPlace_31 : decode cX8_leastPlace 31 = .ok (.ifnull 22, 3) := by decide +kernel
theorem dX8_leastPlace_34 : decode cX8_leastPlace 34 = .ok (.iload_n 1, 1) := by decide +kernel
theorem dX8_leastPlace_35 : decode cX8_leastPlace 35 = .ok (.iload 4, 2) := by decide +kernel
theorem dX8_leastPlace_37 : decode cX8_leastPlace 37 = .ok (.iushr, 1) := by decide +kernel
theorem dX8_leastPlace_38 : decode cX8_leastPlace 38 = .ok (.iconst 1, 1) := by decide +kernel
theorem dX8_leastPlace_39 : decode cX8_leastPlace 39 = .ok (.iand, 1) := by decide +kernel
theorem dX8_leastPlace_40 : decode cX8_leastPlace 40 = .ok (.ifCond .eq 13, 3) := by decide +kernel
theorem dX8_leastPlace_43 : decode cX8_leastPlace 43 = .ok (.lload_n 2, 1) := by decide +kernel
theorem dX8_leastPlace_44 : decode cX8_leastPlace 44 = .ok (.aload 5, 2) := by decide +kernel
theorem dX8_leastPlace_46 : decode cX8_leastPlace 46 = .ok (.invokevirtual 130, 3) := by decide +kernel
theorem dX8_leastPlace_49 : decode cX8_leastPlace 49 = .ok (.invokestatic 227, 3) := by decide +kernel
theorem dX8_leastPlace_52 : decode cX8_leastPlace 52 = .ok (.lstore_n 2, 1) := by decide +kernel
theorem dX8_leastPlace_53 : decode cX8_leastPlace 53 = .ok (.iinc 4 1, 3) := by decide +kernel
theorem dX8_leastPlace_56 : decode cX8_leastPlace 56 = .ok (.goto (-45), 3) := by decide +kernel
theorem dX8_leastPlace_59 : decode cX8_leastPlace 59 = .ok (.lload_n 2, 1) := by decide +kernel
theorem dX8_leastPlace_60 : decode cX8_leastPlace 60 = .ok (.lreturn, 1) := by decide +kernel
end
section
theorem dX9_init_0 : decode cX9_init 0 = .ok (.aload_n 0, 1) := by decide +kernel
theorem dX9_init_1 : decode cX9_init 1 = .ok (.invokespecial 1, 3) := by decide +kernel
theorem dX9_init_4 : decode cX9_init 4 = .ok (.aload_n 0, 1) := by decide +kernel
theorem dX9_init_5 : decode cX9_init 5 = .ok (.sipush 8208, 3) := by decide +kernel
theorem dX9_init_8 : decode cX9_init 8 = .ok (.newarray .byte, 2) := by decide +kernel
theorem dX9_init_10 : decode cX9_init 10 = .ok (.putfield 7, 3) := by decide +kernel
theorem dX9_init_13 : decode cX9_init 13 = .ok (.aload_n 0, 1) := by decide +kernel
theorem dX9_init_14 : decode cX9_init 14 = .ok (.iconst (-1), 1) := by decide +kernel
theorem dX9_init_15 : decode cX9_init 15 = .ok (.putfield 13, 3) := by decide +kernel
theorem dX9_init_18 : decode cX9_init 18 = .ok (.aload_n 0, 1) := by decide +kernel
theorem dX9_init_19 : decode cX9_init 19 = .ok (.iconst (-1), 1) := by decide +kernel
theorem dX9_init_20 : decode cX9_init 20 = .ok (.putfield 17, 3) := by decide +kernel
theorem dX9_init_23 : decode cX9_init 23 = .ok (.aload_n 0, 1) := by decide +kernel
theorem dX9_init_24 : decode cX9_init 24 = .ok (.bipush 16, 2) := by decide +kernel
theorem dX9_init_26 : decode cX9_init 26 = .ok (.newarray .long, 2) := by decide +kernel
theorem dX9_init_28 : decode cX9_init 28 = .ok (.putfield 20, 3) := by decide +kernel
theorem dX9_init_31 : decode cX9_init 31 = .ok (.aload_n 0, 1) := by decide +kernel
theorem dX9_init_32 : decode cX9_init 32 = .ok (.bipush 16, 2) := by decide +kernel
theorem dX9_init_34 : decode cX9_init 34 = .ok (.newarray .int, 2) := by decide +kernel
theorem dX9_init_36 : decode cX9_init 36 = .ok (.putfield 24, 3) := by decide +kernel
theorem dX9_init_39 : decode cX9_init 39 = .ok (.aload_n 0, 1) := by decide +kernel
theorem dX9_init_40 : decode cX9_init 40 = .ok (.bipush 16, 2) := by decide +kernel
theorem dX9_init_42 : decode cX9_init 42 = .ok (.newarray .int, 2) := by decide +kernel
theorem dX9_init_44 : decode cX9_init 44 = .ok (.putfield 28, 3) := by decide +kernel
theorem dX9_init_47 : decode cX9_init 47 = .ok (.aload_n 0, 1) := by decide +kernel
theorem dX9_init_48 : decode cX9_init 48 = .ok (.bipush 8, 2) := by decide +kernel
theorem dX9_init_50 : decode cX9_init 50 = .ok (.newarray .int, 2) := by decide +kernel
theorem dX9_init_52 : decode cX9_init 52 = .ok (.putfield 31, 3) := by decide +kernel
theorem dX9_init_55 : decode cX9_init 55 = .ok (.aload_n 0, 1) := by decide +kernel
theorem dX9_init_56 : decode cX9_init 56 = .ok (.bipush 8, 2) := by decide +kernel
theorem dX9_init_58 : decode cX9_init 58 = .ok (.newarray .int, 2) := by decide +kernel
theorem dX9_init_60 : decode cX9_init 60 = .ok (.putfield 34, 3) := by decide +kernel
theorem dX9_init_63 : decode cX9_init 63 = .ok (.aload_n 0, 1) := by decide +kernel
theorem dX9_init_64 : decode cX9_init 64 = .ok (.bipush 8, 2) := by decide +kernel
theorem dX9_init_66 : decode cX9_init 66 = .ok (.newarray .int, 2) := by decide +kernel
theorem dX9_init_68 : decode cX9_init 68 = .ok (.putfield 37, 3) := by decide +kernel
theorem dX9_init_71 : decode cX9_init 71 = .ok (.aload_n 0, 1) := by decide +kernel
theorem dX9_init_72 : decode cX9_init 72 = .ok (.bipush 8, 2) := by decide +kernel
theorem dX9_init_74 : decode cX9_init 74 = .ok (.newarray .int, 2) := by decide +kernel
theorem dX9_init_76 : decode cX9_init 76 = .ok (.putfield 40, 3) := by decide +kernel
theorem dX9_init_79 : decode cX9_init 79 = .ok (.aload_n 0, 1) := by decide +kernel
theorem dX9_init_80 : decode cX9_init 80 = .ok (.bipush 8, 2) := by decide +kernel
theorem dX9_init_82 : decode cX9_init 82 = .ok (.newarray .int, 2) := by decide +kernel
theorem dX9_init_84 : decode cX9_init 84 = .ok (.putfield 43, 3) := by decide +kernel
theorem dX9_init_87 : decode cX9_init 87 = .ok (.aload_n 0, 1) := by decide +kernel
theorem dX9_init_88 : decode cX9_init 88 = .ok (.bipush 8, 2) := by decide +kernel
theorem dX9_init_90 : decode cX9_init 90 = .ok (.newarray .boolean, 2) := by decide +kernel
theorem dX9_init_92 : decode cX9_init 92 = .ok (.putfield 46, 3) := by decide +kernel
theorem dX9_init_95 : decode cX9_init 95 = .ok (.aload_n 0, 1) := by decide +kernel
theorem dX9_init_96 : decode cX9_init 96 = .ok (.bipush 8, 2) := by decide +kernel
theorem dX9_init_98 : decode cX9_init 98 = .ok (.newarray .int, 2) := by decide +kernel
theorem dX9_init_100 : decode cX9_init 100 = .ok (.putfield 50, 3) := by decide +kernel
theorem dX9_init_103 : decode cX9_init 103 = .ok (.aload_n 0, 1) := by decide +kernel
theorem dX9_init_104 : decode cX9_init 104 = .ok (.bipush 8, 2) := by decide +kernel
theorem dX9_init_106 : decode cX9_init 106 = .ok (.newarray .int, 2) := by decide +kernel
theorem dX9_init_108 : decode cX9_init 108 = .ok (.putfield 53, 3) := by decide +kernel
theorem dX9_init_111 : decode cX9_init 111 = .ok (.aload_n 0, 1) := by decide +kernel
theorem dX9_init_112 : decode cX9_init 112 = .ok (.bipush 8, 2) := by decide +kernel
theorem dX9_init_114 : decode cX9_init 114 = .ok (.newarray .int, 2) := by decide +kernel
theorem dX9_init_116 : decode cX9_init 116 = .ok (.putfield 56, 3) := by decide +kernel
theorem dX9_init_119 : decode cX9_init 119 = .ok (.aload_n 0, 1) := by decide +kernel
theorem dX9_init_120 : decode cX9_init 120 = .ok (.bipush 8, 2) := by decide +kernel
theorem dX9_init_122 : decode cX9_init 122 = .ok (.newarray .int, 2) := by decide +kernel
theorem dX9_init_124 : decode cX9_init 124 = .ok (.putfield 59, 3) := by decide +kernel
theorem dX9_init_127 : decode cX9_init 127 = .ok (.aload_n 0, 1) := by decide +kernel
theorem dX9_init_128 : decode cX9_init 128 = .ok (.bipush 8, 2) := by decide +kernel
theorem dX9_init_130 : decode cX9_init 130 = .ok (.newarray .int, 2) := by decide +kernel
theorem dX9_init_132 : decode cX9_init 132 = .ok (.putfield 62, 3) := by decide +kernel
theorem dX9_init_135 : decode cX9_init 135 = .ok (.aload_n 0, 1) := by decide +kernel
theorem dX9_init_136 : decode cX9_init 136 = .ok (.bipush 8, 2) := by decide +kernel
theorem dX9_init_138 : decode cX9_init 138 = .ok (.newarray .int, 2) := by decide +kernel
theorem dX9_init_140 : decode cX9_init 140 = .ok (.putfield 65, 3) := by decide +kernel
theorem dX9_init_143 : decode cX9_init 143 = .ok (.aload_n 0, 1) := by decide +kernel
theorem dX9_init_144 : decode cX9_init 144 = .ok (.iconst 2, 1) := by decide +kernel
theorem dX9_init_145 : decode cX9_init 145 = .ok (.newarray .int, 2) := by decide +kernel
theorem dX9_init_147 : decode cX9_init 147 = .ok (.putfield 68, 3) := by decide +kernel
theorem dX9_init_150 : decode cX9_init 150 = .ok (.aload_n 0, 1) := by decide +kernel
theorem dX9_init_151 : decode cX9_init 151 = .ok (.bipush 8, 2) := by decide +kernel
theorem dX9_init_153 : decode cX9_init 153 = .ok (.newarray .long, 2) := by decide +kernel
theorem dX9_init_155 : decode cX9_init 155 = .ok (.putfield 71, 3) := by decide +kernel
theorem dX9_init_158 : decode cX9_init 158 = .ok (.aload_n 0, 1) := by decide +kernel
theorem dX9_init_159 : decode cX9_init 159 = .ok (.bipush 8, 2) := by decide +kernel
theorem dX9_init_161 : decode cX9_init 161 = .ok (.newarray .float, 2) := by decide +kernel
theorem dX9_init_163 : decode cX9_init 163 = .ok (.putfield 74, 3) := by decide +kernel
theorem dX9_init_166 : decode cX9_init 166 = .ok (.aload_n 0, 1) := by decide +kernel
theorem dX9_init_167 : decode cX9_init 167 = .ok (.bipush 8, 2) := by decide +kernel
theorem dX9_init_169 : decode cX9_init 169 = .ok (.newarray .double, 2) := by decide +kernel
theorem dX9_init_171 : decode cX9_init 171 = .ok (.putfield 78, 3) := by decide +kernel
theorem dX9_init_174 : decode cX9_init 174 = .ok (.aload_n 0, 1) := by decide +kernel
theorem dX9_init_175 : decode cX9_init 175 = .ok (.bipush 8, 2) := by decide +kernel
theorem dX9_init_177 : decode cX9_init 177 = .ok (.newarray .int, 2) := by decide +kernel
theorem dX9_init_179 : decode cX9_init 179 = .ok (.putfield 82, 3) := by decide +kernel
theorem dX9_init_182 : decode cX9_init 182 = .ok (.aload_n 0, 1) := by decide +kernel
theorem dX9_init_183 : decode cX9_init 183 = .ok (.sipush 3200, 3) := by decide +kernel
theorem dX9_init_186 : decode cX9_init 186 = .ok (.newarray .int, 2) := by decide +kernel
theorem dX9_init_188 : decode cX9_init 188 = .ok (.putfield 85, 3) := by decide +kernel
theorem dX9_init_191 : decode cX9_init 191 = .ok (.aload_n 0, 1) := by decide +kernel
theorem dX9_init_192 : decode cX9_init 192 = .ok (.iload_n 1, 1) := by decide +kernel
theorem dX9_init_193 : decode cX9_init 193 = .ok (.iconst 4, 1) := by decide +kernel
theorem dX9_init_194 : decode cX9_init 194 = .ok (.if_icmp .eq 9, 3) := by decide +kernel
theorem dX9_init_197 : decode cX9_init 197 = .ok (.iload_n 1, 1) := by decide +kernel
theorem dX9_init_198 : decode cX9_init 198 = .ok (.bipush 16, 2) := by decide +kernel
theorem dX9_init_200 : decode cX9_init 200 = .ok (.if_icmp .ne 7, 3) := by decide +kernel
theorem dX9_init_203 : decode cX9_init 203 = .ok (.iload_n 1, 1) := by decide +kernel
theorem dX9_init_204 : decode cX9_init 204 = .ok (.goto 5, 3) := by decide +kernel
theorem dX9_init_207 : decode cX9_init 207 = .ok (.bipush 8, 2) := by decide +kernel
theorem dX9_init_209 : decode cX9_init 209 = .ok (.putfield 88, 3) := by decide +kernel
theorem dX9_init_212 : decode cX9_init 212 = .ok (.iconst 0, 1) := by decide +kernel
theorem dX9_init_213 : decode cX9_init 213 = .ok (.istore_n 2, 1) := by decide +kernel
theorem dX9_init_214 : decode cX9_init 214 = .ok (.iload_n 2, 1) := by decide +kernel
theorem dX9_init_215 : decode cX9_init 215 = .ok (.bipush 16, 2) := by decide +kernel
theorem dX9_init_217 : decode cX9_init 217 = .ok (.if_icmp .ge 16, 3) := by decide +kernel
theorem dX9_init_220 : decode cX9_init 220 = .ok (.aload_n 0, 1) := by decide +kernel
theorem dX9_init_221 : decode cX9_init 221 = .ok (.getfield 28, 3) := by decide +kernel
theorem dX9_init_224 : decode cX9_init 224 = .ok (.iload_n 2, 1) := by decide +kernel
theorem dX9_init_225 : decode cX9_init 225 = .ok (.iconst (-1), 1) := by decide +kernel
theorem dX9_init_226 : decode cX9_init 226 = .ok (.iastore, 1) := by decide +kernel
theorem dX9_init_227 : decode cX9_init 227 = .ok (.iinc 2 1, 3) := by decide +kernel
theorem dX9_init_230 : decode cX9_init 230 = .ok (.goto (-16), 3) := by decide +kernel
theorem dX9_init_233 : decode cX9_init 233 = .ok (.return_, 1) := by decide +kernel
theorem dX9_thrown_0 : decode cX9_thrown 0 = .ok (.aload_n 0, 1) := by decide +kernel
theorem dX9_thrown_1 : decode cX9_thrown 1 = .ok (.getfield 91, 3) := by decide +kernel
theorem dX9_thrown_4 : decode cX9_thrown 4 = .ok (.ireturn, 1) := by decide +kernel
theorem dX9_fail_0 : decode cX9_fail 0 = .ok (.aload_n 0, 1) := by decide +kernel
theorem dX9_fail_1 : decode cX9_fail 1 = .ok (.iload_n 1, 1) := by decide +kernel
theorem dX9_fail_2 : decode cX9_fail 2 = .ok (.putfield 91, 3) := by decide +kernel
theorem dX9_fail_5 : decode cX9_fail 5 = .ok (.iconst 0, 1) := by decide +kernel
theorem dX9_fail_6 : decode cX9_fail 6 = .ok (.ireturn, 1) := by decide +kernel
theorem dX9_within_0 : decode cX9_within 0 = .ok (.iload_n 0, 1) := by decide +kernel
theorem dX9_within_1 : decode cX9_within 1 = .ok (.iload_n 1, 1) := by decide +kernel
theorem dX9_within_2 : decode cX9_within 2 = .ok (.if_icmp .lt 12, 3) := by decide +kernel
theorem dX9_within_5 : decode cX9_within 5 = .ok (.iload_n 0, 1) := by decide +kernel
theorem dX9_within_6 : decode cX9_within 6 = .ok (.iload_n 2, 1) := by decide +kernel
theorem dX9_within_7 : decode cX9_within 7 = .ok (.if_icmp .gt 7, 3) := by decide +kernel
theorem dX9_within_10 : decode cX9_within 10 = .ok (.iconst 1, 1) := by decide +kernel
theorem dX9_within_11 : decode cX9_within 11 = .ok (.goto 4, 3) := by decide +kernel
theorem dX9_within_14 : decode cX9_within 14 = .ok (.iconst 0, 1) := by decide +kernel
theorem dX9_within_15 : decode cX9_within 15 = .ok (.ireturn, 1) := by decide +kernel
theorem dX9_firstOf_0 : decode cX9_firstOf 0 = .ok (.iconst (-1), 1) := by decide +kernel
theorem dX9_firstOf_1 : decode cX9_firstOf 1 = .ok (.istore_n 2, 1) := by decide +kernel
theorem dX9_firstOf_2 : decode cX9_firstOf 2 = .ok (.aload_n 0, 1) := by decide +kernel
theorem dX9_firstOf_3 : decode cX9_firstOf 3 = .ok (.getfield 94, 3) := by decide +kernel
theorem dX9_firstOf_6 : decode cX9_firstOf 6 = .ok (.iconst 1, 1) := by decide +kernel
theorem dX9_firstOf_7 : decode cX9_firstOf 7 = .ok (.isub, 1) := by decide +kernel
theorem dX9_firstOf_8 : decode cX9_firstOf 8 = .ok (.istore_n 3, 1) := by decide +kernel
theorem dX9_firstOf_9 : decode cX9_firstOf 9 = .ok (.iload_n 3, 1) := by decide +kernel
theorem dX9_firstOf_10 : decode cX9_firstOf 10 = .ok (.ifCond .lt 29, 3) := by decide +kernel
theorem dX9_firstOf_13 : decode cX9_firstOf 13 = .ok (.iload_n 1, 1) := by decide +kernel
theorem dX9_firstOf_14 : decode cX9_firstOf 14 = .ok (.ifCond .lt 17, 3) := by decide +kernel
theorem dX9_firstOf_17 : decode cX9_firstOf 17 = .ok (.aload_n 0, 1) := by decide +kernel
theorem dX9_firstOf_18 : decode cX9_firstOf 18 = .ok (.getfield 40, 3) := by decide +kernel
theorem dX9_firstOf_21 : decode cX9_firstOf 21 = .ok (.iload_n 3, 1) := by decide +kernel
theorem dX9_firstOf_22 : decode cX9_firstOf 22 = .ok (.iaload, 1) := by decide +kernel
theorem dX9_firstOf_23 : decode cX9_firstOf 23 = .ok (.iload_n 1, 1) := by decide +kernel
theorem dX9_firstOf_24 : decode cX9_firstOf 24 = .ok (.if_icmp .ne 7, 3) := by decide +kernel
theorem dX9_firstOf_27 : decode cX9_firstOf 27 = .ok (.iload_n 3, 1) := by decide +kernel
theorem dX9_firstOf_28 : decode cX9_firstOf 28 = .ok (.goto 4, 3) := by decide +kernel
theorem dX9_firstOf_31 : decode cX9_firstOf 31 = .ok (.iload_n 2, 1) := by decide +kernel
theorem dX9_firstOf_32 : decode cX9_firstOf 32 = .ok (.istore_n 2, 1) := by decide +kernel
theorem dX9_firstOf_33 : decode cX9_firstOf 33 = .ok (.iinc 3 (-1), 3) := by decide +kernel
theorem dX9_firstOf_36 : decode cX9_firstOf 36 = .ok (.goto (-27), 3) := by decide +kernel
theorem dX9_firstOf_39 : decode cX9_firstOf 39 = .ok (.iload_n 2, 1) := by decide +kernel
theorem dX9_firstOf_40 : decode cX9_firstOf 40 = .ok (.ireturn, 1) := by decide +kernel
theorem dX9_consumer_0 : decode cX9_consumer 0 = .ok (.aload_n 0, 1) := by decide +kernel
theorem dX9_consumer_1 : decode cX9_consumer 1 = .ok (.iconst 0, 1) := by decide +kernel
theorem dX9_consumer_2 : decode cX9_consumer 2 = .ok (.putfield 91, 3) := by decide +kernel
theorem dX9_consumer_5 : decode cX9_consumer 5 = .ok (.iload_n 1, 1) := by decide +kernel
theorem dX9_consumer_6 : decode cX9_consumer 6 = .ok (.iconst 0, 1) := by decide +kernel
theorem dX9_consumer_7 : decode cX9_consumer 7 = .ok (.iconst 3, 1) := by decide +kernel
theorem dX9_consumer_8 : decode cX9_consumer 8 = .ok (.invokestatic 97, 3) := by decide +kernel
theorem dX9_consumer_11 : decode cX9_consumer 11 = .ok (.ifCond .eq 40, 3) := by decide +kernel
theorem dX9_consumer_14 : decode cX9_consumer 14 = .ok (.iload_n 2, 1) := by decide +kernel
theorem dX9_consumer_15 : decode cX9_consumer 15 = .ok (.ifCond .lt 36, 3) := by decide +kernel
theorem dX9_consumer_18 : decode cX9_consumer 18 = .ok (.iload_n 2, 1) := by decide +kernel
theorem dX9_consumer_19 : decode cX9_consumer 19 = .ok (.iconst 1, 1) := by decide +kernel
theorem dX9_consumer_20 : decode cX9_consumer 20 = .ok (.aload_n 0, 1) := by decide +kernel
theorem dX9_consumer_21 : decode cX9_consumer 21 = .ok (.getfield 94, 3) := by decide +kernel
theorem dX9_consumer_24 : decode cX9_consumer 24 = .ok (.ishl, 1) := by decide +kernel
theorem dX9_consumer_25 : decode cX9_consumer 25 = .ok (.if_icmp .ge 26, 3) := by decide +kernel
theorem dX9_consumer_28 : decode cX9_consumer 28 = .ok (.iload_n 3, 1) := by decide +kernel
theorem dX9_consumer_29 : decode cX9_consumer 29 = .ok (.iconst 0, 1) := by decide +kernel
theorem dX9_consumer_30 : decode cX9_consumer 30 = .ok (.iconst 2, 1) := by decide +kernel
theorem dX9_consumer_31 : decode cX9_consumer 31 = .ok (.invokestatic 97, 3) := by decide +kernel
theorem dX9_consumer_34 : decode cX9_consumer 34 = .ok (.ifCond .eq 17, 3) := by decide +kernel
theorem dX9_consumer_37 : decode cX9_consumer 37 = .ok (.iload 4, 2) := by decide +kernel
theorem dX9_consumer_39 : decode cX9_consumer 39 = .ok (.iconst (-1), 1) := by decide +kernel
theorem dX9_consumer_40 : decode cX9_consumer 40 = .ok (.iconst 1, 1) := by decide +kernel
theorem dX9_consumer_41 : decode cX9_consumer 41 = .ok (.invokestatic 97, 3) := by decide +kernel
theorem dX9_consumer_44 : decode cX9_consumer 44 = .ok (.ifCond .eq 7, 3) := by decide +kernel
theorem dX9_consumer_47 : decode cX9_consumer 47 = .ok (.iconst 1, 1) := by decide +kernel
theorem dX9_consumer_48 : decode cX9_consumer 48 = .ok (.goto 4, 3) := by decide +kernel
theorem dX9_consumer_51 : decode cX9_consumer 51 = .ok (.iconst 0, 1) := by decide +kernel
theorem dX9_consumer_52 : decode cX9_consumer 52 = .ok (.istore 5, 2) := by decide +kernel
theorem dX9_consumer_54 : decode cX9_consumer 54 = .ok (.iload 5, 2) := by decide +kernel
theorem dX9_consumer_56 : decode cX9_consumer 56 = .ok (.ifCond .eq 41, 3) := by decide +kernel
theorem dX9_consumer_59 : decode cX9_consumer 59 = .ok (.iload 4, 2) := by decide +kernel
theorem dX9_consumer_61 : decode cX9_consumer 61 = .ok (.ifCond .lt 8, 3) := by decide +kernel
theorem dX9_consumer_64 : decode cX9_consumer 64 = .ok (.iload_n 3, 1) := by decide +kernel
theorem dX9_consumer_65 : decode cX9_consumer 65 = .ok (.iconst 2, 1) := by decide +kernel
theorem dX9_consumer_66 : decode cX9_consumer 66 = .ok (.if_icmp .eq 31, 3) := by decide +kernel
theorem dX9_consumer_69 : decode cX9_consumer 69 = .ok (.aload_n 0, 1) := by decide +kernel
theorem dX9_consumer_70 : decode cX9_consumer 70 = .ok (.iload 4, 2) := by decide +kernel
theorem dX9_consumer_72 : decode cX9_consumer 72 = .ok (.invokevirtual 101, 3) := by decide +kernel
theorem dX9_consumer_75 : decode cX9_consumer 75 = .ok (.ifCond .lt 18, 3) := by decide +kernel
theorem dX9_consumer_78 : decode cX9_consumer 78 = .ok (.aload_n 0, 1) := by decide +kernel
theorem dX9_consumer_79 : decode cX9_consumer 79 = .ok (.getfield 34, 3) := by decide +kernel
theorem dX9_consumer_82 : decode cX9_consumer 82 = .ok (.aload_n 0, 1) := by decide +kernel
theorem dX9_consumer_83 : decode cX9_consumer 83 = .ok (.iload 4, 2) := by decide +kernel
theorem dX9_consumer_85 : decode cX9_consumer 85 = .ok (.invokevirtual 101, 3) := by decide +kernel
theorem dX9_consumer_88 : decode cX9_consumer 88 = .ok (.iaload, 1) := by decide +kernel
theorem dX9_consumer_89 : decode cX9_consumer 89 = .ok (.iload_n 2, 1) := by decide +kernel
theorem dX9_consumer_90 : decode cX9_consumer 90 = .ok (.if_icmp .ne 7, 3) := by decide +kernel
theorem dX9_consumer_93 : decode cX9_consumer 93 = .ok (.iconst 1, 1) := by decide +kernel
theorem dX9_consumer_94 : decode cX9_consumer 94 = .ok (.goto 4, 3) := by decide +kernel
theorem dX9_consumer_97 : decode cX9_consumer 97 = .ok (.iconst 0, 1) := by decide +kernel
theorem dX9_consumer_98 : decode cX9_consumer 98 = .ok (.istore 5, 2) := by decide +kernel
theorem dX9_consumer_100 : decode cX9_consumer 100 = .ok (.iload 5, 2) := by decide +kernel
theorem dX9_consumer_102 : decode cX9_consumer 102 = .ok (.ifCond .ne 9, 3) := by decide +kernel
theorem dX9_consumer_105 : decode cX9_consumer 105 = .ok (.aload_n 0, 1) := by decide +kernel
theorem dX9_consumer_106 : decode cX9_consumer 106 = .ok (.iconst 1, 1) := by decide +kernel
theorem dX9_consumer_107 : decode cX9_consumer 107 = .ok (.invokevirtual 105, 3) := by decide +kernel
theorem dX9_consumer_110 : decode cX9_consumer 110 = .ok (.ireturn, 1) := by decide +kernel
theorem dX9_consumer_111 : decode cX9_consumer 111 = .ok (.aload_n 0, 1) := by decide +kernel
theorem dX9_consumer_112 : decode cX9_consumer 112 = .ok (.getfield 94, 3) := by decide +kernel
theorem dX9_consumer_115 : decode cX9_consumer 115 = .ok (.bipush 8, 2) := by decide +kernel
theorem dX9_consumer_117 : decode cX9_consumer 117 = .ok (.if_icmp .eq 10, 3) := by decide +kernel
theorem dX9_consumer_120 : decode cX9_consumer 120 = .ok (.aload_n 0, 1) := by decide +kernel
theorem dX9_consumer_121 : decode cX9_consumer 121 = .ok (.getfield 13, 3) := by decide +kernel
theorem dX9_consumer_124 : decode cX9_consumer 124 = .ok (.ifCond .lt 9, 3) := by decide +kernel
theorem dX9_consumer_127 : decode cX9_consumer 127 = .ok (.aload_n 0, 1) := by decide +kernel
theorem dX9_consumer_128 : decode cX9_consumer 128 = .ok (.iconst 2, 1) := by decide +kernel
theorem dX9_consumer_129 : decode cX9_consumer 129 = .ok (.invokevirtual 105, 3) := by decide +kernel
theorem dX9_consumer_132 : decode cX9_consumer 132 = .ok (.ireturn, 1) := by decide +kernel
theorem dX9_consumer_133 : decode cX9_consumer 133 = .ok (.aload_n 0, 1) := by decide +kernel
theorem dX9_consumer_134 : decode cX9_consumer 134 = .ok (.getfield 31, 3) := by decide +kernel
theorem dX9_consumer_137 : decode cX9_consumer 137 = .ok (.aload_n 0, 1) := by decide +kernel
theorem dX9_consumer_138 : decode cX9_consumer 138 = .ok (.getfield 94, 3) := by decide +kernel
theorem dX9_consumer_141 : decode cX9_consumer 141 = .ok (.iload_n 1, 1) := by decide +kernel
theorem dX9_consumer_142 : decode cX9_consumer 142 = .ok (.iastore, 1) := by decide +kernel
theorem dX9_consumer_143 : decode cX9_consumer 143 = .ok (.aload_n 0, 1) := by decide +kernel
theorem dX9_consumer_144 : decode cX9_consumer 144 = .ok (.getfield 34, 3) := by decide +kernel
theorem dX9_consumer_147 : decode cX9_consumer 147 = .ok (.aload_n 0, 1) := by decide +kernel
theorem dX9_consumer_148 : decode cX9_consumer 148 = .ok (.getfield 94, 3) := by decide +kernel
theorem dX9_consumer_151 : decode cX9_consumer 151 = .ok (.iload_n 2, 1) := by decide +kernel
theorem dX9_consumer_152 : decode cX9_consumer 152 = .ok (.iastore, 1) := by decide +kernel
theorem dX9_consumer_153 : decode cX9_consumer 153 = .ok (.aload_n 0, 1) := by decide +kernel
theorem dX9_consumer_154 : decode cX9_consumer 154 = .ok (.getfield 37, 3) := by decide +kernel
theorem dX9_consumer_157 : decode cX9_consumer 157 = .ok (.aload_n 0, 1) := by decide +kernel
theorem dX9_consumer_158 : decode cX9_consumer 158 = .ok (.getfield 94, 3) := by decide +kernel
theorem dX9_consumer_161 : decode cX9_consumer 161 = .ok (.iload_n 3, 1) := by decide +kernel
theorem dX9_consumer_162 : decode cX9_consumer 162 = .ok (.iastore, 1) := by decide +kernel
theorem dX9_consumer_163 : decode cX9_consumer 163 = .ok (.aload_n 0, 1) := by decide +kernel
theorem dX9_consumer_164 : decode cX9_consumer 164 = .ok (.getfield 40, 3) := by decide +kernel
theorem dX9_consumer_167 : decode cX9_consumer 167 = .ok (.aload_n 0, 1) := by decide +kernel
theorem dX9_consumer_168 : decode cX9_consumer 168 = .ok (.getfield 94, 3) := by decide +kernel
theorem dX9_consumer_171 : decode cX9_consumer 171 = .ok (.iload 4, 2) := by decide +kernel
theorem dX9_consumer_173 : decode cX9_consumer 173 = .ok (.iastore, 1) := by decide +kernel
theorem dX9_consumer_174 : decode cX9_consumer 174 = .ok (.aload_n 0, 1) := by decide +kernel
theorem dX9_consumer_175 : decode cX9_consumer 175 = .ok (.getfield 43, 3) := by decide +kernel
theorem dX9_consumer_178 : decode cX9_consumer 178 = .ok (.aload_n 0, 1) := by decide +kernel
theorem dX9_consumer_179 : decode cX9_consumer 179 = .ok (.getfield 94, 3) := by decide +kernel
theorem dX9_consumer_182 : decode cX9_consumer 182 = .ok (.iconst (-1), 1) := by decide +kernel
theorem dX9_consumer_183 : decode cX9_consumer 183 = .ok (.iastore, 1) := by decide +kernel
theorem dX9_consumer_184 : decode cX9_consumer 184 = .ok (.aload_n 0, 1) := by decide +kernel
theorem dX9_consumer_185 : decode cX9_consumer 185 = .ok (.getfield 59, 3) := by decide +kernel
theorem dX9_consumer_188 : decode cX9_consumer 188 = .ok (.aload_n 0, 1) := by decide +kernel
theorem dX9_consumer_189 : decode cX9_consumer 189 = .ok (.getfield 94, 3) := by decide +kernel
theorem dX9_consumer_192 : decode cX9_consumer 192 = .ok (.iconst (-1), 1) := by decide +kernel
theorem dX9_consumer_193 : decode cX9_consumer 193 = .ok (.iastore, 1) := by decide +kernel
theorem dX9_consumer_194 : decode cX9_consumer 194 = .ok (.aload_n 0, 1) := by decide +kernel
theorem dX9_consumer_195 : decode cX9_consumer 195 = .ok (.getfield 65, 3) := by decide +kernel
theorem dX9_consumer_198 : decode cX9_consumer 198 = .ok (.aload_n 0, 1) := by decide +kernel
theorem dX9_consumer_199 : decode cX9_consumer 199 = .ok (.getfield 94, 3) := by decide +kernel
theorem dX9_consumer_202 : decode cX9_consumer 202 = .ok (.iconst (-1), 1) := by decide +kernel
theorem dX9_consumer_203 : decode cX9_consumer 203 = .ok (.iastore, 1) := by decide +kernel
theorem dX9_consumer_204 : decode cX9_consumer 204 = .ok (.aload_n 0, 1) := by decide +kernel
theorem dX9_consumer_205 : decode cX9_consumer 205 = .ok (.dup, 1) := by decide +kernel
theorem dX9_consumer_206 : decode cX9_consumer 206 = .ok (.getfield 94, 3) := by decide +kernel
theorem dX9_consumer_209 : decode cX9_consumer 209 = .ok (.iconst 1, 1) := by decide +kernel
theorem dX9_consumer_210 : decode cX9_consumer 210 = .ok (.iadd, 1) := by decide +kernel
theorem dX9_consumer_211 : decode cX9_consumer 211 = .ok (.putfield 94, 3) := by decide +kernel
theorem dX9_consumer_214 : decode cX9_consumer 214 = .ok (.aload_n 0, 1) := by decide +kernel
theorem dX9_consumer_215 : decode cX9_consumer 215 = .ok (.getfield 94, 3) := by decide +kernel
theorem dX9_consumer_218 : decode cX9_consumer 218 = .ok (.iconst 1, 1) := by decide +kernel
theorem dX9_consumer_219 : decode cX9_consumer 219 = .ok (.isub, 1) := by decide +kernel
theorem dX9_consumer_220 : decode cX9_consumer 220 = .ok (.ireturn, 1) := by decide +kernel
theorem dX9_placeOf_0 : decode cX9_placeOf 0 = .ok (.aload_n 0, 1) := by decide +kernel
theorem dX9_placeOf_1 : decode cX9_placeOf 1 = .ok (.getfield 40, 3) := by decide +kernel
theorem dX9_placeOf_4 : decode cX9_placeOf 4 = .ok (.iload_n 1, 1) := by decide +kernel
theorem dX9_placeOf_5 : decode cX9_placeOf 5 = .ok (.iaload, 1) := by decide +kernel
theorem dX9_placeOf_6 : decode cX9_placeOf 6 = .ok (.ifCond .ge 10, 3) := by decide +kernel
theorem dX9_placeOf_9 : decode cX9_placeOf 9 = .ok (.aload_n 0, 1) := by decide +kernel
theorem dX9_placeOf_10 : decode cX9_placeOf 10 = .ok (.getfield 43, 3) := by decide +kernel
theorem dX9_placeOf_13 : decode cX9_placeOf 13 = .ok (.iload_n 1, 1) := by decide +kernel
theorem dX9_placeOf_14 : decode cX9_placeOf 14 = .ok (.iaload, 1) := by decide +kernel
theorem dX9_placeOf_15 : decode cX9_placeOf 15 = .ok (.ireturn, 1) := by decide +kernel
theorem dX9_placeOf_16 : decode cX9_placeOf 16 = .ok (.aload_n 0, 1) := by decide +kernel
theorem dX9_placeOf_17 : decode cX9_placeOf 17 = .ok (.getfield 68, 3) := by decide +kernel
theorem dX9_placeOf_20 : decode cX9_placeOf 20 = .ok (.aload_n 0, 1) := by decide +kernel
theorem dX9_placeOf_21 : decode cX9_placeOf 21 = .ok (.getfield 40, 3) := by decide +kernel
theorem dX9_placeOf_24 : decode cX9_placeOf 24 = .ok (.iload_n 1, 1) := by decide +kernel
theorem dX9_placeOf_25 : decode cX9_placeOf 25 = .ok (.iaload, 1) := by decide +kernel
theorem dX9_placeOf_26 : decode cX9_placeOf 26 = .ok (.iaload, 1) := by decide +kernel
theorem dX9_placeOf_27 : decode cX9_placeOf 27 = .ok (.istore_n 2, 1) := by decide +kernel
theorem dX9_placeOf_28 : decode cX9_placeOf 28 = .ok (.iconst 0, 1) := by decide +kernel
theorem dX9_placeOf_29 : decode cX9_placeOf 29 = .ok (.istore_n 3, 1) := by decide +kernel
theorem dX9_placeOf_30 : decode cX9_placeOf 30 = .ok (.iload_n 3, 1) := by decide +kernel
theorem dX9_placeOf_31 : decode cX9_placeOf 31 = .ok (.aload_n 0, 1) := by decide +kernel
theorem dX9_placeOf_32 : decode cX9_placeOf 32 = .ok (.getfield 94, 3) := by decide +kernel
theorem dX9_placeOf_35 : decode cX9_placeOf 35 = .ok (.if_icmp .ge 54, 3) := by decide +kernel
theorem dX9_placeOf_38 : decode cX9_placeOf 38 = .ok (.aload_n 0, 1) := by decide +kernel
theorem dX9_placeOf_39 : decode cX9_placeOf 39 = .ok (.getfield 40, 3) := by decide +kernel
theorem dX9_placeOf_42 : decode cX9_placeOf 42 = .ok (.iload_n 3, 1) := by decide +kernel
theorem dX9_placeOf_43 : decode cX9_placeOf 43 = .ok (.iaload, 1) := by decide +kernel
theorem dX9_placeOf_44 : decode cX9_placeOf 44 = .ok (.aload_n 0, 1) := by decide +kernel
theorem dX9_placeOf_45 : decode cX9_placeOf 45 = .ok (.getfield 40, 3) := by decide +kernel
theorem dX9_placeOf_48 : decode cX9_placeOf 48 = .ok (.iload_n 1, 1) := by decide +kernel
theorem dX9_placeOf_49 : decode cX9_placeOf 49 = .ok (.iaload, 1) := by decide +kernel
theorem dX9_placeOf_50 : decode cX9_placeOf 50 = .ok (.if_icmp .ne 31, 3) := by decide +kernel
theorem dX9_placeOf_53 : decode cX9_placeOf 53 = .ok (.aload_n 0, 1) := by decide +kernel
theorem dX9_placeOf_54 : decode cX9_placeOf 54 = .ok (.getfield 65, 3) := by decide +kernel
theorem dX9_placeOf_57 : decode cX9_placeOf 57 = .ok (.iload_n 3, 1) := by decide +kernel
theorem dX9_placeOf_58 : decode cX9_placeOf 58 = .ok (.iaload, 1) := by decide +kernel
theorem dX9_placeOf_59 : decode cX9_placeOf 59 = .ok (.ifCond .lt 22, 3) := by decide +kernel
theorem dX9_placeOf_62 : decode cX9_placeOf 62 = .ok (.aload_n 0, 1) := by decide +kernel
theorem dX9_placeOf_63 : decode cX9_placeOf 63 = .ok (.getfield 65, 3) := by decide +kernel
theorem dX9_placeOf_66 : decode cX9_placeOf 66 = .ok (.iload_n 3, 1) := by decide +kernel
theorem dX9_placeOf_67 : decode cX9_placeOf 67 = .ok (.iaload, 1) := by decide +kernel
theorem dX9_placeOf_68 : decode cX9_placeOf 68 = .ok (.iload_n 2, 1) := by decide +kernel
theorem dX9_placeOf_69 : decode cX9_placeOf 69 = .ok (.if_icmp .ge 12, 3) := by decide +kernel
theorem dX9_placeOf_72 : decode cX9_placeOf 72 = .ok (.aload_n 0, 1) := by decide +kernel
theorem dX9_placeOf_73 : decode cX9_placeOf 73 = .ok (.getfield 65, 3) := by decide +kernel
theorem dX9_placeOf_76 : decode cX9_placeOf 76 = .ok (.iload_n 3, 1) := by decide +kernel
theorem dX9_placeOf_77 : decode cX9_placeOf 77 = .ok (.iaload, 1) := by decide +kernel
theorem dX9_placeOf_78 : decode cX9_placeOf 78 = .ok (.goto 4, 3) := by decide +kernel
theorem dX9_placeOf_81 : decode cX9_placeOf 81 = .ok (.iload_n 2, 1) := by decide +kernel
theorem dX9_placeOf_82 : decode cX9_placeOf 82 = .ok (.istore_n 2, 1) := by decide +kernel
theorem dX9_placeOf_83 : decode cX9_placeOf 83 = .ok (.iinc 3 1, 3) := by decide +kernel
theorem dX9_placeOf_86 : decode cX9_placeOf 86 = .ok (.goto (-56), 3) := by decide +kernel
theorem dX9_placeOf_89 : decode cX9_placeOf 89 = .ok (.iload_n 2, 1) := by decide +kernel
theorem dX9_placeOf_90 : decode cX9_placeOf 90 = .ok (.iconst 1, 1) := by decide +kernel
theorem dX9_placeOf_91 : decode cX9_placeOf 91 = .ok (.isub, 1) := by decide +kernel
theorem dX9_placeOf_92 : decode cX9_placeOf 92 = .ok (.ireturn, 1) := by decide +kernel
theorem dX9_bound_0 : decode cX9_bound 0 = .ok (.aload_n 0, 1) := by decide +kernel
theorem dX9_bound_1 : decode cX9_bound 1 = .ok (.getfield 17, 3) := by decide +kernel
theorem dX9_bound_4 : decode cX9_bound 4 = .ok (.istore_n 2, 1) := by decide +kernel
theorem dX9_bound_5 : decode cX9_bound 5 = .ok (.iconst 0, 1) := by decide +kernel
theorem dX9_bound_6 : decode cX9_bound 6 = .ok (.istore_n 3, 1) := by decide +kernel
theorem dX9_bound_7 : decode cX9_bound 7 = .ok (.iload_n 3, 1) := by decide +kernel
theorem dX9_bound_8 : decode cX9_bound 8 = .ok (.iload_n 1, 1) := by decide +kernel
theorem dX9_bound_9 : decode cX9_bound 9 = .ok (.if_icmp .ge 47, 3) := by decide +kernel
theorem dX9_bound_12 : decode cX9_bound 12 = .ok (.aload_n 0, 1) := by decide +kernel
theorem dX9_bound_13 : decode cX9_bound 13 = .ok (.getfield 34, 3) := by decide +kernel
theorem dX9_bound_16 : decode cX9_bound 16 = .ok (.iload_n 1, 1) := by decide +kernel
theorem dX9_bound_17 : decode cX9_bound 17 = .ok (.iaload, 1) := by decide +kernel
theorem dX9_bound_18 : decode cX9_bound 18 = .ok (.iload_n 3, 1) := by decide +kernel
theorem dX9_bound_19 : decode cX9_bound 19 = .ok (.ishr, 1) := by decide +kernel
theorem dX9_bound_20 : decode cX9_bound 20 = .ok (.iconst 1, 1) := by decide +kernel
theorem dX9_bound_21 : decode cX9_bound 21 = .ok (.iand, 1) := by decide +kernel
theorem dX9_bound_22 : decode cX9_bound 22 = .ok (.iconst 1, 1) := by decide +kernel
theorem dX9_bound_23 : decode cX9_bound 23 = .ok (.if_icmp .ne 11, 3) := by decide +kernel
theorem dX9_bound_26 : decode cX9_bound 26 = .ok (.aload_n 0, 1) := by decide +kernel
theorem dX9_bound_27 : decode cX9_bound 27 = .ok (.iload_n 3, 1) := by decide +kernel
theorem dX9_bound_28 : decode cX9_bound 28 = .ok (.invokevirtual 108, 3) := by decide +kernel
theorem dX9_bound_31 : decode cX9_bound 31 = .ok (.goto 4, 3) := by decide +kernel
theorem dX9_bound_34 : decode cX9_bound 34 = .ok (.iload_n 2, 1) := by decide +kernel
theorem dX9_bound_35 : decode cX9_bound 35 = .ok (.istore 4, 2) := by decide +kernel
theorem dX9_bound_37 : decode cX9_bound 37 = .ok (.iload 4, 2) := by decide +kernel
theorem dX9_bound_39 : decode cX9_bound 39 = .ok (.iload_n 2, 1) := by decide +kernel
theorem dX9_bound_40 : decode cX9_bound 40 = .ok (.if_icmp .ge 8, 3) := by decide +kernel
theorem dX9_bound_43 : decode cX9_bound 43 = .ok (.iload 4, 2) := by decide +kernel
theorem dX9_bound_45 : decode cX9_bound 45 = .ok (.goto 4, 3) := by decide +kernel
theorem dX9_bound_48 : decode cX9_bound 48 = .ok (.iload_n 2, 1) := by decide +kernel
theorem dX9_bound_49 : decode cX9_bound 49 = .ok (.istore_n 2, 1) := by decide +kernel
theorem dX9_bound_50 : decode cX9_bound 50 = .ok (.iinc 3 1, 3) := by decide +kernel
theorem dX9_bound_53 : decode cX9_bound 53 = .ok (.goto (-46), 3) := by decide +kernel
theorem dX9_bound_56 : decode cX9_bound 56 = .ok (.iload_n 2, 1) := by decide +kernel
theorem dX9_bound_57 : decode cX9_bound 57 = .ok (.ireturn, 1) := by decide +kernel
theorem dX9_claim_0 : decode cX9_claim 0 = .ok (.aload_n 0, 1) := by decide +kernel
theorem dX9_claim_1 : decode cX9_claim 1 = .ok (.iconst 0, 1) := by decide +kernel
theorem dX9_claim_2 : decode cX9_claim 2 = .ok (.putfield 91, 3) := by decide +kernel
theorem dX9_claim_5 : decode cX9_claim 5 = .ok (.iload_n 1, 1) := by decide +kernel
theorem dX9_claim_6 : decode cX9_claim 6 = .ok (.iconst 0, 1) := by decide +kernel
theorem dX9_claim_7 : decode cX9_claim 7 = .ok (.iconst 3, 1) := by decide +kernel
theorem dX9_claim_8 : decode cX9_claim 8 = .ok (.invokestatic 97, 3) := by decide +kernel
theorem dX9_claim_11 : decode cX9_claim 11 = .ok (.ifCond .eq 15, 3) := by decide +kernel
theorem dX9_claim_14 : decode cX9_claim 14 = .ok (.iload_n 2, 1) := by decide +kernel
theorem dX9_claim_15 : decode cX9_claim 15 = .ok (.iconst 1, 1) := by decide +kernel
theorem dX9_claim_16 : decode cX9_claim 16 = .ok (.aload_n 0, 1) := by decide +kernel
theorem dX9_claim_17 : decode cX9_claim 17 = .ok (.getfield 88, 3) := by decide +kernel
theorem dX9_claim_20 : decode cX9_claim 20 = .ok (.invokestatic 97, 3) := by decide +kernel
theorem dX9_claim_23 : decode cX9_claim 23 = .ok (.ifCond .ne 10, 3) := by decide +kernel
theorem dX9_claim_26 : decode cX9_claim 26 = .ok (.aload_n 0, 1) := by decide +kernel
theorem dX9_claim_27 : decode cX9_claim 27 = .ok (.iconst 1, 1) := by decide +kernel
theorem dX9_claim_28 : decode cX9_claim 28 = .ok (.invokevirtual 105, 3) := by decide +kernel
theorem dX9_claim_31 : decode cX9_claim 31 = .ok (.i2l, 1) := by decide +kernel
theorem dX9_claim_32 : decode cX9_claim 32 = .ok (.lreturn, 1) := by decide +kernel
theorem dX9_claim_33 : decode cX9_claim 33 = .ok (.iconst 0, 1) := by decide +kernel
theorem dX9_claim_34 : decode cX9_claim 34 = .ok (.istore_n 3, 1) := by decide +kernel
theorem dX9_claim_35 : decode cX9_claim 35 = .ok (.iconst 0, 1) := by decide +kernel
theorem dX9_claim_36 : decode cX9_claim 36 = .ok (.istore 4, 2) := by decide +kernel
theorem dX9_claim_38 : decode cX9_claim 38 = .ok (.iload 4, 2) := by decide +kernel
theorem dX9_claim_40 : decode cX9_claim 40 = .ok (.aload_n 0, 1) := by decide +kernel
theorem dX9_claim_41 : decode cX9_claim 41 = .ok (.getfield 94, 3) := by decide +kernel
theorem dX9_claim_44 : decode cX9_claim 44 = .ok (.if_icmp .ge 19, 3) := by decide +kernel
theorem dX9_claim_47 : decode cX9_claim 47 = .ok (.iload_n 3, 1) := by decide +kernel
theorem dX9_claim_48 : decode cX9_claim 48 = .ok (.aload_n 0, 1) := by decide +kernel
theorem dX9_claim_49 : decode cX9_claim 49 = .ok (.getfield 34, 3) := by decide +kernel
theorem dX9_claim_52 : decode cX9_claim 52 = .ok (.iload 4, 2) := by decide +kernel
theorem dX9_claim_54 : decode cX9_claim 54 = .ok (.iaload, 1) := by decide +kernel
theorem dX9_claim_55 : decode cX9_claim 55 = .ok (.ior, 1) := by decide +kernel
theorem dX9_claim_56 : decode cX9_claim 56 = .ok (.istore_n 3, 1) := by decide +kernel
theorem dX9_claim_57 : decode cX9_claim 57 = .ok (.iinc 4 1, 3) := by decide +kernel
theorem dX9_claim_60 : decode cX9_claim 60 = .ok (.goto (-22), 3) := by decide +kernel
theorem dX9_claim_63 : decode cX9_claim 63 = .ok (.aload_n 0, 1) := by decide +kernel
theorem dX9_claim_64 : decode cX9_claim 64 = .ok (.getfield 94, 3) := by decide +kernel
theorem dX9_claim_67 : decode cX9_claim 67 = .ok (.ifCond .gt 21, 3) := by decide +kernel
theorem dX9_claim_70 : decode cX9_claim 70 = .ok (.aload_n 0, 1) := by decide +kernel
theorem dX9_claim_71 : decode cX9_claim 71 = .ok (.getfield 13, 3) := by decide +kernel
theorem dX9_claim_74 : decode cX9_claim 74 = .ok (.iload_n 2, 1) := by decide +kernel
theorem dX9_claim_75 : decode cX9_claim 75 = .ok (.iadd, 1) := by decide +kernel
theorem dX9_claim_76 : decode cX9_claim 76 = .ok (.aload_n 0, 1) := by decide +kernel
theorem dX9_claim_77 : decode cX9_claim 77 = .ok (.getfield 88, 3) := by decide +kernel
theorem dX9_claim_80 : decode cX9_claim 80 = .ok (.isub, 1) := by decide +kernel
theorem dX9_claim_81 : decode cX9_claim 81 = .ok (.aload_n 0, 1) := by decide +kernel
theorem dX9_claim_82 : decode cX9_claim 82 = .ok (.getfield 17, 3) := by decide +kernel
theorem dX9_claim_85 : decode cX9_claim 85 = .ok (.if_icmp .gt 7, 3) := by decide +kernel
theorem dX9_claim_88 : decode cX9_claim 88 = .ok (.iconst 1, 1) := by decide +kernel
theorem dX9_claim_89 : decode cX9_claim 89 = .ok (.goto 4, 3) := by decide +kernel
theorem dX9_claim_92 : decode cX9_claim 92 = .ok (.iconst 0, 1) := by decide +kernel
theorem dX9_claim_93 : decode cX9_claim 93 = .ok (.istore 4, 2) := by decide +kernel
theorem dX9_claim_95 : decode cX9_claim 95 = .ok (.iconst 0, 1) := by decide +kernel
theorem dX9_claim_96 : decode cX9_claim 96 = .ok (.istore 5, 2) := by decide +kernel
theorem dX9_claim_98 : decode cX9_claim 98 = .ok (.iload 5, 2) := by decide +kernel
theorem dX9_claim_100 : decode cX9_claim 100 = .ok (.aload_n 0, 1) := by decide +kernel
theorem dX9_claim_101 : decode cX9_claim 101 = .ok (.getfield 94, 3) := by decide +kernel
theorem dX9_claim_104 : decode cX9_claim 104 = .ok (.if_icmp .ge 51, 3) := by decide +kernel
theorem dX9_claim_107 : decode cX9_claim 107 = .ok (.iload 4, 2) := by decide +kernel
theorem dX9_claim_109 : decode cX9_claim 109 = .ok (.ifCond .eq 37, 3) := by decide +kernel
theorem dX9_claim_112 : decode cX9_claim 112 = .ok (.iload_n 3, 1) := by decide +kernel
theorem dX9_claim_113 : decode cX9_claim 113 = .ok (.iload 5, 2) := by decide +kernel
theorem dX9_claim_115 : decode cX9_claim 115 = .ok (.ishr, 1) := by decide +kernel
theorem dX9_claim_116 : decode cX9_claim 116 = .ok (.iconst 1, 1) := by decide +kernel
theorem dX9_claim_117 : decode cX9_claim 117 = .ok (.iand, 1) := by decide +kernel
theorem dX9_claim_118 : decode cX9_claim 118 = .ok (.iconst 1, 1) := by decide +kernel
theorem dX9_claim_119 : decode cX9_claim 119 = .ok (.if_icmp .eq 23, 3) := by decide +kernel
theorem dX9_claim_122 : decode cX9_claim 122 = .ok (.aload_n 0, 1) := by decide +kernel
theorem dX9_claim_123 : decode cX9_claim 123 = .ok (.getfield 13, 3) := by decide +kernel
theorem dX9_claim_126 : decode cX9_claim 126 = .ok (.iload_n 2, 1) := by decide +kernel
theorem dX9_claim_127 : decode cX9_claim 127 = .ok (.iadd, 1) := by decide +kernel
theorem dX9_claim_128 : decode cX9_claim 128 = .ok (.aload_n 0, 1) := by decide +kernel
theorem dX9_claim_129 : decode cX9_claim 129 = .ok (.getfield 88, 3) := by decide +kernel
theorem dX9_claim_132 : decode cX9_claim 132 = .ok (.isub, 1) := by decide +kernel
theorem dX9_claim_133 : decode cX9_claim 133 = .ok (.aload_n 0, 1) := by decide +kernel
theorem dX9_claim_134 : decode cX9_claim 134 = .ok (.iload 5, 2) := by decide +kernel
theorem dX9_claim_136 : decode cX9_claim 136 = .ok (.invokevirtual 108, 3) := by decide +kernel
theorem dX9_claim_139 : decode cX9_claim 139 = .ok (.if_icmp .gt 7, 3) := by decide +kernel
theorem dX9_claim_142 : decode cX9_claim 142 = .ok (.iconst 1, 1) := by decide +kernel
theorem dX9_claim_143 : decode cX9_claim 143 = .ok (.goto 4, 3) := by decide +kernel
theorem dX9_claim_146 : decode cX9_claim 146 = .ok (.iconst 0, 1) := by decide +kernel
theorem dX9_claim_147 : decode cX9_claim 147 = .ok (.istore 4, 2) := by decide +kernel
theorem dX9_claim_149 : decode cX9_claim 149 = .ok (.iinc 5 1, 3) := by decide +kernel
theorem dX9_claim_152 : decode cX9_claim 152 = .ok (.goto (-54), 3) := by decide +kernel
theorem dX9_claim_155 : decode cX9_claim 155 = .ok (.iload 4, 2) := by decide +kernel
theorem dX9_claim_157 : decode cX9_claim 157 = .ok (.ifCond .ne 10, 3) := by decide +kernel
theorem dX9_claim_160 : decode cX9_claim 160 = .ok (.aload_n 0, 1) := by decide +kernel
theorem dX9_claim_161 : decode cX9_claim 161 = .ok (.iconst 2, 1) := by decide +kernel
theorem dX9_claim_162 : decode cX9_claim 162 = .ok (.invokevirtual 105, 3) := by decide +kernel
theorem dX9_claim_165 : decode cX9_claim 165 = .ok (.i2l, 1) := by decide +kernel
theorem dX9_claim_166 : decode cX9_claim 166 = .ok (.lreturn, 1) := by decide +kernel
theorem dX9_claim_167 : decode cX9_claim 167 = .ok (.aload_n 0, 1) := by decide +kernel
theorem dX9_claim_168 : decode cX9_claim 168 = .ok (.getfield 13, 3) := by decide +kernel
theorem dX9_claim_171 : decode cX9_claim 171 = .ok (.iconst 1, 1) := by decide +kernel
theorem dX9_claim_172 : decode cX9_claim 172 = .ok (.iadd, 1) := by decide +kernel
theorem dX9_claim_173 : decode cX9_claim 173 = .ok (.istore 5, 2) := by decide +kernel
theorem dX9_claim_175 : decode cX9_claim 175 = .ok (.iconst 0, 1) := by decide +kernel
theorem dX9_claim_176 : decode cX9_claim 176 = .ok (.istore 6, 2) := by decide +kernel
theorem dX9_claim_178 : decode cX9_claim 178 = .ok (.iload 6, 2) := by decide +kernel
theorem dX9_claim_180 : decode cX9_claim 180 = .ok (.iload_n 2, 1) := by decide +kernel
theorem dX9_claim_181 : decode cX9_claim 181 = .ok (.if_icmp .ge 23, 3) := by decide +kernel
theorem dX9_claim_184 : decode cX9_claim 184 = .ok (.aload_n 0, 1) := by decide +kernel
theorem dX9_claim_185 : decode cX9_claim 185 = .ok (.getfield 7, 3) := by decide +kernel
theorem dX9_claim_188 : decode cX9_claim 188 = .ok (.iload 5, 2) := by decide +kernel
theorem dX9_claim_190 : decode cX9_claim 190 = .ok (.iload 6, 2) := by decide +kernel
theorem dX9_claim_192 : decode cX9_claim 192 = .ok (.iadd, 1) := by decide +kernel
theorem dX9_claim_193 : decode cX9_claim 193 = .ok (.iconst 1, 1) := by decide +kernel
theorem dX9_claim_194 : decode cX9_claim 194 = .ok (.iload_n 1, 1) := by decide +kernel
theorem dX9_claim_195 : decode cX9_claim 195 = .ok (.iadd, 1) := by decide +kernel
theorem dX9_claim_196 : decode cX9_claim 196 = .ok (.i2b, 1) := by decide +kernel
theorem dX9_claim_197 : decode cX9_claim 197 = .ok (.bastore, 1) := by decide +kernel
theorem dX9_claim_198 : decode cX9_claim 198 = .ok (.iinc 6 1, 3) := by decide +kernel
theorem dX9_claim_201 : decode cX9_claim 201 = .ok (.goto (-23), 3) := by decide +kernel
theorem dX9_claim_204 : decode cX9_claim 204 = .ok (.aload_n 0, 1) := by decide +kernel
theorem dX9_claim_205 : decode cX9_claim 205 = .ok (.dup, 1) := by decide +kernel
theorem dX9_claim_206 : decode cX9_claim 206 = .ok (.getfield 13, 3) := by decide +kernel
theorem dX9_claim_209 : decode cX9_claim 209 = .ok (.iload_n 2, 1) := by decide +kernel
theorem dX9_claim_210 : decode cX9_claim 210 = .ok (.iadd, 1) := by decide +kernel
theorem dX9_claim_211 : decode cX9_claim 211 = .ok (.putfield 13, 3) := by decide +kernel
theorem dX9_claim_214 : decode cX9_claim 214 = .ok (.iload 5, 2) := by decide +kernel
theorem dX9_claim_216 : decode cX9_claim 216 = .ok (.i2l, 1) := by decide +kernel
theorem dX9_claim_217 : decode cX9_claim 217 = .ok (.lreturn, 1) := by decide +kernel
theorem dX9_publish_0 : decode cX9_publish 0 = .ok (.aload_n 0, 1) := by decide +kernel
theorem dX9_publish_1 : decode cX9_publish 1 = .ok (.iconst 0, 1) := by decide +kernel
theorem dX9_publish_2 : decode cX9_publish 2 = .ok (.putfield 91, 3) := by decide +kernel
theorem dX9_publish_5 : decode cX9_publish 5 = .ok (.iload_n 1, 1) := by decide +kernel
theorem dX9_publish_6 : decode cX9_publish 6 = .ok (.iconst 0, 1) := by decide +kernel
theorem dX9_publish_7 : decode cX9_publish 7 = .ok (.iconst 3, 1) := by decide +kernel
theorem dX9_publish_8 : decode cX9_publish 8 = .ok (.invokestatic 97, 3) := by decide +kernel
theorem dX9_publish_11 : decode cX9_publish 11 = .ok (.ifCond .eq 19, 3) := by decide +kernel
theorem dX9_publish_14 : decode cX9_publish 14 = .ok (.lload_n 2, 1) := by decide +kernel
theorem dX9_publish_15 : decode cX9_publish 15 = .ok (.lconst 0, 1) := by decide +kernel
theorem dX9_publish_16 : decode cX9_publish 16 = .ok (.lcmp, 1) := by decide +kernel
theorem dX9_publish_17 : decode cX9_publish 17 = .ok (.ifCond .lt 13, 3) := by decide +kernel
theorem dX9_publish_20 : decode cX9_publish 20 = .ok (.lload_n 2, 1) := by decide +kernel
theorem dX9_publish_21 : decode cX9_publish 21 = .ok (.aload_n 0, 1) := by decide +kernel
theorem dX9_publish_22 : decode cX9_publish 22 = .ok (.getfield 13, 3) := by decide +kernel
theorem dX9_publish_25 : decode cX9_publish 25 = .ok (.i2l, 1) := by decide +kernel
theorem dX9_publish_26 : decode cX9_publish 26 = .ok (.lcmp, 1) := by decide +kernel
theorem dX9_publish_27 : decode cX9_publish 27 = .ok (.ifCond .le 17, 3) := by decide +kernel
theorem dX9_publish_30 : decode cX9_publish 30 = .ok (.aload_n 0, 1) := by decide +kernel
theorem dX9_publish_31 : decode cX9_publish 31 = .ok (.iconst 1, 1) := by decide +kernel
theorem dX9_publish_32 : decode cX9_publish 32 = .ok (.invokevirtual 105, 3) := by decide +kernel
theorem dX9_publish_35 : decode cX9_publish 35 = .ok (.ifCond .le 7, 3) := by decide +kernel
theorem dX9_publish_38 : decode cX9_publish 38 = .ok (.iconst 1, 1) := by decide +kernel
theorem dX9_publish_39 : decode cX9_publish 39 = .ok (.goto 4, 3) := by decide +kernel
theorem dX9_publish_42 : decode cX9_publish 42 = .ok (.iconst 0, 1) := by decide +kernel
theorem dX9_publish_43 : decode cX9_publish 43 = .ok (.ireturn, 1) := by decide +kernel
theorem dX9_publish_44 : decode cX9_publish 44 = .ok (.lload_n 2, 1) := by decide +kernel
theorem dX9_publish_45 : decode cX9_publish 45 = .ok (.l2i, 1) := by decide +kernel
theorem dX9_publish_46 : decode cX9_publish 46 = .ok (.istore 6, 2) := by decide +kernel
theorem dX9_publish_48 : decode cX9_publish 48 = .ok (.aload_n 0, 1) := by decide +kernel
theorem dX9_publish_49 : decode cX9_publish 49 = .ok (.getfield 7, 3) := by decide +kernel
theorem dX9_publish_52 : decode cX9_publish 52 = .ok (.iload 6, 2) := by decide +kernel
theorem dX9_publish_54 : decode cX9_publish 54 = .ok (.baload, 1) := by decide +kernel
theorem dX9_publish_55 : decode cX9_publish 55 = .ok (.iconst 1, 1) := by decide +kernel
theorem dX9_publish_56 : decode cX9_publish 56 = .ok (.iload_n 1, 1) := by decide +kernel
theorem dX9_publish_57 : decode cX9_publish 57 = .ok (.iadd, 1) := by decide +kernel
theorem dX9_publish_58 : decode cX9_publish 58 = .ok (.if_icmp .eq 17, 3) := by decide +kernel
theorem dX9_publish_61 : decode cX9_publish 61 = .ok (.aload_n 0, 1) := by decide +kernel
theorem dX9_publish_62 : decode cX9_publish 62 = .ok (.iconst 1, 1) := by decide +kernel
theorem dX9_publish_63 : decode cX9_publish 63 = .ok (.invokevirtual 105, 3) := by decide +kernel
theorem dX9_publish_66 : decode cX9_publish 66 = .ok (.ifCond .le 7, 3) := by decide +kernel
theorem dX9_publish_69 : decode cX9_publish 69 = .ok (.iconst 1, 1) := by decide +kernel
theorem dX9_publish_70 : decode cX9_publish 70 = .ok (.goto 4, 3) := by decide +kernel
theorem dX9_publish_73 : decode cX9_publish 73 = .ok (.iconst 0, 1) := by decide +kernel
theorem dX9_publish_74 : decode cX9_publish 74 = .ok (.ireturn, 1) := by decide +kernel
theorem dX9_publish_75 : decode cX9_publish 75 = .ok (.aload_n 0, 1) := by decide +kernel
theorem dX9_publish_76 : decode cX9_publish 76 = .ok (.getfield 7, 3) := by decide +kernel
theorem dX9_publish_79 : decode cX9_publish 79 = .ok (.iload 6, 2) := by decide +kernel
theorem dX9_publish_81 : decode cX9_publish 81 = .ok (.dup2, 1) := by decide +kernel
theorem dX9_publish_82 : decode cX9_publish 82 = .ok (.baload, 1) := by decide +kernel
theorem dX9_publish_83 : decode cX9_publish 83 = .ok (.bipush 8, 2) := by decide +kernel
theorem dX9_publish_85 : decode cX9_publish 85 = .ok (.iadd, 1) := by decide +kernel
theorem dX9_publish_86 : decode cX9_publish 86 = .ok (.i2b, 1) := by decide +kernel
theorem dX9_publish_87 : decode cX9_publish 87 = .ok (.bastore, 1) := by decide +kernel
theorem dX9_publish_88 : decode cX9_publish 88 = .ok (.iload 6, 2) := by decide +kernel
theorem dX9_publish_90 : decode cX9_publish 90 = .ok (.aload_n 0, 1) := by decide +kernel
theorem dX9_publish_91 : decode cX9_publish 91 = .ok (.getfield 88, 3) := by decide +kernel
theorem dX9_publish_94 : decode cX9_publish 94 = .ok (.irem, 1) := by decide +kernel
theorem dX9_publish_95 : decode cX9_publish 95 = .ok (.istore 7, 2) := by decide +kernel
theorem dX9_publish_97 : decode cX9_publish 97 = .ok (.aload_n 0, 1) := by decide +kernel
theorem dX9_publish_98 : decode cX9_publish 98 = .ok (.getfield 20, 3) := by decide +kernel
theorem dX9_publish_101 : decode cX9_publish 101 = .ok (.iload 7, 2) := by decide +kernel
theorem dX9_publish_103 : decode cX9_publish 103 = .ok (.lload 4, 2) := by decide +kernel
theorem dX9_publish_105 : decode cX9_publish 105 = .ok (.lastore, 1) := by decide +kernel
theorem dX9_publish_106 : decode cX9_publish 106 = .ok (.aload_n 0, 1) := by decide +kernel
theorem dX9_publish_107 : decode cX9_publish 107 = .ok (.getfield 24, 3) := by decide +kernel
theorem dX9_publish_110 : decode cX9_publish 110 = .ok (.iload 7, 2) := by decide +kernel
theorem dX9_publish_112 : decode cX9_publish 112 = .ok (.iload_n 1, 1) := by decide +kernel
theorem dX9_publish_113 : decode cX9_publish 113 = .ok (.iastore, 1) := by decide +kernel
theorem dX9_publish_114 : decode cX9_publish 114 = .ok (.aload_n 0, 1) := by decide +kernel
theorem dX9_publish_115 : decode cX9_publish 115 = .ok (.getfield 28, 3) := by decide +kernel
theorem dX9_publish_118 : decode cX9_publish 118 = .ok (.iload 7, 2) := by decide +kernel
theorem dX9_publish_120 : decode cX9_publish 120 = .ok (.iload 6, 2) := by decide +kernel
theorem dX9_publish_122 : decode cX9_publish 122 = .ok (.iastore, 1) := by decide +kernel
theorem dX9_publish_123 : decode cX9_publish 123 = .ok (.aload_n 0, 1) := by decide +kernel
theorem dX9_publish_124 : decode cX9_publish 124 = .ok (.getfield 17, 3) := by decide +kernel
theorem dX9_publish_127 : decode cX9_publish 127 = .ok (.aload_n 0, 1) := by decide +kernel
theorem dX9_publish_128 : decode cX9_publish 128 = .ok (.getfield 13, 3) := by decide +kernel
theorem dX9_publish_131 : decode cX9_publish 131 = .ok (.if_icmp .ge 32, 3) := by decide +kernel
theorem dX9_publish_134 : decode cX9_publish 134 = .ok (.aload_n 0, 1) := by decide +kernel
theorem dX9_publish_135 : decode cX9_publish 135 = .ok (.getfield 7, 3) := by decide +kernel
theorem dX9_publish_138 : decode cX9_publish 138 = .ok (.aload_n 0, 1) := by decide +kernel
theorem dX9_publish_139 : decode cX9_publish 139 = .ok (.getfield 17, 3) := by decide +kernel
theorem dX9_publish_142 : decode cX9_publish 142 = .ok (.iconst 1, 1) := by decide +kernel
theorem dX9_publish_143 : decode cX9_publish 143 = .ok (.iadd, 1) := by decide +kernel
theorem dX9_publish_144 : decode cX9_publish 144 = .ok (.baload, 1) := by decide +kernel
theorem dX9_publish_145 : decode cX9_publish 145 = .ok (.bipush 8, 2) := by decide +kernel
theorem dX9_publish_147 : decode cX9_publish 147 = .ok (.if_icmp .le 16, 3) := by decide +kernel
theorem dX9_publish_150 : decode cX9_publish 150 = .ok (.aload_n 0, 1) := by decide +kernel
theorem dX9_publish_151 : decode cX9_publish 151 = .ok (.dup, 1) := by decide +kernel
theorem dX9_publish_152 : decode cX9_publish 152 = .ok (.getfield 17, 3) := by decide +kernel
theorem dX9_publish_155 : decode cX9_publish 155 = .ok (.iconst 1, 1) := by decide +kernel
theorem dX9_publish_156 : decode cX9_publish 156 = .ok (.iadd, 1) := by decide +kernel
theorem dX9_publish_157 : decode cX9_publish 157 = .ok (.putfield 17, 3) := by decide +kernel
theorem dX9_publish_160 : decode cX9_publish 160 = .ok (.goto (-37), 3) := by decide +kernel
theorem dX9_publish_163 : decode cX9_publish 163 = .ok (.iload 6, 2) := by decide +kernel
theorem dX9_publish_165 : decode cX9_publish 165 = .ok (.aload_n 0, 1) := by decide +kernel
theorem dX9_publish_166 : decode cX9_publish 166 = .ok (.getfield 17, 3) := by decide +kernel
theorem dX9_publish_169 : decode cX9_publish 169 = .ok (.if_icmp .gt 7, 3) := by decide +kernel
theorem dX9_publish_172 : decode cX9_publish 172 = .ok (.iconst 1, 1) := by decide +kernel
theorem dX9_publish_173 : decode cX9_publish 173 = .ok (.goto 4, 3) := by decide +kernel
theorem dX9_publish_176 : decode cX9_publish 176 = .ok (.iconst 0, 1) := by decide +kernel
theorem dX9_publish_177 : decode cX9_publish 177 = .ok (.ireturn, 1) := by decide +kernel
theorem dX9_put_0 : decode cX9_put 0 = .ok (.aload_n 0, 1) := by decide +kernel
theorem dX9_put_1 : decode cX9_put 1 = .ok (.getfield 85, 3) := by decide +kernel
theorem dX9_put_4 : decode cX9_put 4 = .ok (.sipush 400, 3) := by decide +kernel
theorem dX9_put_7 : decode cX9_put 7 = .ok (.iload_n 1, 1) := by decide +kernel
theorem dX9_put_8 : decode cX9_put 8 = .ok (.imul, 1) := by decide +kernel
theorem dX9_put_9 : decode cX9_put 9 = .ok (.aload_n 0, 1) := by decide +kernel
theorem dX9_put_10 : decode cX9_put 10 = .ok (.getfield 82, 3) := by decide +kernel
theorem dX9_put_13 : decode cX9_put 13 = .ok (.iload_n 1, 1) := by decide +kernel
theorem dX9_put_14 : decode cX9_put 14 = .ok (.iaload, 1) := by decide +kernel
theorem dX9_put_15 : decode cX9_put 15 = .ok (.iadd, 1) := by decide +kernel
theorem dX9_put_16 : decode cX9_put 16 = .ok (.iload_n 2, 1) := by decide +kernel
theorem dX9_put_17 : decode cX9_put 17 = .ok (.sipush 255, 3) := by decide +kernel
theorem dX9_put_20 : decode cX9_put 20 = .ok (.iand, 1) := by decide +kernel
theorem dX9_put_21 : decode cX9_put 21 = .ok (.iastore, 1) := by decide +kernel
theorem dX9_put_22 : decode cX9_put 22 = .ok (.aload_n 0, 1) := by decide +kernel
theorem dX9_put_23 : decode cX9_put 23 = .ok (.getfield 82, 3) := by decide +kernel
theorem dX9_put_26 : decode cX9_put 26 = .ok (.iload_n 1, 1) := by decide +kernel
theorem dX9_put_27 : decode cX9_put 27 = .ok (.dup2, 1) := by decide +kernel
theorem dX9_put_28 : decode cX9_put 28 = .ok (.iaload, 1) := by decide +kernel
theorem dX9_put_29 : decode cX9_put 29 = .ok (.iconst 1, 1) := by decide +kernel
theorem dX9_put_30 : decode cX9_put 30 = .ok (.iadd, 1) := by decide +kernel
theorem dX9_put_31 : decode cX9_put 31 = .ok (.iastore, 1) := by decide +kernel
theorem dX9_put_32 : decode cX9_put 32 = .ok (.return_, 1) := by decide +kernel
theorem dX9_record_0 : decode cX9_record 0 = .ok (.sipush 400, 3) := by decide +kernel
theorem dX9_record_3 : decode cX9_record 3 = .ok (.iload_n 1, 1) := by decide +kernel
theorem dX9_record_4 : decode cX9_record 4 = .ok (.imul, 1) := by decide +kernel
theorem dX9_record_5 : decode cX9_record 5 = .ok (.aload_n 0, 1) := by decide +kernel
theorem dX9_record_6 : decode cX9_record 6 = .ok (.getfield 82, 3) := by decide +kernel
theorem dX9_record_9 : decode cX9_record 9 = .ok (.iload_n 1, 1) := by decide +kernel
theorem dX9_record_10 : decode cX9_record 10 = .ok (.iaload, 1) := by decide +kernel
theorem dX9_record_11 : decode cX9_record 11 = .ok (.iadd, 1) := by decide +kernel
theorem dX9_record_12 : decode cX9_record 12 = .ok (.istore_n 3, 1) := by decide +kernel
theorem dX9_record_13 : decode cX9_record 13 = .ok (.aload_n 0, 1) := by decide +kernel
theorem dX9_record_14 : decode cX9_record 14 = .ok (.getfield 20, 3) := by decide +kernel
theorem dX9_record_17 : decode cX9_record 17 = .ok (.iload_n 2, 1) := by decide +kernel
theorem dX9_record_18 : decode cX9_record 18 = .ok (.aload_n 0, 1) := by decide +kernel
theorem dX9_record_19 : decode cX9_record 19 = .ok (.getfield 88, 3) := by decide +kernel
theorem dX9_record_22 : decode cX9_record 22 = .ok (.irem, 1) := by decide +kernel
theorem dX9_record_23 : decode cX9_record 23 = .ok (.laload, 1) := by decide +kernel
theorem dX9_record_24 : decode cX9_record 24 = .ok (.lstore 4, 2) := by decide +kernel
theorem dX9_record_26 : decode cX9_record 26 = .ok (.aload_n 0, 1) := by decide +kernel
theorem dX9_record_27 : decode cX9_record 27 = .ok (.iload_n 1, 1) := by decide +kernel
theorem dX9_record_28 : decode cX9_record 28 = .ok (.bipush 13, 2) := by decide +kernel
theorem dX9_record_30 : decode cX9_record 30 = .ok (.invokevirtual 111, 3) := by decide +kernel
theorem dX9_record_33 : decode cX9_record 33 = .ok (.aload_n 0, 1) := by decide +kernel
theorem dX9_record_34 : decode cX9_record 34 = .ok (.iload_n 1, 1) := by decide +kernel
theorem dX9_record_35 : decode cX9_record 35 = .ok (.iload_n 2, 1) := by decide +kernel
theorem dX9_record_36 : decode cX9_record 36 = .ok (.bipush 8, 2) := by decide +kernel
theorem dX9_record_38 : decode cX9_record 38 = .ok (.ishr, 1) := by decide +kernel
theorem dX9_record_39 : decode cX9_record 39 = .ok (.invokevirtual 111, 3) := by decide +kernel
theorem dX9_record_42 : decode cX9_record 42 = .ok (.aload_n 0, 1) := by decide +kernel
theorem dX9_record_43 : decode cX9_record 43 = .ok (.iload_n 1, 1) := by decide +kernel
theorem dX9_record_44 : decode cX9_record 44 = .ok (.iload_n 2, 1) := by decide +kernel
theorem dX9_record_45 : decode cX9_record 45 = .ok (.invokevirtual 111, 3) := by decide +kernel
theorem dX9_record_48 : decode cX9_record 48 = .ok (.bipush 7, 2) := by decide +kernel
theorem dX9_record_50 : decode cX9_record 50 = .ok (.istore 6, 2) := by decide +kernel
theorem dX9_record_52 : decode cX9_record 52 = .ok (.iload 6, 2) := by decide +kernel
theorem dX9_record_54 : decode cX9_record 54 = .ok (.ifCond .lt 23, 3) := by decide +kernel
theorem dX9_record_57 : decode cX9_record 57 = .ok (.aload_n 0, 1) := by decide +kernel
theorem dX9_record_58 : decode cX9_record 58 = .ok (.iload_n 1, 1) := by decide +kernel
theorem dX9_record_59 : decode cX9_record 59 = .ok (.lload 4, 2) := by decide +kernel
theorem dX9_record_61 : decode cX9_record 61 = .ok (.bipush 8, 2) := by decide +kernel
theorem dX9_record_63 : decode cX9_record 63 = .ok (.iload 6, 2) := by decide +kernel
theorem dX9_record_65 : decode cX9_record 65 = .ok (.imul, 1) := by decide +kernel
theorem dX9_record_66 : decode cX9_record 66 = .ok (.lshr, 1) := by decide +kernel
theorem dX9_record_67 : decode cX9_record 67 = .ok (.l2i, 1) := by decide +kernel
theorem dX9_record_68 : decode cX9_record 68 = .ok (.invokevirtual 111, 3) := by decide +kernel
theorem dX9_record_71 : decode cX9_record 71 = .ok (.iinc 6 (-1), 3) := by decide +kernel
theorem dX9_record_74 : decode cX9_record 74 = .ok (.goto (-22), 3) := by decide +kernel
theorem dX9_record_77 : decode cX9_record 77 = .ok (.aload_n 0, 1) := by decide +kernel
theorem dX9_record_78 : decode cX9_record 78 = .ok (.iload_n 1, 1) := by decide +kernel
theorem dX9_record_79 : decode cX9_record 79 = .ok (.aload_n 0, 1) := by decide +kernel
theorem dX9_record_80 : decode cX9_record 80 = .ok (.getfield 24, 3) := by decide +kernel
theorem dX9_record_83 : decode cX9_record 83 = .ok (.iload_n 2, 1) := by decide +kernel
theorem dX9_record_84 : decode cX9_record 84 = .ok (.aload_n 0, 1) := by decide +kernel
theorem dX9_record_85 : decode cX9_record 85 = .ok (.getfield 88, 3) := by decide +kernel
theorem dX9_record_88 : decode cX9_record 88 = .ok (.irem, 1) := by decide +kernel
theorem dX9_record_89 : decode cX9_record 89 = .ok (.iaload, 1) := by decide +kernel
theorem dX9_record_90 : decode cX9_record 90 = .ok (.invokevirtual 111, 3) := by decide +kernel
theorem dX9_record_93 : decode cX9_record 93 = .ok (.iconst 0, 1) := by decide +kernel
theorem dX9_record_94 : decode cX9_record 94 = .ok (.istore 6, 2) := by decide +kernel
theorem dX9_record_96 : decode cX9_record 96 = .ok (.iconst 0, 1) := by decide +kernel
theorem dX9_record_97 : decode cX9_record 97 = .ok (.istore 7, 2) := by decide +kernel
theorem dX9_record_99 : decode cX9_record 99 = .ok (.iload 7, 2) := by decide +kernel
theorem dX9_record_101 : decode cX9_record 101 = .ok (.bipush 12, 2) := by decide +kernel
theorem dX9_record_103 : decode cX9_record 103 = .ok (.if_icmp .ge 23, 3) := by decide +kernel
theorem dX9_record_106 : decode cX9_record 106 = .ok (.iload 6, 2) := by decide +kernel
theorem dX9_record_108 : decode cX9_record 108 = .ok (.aload_n 0, 1) := by decide +kernel
theorem dX9_record_109 : decode cX9_record 109 = .ok (.getfield 85, 3) := by decide +kernel
theorem dX9_record_112 : decode cX9_record 112 = .ok (.iload_n 3, 1) := by decide +kernel
theorem dX9_record_113 : decode cX9_record 113 = .ok (.iload 7, 2) := by decide +kernel
theorem dX9_record_115 : decode cX9_record 115 = .ok (.iadd, 1) := by decide +kernel
theorem dX9_record_116 : decode cX9_record 116 = .ok (.iaload, 1) := by decide +kernel
theorem dX9_record_117 : decode cX9_record 117 = .ok (.iadd, 1) := by decide +kernel
theorem dX9_record_118 : decode cX9_record 118 = .ok (.istore 6, 2) := by decide +kernel
theorem dX9_record_120 : decode cX9_record 120 = .ok (.iinc 7 1, 3) := by decide +kernel
theorem dX9_record_123 : decode cX9_record 123 = .ok (.goto (-24), 3) := by decide +kernel
theorem dX9_record_126 : decode cX9_record 126 = .ok (.aload_n 0, 1) := by decide +kernel
theorem dX9_record_127 : decode cX9_record 127 = .ok (.iload_n 1, 1) := by decide +kernel
theorem dX9_record_128 : decode cX9_record 128 = .ok (.iload 6, 2) := by decide +kernel
theorem dX9_record_130 : decode cX9_record 130 = .ok (.invokevirtual 111, 3) := by decide +kernel
theorem dX9_record_133 : decode cX9_record 133 = .ok (.return_, 1) := by decide +kernel
theorem dX9_handles_0 : decode cX9_handles 0 = .ok (.aload_n 0, 1) := by decide +kernel
theorem dX9_handles_1 : decode cX9_handles 1 = .ok (.getfield 20, 3) := by decide +kernel
theorem dX9_handles_4 : decode cX9_handles 4 = .ok (.iload_n 2, 1) := by decide +kernel
theorem dX9_handles_5 : decode cX9_handles 5 = .ok (.aload_n 0, 1) := by decide +kernel
theorem dX9_handles_6 : decode cX9_handles 6 = .ok (.getfield 88, 3) := by decide +kernel
theorem dX9_handles_9 : decode cX9_handles 9 = .ok (.irem, 1) := by decide +kernel
theorem dX9_handles_10 : decode cX9_handles 10 = .ok (.laload, 1) := by decide +kernel
theorem dX9_handles_11 : decode cX9_handles 11 = .ok (.lstore_n 3, 1) := by decide +kernel
theorem dX9_handles_12 : decode cX9_handles 12 = .ok (.aload_n 0, 1) := by decide +kernel
theorem dX9_handles_13 : decode cX9_handles 13 = .ok (.getfield 31, 3) := by decide +kernel
theorem dX9_handles_16 : decode cX9_handles 16 = .ok (.iload_n 1, 1) := by decide +kernel
theorem dX9_handles_17 : decode cX9_handles 17 = .ok (.iaload, 1) := by decide +kernel
theorem dX9_handles_18 : decode cX9_handles 18 = .ok (.ifCond .ne 14, 3) := by decide +kernel
theorem dX9_handles_21 : decode cX9_handles 21 = .ok (.lload_n 3, 1) := by decide +kernel
theorem dX9_handles_22 : decode cX9_handles 22 = .ok (.ldc2_w 115, 3) := by decide +kernel
theorem dX9_handles_25 : decode cX9_handles 25 = .ok (.lcmp, 1) := by decide +kernel
theorem dX9_handles_26 : decode cX9_handles 26 = .ok (.ifCond .ne 14, 3) := by decide +kernel
theorem dX9_handles_29 : decode cX9_handles 29 = .ok (.goto 9, 3) := by decide +kernel
theorem dX9_handles_32 : decode cX9_handles 32 = .ok (.lload_n 3, 1) := by decide +kernel
theorem dX9_handles_33 : decode cX9_handles 33 = .ok (.lconst 0, 1) := by decide +kernel
theorem dX9_handles_34 : decode cX9_handles 34 = .ok (.lcmp, 1) := by decide +kernel
theorem dX9_handles_35 : decode cX9_handles 35 = .ok (.ifCond .ge 5, 3) := by decide +kernel
theorem dX9_handles_38 : decode cX9_handles 38 = .ok (.iconst 0, 1) := by decide +kernel
theorem dX9_handles_39 : decode cX9_handles 39 = .ok (.ireturn, 1) := by decide +kernel
theorem dX9_handles_40 : decode cX9_handles 40 = .ok (.aload_n 0, 1) := by decide +kernel
theorem dX9_handles_41 : decode cX9_handles 41 = .ok (.getfield 31, 3) := by decide +kernel
theorem dX9_handles_44 : decode cX9_handles 44 = .ok (.iload_n 1, 1) := by decide +kernel
theorem dX9_handles_45 : decode cX9_handles 45 = .ok (.iaload, 1) := by decide +kernel
theorem dX9_handles_46 : decode cX9_handles 46 = .ok (.iconst 3, 1) := by decide +kernel
theorem dX9_handles_47 : decode cX9_handles 47 = .ok (.if_icmp .ne 20, 3) := by decide +kernel
theorem dX9_handles_50 : decode cX9_handles 50 = .ok (.aload_n 0, 1) := by decide +kernel
theorem dX9_handles_51 : decode cX9_handles 51 = .ok (.getfield 82, 3) := by decide +kernel
theorem dX9_handles_54 : decode cX9_handles 54 = .ok (.iload_n 1, 1) := by decide +kernel
theorem dX9_handles_55 : decode cX9_handles 55 = .ok (.iaload, 1) := by decide +kernel
theorem dX9_handles_56 : decode cX9_handles 56 = .ok (.bipush 13, 2) := by decide +kernel
theorem dX9_handles_58 : decode cX9_handles 58 = .ok (.iadd, 1) := by decide +kernel
theorem dX9_handles_59 : decode cX9_handles 59 = .ok (.sipush 400, 3) := by decide +kernel
theorem dX9_handles_62 : decode cX9_handles 62 = .ok (.if_icmp .le 5, 3) := by decide +kernel
theorem dX9_handles_65 : decode cX9_handles 65 = .ok (.iconst 0, 1) := by decide +kernel
theorem dX9_handles_66 : decode cX9_handles 66 = .ok (.ireturn, 1) := by decide +kernel
theorem dX9_handles_67 : decode cX9_handles 67 = .ok (.aload_n 0, 1) := by decide +kernel
theorem dX9_handles_68 : decode cX9_handles 68 = .ok (.getfield 50, 3) := by decide +kernel
theorem dX9_handles_71 : decode cX9_handles 71 = .ok (.iload_n 1, 1) := by decide +kernel
theorem dX9_handles_72 : decode cX9_handles 72 = .ok (.dup2, 1) := by decide +kernel
theorem dX9_handles_73 : decode cX9_handles 73 = .ok (.iaload, 1) := by decide +kernel
theorem dX9_handles_74 : decode cX9_handles 74 = .ok (.iconst 1, 1) := by decide +kernel
theorem dX9_handles_75 : decode cX9_handles 75 = .ok (.iadd, 1) := by decide +kernel
theorem dX9_handles_76 : decode cX9_handles 76 = .ok (.iastore, 1) := by decide +kernel
theorem dX9_handles_77 : decode cX9_handles 77 = .ok (.aload_n 0, 1) := by decide +kernel
theorem dX9_handles_78 : decode cX9_handles 78 = .ok (.getfield 31, 3) := by decide +kernel
theorem dX9_handles_81 : decode cX9_handles 81 = .ok (.iload_n 1, 1) := by decide +kernel
theorem dX9_handles_82 : decode cX9_handles 82 = .ok (.iaload, 1) := by decide +kernel
theorem dX9_handles_83 : decode cX9_handles 83 = .ok (.ifCond .ne 17, 3) := by decide +kernel
theorem dX9_handles_86 : decode cX9_handles 86 = .ok (.aload_n 0, 1) := by decide +kernel
theorem dX9_handles_87 : decode cX9_handles 87 = .ok (.getfield 71, 3) := by decide +kernel
theorem dX9_handles_90 : decode cX9_handles 90 = .ok (.iload_n 1, 1) := by decide +kernel
theorem dX9_handles_91 : decode cX9_handles 91 = .ok (.aload_n 0, 1) := by decide +kernel
theorem dX9_handles_92 : decode cX9_handles 92 = .ok (.getfield 71, 3) := by decide +kernel
theorem dX9_handles_95 : decode cX9_handles 95 = .ok (.iload_n 1, 1) := by decide +kernel
theorem dX9_handles_96 : decode cX9_handles 96 = .ok (.laload, 1) := by decide +kernel
theorem dX9_handles_97 : decode cX9_handles 97 = .ok (.lload_n 3, 1) := by decide +kernel
theorem dX9_handles_98 : decode cX9_handles 98 = .ok (.ladd, 1) := by decide +kernel
theorem dX9_handles_99 : decode cX9_handles 99 = .ok (.lastore, 1) := by decide +kernel
theorem dX9_handles_100 : decode cX9_handles 100 = .ok (.aload_n 0, 1) := by decide +kernel
theorem dX9_handles_101 : decode cX9_handles 101 = .ok (.getfield 31, 3) := by decide +kernel
theorem dX9_handles_104 : decode cX9_handles 104 = .ok (.iload_n 1, 1) := by decide +kernel
theorem dX9_handles_105 : decode cX9_handles 105 = .ok (.iaload, 1) := by decide +kernel
theorem dX9_handles_106 : decode cX9_handles 106 = .ok (.iconst 1, 1) := by decide +kernel
theorem dX9_handles_107 : decode cX9_handles 107 = .ok (.if_icmp .ne 28, 3) := by decide +kernel
theorem dX9_handles_110 : decode cX9_handles 110 = .ok (.aload_n 0, 1) := by decide +kernel
theorem dX9_handles_111 : decode cX9_handles 111 = .ok (.getfield 74, 3) := by decide +kernel
theorem dX9_handles_114 : decode cX9_handles 114 = .ok (.iload_n 1, 1) := by decide +kernel
theorem dX9_handles_115 : decode cX9_handles 115 = .ok (.aload_n 0, 1) := by decide +kernel
theorem dX9_handles_116 : decode cX9_handles 116 = .ok (.getfield 74, 3) := by decide +kernel
theorem dX9_handles_119 : decode cX9_handles 119 = .ok (.iload_n 1, 1) := by decide +kernel
theorem dX9_handles_120 : decode cX9_handles 120 = .ok (.faload, 1) := by decide +kernel
theorem dX9_handles_121 : decode cX9_handles 121 = .ok (.lload_n 3, 1) := by decide +kernel
theorem dX9_handles_122 : decode cX9_handles 122 = .ok (.l2f, 1) := by decide +kernel
theorem dX9_handles_123 : decode cX9_handles 123 = .ok (.aload_n 0, 1) := by decide +kernel
theorem dX9_handles_124 : decode cX9_handles 124 = .ok (.getfield 74, 3) := by decide +kernel
theorem dX9_handles_127 : decode cX9_handles 127 = .ok (.iload_n 1, 1) := by decide +kernel
theorem dX9_handles_128 : decode cX9_handles 128 = .ok (.faload, 1) := by decide +kernel
theorem dX9_handles_129 : decode cX9_handles 129 = .ok (.fsub, 1) := by decide +kernel
theorem dX9_handles_130 : decode cX9_handles 130 = .ok (.ldc 117, 2) := by decide +kernel
theorem dX9_handles_132 : decode cX9_handles 132 = .ok (.fmul, 1) := by decide +kernel
theorem dX9_handles_133 : decode cX9_handles 133 = .ok (.fadd, 1) := by decide +kernel
theorem dX9_handles_134 : decode cX9_handles 134 = .ok (.fastore, 1) := by decide +kernel
theorem dX9_handles_135 : decode cX9_handles 135 = .ok (.aload_n 0, 1) := by decide +kernel
theorem dX9_handles_136 : decode cX9_handles 136 = .ok (.getfield 31, 3) := by decide +kernel
theorem dX9_handles_139 : decode cX9_handles 139 = .ok (.iload_n 1, 1) := by decide +kernel
theorem dX9_handles_140 : decode cX9_handles 140 = .ok (.iaload, 1) := by decide +kernel
theorem dX9_handles_141 : decode cX9_handles 141 = .ok (.iconst 2, 1) := by decide +kernel
theorem dX9_handles_142 : decode cX9_handles 142 = .ok (.if_icmp .ne 33, 3) := by decide +kernel
theorem dX9_handles_145 : decode cX9_handles 145 = .ok (.aload_n 0, 1) := by decide +kernel
theorem dX9_handles_146 : decode cX9_handles 146 = .ok (.getfield 78, 3) := by decide +kernel
theorem dX9_handles_149 : decode cX9_handles 149 = .ok (.iload_n 1, 1) := by decide +kernel
theorem dX9_handles_150 : decode cX9_handles 150 = .ok (.aload_n 0, 1) := by decide +kernel
theorem dX9_handles_151 : decode cX9_handles 151 = .ok (.getfield 78, 3) := by decide +kernel
theorem dX9_handles_154 : decode cX9_handles 154 = .ok (.iload_n 1, 1) := by decide +kernel
theorem dX9_handles_155 : decode cX9_handles 155 = .ok (.daload, 1) := by decide +kernel
theorem dX9_handles_156 : decode cX9_handles 156 = .ok (.lload_n 3, 1) := by decide +kernel
theorem dX9_handles_157 : decode cX9_handles 157 = .ok (.l2d, 1) := by decide +kernel
theorem dX9_handles_158 : decode cX9_handles 158 = .ok (.aload_n 0, 1) := by decide +kernel
theorem dX9_handles_159 : decode cX9_handles 159 = .ok (.getfield 78, 3) := by decide +kernel
theorem dX9_handles_162 : decode cX9_handles 162 = .ok (.iload_n 1, 1) := by decide +kernel
theorem dX9_handles_163 : decode cX9_handles 163 = .ok (.daload, 1) := by decide +kernel
theorem dX9_handles_164 : decode cX9_handles 164 = .ok (.dsub, 1) := by decide +kernel
theorem dX9_handles_165 : decode cX9_handles 165 = .ok (.aload_n 0, 1) := by decide +kernel
theorem dX9_handles_166 : decode cX9_handles 166 = .ok (.getfield 50, 3) := by decide +kernel
theorem dX9_handles_169 : decode cX9_handles 169 = .ok (.iload_n 1, 1) := by decide +kernel
theorem dX9_handles_170 : decode cX9_handles 170 = .ok (.iaload, 1) := by decide +kernel
theorem dX9_handles_171 : decode cX9_handles 171 = .ok (.i2d, 1) := by decide +kernel
theorem dX9_handles_172 : decode cX9_handles 172 = .ok (.ddiv, 1) := by decide +kernel
theorem dX9_handles_173 : decode cX9_handles 173 = .ok (.dadd, 1) := by decide +kernel
theorem dX9_handles_174 : decode cX9_handles 174 = .ok (.dastore, 1) := by decide +kernel
theorem dX9_handles_175 : decode cX9_handles 175 = .ok (.aload_n 0, 1) := by decide +kernel
theorem dX9_handles_176 : decode cX9_handles 176 = .ok (.getfield 31, 3) := by decide +kernel
theorem dX9_handles_179 : decode cX9_handles 179 = .ok (.iload_n 1, 1) := by decide +kernel
theorem dX9_handles_180 : decode cX9_handles 180 = .ok (.iaload, 1) := by decide +kernel
theorem dX9_handles_181 : decode cX9_handles 181 = .ok (.iconst 3, 1) := by decide +kernel
theorem dX9_handles_182 : decode cX9_handles 182 = .ok (.if_icmp .ne 9, 3) := by decide +kernel
theorem dX9_handles_185 : decode cX9_handles 185 = .ok (.aload_n 0, 1) := by decide +kernel
theorem dX9_handles_186 : decode cX9_handles 186 = .ok (.iload_n 1, 1) := by decide +kernel
theorem dX9_handles_187 : decode cX9_handles 187 = .ok (.iload_n 2, 1) := by decide +kernel
theorem dX9_handles_188 : decode cX9_handles 188 = .ok (.invokevirtual 118, 3) := by decide +kernel
theorem dX9_handles_191 : decode cX9_handles 191 = .ok (.iconst 1, 1) := by decide +kernel
theorem dX9_handles_192 : decode cX9_handles 192 = .ok (.ireturn, 1) := by decide +kernel
theorem dX9_answer_0 : decode cX9_answer 0 = .ok (.aload_n 0, 1) := by decide +kernel
theorem dX9_answer_1 : decode cX9_answer 1 = .ok (.getfield 37, 3) := by decide +kernel
theorem dX9_answer_4 : decode cX9_answer 4 = .ok (.iload_n 1, 1) := by decide +kernel
theorem dX9_answer_5 : decode cX9_answer 5 = .ok (.iaload, 1) := by decide +kernel
theorem dX9_answer_6 : decode cX9_answer 6 = .ok (.iconst 2, 1) := by decide +kernel
theorem dX9_answer_7 : decode cX9_answer 7 = .ok (.if_icmp .eq 10, 3) := by decide +kernel
theorem dX9_answer_10 : decode cX9_answer 10 = .ok (.aload_n 0, 1) := by decide +kernel
theorem dX9_answer_11 : decode cX9_answer 11 = .ok (.getfield 37, 3) := by decide +kernel
theorem dX9_answer_14 : decode cX9_answer 14 = .ok (.iload_n 1, 1) := by decide +kernel
theorem dX9_answer_15 : decode cX9_answer 15 = .ok (.iaload, 1) := by decide +kernel
theorem dX9_answer_16 : decode cX9_answer 16 = .ok (.ireturn, 1) := by decide +kernel
theorem dX9_answer_17 : decode cX9_answer 17 = .ok (.aload_n 0, 1) := by decide +kernel
theorem dX9_answer_18 : decode cX9_answer 18 = .ok (.getfield 62, 3) := by decide +kernel
theorem dX9_answer_21 : decode cX9_answer 21 = .ok (.iload_n 1, 1) := by decide +kernel
theorem dX9_answer_22 : decode cX9_answer 22 = .ok (.aload_n 0, 1) := by decide +kernel
theorem dX9_answer_23 : decode cX9_answer 23 = .ok (.getfield 59, 3) := by decide +kernel
theorem dX9_answer_26 : decode cX9_answer 26 = .ok (.iload_n 1, 1) := by decide +kernel
theorem dX9_answer_27 : decode cX9_answer 27 = .ok (.iaload, 1) := by decide +kernel
theorem dX9_answer_28 : decode cX9_answer 28 = .ok (.iload_n 2, 1) := by decide +kernel
theorem dX9_answer_29 : decode cX9_answer 29 = .ok (.if_icmp .ne 14, 3) := by decide +kernel
theorem dX9_answer_32 : decode cX9_answer 32 = .ok (.aload_n 0, 1) := by decide +kernel
theorem dX9_answer_33 : decode cX9_answer 33 = .ok (.getfield 62, 3) := by decide +kernel
theorem dX9_answer_36 : decode cX9_answer 36 = .ok (.iload_n 1, 1) := by decide +kernel
theorem dX9_answer_37 : decode cX9_answer 37 = .ok (.iaload, 1) := by decide +kernel
theorem dX9_answer_38 : decode cX9_answer 38 = .ok (.iconst 1, 1) := by decide +kernel
theorem dX9_answer_39 : decode cX9_answer 39 = .ok (.iadd, 1) := by decide +kernel
theorem dX9_answer_40 : decode cX9_answer 40 = .ok (.goto 4, 3) := by decide +kernel
theorem dX9_answer_43 : decode cX9_answer 43 = .ok (.iconst 1, 1) := by decide +kernel
theorem dX9_answer_44 : decode cX9_answer 44 = .ok (.iastore, 1) := by decide +kernel
theorem dX9_answer_45 : decode cX9_answer 45 = .ok (.aload_n 0, 1) := by decide +kernel
theorem dX9_answer_46 : decode cX9_answer 46 = .ok (.getfield 59, 3) := by decide +kernel
theorem dX9_answer_49 : decode cX9_answer 49 = .ok (.iload_n 1, 1) := by decide +kernel
theorem dX9_answer_50 : decode cX9_answer 50 = .ok (.iload_n 2, 1) := by decide +kernel
theorem dX9_answer_51 : decode cX9_answer 51 = .ok (.iastore, 1) := by decide +kernel
theorem dX9_answer_52 : decode cX9_answer 52 = .ok (.aload_n 0, 1) := by decide +kernel
theorem dX9_answer_53 : decode cX9_answer 53 = .ok (.getfield 62, 3) := by decide +kernel
theorem dX9_answer_56 : decode cX9_answer 56 = .ok (.iload_n 1, 1) := by decide +kernel
theorem dX9_answer_57 : decode cX9_answer 57 = .ok (.iaload, 1) := by decide +kernel
theorem dX9_answer_58 : decode cX9_answer 58 = .ok (.iconst 3, 1) := by decide +kernel
theorem dX9_answer_59 : decode cX9_answer 59 = .ok (.if_icmp .ge 5, 3) := by decide +kernel
theorem dX9_answer_62 : decode cX9_answer 62 = .ok (.iconst 2, 1) := by decide +kernel
theorem dX9_answer_63 : decode cX9_answer 63 = .ok (.ireturn, 1) := by decide +kernel
theorem dX9_answer_64 : decode cX9_answer 64 = .ok (.aload_n 0, 1) := by decide +kernel
theorem dX9_answer_65 : decode cX9_answer 65 = .ok (.getfield 62, 3) := by decide +kernel
theorem dX9_answer_68 : decode cX9_answer 68 = .ok (.iload_n 1, 1) := by decide +kernel
theorem dX9_answer_69 : decode cX9_answer 69 = .ok (.iconst 0, 1) := by decide +kernel
theorem dX9_answer_70 : decode cX9_answer 70 = .ok (.iastore, 1) := by decide +kernel
theorem dX9_answer_71 : decode cX9_answer 71 = .ok (.iconst 0, 1) := by decide +kernel
theorem dX9_answer_72 : decode cX9_answer 72 = .ok (.ireturn, 1) := by decide +kernel
theorem dX9_batch_0 : decode cX9_batch 0 = .ok (.aload_n 0, 1) := by decide +kernel
theorem dX9_batch_1 : decode cX9_batch 1 = .ok (.iload_n 1, 1) := by decide +kernel
theorem dX9_batch_2 : decode cX9_batch 2 = .ok (.invokevirtual 121, 3) := by decide +kernel
theorem dX9_batch_5 : decode cX9_batch 5 = .ok (.istore_n 3, 1) := by decide +kernel
theorem dX9_batch_6 : decode cX9_batch 6 = .ok (.aload_n 0, 1) := by decide +kernel
theorem dX9_batch_7 : decode cX9_batch 7 = .ok (.getfield 43, 3) := by decide +kernel
theorem dX9_batch_10 : decode cX9_batch 10 = .ok (.iload_n 1, 1) := by decide +kernel
theorem dX9_batch_11 : decode cX9_batch 11 = .ok (.iaload, 1) := by decide +kernel
theorem dX9_batch_12 : decode cX9_batch 12 = .ok (.istore 4, 2) := by decide +kernel
theorem dX9_batch_14 : decode cX9_batch 14 = .ok (.aload_n 0, 1) := by decide +kernel
theorem dX9_batch_15 : decode cX9_batch 15 = .ok (.getfield 71, 3) := by decide +kernel
theorem dX9_batch_18 : decode cX9_batch 18 = .ok (.iload_n 1, 1) := by decide +kernel
theorem dX9_batch_19 : decode cX9_batch 19 = .ok (.laload, 1) := by decide +kernel
theorem dX9_batch_20 : decode cX9_batch 20 = .ok (.lstore 5, 2) := by decide +kernel
theorem dX9_batch_22 : decode cX9_batch 22 = .ok (.aload_n 0, 1) := by decide +kernel
theorem dX9_batch_23 : decode cX9_batch 23 = .ok (.getfield 74, 3) := by decide +kernel
theorem dX9_batch_26 : decode cX9_batch 26 = .ok (.iload_n 1, 1) := by decide +kernel
theorem dX9_batch_27 : decode cX9_batch 27 = .ok (.faload, 1) := by decide +kernel
theorem dX9_batch_28 : decode cX9_batch 28 = .ok (.fstore 7, 2) := by decide +kernel
theorem dX9_batch_30 : decode cX9_batch 30 = .ok (.aload_n 0, 1) := by decide +kernel
theorem dX9_batch_31 : decode cX9_batch 31 = .ok (.getfield 78, 3) := by decide +kernel
theorem dX9_batch_34 : decode cX9_batch 34 = .ok (.iload_n 1, 1) := by decide +kernel
theorem dX9_batch_35 : decode cX9_batch 35 = .ok (.daload, 1) := by decide +kernel
theorem dX9_batch_36 : decode cX9_batch 36 = .ok (.dstore 8, 2) := by decide +kernel
theorem dX9_batch_38 : decode cX9_batch 38 = .ok (.aload_n 0, 1) := by decide +kernel
theorem dX9_batch_39 : decode cX9_batch 39 = .ok (.getfield 82, 3) := by decide +kernel
theorem dX9_batch_42 : decode cX9_batch 42 = .ok (.iload_n 1, 1) := by decide +kernel
theorem dX9_batch_43 : decode cX9_batch 43 = .ok (.iaload, 1) := by decide +kernel
theorem dX9_batch_44 : decode cX9_batch 44 = .ok (.istore 10, 2) := by decide +kernel
theorem dX9_batch_46 : decode cX9_batch 46 = .ok (.aload_n 0, 1) := by decide +kernel
theorem dX9_batch_47 : decode cX9_batch 47 = .ok (.getfield 50, 3) := by decide +kernel
theorem dX9_batch_50 : decode cX9_batch 50 = .ok (.iload_n 1, 1) := by decide +kernel
theorem dX9_batch_51 : decode cX9_batch 51 = .ok (.iaload, 1) := by decide +kernel
theorem dX9_batch_52 : decode cX9_batch 52 = .ok (.istore 11, 2) := by decide +kernel
theorem dX9_batch_54 : decode cX9_batch 54 = .ok (.aload_n 0, 1) := by decide +kernel
theorem dX9_batch_55 : decode cX9_batch 55 = .ok (.getfield 53, 3) := by decide +kernel
theorem dX9_batch_58 : decode cX9_batch 58 = .ok (.iload_n 1, 1) := by decide +kernel
theorem dX9_batch_59 : decode cX9_batch 59 = .ok (.iaload, 1) := by decide +kernel
theorem dX9_batch_60 : decode cX9_batch 60 = .ok (.istore 12, 2) := by decide +kernel
theorem dX9_batch_62 : decode cX9_batch 62 = .ok (.iconst 0, 1) := by decide +kernel
theorem dX9_batch_63 : decode cX9_batch 63 = .ok (.istore 13, 2) := by decide +kernel
theorem dX9_batch_65 : decode cX9_batch 65 = .ok (.iload 13, 2) := by decide +kernel
theorem dX9_batch_67 : decode cX9_batch 67 = .ok (.iload_n 2, 1) := by decide +kernel
theorem dX9_batch_68 : decode cX9_batch 68 = .ok (.if_icmp .ge 204, 3) := by decide +kernel
theorem dX9_batch_71 : decode cX9_batch 71 = .ok (.aload_n 0, 1) := by decide +kernel
theorem dX9_batch_72 : decode cX9_batch 72 = .ok (.getfield 43, 3) := by decide +kernel
theorem dX9_batch_75 : decode cX9_batch 75 = .ok (.iload_n 1, 1) := by decide +kernel
theorem dX9_batch_76 : decode cX9_batch 76 = .ok (.iaload, 1) := by decide +kernel
theorem dX9_batch_77 : decode cX9_batch 77 = .ok (.iload_n 3, 1) := by decide +kernel
theorem dX9_batch_78 : decode cX9_batch 78 = .ok (.if_icmp .ge 194, 3) := by decide +kernel
theorem dX9_batch_81 : decode cX9_batch 81 = .ok (.aload_n 0, 1) := by decide +kernel
theorem dX9_batch_82 : decode cX9_batch 82 = .ok (.getfield 46, 3) := by decide +kernel
theorem dX9_batch_85 : decode cX9_batch 85 = .ok (.iload_n 1, 1) := by decide +kernel
theorem dX9_batch_86 : decode cX9_batch 86 = .ok (.baload, 1) := by decide +kernel
theorem dX9_batch_87 : decode cX9_batch 87 = .ok (.ifCond .ne 185, 3) := by decide +kernel
theorem dX9_batch_90 : decode cX9_batch 90 = .ok (.aload_n 0, 1) := by decide +kernel
theorem dX9_batch_91 : decode cX9_batch 91 = .ok (.getfield 43, 3) := by decide +kernel
theorem dX9_batch_94 : decode cX9_batch 94 = .ok (.iload_n 1, 1) := by decide +kernel
theorem dX9_batch_95 : decode cX9_batch 95 = .ok (.iaload, 1) := by decide +kernel
theorem dX9_batch_96 : decode cX9_batch 96 = .ok (.iconst 1, 1) := by decide +kernel
theorem dX9_batch_97 : decode cX9_batch 97 = .ok (.iadd, 1) := by decide +kernel
theorem dX9_batch_98 : decode cX9_batch 98 = .ok (.istore 14, 2) := by decide +kernel
theorem dX9_batch_100 : decode cX9_batch 100 = .ok (.aload_n 0, 1) := by decide +kernel
theorem dX9_batch_101 : decode cX9_batch 101 = .ok (.iload_n 1, 1) := by decide +kernel
theorem dX9_batch_102 : decode cX9_batch 102 = .ok (.iload 14, 2) := by decide +kernel
theorem dX9_batch_104 : decode cX9_batch 104 = .ok (.invokevirtual 124, 3) := by decide +kernel
theorem dX9_batch_107 : decode cX9_batch 107 = .ok (.ifCond .eq 7, 3) := by decide +kernel
theorem dX9_batch_110 : decode cX9_batch 110 = .ok (.iconst (-1), 1) := by decide +kernel
theorem dX9_batch_111 : decode cX9_batch 111 = .ok (.goto 10, 3) := by decide +kernel
theorem dX9_batch_114 : decode cX9_batch 114 = .ok (.aload_n 0, 1) := by decide +kernel
theorem dX9_batch_115 : decode cX9_batch 115 = .ok (.iload_n 1, 1) := by decide +kernel
theorem dX9_batch_116 : decode cX9_batch 116 = .ok (.iload 14, 2) := by decide +kernel
theorem dX9_batch_118 : decode cX9_batch 118 = .ok (.invokevirtual 128, 3) := by decide +kernel
theorem dX9_batch_121 : decode cX9_batch 121 = .ok (.istore 15, 2) := by decide +kernel
theorem dX9_batch_123 : decode cX9_batch 123 = .ok (.iload 15, 2) := by decide +kernel
theorem dX9_batch_125 : decode cX9_batch 125 = .ok (.iconst 2, 1) := by decide +kernel
theorem dX9_batch_126 : decode cX9_batch 126 = .ok (.if_icmp .ne 71, 3) := by decide +kernel
theorem dX9_batch_129 : decode cX9_batch 129 = .ok (.aload_n 0, 1) := by decide +kernel
theorem dX9_batch_130 : decode cX9_batch 130 = .ok (.getfield 43, 3) := by decide +kernel
theorem dX9_batch_133 : decode cX9_batch 133 = .ok (.iload_n 1, 1) := by decide +kernel
theorem dX9_batch_134 : decode cX9_batch 134 = .ok (.iload 4, 2) := by decide +kernel
theorem dX9_batch_136 : decode cX9_batch 136 = .ok (.iastore, 1) := by decide +kernel
theorem dX9_batch_137 : decode cX9_batch 137 = .ok (.aload_n 0, 1) := by decide +kernel
theorem dX9_batch_138 : decode cX9_batch 138 = .ok (.getfield 71, 3) := by decide +kernel
theorem dX9_batch_141 : decode cX9_batch 141 = .ok (.iload_n 1, 1) := by decide +kernel
theorem dX9_batch_142 : decode cX9_batch 142 = .ok (.lload 5, 2) := by decide +kernel
theorem dX9_batch_144 : decode cX9_batch 144 = .ok (.lastore, 1) := by decide +kernel
theorem dX9_batch_145 : decode cX9_batch 145 = .ok (.aload_n 0, 1) := by decide +kernel
theorem dX9_batch_146 : decode cX9_batch 146 = .ok (.getfield 74, 3) := by decide +kernel
theorem dX9_batch_149 : decode cX9_batch 149 = .ok (.iload_n 1, 1) := by decide +kernel
theorem dX9_batch_150 : decode cX9_batch 150 = .ok (.fload 7, 2) := by decide +kernel
theorem dX9_batch_152 : decode cX9_batch 152 = .ok (.fastore, 1) := by decide +kernel
theorem dX9_batch_153 : decode cX9_batch 153 = .ok (.aload_n 0, 1) := by decide +kernel
theorem dX9_batch_154 : decode cX9_batch 154 = .ok (.getfield 78, 3) := by decide +kernel
theorem dX9_batch_157 : decode cX9_batch 157 = .ok (.iload_n 1, 1) := by decide +kernel
theorem dX9_batch_158 : decode cX9_batch 158 = .ok (.dload 8, 2) := by decide +kernel
theorem dX9_batch_160 : decode cX9_batch 160 = .ok (.dastore, 1) := by decide +kernel
theorem dX9_batch_161 : decode cX9_batch 161 = .ok (.aload_n 0, 1) := by decide +kernel
theorem dX9_batch_162 : decode cX9_batch 162 = .ok (.getfield 82, 3) := by decide +kernel
theorem dX9_batch_165 : decode cX9_batch 165 = .ok (.iload_n 1, 1) := by decide +kernel
theorem dX9_batch_166 : decode cX9_batch 166 = .ok (.iload 10, 2) := by decide +kernel
theorem dX9_batch_168 : decode cX9_batch 168 = .ok (.iastore, 1) := by decide +kernel
theorem dX9_batch_169 : decode cX9_batch 169 = .ok (.aload_n 0, 1) := by decide +kernel
theorem dX9_batch_170 : decode cX9_batch 170 = .ok (.getfield 50, 3) := by decide +kernel
theorem dX9_batch_173 : decode cX9_batch 173 = .ok (.iload_n 1, 1) := by decide +kernel
theorem dX9_batch_174 : decode cX9_batch 174 = .ok (.iload 11, 2) := by decide +kernel
theorem dX9_batch_176 : decode cX9_batch 176 = .ok (.iastore, 1) := by decide +kernel
theorem dX9_batch_177 : decode cX9_batch 177 = .ok (.aload_n 0, 1) := by decide +kernel
theorem dX9_batch_178 : decode cX9_batch 178 = .ok (.getfield 53, 3) := by decide +kernel
theorem dX9_batch_181 : decode cX9_batch 181 = .ok (.iload_n 1, 1) := by decide +kernel
theorem dX9_batch_182 : decode cX9_batch 182 = .ok (.iload 12, 2) := by decide +kernel
theorem dX9_batch_184 : decode cX9_batch 184 = .ok (.iastore, 1) := by decide +kernel
theorem dX9_batch_185 : decode cX9_batch 185 = .ok (.aload_n 0, 1) := by decide +kernel
theorem dX9_batch_186 : decode cX9_batch 186 = .ok (.getfield 56, 3) := by decide +kernel
theorem dX9_batch_189 : decode cX9_batch 189 = .ok (.iload_n 1, 1) := by decide +kernel
theorem dX9_batch_190 : decode cX9_batch 190 = .ok (.dup2, 1) := by decide +kernel
theorem dX9_batch_191 : decode cX9_batch 191 = .ok (.iaload, 1) := by decide +kernel
theorem dX9_batch_192 : decode cX9_batch 192 = .ok (.iconst 1, 1) := by decide +kernel
theorem dX9_batch_193 : decode cX9_batch 193 = .ok (.iadd, 1) := by decide +kernel
theorem dX9_batch_194 : decode cX9_batch 194 = .ok (.iastore, 1) := by decide +kernel
theorem dX9_batch_195 : decode cX9_batch 195 = .ok (.iconst (-1), 1) := by decide +kernel
theorem dX9_batch_196 : decode cX9_batch 196 = .ok (.ireturn, 1) := by decide +kernel
theorem dX9_batch_197 : decode cX9_batch 197 = .ok (.aload_n 0, 1) := by decide +kernel
theorem dX9_batch_198 : decode cX9_batch 198 = .ok (.getfield 46, 3) := by decide +kernel
theorem dX9_batch_201 : decode cX9_batch 201 = .ok (.iload_n 1, 1) := by decide +kernel
theorem dX9_batch_202 : decode cX9_batch 202 = .ok (.iload 15, 2) := by decide +kernel
theorem dX9_batch_204 : decode cX9_batch 204 = .ok (.iconst 1, 1) := by decide +kernel
theorem dX9_batch_205 : decode cX9_batch 205 = .ok (.if_icmp .ne 7, 3) := by decide +kernel
theorem dX9_batch_208 : decode cX9_batch 208 = .ok (.iconst 1, 1) := by decide +kernel
theorem dX9_batch_209 : decode cX9_batch 209 = .ok (.goto 4, 3) := by decide +kernel
theorem dX9_batch_212 : decode cX9_batch 212 = .ok (.iconst 0, 1) := by decide +kernel
theorem dX9_batch_213 : decode cX9_batch 213 = .ok (.bastore, 1) := by decide +kernel
theorem dX9_batch_214 : decode cX9_batch 214 = .ok (.aload_n 0, 1) := by decide +kernel
theorem dX9_batch_215 : decode cX9_batch 215 = .ok (.getfield 53, 3) := by decide +kernel
theorem dX9_batch_218 : decode cX9_batch 218 = .ok (.iload_n 1, 1) := by decide +kernel
theorem dX9_batch_219 : decode cX9_batch 219 = .ok (.dup2, 1) := by decide +kernel
theorem dX9_batch_220 : decode cX9_batch 220 = .ok (.iaload, 1) := by decide +kernel
theorem dX9_batch_221 : decode cX9_batch 221 = .ok (.iload 15, 2) := by decide +kernel
theorem dX9_batch_223 : decode cX9_batch 223 = .ok (.ifCond .ne 7, 3) := by decide +kernel
theorem dX9_batch_226 : decode cX9_batch 226 = .ok (.iconst 1, 1) := by decide +kernel
theorem dX9_batch_227 : decode cX9_batch 227 = .ok (.goto 4, 3) := by decide +kernel
theorem dX9_batch_230 : decode cX9_batch 230 = .ok (.iconst 0, 1) := by decide +kernel
theorem dX9_batch_231 : decode cX9_batch 231 = .ok (.iadd, 1) := by decide +kernel
theorem dX9_batch_232 : decode cX9_batch 232 = .ok (.iastore, 1) := by decide +kernel
theorem dX9_batch_233 : decode cX9_batch 233 = .ok (.aload_n 0, 1) := by decide +kernel
theorem dX9_batch_234 : decode cX9_batch 234 = .ok (.getfield 43, 3) := by decide +kernel
theorem dX9_batch_237 : decode cX9_batch 237 = .ok (.iload_n 1, 1) := by decide +kernel
theorem dX9_batch_238 : decode cX9_batch 238 = .ok (.dup2, 1) := by decide +kernel
theorem dX9_batch_239 : decode cX9_batch 239 = .ok (.iaload, 1) := by decide +kernel
theorem dX9_batch_240 : decode cX9_batch 240 = .ok (.iload 15, 2) := by decide +kernel
theorem dX9_batch_242 : decode cX9_batch 242 = .ok (.iconst 1, 1) := by decide +kernel
theorem dX9_batch_243 : decode cX9_batch 243 = .ok (.if_icmp .ne 7, 3) := by decide +kernel
theorem dX9_batch_246 : decode cX9_batch 246 = .ok (.iconst 0, 1) := by decide +kernel
theorem dX9_batch_247 : decode cX9_batch 247 = .ok (.goto 4, 3) := by decide +kernel
theorem dX9_batch_250 : decode cX9_batch 250 = .ok (.iconst 1, 1) := by decide +kernel
theorem dX9_batch_251 : decode cX9_batch 251 = .ok (.iadd, 1) := by decide +kernel
theorem dX9_batch_252 : decode cX9_batch 252 = .ok (.iastore, 1) := by decide +kernel
theorem dX9_batch_253 : decode cX9_batch 253 = .ok (.iload 13, 2) := by decide +kernel
theorem dX9_batch_255 : decode cX9_batch 255 = .ok (.iload 15, 2) := by decide +kernel
theorem dX9_batch_257 : decode cX9_batch 257 = .ok (.iconst 1, 1) := by decide +kernel
theorem dX9_batch_258 : decode cX9_batch 258 = .ok (.if_icmp .ne 7, 3) := by decide +kernel
theorem dX9_batch_261 : decode cX9_batch 261 = .ok (.iconst 0, 1) := by decide +kernel
theorem dX9_batch_262 : decode cX9_batch 262 = .ok (.goto 4, 3) := by decide +kernel
theorem dX9_batch_265 : decode cX9_batch 265 = .ok (.iconst 1, 1) := by decide +kernel
theorem dX9_batch_266 : decode cX9_batch 266 = .ok (.iadd, 1) := by decide +kernel
theorem dX9_batch_267 : decode cX9_batch 267 = .ok (.istore 13, 2) := by decide +kernel
theorem dX9_batch_269 : decode cX9_batch 269 = .ok (.goto (-204), 3) := by decide +kernel
theorem dX9_batch_272 : decode cX9_batch 272 = .ok (.iload 13, 2) := by decide +kernel
theorem dX9_batch_274 : decode cX9_batch 274 = .ok (.ireturn, 1) := by decide +kernel
theorem dX9_work_0 : decode cX9_work 0 = .ok (.aload_n 0, 1) := by decide +kernel
theorem dX9_work_1 : decode cX9_work 1 = .ok (.iload_n 1, 1) := by decide +kernel
theorem dX9_work_2 : decode cX9_work 2 = .ok (.invokevirtual 121, 3) := by decide +kernel
theorem dX9_work_5 : decode cX9_work 5 = .ok (.istore_n 3, 1) := by decide +kernel
theorem dX9_work_6 : decode cX9_work 6 = .ok (.iconst 0, 1) := by decide +kernel
theorem dX9_work_7 : decode cX9_work 7 = .ok (.istore 4, 2) := by decide +kernel
theorem dX9_work_9 : decode cX9_work 9 = .ok (.iconst 1, 1) := by decide +kernel
theorem dX9_work_10 : decode cX9_work 10 = .ok (.istore 5, 2) := by decide +kernel
theorem dX9_work_12 : decode cX9_work 12 = .ok (.iconst 0, 1) := by decide +kernel
theorem dX9_work_13 : decode cX9_work 13 = .ok (.istore 6, 2) := by decide +kernel
theorem dX9_work_15 : decode cX9_work 15 = .ok (.iload 6, 2) := by decide +kernel
theorem dX9_work_17 : decode cX9_work 17 = .ok (.iload_n 2, 1) := by decide +kernel
theorem dX9_work_18 : decode cX9_work 18 = .ok (.if_icmp .ge 188, 3) := by decide +kernel
theorem dX9_work_21 : decode cX9_work 21 = .ok (.iload 5, 2) := by decide +kernel
theorem dX9_work_23 : decode cX9_work 23 = .ok (.ifCond .eq 183, 3) := by decide +kernel
theorem dX9_work_26 : decode cX9_work 26 = .ok (.aload_n 0, 1) := by decide +kernel
theorem dX9_work_27 : decode cX9_work 27 = .ok (.getfield 65, 3) := by decide +kernel
theorem dX9_work_30 : decode cX9_work 30 = .ok (.iload_n 1, 1) := by decide +kernel
theorem dX9_work_31 : decode cX9_work 31 = .ok (.iaload, 1) := by decide +kernel
theorem dX9_work_32 : decode cX9_work 32 = .ok (.ifCond .ge 35, 3) := by decide +kernel
theorem dX9_work_35 : decode cX9_work 35 = .ok (.aload_n 0, 1) := by decide +kernel
theorem dX9_work_36 : decode cX9_work 36 = .ok (.getfield 65, 3) := by decide +kernel
theorem dX9_work_39 : decode cX9_work 39 = .ok (.iload_n 1, 1) := by decide +kernel
theorem dX9_work_40 : decode cX9_work 40 = .ok (.aload_n 0, 1) := by decide +kernel
theorem dX9_work_41 : decode cX9_work 41 = .ok (.getfield 68, 3) := by decide +kernel
theorem dX9_work_44 : decode cX9_work 44 = .ok (.aload_n 0, 1) := by decide +kernel
theorem dX9_work_45 : decode cX9_work 45 = .ok (.getfield 40, 3) := by decide +kernel
theorem dX9_work_48 : decode cX9_work 48 = .ok (.iload_n 1, 1) := by decide +kernel
theorem dX9_work_49 : decode cX9_work 49 = .ok (.iaload, 1) := by decide +kernel
theorem dX9_work_50 : decode cX9_work 50 = .ok (.iaload, 1) := by decide +kernel
theorem dX9_work_51 : decode cX9_work 51 = .ok (.iastore, 1) := by decide +kernel
theorem dX9_work_52 : decode cX9_work 52 = .ok (.aload_n 0, 1) := by decide +kernel
theorem dX9_work_53 : decode cX9_work 53 = .ok (.getfield 68, 3) := by decide +kernel
theorem dX9_work_56 : decode cX9_work 56 = .ok (.aload_n 0, 1) := by decide +kernel
theorem dX9_work_57 : decode cX9_work 57 = .ok (.getfield 40, 3) := by decide +kernel
theorem dX9_work_60 : decode cX9_work 60 = .ok (.iload_n 1, 1) := by decide +kernel
theorem dX9_work_61 : decode cX9_work 61 = .ok (.iaload, 1) := by decide +kernel
theorem dX9_work_62 : decode cX9_work 62 = .ok (.dup2, 1) := by decide +kernel
theorem dX9_work_63 : decode cX9_work 63 = .ok (.iaload, 1) := by decide +kernel
theorem dX9_work_64 : decode cX9_work 64 = .ok (.iconst 1, 1) := by decide +kernel
theorem dX9_work_65 : decode cX9_work 65 = .ok (.iadd, 1) := by decide +kernel
theorem dX9_work_66 : decode cX9_work 66 = .ok (.iastore, 1) := by decide +kernel
theorem dX9_work_67 : decode cX9_work 67 = .ok (.aload_n 0, 1) := by decide +kernel
theorem dX9_work_68 : decode cX9_work 68 = .ok (.getfield 65, 3) := by decide +kernel
theorem dX9_work_71 : decode cX9_work 71 = .ok (.iload_n 1, 1) := by decide +kernel
theorem dX9_work_72 : decode cX9_work 72 = .ok (.iaload, 1) := by decide +kernel
theorem dX9_work_73 : decode cX9_work 73 = .ok (.iload_n 3, 1) := by decide +kernel
theorem dX9_work_74 : decode cX9_work 74 = .ok (.if_icmp .gt 7, 3) := by decide +kernel
theorem dX9_work_77 : decode cX9_work 77 = .ok (.iconst 1, 1) := by decide +kernel
theorem dX9_work_78 : decode cX9_work 78 = .ok (.goto 4, 3) := by decide +kernel
theorem dX9_work_81 : decode cX9_work 81 = .ok (.iconst 0, 1) := by decide +kernel
theorem dX9_work_82 : decode cX9_work 82 = .ok (.istore 5, 2) := by decide +kernel
theorem dX9_work_84 : decode cX9_work 84 = .ok (.iload 5, 2) := by decide +kernel
theorem dX9_work_86 : decode cX9_work 86 = .ok (.ifCond .eq 114, 3) := by decide +kernel
theorem dX9_work_89 : decode cX9_work 89 = .ok (.aload_n 0, 1) := by decide +kernel
theorem dX9_work_90 : decode cX9_work 90 = .ok (.iload_n 1, 1) := by decide +kernel
theorem dX9_work_91 : decode cX9_work 91 = .ok (.aload_n 0, 1) := by decide +kernel
theorem dX9_work_92 : decode cX9_work 92 = .ok (.getfield 65, 3) := by decide +kernel
theorem dX9_work_95 : decode cX9_work 95 = .ok (.iload_n 1, 1) := by decide +kernel
theorem dX9_work_96 : decode cX9_work 96 = .ok (.iaload, 1) := by decide +kernel
theorem dX9_work_97 : decode cX9_work 97 = .ok (.invokevirtual 124, 3) := by decide +kernel
theorem dX9_work_100 : decode cX9_work 100 = .ok (.ifCond .eq 7, 3) := by decide +kernel
theorem dX9_work_103 : decode cX9_work 103 = .ok (.iconst (-1), 1) := by decide +kernel
theorem dX9_work_104 : decode cX9_work 104 = .ok (.goto 9, 3) := by decide +kernel
theorem dX9_work_107 : decode cX9_work 107 = .ok (.aload_n 0, 1) := by decide +kernel
theorem dX9_work_108 : decode cX9_work 108 = .ok (.getfield 37, 3) := by decide +kernel
theorem dX9_work_111 : decode cX9_work 111 = .ok (.iload_n 1, 1) := by decide +kernel
theorem dX9_work_112 : decode cX9_work 112 = .ok (.iaload, 1) := by decide +kernel
theorem dX9_work_113 : decode cX9_work 113 = .ok (.istore 7, 2) := by decide +kernel
theorem dX9_work_115 : decode cX9_work 115 = .ok (.aload_n 0, 1) := by decide +kernel
theorem dX9_work_116 : decode cX9_work 116 = .ok (.getfield 46, 3) := by decide +kernel
theorem dX9_work_119 : decode cX9_work 119 = .ok (.iload_n 1, 1) := by decide +kernel
theorem dX9_work_120 : decode cX9_work 120 = .ok (.iload 7, 2) := by decide +kernel
theorem dX9_work_122 : decode cX9_work 122 = .ok (.iconst 1, 1) := by decide +kernel
theorem dX9_work_123 : decode cX9_work 123 = .ok (.if_icmp .ne 7, 3) := by decide +kernel
theorem dX9_work_126 : decode cX9_work 126 = .ok (.iconst 1, 1) := by decide +kernel
theorem dX9_work_127 : decode cX9_work 127 = .ok (.goto 4, 3) := by decide +kernel
theorem dX9_work_130 : decode cX9_work 130 = .ok (.iconst 0, 1) := by decide +kernel
theorem dX9_work_131 : decode cX9_work 131 = .ok (.bastore, 1) := by decide +kernel
theorem dX9_work_132 : decode cX9_work 132 = .ok (.iload 7, 2) := by decide +kernel
theorem dX9_work_134 : decode cX9_work 134 = .ok (.iconst 1, 1) := by decide +kernel
theorem dX9_work_135 : decode cX9_work 135 = .ok (.if_icmp .eq 7, 3) := by decide +kernel
theorem dX9_work_138 : decode cX9_work 138 = .ok (.iconst 1, 1) := by decide +kernel
theorem dX9_work_139 : decode cX9_work 139 = .ok (.goto 4, 3) := by decide +kernel
theorem dX9_work_142 : decode cX9_work 142 = .ok (.iconst 0, 1) := by decide +kernel
theorem dX9_work_143 : decode cX9_work 143 = .ok (.istore 5, 2) := by decide +kernel
theorem dX9_work_145 : decode cX9_work 145 = .ok (.aload_n 0, 1) := by decide +kernel
theorem dX9_work_146 : decode cX9_work 146 = .ok (.getfield 53, 3) := by decide +kernel
theorem dX9_work_149 : decode cX9_work 149 = .ok (.iload_n 1, 1) := by decide +kernel
theorem dX9_work_150 : decode cX9_work 150 = .ok (.dup2, 1) := by decide +kernel
theorem dX9_work_151 : decode cX9_work 151 = .ok (.iaload, 1) := by decide +kernel
theorem dX9_work_152 : decode cX9_work 152 = .ok (.iload 7, 2) := by decide +kernel
theorem dX9_work_154 : decode cX9_work 154 = .ok (.ifCond .ne 7, 3) := by decide +kernel
theorem dX9_work_157 : decode cX9_work 157 = .ok (.iconst 1, 1) := by decide +kernel
theorem dX9_work_158 : decode cX9_work 158 = .ok (.goto 4, 3) := by decide +kernel
theorem dX9_work_161 : decode cX9_work 161 = .ok (.iconst 0, 1) := by decide +kernel
theorem dX9_work_162 : decode cX9_work 162 = .ok (.iadd, 1) := by decide +kernel
theorem dX9_work_163 : decode cX9_work 163 = .ok (.iastore, 1) := by decide +kernel
theorem dX9_work_164 : decode cX9_work 164 = .ok (.iload 4, 2) := by decide +kernel
theorem dX9_work_166 : decode cX9_work 166 = .ok (.iload 5, 2) := by decide +kernel
theorem dX9_work_168 : decode cX9_work 168 = .ok (.ifCond .eq 7, 3) := by decide +kernel
theorem dX9_work_171 : decode cX9_work 171 = .ok (.iconst 1, 1) := by decide +kernel
theorem dX9_work_172 : decode cX9_work 172 = .ok (.goto 4, 3) := by decide +kernel
theorem dX9_work_175 : decode cX9_work 175 = .ok (.iconst 0, 1) := by decide +kernel
theorem dX9_work_176 : decode cX9_work 176 = .ok (.iadd, 1) := by decide +kernel
theorem dX9_work_177 : decode cX9_work 177 = .ok (.istore 4, 2) := by decide +kernel
theorem dX9_work_179 : decode cX9_work 179 = .ok (.aload_n 0, 1) := by decide +kernel
theorem dX9_work_180 : decode cX9_work 180 = .ok (.getfield 65, 3) := by decide +kernel
theorem dX9_work_183 : decode cX9_work 183 = .ok (.iload_n 1, 1) := by decide +kernel
theorem dX9_work_184 : decode cX9_work 184 = .ok (.iload 5, 2) := by decide +kernel
theorem dX9_work_186 : decode cX9_work 186 = .ok (.ifCond .eq 7, 3) := by decide +kernel
theorem dX9_work_189 : decode cX9_work 189 = .ok (.iconst (-1), 1) := by decide +kernel
theorem dX9_work_190 : decode cX9_work 190 = .ok (.goto 9, 3) := by decide +kernel
theorem dX9_work_193 : decode cX9_work 193 = .ok (.aload_n 0, 1) := by decide +kernel
theorem dX9_work_194 : decode cX9_work 194 = .ok (.getfield 65, 3) := by decide +kernel
theorem dX9_work_197 : decode cX9_work 197 = .ok (.iload_n 1, 1) := by decide +kernel
theorem dX9_work_198 : decode cX9_work 198 = .ok (.iaload, 1) := by decide +kernel
theorem dX9_work_199 : decode cX9_work 199 = .ok (.iastore, 1) := by decide +kernel
theorem dX9_work_200 : decode cX9_work 200 = .ok (.iinc 6 1, 3) := by decide +kernel
theorem dX9_work_203 : decode cX9_work 203 = .ok (.goto (-188), 3) := by decide +kernel
theorem dX9_work_206 : decode cX9_work 206 = .ok (.iload 4, 2) := by decide +kernel
theorem dX9_work_208 : decode cX9_work 208 = .ok (.ireturn, 1) := by decide +kernel
theorem dX9_none_0 : decode cX9_none 0 = .ok (.iload_n 1, 1) := by decide +kernel
theorem dX9_none_1 : decode cX9_none 1 = .ok (.iconst 0, 1) := by decide +kernel
theorem dX9_none_2 : decode cX9_none 2 = .ok (.aload_n 0, 1) := by decide +kernel
theorem dX9_none_3 : decode cX9_none 3 = .ok (.getfield 94, 3) := by decide +kernel
theorem dX9_none_6 : decode cX9_none 6 = .ok (.iconst 1, 1) := by decide +kernel
theorem dX9_none_7 : decode cX9_none 7 = .ok (.isub, 1) := by decide +kernel
theorem dX9_none_8 : decode cX9_none 8 = .ok (.invokestatic 97, 3) := by decide +kernel
theorem dX9_none_11 : decode cX9_none 11 = .ok (.ifCond .ne 7, 3) := by decide +kernel
theorem dX9_none_14 : decode cX9_none 14 = .ok (.iconst 1, 1) := by decide +kernel
theorem dX9_none_15 : decode cX9_none 15 = .ok (.goto 4, 3) := by decide +kernel
theorem dX9_none_18 : decode cX9_none 18 = .ok (.iconst 0, 1) := by decide +kernel
theorem dX9_none_19 : decode cX9_none 19 = .ok (.ireturn, 1) := by decide +kernel
theorem dX9_run_0 : decode cX9_run 0 = .ok (.aload_n 0, 1) := by decide +kernel
theorem dX9_run_1 : decode cX9_run 1 = .ok (.iconst 0, 1) := by decide +kernel
theorem dX9_run_2 : decode cX9_run 2 = .ok (.putfield 91, 3) := by decide +kernel
theorem dX9_run_5 : decode cX9_run 5 = .ok (.aload_n 0, 1) := by decide +kernel
theorem dX9_run_6 : decode cX9_run 6 = .ok (.iload_n 1, 1) := by decide +kernel
theorem dX9_run_7 : decode cX9_run 7 = .ok (.invokevirtual 132, 3) := by decide +kernel
theorem dX9_run_10 : decode cX9_run 10 = .ok (.ifCond .ne 13, 3) := by decide +kernel
theorem dX9_run_13 : decode cX9_run 13 = .ok (.iload_n 2, 1) := by decide +kernel
theorem dX9_run_14 : decode cX9_run 14 = .ok (.iconst 1, 1) := by decide +kernel
theorem dX9_run_15 : decode cX9_run 15 = .ok (.bipush 20, 2) := by decide +kernel
theorem dX9_run_17 : decode cX9_run 17 = .ok (.invokestatic 97, 3) := by decide +kernel
theorem dX9_run_20 : decode cX9_run 20 = .ok (.ifCond .ne 9, 3) := by decide +kernel
theorem dX9_run_23 : decode cX9_run 23 = .ok (.aload_n 0, 1) := by decide +kernel
theorem dX9_run_24 : decode cX9_run 24 = .ok (.iconst 1, 1) := by decide +kernel
theorem dX9_run_25 : decode cX9_run 25 = .ok (.invokevirtual 105, 3) := by decide +kernel
theorem dX9_run_28 : decode cX9_run 28 = .ok (.ireturn, 1) := by decide +kernel
theorem dX9_run_29 : decode cX9_run 29 = .ok (.aload_n 0, 1) := by decide +kernel
theorem dX9_run_30 : decode cX9_run 30 = .ok (.getfield 46, 3) := by decide +kernel
theorem dX9_run_33 : decode cX9_run 33 = .ok (.iload_n 1, 1) := by decide +kernel
theorem dX9_run_34 : decode cX9_run 34 = .ok (.baload, 1) := by decide +kernel
theorem dX9_run_35 : decode cX9_run 35 = .ok (.ifCond .eq 9, 3) := by decide +kernel
theorem dX9_run_38 : decode cX9_run 38 = .ok (.aload_n 0, 1) := by decide +kernel
theorem dX9_run_39 : decode cX9_run 39 = .ok (.iconst 2, 1) := by decide +kernel
theorem dX9_run_40 : decode cX9_run 40 = .ok (.invokevirtual 105, 3) := by decide +kernel
theorem dX9_run_43 : decode cX9_run 43 = .ok (.ireturn, 1) := by decide +kernel
theorem dX9_run_44 : decode cX9_run 44 = .ok (.aload_n 0, 1) := by decide +kernel
theorem dX9_run_45 : decode cX9_run 45 = .ok (.getfield 40, 3) := by decide +kernel
theorem dX9_run_48 : decode cX9_run 48 = .ok (.iload_n 1, 1) := by decide +kernel
theorem dX9_run_49 : decode cX9_run 49 = .ok (.iaload, 1) := by decide +kernel
theorem dX9_run_50 : decode cX9_run 50 = .ok (.ifCond .ge 12, 3) := by decide +kernel
theorem dX9_run_53 : decode cX9_run 53 = .ok (.aload_n 0, 1) := by decide +kernel
theorem dX9_run_54 : decode cX9_run 54 = .ok (.iload_n 1, 1) := by decide +kernel
theorem dX9_run_55 : decode cX9_run 55 = .ok (.iload_n 2, 1) := by decide +kernel
theorem dX9_run_56 : decode cX9_run 56 = .ok (.invokevirtual 136, 3) := by decide +kernel
theorem dX9_run_59 : decode cX9_run 59 = .ok (.goto 9, 3) := by decide +kernel
theorem dX9_run_62 : decode cX9_run 62 = .ok (.aload_n 0, 1) := by decide +kernel
theorem dX9_run_63 : decode cX9_run 63 = .ok (.iload_n 1, 1) := by decide +kernel
theorem dX9_run_64 : decode cX9_run 64 = .ok (.iload_n 2, 1) := by decide +kernel
theorem dX9_run_65 : decode cX9_run 65 = .ok (.invokevirtual 139, 3) := by decide +kernel
theorem dX9_run_68 : decode cX9_run 68 = .ok (.ireturn, 1) := by decide +kernel
theorem dX9_place_0 : decode cX9_place 0 = .ok (.aload_n 0, 1) := by decide +kernel
theorem dX9_place_1 : decode cX9_place 1 = .ok (.iconst 0, 1) := by decide +kernel
theorem dX9_place_2 : decode cX9_place 2 = .ok (.putfield 91, 3) := by decide +kernel
theorem dX9_place_5 : decode cX9_place 5 = .ok (.aload_n 0, 1) := by decide +kernel
theorem dX9_place_6 : decode cX9_place 6 = .ok (.iload_n 1, 1) := by decide +kernel
theorem dX9_place_7 : decode cX9_place 7 = .ok (.invokevirtual 132, 3) := by decide +kernel
theorem dX9_place_10 : decode cX9_place 10 = .ok (.ifCond .eq 12, 3) := by decide +kernel
theorem dX9_place_13 : decode cX9_place 13 = .ok (.aload_n 0, 1) := by decide +kernel
theorem dX9_place_14 : decode cX9_place 14 = .ok (.iconst 1, 1) := by decide +kernel
theorem dX9_place_15 : decode cX9_place 15 = .ok (.invokevirtual 105, 3) := by decide +kernel
theorem dX9_place_18 : decode cX9_place 18 = .ok (.i2l, 1) := by decide +kernel
theorem dX9_place_19 : decode cX9_place 19 = .ok (.goto 9, 3) := by decide +kernel
theorem dX9_place_22 : decode cX9_place 22 = .ok (.aload_n 0, 1) := by decide +kernel
theorem dX9_place_23 : decode cX9_place 23 = .ok (.iload_n 1, 1) := by decide +kernel
theorem dX9_place_24 : decode cX9_place 24 = .ok (.invokevirtual 108, 3) := by decide +kernel
theorem dX9_place_27 : decode cX9_place 27 = .ok (.i2l, 1) := by decide +kernel
theorem dX9_place_28 : decode cX9_place 28 = .ok (.lreturn, 1) := by decide +kernel
theorem dX9_total_0 : decode cX9_total 0 = .ok (.aload_n 0, 1) := by decide +kernel
theorem dX9_total_1 : decode cX9_total 1 = .ok (.iconst 0, 1) := by decide +kernel
theorem dX9_total_2 : decode cX9_total 2 = .ok (.putfield 91, 3) := by decide +kernel
theorem dX9_total_5 : decode cX9_total 5 = .ok (.aload_n 0, 1) := by decide +kernel
theorem dX9_total_6 : decode cX9_total 6 = .ok (.iload_n 1, 1) := by decide +kernel
theorem dX9_total_7 : decode cX9_total 7 = .ok (.invokevirtual 132, 3) := by decide +kernel
theorem dX9_total_10 : decode cX9_total 10 = .ok (.ifCond .eq 10, 3) := by decide +kernel
theorem dX9_total_13 : decode cX9_total 13 = .ok (.aload_n 0, 1) := by decide +kernel
theorem dX9_total_14 : decode cX9_total 14 = .ok (.iconst 1, 1) := by decide +kernel
theorem dX9_total_15 : decode cX9_total 15 = .ok (.invokevirtual 105, 3) := by decide +kernel
theorem dX9_total_18 : decode cX9_total 18 = .ok (.i2l, 1) := by decide +kernel
theorem dX9_total_19 : decode cX9_total 19 = .ok (.lreturn, 1) := by decide +kernel
theorem dX9_total_20 : decode cX9_total 20 = .ok (.aload_n 0, 1) := by decide +kernel
theorem dX9_total_21 : decode cX9_total 21 = .ok (.getfield 31, 3) := by decide +kernel
theorem dX9_total_24 : decode cX9_total 24 = .ok (.iload_n 1, 1) := by decide +kernel
theorem dX9_total_25 : decode cX9_total 25 = .ok (.iaload, 1) := by decide +kernel
theorem dX9_total_26 : decode cX9_total 26 = .ok (.ifCond .ne 12, 3) := by decide +kernel
theorem dX9_total_29 : decode cX9_total 29 = .ok (.aload_n 0, 1) := by decide +kernel
theorem dX9_total_30 : decode cX9_total 30 = .ok (.getfield 71, 3) := by decide +kernel
theorem dX9_total_33 : decode cX9_total 33 = .ok (.iload_n 1, 1) := by decide +kernel
theorem dX9_total_34 : decode cX9_total 34 = .ok (.laload, 1) := by decide +kernel
theorem dX9_total_35 : decode cX9_total 35 = .ok (.goto 24, 3) := by decide +kernel
theorem dX9_total_38 : decode cX9_total 38 = .ok (.aload_n 0, 1) := by decide +kernel
theorem dX9_total_39 : decode cX9_total 39 = .ok (.getfield 31, 3) := by decide +kernel
theorem dX9_total_42 : decode cX9_total 42 = .ok (.iload_n 1, 1) := by decide +kernel
theorem dX9_total_43 : decode cX9_total 43 = .ok (.iaload, 1) := by decide +kernel
theorem dX9_total_44 : decode cX9_total 44 = .ok (.iconst 3, 1) := by decide +kernel
theorem dX9_total_45 : decode cX9_total 45 = .ok (.if_icmp .ne 13, 3) := by decide +kernel
theorem dX9_total_48 : decode cX9_total 48 = .ok (.aload_n 0, 1) := by decide +kernel
theorem dX9_total_49 : decode cX9_total 49 = .ok (.getfield 82, 3) := by decide +kernel
theorem dX9_total_52 : decode cX9_total 52 = .ok (.iload_n 1, 1) := by decide +kernel
theorem dX9_total_53 : decode cX9_total 53 = .ok (.iaload, 1) := by decide +kernel
theorem dX9_total_54 : decode cX9_total 54 = .ok (.i2l, 1) := by decide +kernel
theorem dX9_total_55 : decode cX9_total 55 = .ok (.goto 4, 3) := by decide +kernel
theorem dX9_total_58 : decode cX9_total 58 = .ok (.lconst 0, 1) := by decide +kernel
theorem dX9_total_59 : decode cX9_total 59 = .ok (.lreturn, 1) := by decide +kernel
theorem dX9_level_0 : decode cX9_level 0 = .ok (.aload_n 0, 1) := by decide +kernel
theorem dX9_level_1 : decode cX9_level 1 = .ok (.iconst 0, 1) := by decide +kernel
theorem dX9_level_2 : decode cX9_level 2 = .ok (.putfield 91, 3) := by decide +kernel
theorem dX9_level_5 : decode cX9_level 5 = .ok (.aload_n 0, 1) := by decide +kernel
theorem dX9_level_6 : decode cX9_level 6 = .ok (.iload_n 1, 1) := by decide +kernel
theorem dX9_level_7 : decode cX9_level 7 = .ok (.invokevirtual 132, 3) := by decide +kernel
theorem dX9_level_10 : decode cX9_level 10 = .ok (.ifCond .ne 13, 3) := by decide +kernel
theorem dX9_level_13 : decode cX9_level 13 = .ok (.aload_n 0, 1) := by decide +kernel
theorem dX9_level_14 : decode cX9_level 14 = .ok (.getfield 31, 3) := by decide +kernel
theorem dX9_level_17 : decode cX9_level 17 = .ok (.iload_n 1, 1) := by decide +kernel
theorem dX9_level_18 : decode cX9_level 18 = .ok (.iaload, 1) := by decide +kernel
theorem dX9_level_19 : decode cX9_level 19 = .ok (.iconst 1, 1) := by decide +kernel
theorem dX9_level_20 : decode cX9_level 20 = .ok (.if_icmp .eq 12, 3) := by decide +kernel
theorem dX9_level_23 : decode cX9_level 23 = .ok (.aload_n 0, 1) := by decide +kernel
theorem dX9_level_24 : decode cX9_level 24 = .ok (.iconst 1, 1) := by decide +kernel
theorem dX9_level_25 : decode cX9_level 25 = .ok (.invokevirtual 105, 3) := by decide +kernel
theorem dX9_level_28 : decode cX9_level 28 = .ok (.i2f, 1) := by decide +kernel
theorem dX9_level_29 : decode cX9_level 29 = .ok (.goto 9, 3) := by decide +kernel
theorem dX9_level_32 : decode cX9_level 32 = .ok (.aload_n 0, 1) := by decide +kernel
theorem dX9_level_33 : decode cX9_level 33 = .ok (.getfield 74, 3) := by decide +kernel
theorem dX9_level_36 : decode cX9_level 36 = .ok (.iload_n 1, 1) := by decide +kernel
theorem dX9_level_37 : decode cX9_level 37 = .ok (.faload, 1) := by decide +kernel
theorem dX9_level_38 : decode cX9_level 38 = .ok (.freturn, 1) := by decide +kernel
theorem dX9_mean_0 : decode cX9_mean 0 = .ok (.aload_n 0, 1) := by decide +kernel
theorem dX9_mean_1 : decode cX9_mean 1 = .ok (.iconst 0, 1) := by decide +kernel
theorem dX9_mean_2 : decode cX9_mean 2 = .ok (.putfield 91, 3) := by decide +kernel
theorem dX9_mean_5 : decode cX9_mean 5 = .ok (.aload_n 0, 1) := by decide +kernel
theorem dX9_mean_6 : decode cX9_mean 6 = .ok (.iload_n 1, 1) := by decide +kernel
theorem dX9_mean_7 : decode cX9_mean 7 = .ok (.invokevirtual 132, 3) := by decide +kernel
theorem dX9_mean_10 : decode cX9_mean 10 = .ok (.ifCond .ne 13, 3) := by decide +kernel
theorem dX9_mean_13 : decode cX9_mean 13 = .ok (.aload_n 0, 1) := by decide +kernel
theorem dX9_mean_14 : decode cX9_mean 14 = .ok (.getfield 31, 3) := by decide +kernel
theorem dX9_mean_17 : decode cX9_mean 17 = .ok (.iload_n 1, 1) := by decide +kernel
theorem dX9_mean_18 : decode cX9_mean 18 = .ok (.iaload, 1) := by decide +kernel
theorem dX9_mean_19 : decode cX9_mean 19 = .ok (.iconst 2, 1) := by decide +kernel
theorem dX9_mean_20 : decode cX9_mean 20 = .ok (.if_icmp .eq 12, 3) := by decide +kernel
theorem dX9_mean_23 : decode cX9_mean 23 = .ok (.aload_n 0, 1) := by decide +kernel
theorem dX9_mean_24 : decode cX9_mean 24 = .ok (.iconst 1, 1) := by decide +kernel
theorem dX9_mean_25 : decode cX9_mean 25 = .ok (.invokevirtual 105, 3) := by decide +kernel
theorem dX9_mean_28 : decode cX9_mean 28 = .ok (.i2d, 1) := by decide +kernel
theorem dX9_mean_29 : decode cX9_mean 29 = .ok (.goto 9, 3) := by decide +kernel
theorem dX9_mean_32 : decode cX9_mean 32 = .ok (.aload_n 0, 1) := by decide +kernel
theorem dX9_mean_33 : decode cX9_mean 33 = .ok (.getfield 78, 3) := by decide +kernel
theorem dX9_mean_36 : decode cX9_mean 36 = .ok (.iload_n 1, 1) := by decide +kernel
theorem dX9_mean_37 : decode cX9_mean 37 = .ok (.daload, 1) := by decide +kernel
theorem dX9_mean_38 : decode cX9_mean 38 = .ok (.dreturn, 1) := by decide +kernel
theorem dX9_noJournal_0 : decode cX9_noJournal 0 = .ok (.aload_n 0, 1) := by decide +kernel
theorem dX9_noJournal_1 : decode cX9_noJournal 1 = .ok (.iload_n 1, 1) := by decide +kernel
theorem dX9_noJournal_2 : decode cX9_noJournal 2 = .ok (.invokevirtual 132, 3) := by decide +kernel
theorem dX9_noJournal_5 : decode cX9_noJournal 5 = .ok (.ifCond .ne 13, 3) := by decide +kernel
theorem dX9_noJournal_8 : decode cX9_noJournal 8 = .ok (.aload_n 0, 1) := by decide +kernel
theorem dX9_noJournal_9 : decode cX9_noJournal 9 = .ok (.getfield 31, 3) := by decide +kernel
theorem dX9_noJournal_12 : decode cX9_noJournal 12 = .ok (.iload_n 1, 1) := by decide +kernel
theorem dX9_noJournal_13 : decode cX9_noJournal 13 = .ok (.iaload, 1) := by decide +kernel
theorem dX9_noJournal_14 : decode cX9_noJournal 14 = .ok (.iconst 3, 1) := by decide +kernel
theorem dX9_noJournal_15 : decode cX9_noJournal 15 = .ok (.if_icmp .eq 7, 3) := by decide +kernel
theorem dX9_noJournal_18 : decode cX9_noJournal 18 = .ok (.iconst 1, 1) := by decide +kernel
theorem dX9_noJournal_19 : decode cX9_noJournal 19 = .ok (.goto 4, 3) := by decide +kernel
theorem dX9_noJournal_22 : decode cX9_noJournal 22 = .ok (.iconst 0, 1) := by decide +kernel
theorem dX9_noJournal_23 : decode cX9_noJournal 23 = .ok (.ireturn, 1) := by decide +kernel
theorem dX9_octet_0 : decode cX9_octet 0 = .ok (.aload_n 0, 1) := by decide +kernel
theorem dX9_octet_1 : decode cX9_octet 1 = .ok (.iconst 0, 1) := by decide +kernel
theorem dX9_octet_2 : decode cX9_octet 2 = .ok (.putfield 91, 3) := by decide +kernel
theorem dX9_octet_5 : decode cX9_octet 5 = .ok (.aload_n 0, 1) := by decide +kernel
theorem dX9_octet_6 : decode cX9_octet 6 = .ok (.iload_n 1, 1) := by decide +kernel
theorem dX9_octet_7 : decode cX9_octet 7 = .ok (.invokevirtual 142, 3) := by decide +kernel
theorem dX9_octet_10 : decode cX9_octet 10 = .ok (.ifCond .eq 9, 3) := by decide +kernel
theorem dX9_octet_13 : decode cX9_octet 13 = .ok (.aload_n 0, 1) := by decide +kernel
theorem dX9_octet_14 : decode cX9_octet 14 = .ok (.iconst 1, 1) := by decide +kernel
theorem dX9_octet_15 : decode cX9_octet 15 = .ok (.invokevirtual 105, 3) := by decide +kernel
theorem dX9_octet_18 : decode cX9_octet 18 = .ok (.ireturn, 1) := by decide +kernel
theorem dX9_octet_19 : decode cX9_octet 19 = .ok (.iload_n 2, 1) := by decide +kernel
theorem dX9_octet_20 : decode cX9_octet 20 = .ok (.iconst 0, 1) := by decide +kernel
theorem dX9_octet_21 : decode cX9_octet 21 = .ok (.aload_n 0, 1) := by decide +kernel
theorem dX9_octet_22 : decode cX9_octet 22 = .ok (.getfield 82, 3) := by decide +kernel
theorem dX9_octet_25 : decode cX9_octet 25 = .ok (.iload_n 1, 1) := by decide +kernel
theorem dX9_octet_26 : decode cX9_octet 26 = .ok (.iaload, 1) := by decide +kernel
theorem dX9_octet_27 : decode cX9_octet 27 = .ok (.iconst 1, 1) := by decide +kernel
theorem dX9_octet_28 : decode cX9_octet 28 = .ok (.isub, 1) := by decide +kernel
theorem dX9_octet_29 : decode cX9_octet 29 = .ok (.invokestatic 97, 3) := by decide +kernel
theorem dX9_octet_32 : decode cX9_octet 32 = .ok (.ifCond .eq 18, 3) := by decide +kernel
theorem dX9_octet_35 : decode cX9_octet 35 = .ok (.aload_n 0, 1) := by decide +kernel
theorem dX9_octet_36 : decode cX9_octet 36 = .ok (.getfield 85, 3) := by decide +kernel
theorem dX9_octet_39 : decode cX9_octet 39 = .ok (.sipush 400, 3) := by decide +kernel
theorem dX9_octet_42 : decode cX9_octet 42 = .ok (.iload_n 1, 1) := by decide +kernel
theorem dX9_octet_43 : decode cX9_octet 43 = .ok (.imul, 1) := by decide +kernel
theorem dX9_octet_44 : decode cX9_octet 44 = .ok (.iload_n 2, 1) := by decide +kernel
theorem dX9_octet_45 : decode cX9_octet 45 = .ok (.iadd, 1) := by decide +kernel
theorem dX9_octet_46 : decode cX9_octet 46 = .ok (.iaload, 1) := by decide +kernel
theorem dX9_octet_47 : decode cX9_octet 47 = .ok (.goto 8, 3) := by decide +kernel
theorem dX9_octet_50 : decode cX9_octet 50 = .ok (.aload_n 0, 1) := by decide +kernel
theorem dX9_octet_51 : decode cX9_octet 51 = .ok (.iconst 2, 1) := by decide +kernel
theorem dX9_octet_52 : decode cX9_octet 52 = .ok (.invokevirtual 105, 3) := by decide +kernel
theorem dX9_octet_55 : decode cX9_octet 55 = .ok (.ireturn, 1) := by decide +kernel
theorem dX9_tear_0 : decode cX9_tear 0 = .ok (.aload_n 0, 1) := by decide +kernel
theorem dX9_tear_1 : decode cX9_tear 1 = .ok (.iconst 0, 1) := by decide +kernel
theorem dX9_tear_2 : decode cX9_tear 2 = .ok (.putfield 91, 3) := by decide +kernel
theorem dX9_tear_5 : decode cX9_tear 5 = .ok (.aload_n 0, 1) := by decide +kernel
theorem dX9_tear_6 : decode cX9_tear 6 = .ok (.iload_n 1, 1) := by decide +kernel
theorem dX9_tear_7 : decode cX9_tear 7 = .ok (.invokevirtual 142, 3) := by decide +kernel
theorem dX9_tear_10 : decode cX9_tear 10 = .ok (.ifCond .ne 17, 3) := by decide +kernel
theorem dX9_tear_13 : decode cX9_tear 13 = .ok (.iload_n 2, 1) := by decide +kernel
theorem dX9_tear_14 : decode cX9_tear 14 = .ok (.iconst 0, 1) := by decide +kernel
theorem dX9_tear_15 : decode cX9_tear 15 = .ok (.aload_n 0, 1) := by decide +kernel
theorem dX9_tear_16 : decode cX9_tear 16 = .ok (.getfield 82, 3) := by decide +kernel
theorem dX9_tear_19 : decode cX9_tear 19 = .ok (.iload_n 1, 1) := by decide +kernel
theorem dX9_tear_20 : decode cX9_tear 20 = .ok (.iaload, 1) := by decide +kernel
theorem dX9_tear_21 : decode cX9_tear 21 = .ok (.invokestatic 97, 3) := by decide +kernel
theorem dX9_tear_24 : decode cX9_tear 24 = .ok (.ifCond .ne 9, 3) := by decide +kernel
theorem dX9_tear_27 : decode cX9_tear 27 = .ok (.aload_n 0, 1) := by decide +kernel
theorem dX9_tear_28 : decode cX9_tear 28 = .ok (.iconst 1, 1) := by decide +kernel
theorem dX9_tear_29 : decode cX9_tear 29 = .ok (.invokevirtual 105, 3) := by decide +kernel
theorem dX9_tear_32 : decode cX9_tear 32 = .ok (.ireturn, 1) := by decide +kernel
theorem dX9_tear_33 : decode cX9_tear 33 = .ok (.aload_n 0, 1) := by decide +kernel
theorem dX9_tear_34 : decode cX9_tear 34 = .ok (.getfield 82, 3) := by decide +kernel
theorem dX9_tear_37 : decode cX9_tear 37 = .ok (.iload_n 1, 1) := by decide +kernel
theorem dX9_tear_38 : decode cX9_tear 38 = .ok (.dup2, 1) := by decide +kernel
theorem dX9_tear_39 : decode cX9_tear 39 = .ok (.iaload, 1) := by decide +kernel
theorem dX9_tear_40 : decode cX9_tear 40 = .ok (.iload_n 2, 1) := by decide +kernel
theorem dX9_tear_41 : decode cX9_tear 41 = .ok (.isub, 1) := by decide +kernel
theorem dX9_tear_42 : decode cX9_tear 42 = .ok (.iastore, 1) := by decide +kernel
theorem dX9_tear_43 : decode cX9_tear 43 = .ok (.aload_n 0, 1) := by decide +kernel
theorem dX9_tear_44 : decode cX9_tear 44 = .ok (.getfield 82, 3) := by decide +kernel
theorem dX9_tear_47 : decode cX9_tear 47 = .ok (.iload_n 1, 1) := by decide +kernel
theorem dX9_tear_48 : decode cX9_tear 48 = .ok (.iaload, 1) := by decide +kernel
theorem dX9_tear_49 : decode cX9_tear 49 = .ok (.ireturn, 1) := by decide +kernel
theorem dX9_whole_0 : decode cX9_whole 0 = .ok (.iconst 0, 1) := by decide +kernel
theorem dX9_whole_1 : decode cX9_whole 1 = .ok (.istore_n 2, 1) := by decide +kernel
theorem dX9_whole_2 : decode cX9_whole 2 = .ok (.iconst 0, 1) := by decide +kernel
theorem dX9_whole_3 : decode cX9_whole 3 = .ok (.istore_n 3, 1) := by decide +kernel
theorem dX9_whole_4 : decode cX9_whole 4 = .ok (.iload_n 3, 1) := by decide +kernel
theorem dX9_whole_5 : decode cX9_whole 5 = .ok (.bipush 12, 2) := by decide +kernel
theorem dX9_whole_7 : decode cX9_whole 7 = .ok (.if_icmp .ge 20, 3) := by decide +kernel
theorem dX9_whole_10 : decode cX9_whole 10 = .ok (.iload_n 2, 1) := by decide +kernel
theorem dX9_whole_11 : decode cX9_whole 11 = .ok (.aload_n 0, 1) := by decide +kernel
theorem dX9_whole_12 : decode cX9_whole 12 = .ok (.getfield 85, 3) := by decide +kernel
theorem dX9_whole_15 : decode cX9_whole 15 = .ok (.iload_n 1, 1) := by decide +kernel
theorem dX9_whole_16 : decode cX9_whole 16 = .ok (.iload_n 3, 1) := by decide +kernel
theorem dX9_whole_17 : decode cX9_whole 17 = .ok (.iadd, 1) := by decide +kernel
theorem dX9_whole_18 : decode cX9_whole 18 = .ok (.iaload, 1) := by decide +kernel
theorem dX9_whole_19 : decode cX9_whole 19 = .ok (.iadd, 1) := by decide +kernel
theorem dX9_whole_20 : decode cX9_whole 20 = .ok (.istore_n 2, 1) := by decide +kernel
theorem dX9_whole_21 : decode cX9_whole 21 = .ok (.iinc 3 1, 3) := by decide +kernel
theorem dX9_whole_24 : decode cX9_whole 24 = .ok (.goto (-20), 3) := by decide +kernel
theorem dX9_whole_27 : decode cX9_whole 27 = .ok (.aload_n 0, 1) := by decide +kernel
theorem dX9_whole_28 : decode cX9_whole 28 = .ok (.getfield 85, 3) := by decide +kernel
theorem dX9_whole_31 : decode cX9_whole 31 = .ok (.iload_n 1, 1) := by decide +kernel
theorem dX9_whole_32 : decode cX9_whole 32 = .ok (.iaload, 1) := by decide +kernel
theorem dX9_whole_33 : decode cX9_whole 33 = .ok (.bipush 13, 2) := by decide +kernel
theorem dX9_whole_35 : decode cX9_whole 35 = .ok (.if_icmp .ne 24, 3) := by decide +kernel
theorem dX9_whole_38 : decode cX9_whole 38 = .ok (.aload_n 0, 1) := by decide +kernel
theorem dX9_whole_39 : decode cX9_whole 39 = .ok (.getfield 85, 3) := by decide +kernel
theorem dX9_whole_42 : decode cX9_whole 42 = .ok (.iload_n 1, 1) := by decide +kernel
theorem dX9_whole_43 : decode cX9_whole 43 = .ok (.bipush 12, 2) := by decide +kernel
theorem dX9_whole_45 : decode cX9_whole 45 = .ok (.iadd, 1) := by decide +kernel
theorem dX9_whole_46 : decode cX9_whole 46 = .ok (.iaload, 1) := by decide +kernel
theorem dX9_whole_47 : decode cX9_whole 47 = .ok (.iload_n 2, 1) := by decide +kernel
theorem dX9_whole_48 : decode cX9_whole 48 = .ok (.sipush 256, 3) := by decide +kernel
theorem dX9_whole_51 : decode cX9_whole 51 = .ok (.irem, 1) := by decide +kernel
theorem dX9_whole_52 : decode cX9_whole 52 = .ok (.if_icmp .ne 7, 3) := by decide +kernel
theorem dX9_whole_55 : decode cX9_whole 55 = .ok (.iconst 1, 1) := by decide +kernel
theorem dX9_whole_56 : decode cX9_whole 56 = .ok (.goto 4, 3) := by decide +kernel
theorem dX9_whole_59 : decode cX9_whole 59 = .ok (.iconst 0, 1) := by decide +kernel
theorem dX9_whole_60 : decode cX9_whole 60 = .ok (.ireturn, 1) := by decide +kernel
theorem dX9_replay_0 : decode cX9_replay 0 = .ok (.aload_n 0, 1) := by decide +kernel
theorem dX9_replay_1 : decode cX9_replay 1 = .ok (.iconst 0, 1) := by decide +kernel
theorem dX9_replay_2 : decode cX9_replay 2 = .ok (.putfield 91, 3) := by decide +kernel
theorem dX9_replay_5 : decode cX9_replay 5 = .ok (.aload_n 0, 1) := by decide +kernel
theorem dX9_replay_6 : decode cX9_replay 6 = .ok (.iload_n 1, 1) := by decide +kernel
theorem dX9_replay_7 : decode cX9_replay 7 = .ok (.invokevirtual 142, 3) := by decide +kernel
theorem dX9_replay_10 : decode cX9_replay 10 = .ok (.ifCond .eq 9, 3) := by decide +kernel
theorem dX9_replay_13 : decode cX9_replay 13 = .ok (.aload_n 0, 1) := by decide +kernel
theorem dX9_replay_14 : decode cX9_replay 14 = .ok (.iconst 1, 1) := by decide +kernel
theorem dX9_replay_15 : decode cX9_replay 15 = .ok (.invokevirtual 105, 3) := by decide +kernel
theorem dX9_replay_18 : decode cX9_replay 18 = .ok (.ireturn, 1) := by decide +kernel
theorem dX9_replay_19 : decode cX9_replay 19 = .ok (.aload_n 0, 1) := by decide +kernel
theorem dX9_replay_20 : decode cX9_replay 20 = .ok (.lconst 0, 1) := by decide +kernel
theorem dX9_replay_21 : decode cX9_replay 21 = .ok (.putfield 145, 3) := by decide +kernel
theorem dX9_replay_24 : decode cX9_replay 24 = .ok (.iconst 0, 1) := by decide +kernel
theorem dX9_replay_25 : decode cX9_replay 25 = .ok (.istore_n 2, 1) := by decide +kernel
theorem dX9_replay_26 : decode cX9_replay 26 = .ok (.bipush 13, 2) := by decide +kernel
theorem dX9_replay_28 : decode cX9_replay 28 = .ok (.iload_n 2, 1) := by decide +kernel
theorem dX9_replay_29 : decode cX9_replay 29 = .ok (.imul, 1) := by decide +kernel
theorem dX9_replay_30 : decode cX9_replay 30 = .ok (.bipush 13, 2) := by decide +kernel
theorem dX9_replay_32 : decode cX9_replay 32 = .ok (.iadd, 1) := by decide +kernel
theorem dX9_replay_33 : decode cX9_replay 33 = .ok (.aload_n 0, 1) := by decide +kernel
theorem dX9_replay_34 : decode cX9_replay 34 = .ok (.getfield 82, 3) := by decide +kernel
theorem dX9_replay_37 : decode cX9_replay 37 = .ok (.iload_n 1, 1) := by decide +kernel
theorem dX9_replay_38 : decode cX9_replay 38 = .ok (.iaload, 1) := by decide +kernel
theorem dX9_replay_39 : decode cX9_replay 39 = .ok (.if_icmp .gt 81, 3) := by decide +kernel
theorem dX9_replay_42 : decode cX9_replay 42 = .ok (.aload_n 0, 1) := by decide +kernel
theorem dX9_replay_43 : decode cX9_replay 43 = .ok (.sipush 400, 3) := by decide +kernel
theorem dX9_replay_46 : decode cX9_replay 46 = .ok (.iload_n 1, 1) := by decide +kernel
theorem dX9_replay_47 : decode cX9_replay 47 = .ok (.imul, 1) := by decide +kernel
theorem dX9_replay_48 : decode cX9_replay 48 = .ok (.bipush 13, 2) := by decide +kernel
theorem dX9_replay_50 : decode cX9_replay 50 = .ok (.iload_n 2, 1) := by decide +kernel
theorem dX9_replay_51 : decode cX9_replay 51 = .ok (.imul, 1) := by decide +kernel
theorem dX9_replay_52 : decode cX9_replay 52 = .ok (.iadd, 1) := by decide +kernel
theorem dX9_replay_53 : decode cX9_replay 53 = .ok (.invokevirtual 149, 3) := by decide +kernel
theorem dX9_replay_56 : decode cX9_replay 56 = .ok (.ifCond .eq 64, 3) := by decide +kernel
theorem dX9_replay_59 : decode cX9_replay 59 = .ok (.lconst 0, 1) := by decide +kernel
theorem dX9_replay_60 : decode cX9_replay 60 = .ok (.lstore_n 3, 1) := by decide +kernel
theorem dX9_replay_61 : decode cX9_replay 61 = .ok (.iconst 0, 1) := by decide +kernel
theorem dX9_replay_62 : decode cX9_replay 62 = .ok (.istore 5, 2) := by decide +kernel
theorem dX9_replay_64 : decode cX9_replay 64 = .ok (.iload 5, 2) := by decide +kernel
theorem dX9_replay_66 : decode cX9_replay 66 = .ok (.bipush 8, 2) := by decide +kernel
theorem dX9_replay_68 : decode cX9_replay 68 = .ok (.if_icmp .ge 36, 3) := by decide +kernel
theorem dX9_replay_71 : decode cX9_replay 71 = .ok (.lload_n 3, 1) := by decide +kernel
theorem dX9_replay_72 : decode cX9_replay 72 = .ok (.bipush 8, 2) := by decide +kernel
theorem dX9_replay_74 : decode cX9_replay 74 = .ok (.lshl, 1) := by decide +kernel
theorem dX9_replay_75 : decode cX9_replay 75 = .ok (.aload_n 0, 1) := by decide +kernel
theorem dX9_replay_76 : decode cX9_replay 76 = .ok (.getfield 85, 3) := by decide +kernel
theorem dX9_replay_79 : decode cX9_replay 79 = .ok (.sipush 400, 3) := by decide +kernel
theorem dX9_replay_82 : decode cX9_replay 82 = .ok (.iload_n 1, 1) := by decide +kernel
theorem dX9_replay_83 : decode cX9_replay 83 = .ok (.imul, 1) := by decide +kernel
theorem dX9_replay_84 : decode cX9_replay 84 = .ok (.bipush 13, 2) := by decide +kernel
theorem dX9_replay_86 : decode cX9_replay 86 = .ok (.iload_n 2, 1) := by decide +kernel
theorem dX9_replay_87 : decode cX9_replay 87 = .ok (.imul, 1) := by decide +kernel
theorem dX9_replay_88 : decode cX9_replay 88 = .ok (.iadd, 1) := by decide +kernel
theorem dX9_replay_89 : decode cX9_replay 89 = .ok (.iconst 3, 1) := by decide +kernel
theorem dX9_replay_90 : decode cX9_replay 90 = .ok (.iadd, 1) := by decide +kernel
theorem dX9_replay_91 : decode cX9_replay 91 = .ok (.iload 5, 2) := by decide +kernel
theorem dX9_replay_93 : decode cX9_replay 93 = .ok (.iadd, 1) := by decide +kernel
theorem dX9_replay_94 : decode cX9_replay 94 = .ok (.iaload, 1) := by decide +kernel
theorem dX9_replay_95 : decode cX9_replay 95 = .ok (.i2l, 1) := by decide +kernel
theorem dX9_replay_96 : decode cX9_replay 96 = .ok (.lor, 1) := by decide +kernel
theorem dX9_replay_97 : decode cX9_replay 97 = .ok (.lstore_n 3, 1) := by decide +kernel
theorem dX9_replay_98 : decode cX9_replay 98 = .ok (.iinc 5 1, 3) := by decide +kernel
theorem dX9_replay_101 : decode cX9_replay 101 = .ok (.goto (-37), 3) := by decide +kernel
theorem dX9_replay_104 : decode cX9_replay 104 = .ok (.aload_n 0, 1) := by decide +kernel
theorem dX9_replay_105 : decode cX9_replay 105 = .ok (.aload_n 0, 1) := by decide +kernel
theorem dX9_replay_106 : decode cX9_replay 106 = .ok (.getfield 145, 3) := by decide +kernel
theorem dX9_replay_109 : decode cX9_replay 109 = .ok (.lload_n 3, 1) := by decide +kernel
theorem dX9_replay_110 : decode cX9_replay 110 = .ok (.ladd, 1) := by decide +kernel
theorem dX9_replay_111 : decode cX9_replay 111 = .ok (.putfield 145, 3) := by decide +kernel
theorem dX9_replay_114 : decode cX9_replay 114 = .ok (.iinc 2 1, 3) := by decide +kernel
theorem dX9_replay_117 : decode cX9_replay 117 = .ok (.goto (-91), 3) := by decide +kernel
theorem dX9_replay_120 : decode cX9_replay 120 = .ok (.iload_n 2, 1) := by decide +kernel
theorem dX9_replay_121 : decode cX9_replay 121 = .ok (.ireturn, 1) := by decide +kernel
theorem dX9_replayed_0 : decode cX9_replayed 0 = .ok (.aload_n 0, 1) := by decide +kernel
theorem dX9_replayed_1 : decode cX9_replayed 1 = .ok (.iconst 0, 1) := by decide +kernel
theorem dX9_replayed_2 : decode cX9_replayed 2 = .ok (.putfield 91, 3) := by decide +kernel
theorem dX9_replayed_5 : decode cX9_replayed 5 = .ok (.aload_n 0, 1) := by decide +kernel
theorem dX9_replayed_6 : decode cX9_replayed 6 = .ok (.getfield 145, 3) := by decide +kernel
theorem dX9_replayed_9 : decode cX9_replayed 9 = .ok (.lreturn, 1) := by decide +kernel
theorem dX9_count_0 : decode cX9_count 0 = .ok (.aload_n 0, 1) := by decide +kernel
theorem dX9_count_1 : decode cX9_count 1 = .ok (.iconst 0, 1) := by decide +kernel
theorem dX9_count_2 : decode cX9_count 2 = .ok (.putfield 91, 3) := by decide +kernel
theorem dX9_count_5 : decode cX9_count 5 = .ok (.aload_n 0, 1) := by decide +kernel
theorem dX9_count_6 : decode cX9_count 6 = .ok (.iload_n 1, 1) := by decide +kernel
theorem dX9_count_7 : decode cX9_count 7 = .ok (.invokevirtual 132, 3) := by decide +kernel
theorem dX9_count_10 : decode cX9_count 10 = .ok (.ifCond .ne 12, 3) := by decide +kernel
theorem dX9_count_13 : decode cX9_count 13 = .ok (.iload_n 2, 1) := by decide +kernel
theorem dX9_count_14 : decode cX9_count 14 = .ok (.iconst 0, 1) := by decide +kernel
theorem dX9_count_15 : decode cX9_count 15 = .ok (.iconst 3, 1) := by decide +kernel
theorem dX9_count_16 : decode cX9_count 16 = .ok (.invokestatic 97, 3) := by decide +kernel
theorem dX9_count_19 : decode cX9_count 19 = .ok (.ifCond .ne 9, 3) := by decide +kernel
theorem dX9_count_22 : decode cX9_count 22 = .ok (.aload_n 0, 1) := by decide +kernel
theorem dX9_count_23 : decode cX9_count 23 = .ok (.iconst 1, 1) := by decide +kernel
theorem dX9_count_24 : decode cX9_count 24 = .ok (.invokevirtual 105, 3) := by decide +kernel
theorem dX9_count_27 : decode cX9_count 27 = .ok (.ireturn, 1) := by decide +kernel
theorem dX9_count_28 : decode cX9_count 28 = .ok (.iload_n 2, 1) := by decide +kernel
theorem dX9_count_29 : decode cX9_count 29 = .ok (.ifCond .ne 12, 3) := by decide +kernel
theorem dX9_count_32 : decode cX9_count 32 = .ok (.aload_n 0, 1) := by decide +kernel
theorem dX9_count_33 : decode cX9_count 33 = .ok (.getfield 50, 3) := by decide +kernel
theorem dX9_count_36 : decode cX9_count 36 = .ok (.iload_n 1, 1) := by decide +kernel
theorem dX9_count_37 : decode cX9_count 37 = .ok (.iaload, 1) := by decide +kernel
theorem dX9_count_38 : decode cX9_count 38 = .ok (.goto 45, 3) := by decide +kernel
theorem dX9_count_41 : decode cX9_count 41 = .ok (.iload_n 2, 1) := by decide +kernel
theorem dX9_count_42 : decode cX9_count 42 = .ok (.iconst 1, 1) := by decide +kernel
theorem dX9_count_43 : decode cX9_count 43 = .ok (.if_icmp .ne 12, 3) := by decide +kernel
theorem dX9_count_46 : decode cX9_count 46 = .ok (.aload_n 0, 1) := by decide +kernel
theorem dX9_count_47 : decode cX9_count 47 = .ok (.getfield 53, 3) := by decide +kernel
theorem dX9_count_50 : decode cX9_count 50 = .ok (.iload_n 1, 1) := by decide +kernel
theorem dX9_count_51 : decode cX9_count 51 = .ok (.iaload, 1) := by decide +kernel
theorem dX9_count_52 : decode cX9_count 52 = .ok (.goto 31, 3) := by decide +kernel
theorem dX9_count_55 : decode cX9_count 55 = .ok (.iload_n 2, 1) := by decide +kernel
theorem dX9_count_56 : decode cX9_count 56 = .ok (.iconst 2, 1) := by decide +kernel
theorem dX9_count_57 : decode cX9_count 57 = .ok (.if_icmp .ne 12, 3) := by decide +kernel
theorem dX9_count_60 : decode cX9_count 60 = .ok (.aload_n 0, 1) := by decide +kernel
theorem dX9_count_61 : decode cX9_count 61 = .ok (.getfield 56, 3) := by decide +kernel
theorem dX9_count_64 : decode cX9_count 64 = .ok (.iload_n 1, 1) := by decide +kernel
theorem dX9_count_65 : decode cX9_count 65 = .ok (.iaload, 1) := by decide +kernel
theorem dX9_count_66 : decode cX9_count 66 = .ok (.goto 17, 3) := by decide +kernel
theorem dX9_count_69 : decode cX9_count 69 = .ok (.aload_n 0, 1) := by decide +kernel
theorem dX9_count_70 : decode cX9_count 70 = .ok (.getfield 46, 3) := by decide +kernel
theorem dX9_count_73 : decode cX9_count 73 = .ok (.iload_n 1, 1) := by decide +kernel
theorem dX9_count_74 : decode cX9_count 74 = .ok (.baload, 1) := by decide +kernel
theorem dX9_count_75 : decode cX9_count 75 = .ok (.ifCond .eq 7, 3) := by decide +kernel
theorem dX9_count_78 : decode cX9_count 78 = .ok (.iconst 1, 1) := by decide +kernel
theorem dX9_count_79 : decode cX9_count 79 = .ok (.goto 4, 3) := by decide +kernel
theorem dX9_count_82 : decode cX9_count 82 = .ok (.iconst 0, 1) := by decide +kernel
theorem dX9_count_83 : decode cX9_count 83 = .ok (.ireturn, 1) := by decide +kernel
theorem dX9_state_0 : decode cX9_state 0 = .ok (.aload_n 0, 1) := by decide +kernel
theorem dX9_state_1 : decode cX9_state 1 = .ok (.iconst 0, 1) := by decide +kernel
theorem dX9_state_2 : decode cX9_state 2 = .ok (.putfield 91, 3) := by decide +kernel
theorem dX9_state_5 : decode cX9_state 5 = .ok (.iload_n 1, 1) := by decide +kernel
theorem dX9_state_6 : decode cX9_state 6 = .ok (.iconst 0, 1) := by decide +kernel
theorem dX9_state_7 : decode cX9_state 7 = .ok (.iconst 2, 1) := by decide +kernel
theorem dX9_state_8 : decode cX9_state 8 = .ok (.invokestatic 97, 3) := by decide +kernel
theorem dX9_state_11 : decode cX9_state 11 = .ok (.ifCond .eq 14, 3) := by decide +kernel
theorem dX9_state_14 : decode cX9_state 14 = .ok (.iload_n 1, 1) := by decide +kernel
theorem dX9_state_15 : decode cX9_state 15 = .ok (.iconst 2, 1) := by decide +kernel
theorem dX9_state_16 : decode cX9_state 16 = .ok (.if_icmp .ne 16, 3) := by decide +kernel
theorem dX9_state_19 : decode cX9_state 19 = .ok (.lload_n 2, 1) := by decide +kernel
theorem dX9_state_20 : decode cX9_state 20 = .ok (.lconst 0, 1) := by decide +kernel
theorem dX9_state_21 : decode cX9_state 21 = .ok (.lcmp, 1) := by decide +kernel
theorem dX9_state_22 : decode cX9_state 22 = .ok (.ifCond .ge 10, 3) := by decide +kernel
theorem dX9_state_25 : decode cX9_state 25 = .ok (.aload_n 0, 1) := by decide +kernel
theorem dX9_state_26 : decode cX9_state 26 = .ok (.iconst 1, 1) := by decide +kernel
theorem dX9_state_27 : decode cX9_state 27 = .ok (.invokevirtual 105, 3) := by decide +kernel
theorem dX9_state_30 : decode cX9_state 30 = .ok (.i2l, 1) := by decide +kernel
theorem dX9_state_31 : decode cX9_state 31 = .ok (.lreturn, 1) := by decide +kernel
theorem dX9_state_32 : decode cX9_state 32 = .ok (.iload_n 1, 1) := by decide +kernel
theorem dX9_state_33 : decode cX9_state 33 = .ok (.ifCond .ne 11, 3) := by decide +kernel
theorem dX9_state_36 : decode cX9_state 36 = .ok (.aload_n 0, 1) := by decide +kernel
theorem dX9_state_37 : decode cX9_state 37 = .ok (.getfield 13, 3) := by decide +kernel
theorem dX9_state_40 : decode cX9_state 40 = .ok (.i2l, 1) := by decide +kernel
theorem dX9_state_41 : decode cX9_state 41 = .ok (.goto 30, 3) := by decide +kernel
theorem dX9_state_44 : decode cX9_state 44 = .ok (.iload_n 1, 1) := by decide +kernel
theorem dX9_state_45 : decode cX9_state 45 = .ok (.iconst 1, 1) := by decide +kernel
theorem dX9_state_46 : decode cX9_state 46 = .ok (.if_icmp .ne 11, 3) := by decide +kernel
theorem dX9_state_49 : decode cX9_state 49 = .ok (.aload_n 0, 1) := by decide +kernel
theorem dX9_state_50 : decode cX9_state 50 = .ok (.getfield 17, 3) := by decide +kernel
theorem dX9_state_53 : decode cX9_state 53 = .ok (.i2l, 1) := by decide +kernel
theorem dX9_state_54 : decode cX9_state 54 = .ok (.goto 17, 3) := by decide +kernel
theorem dX9_state_57 : decode cX9_state 57 = .ok (.aload_n 0, 1) := by decide +kernel
theorem dX9_state_58 : decode cX9_state 58 = .ok (.getfield 28, 3) := by decide +kernel
theorem dX9_state_61 : decode cX9_state 61 = .ok (.lload_n 2, 1) := by decide +kernel
theorem dX9_state_62 : decode cX9_state 62 = .ok (.aload_n 0, 1) := by decide +kernel
theorem dX9_state_63 : decode cX9_state 63 = .ok (.getfield 88, 3) := by decide +kernel
theorem dX9_state_66 : decode cX9_state 66 = .ok (.i2l, 1) := by decide +kernel
theorem dX9_state_67 : decode cX9_state 67 = .ok (.lrem, 1) := by decide +kernel
theorem dX9_state_68 : decode cX9_state 68 = .ok (.l2i, 1) := by decide +kernel
theorem dX9_state_69 : decode cX9_state 69 = .ok (.iaload, 1) := by decide +kernel
theorem dX9_state_70 : decode cX9_state 70 = .ok (.i2l, 1) := by decide +kernel
theorem dX9_state_71 : decode cX9_state 71 = .ok (.lreturn, 1) := by decide +kernel
end
section
/-! ===== the frame of all my contracts: one start state s0 for the whole run, one table of words, array classes by number ===== -/
def tysG (cA : Nat → ClassId) : List (ClassId × FieldType) := [(cA 0, .byte), (cA 1, .double), (cA 2, .float), (cA 3, .int), (cA 4, .long), (cA 5, .boolean), (cA 6, .object "RingPipeline$Consumer"), (cA 7, .object "RingPipeline$Pool")]
/-- the cells of the start are as they were -/
def cx_old (s0 : State) (H : Heap) : Prop := s0.heap.size ≤ H.size ∧ ∀ q : Nat, q < s0.heap.size → H[q]? = s0.heap[q]?
/-- what is fixed for the whole run: the launch without traces, every word of the Statement at the start, the classes' numbers -/
def cx_G (l : Launch) (s0 : State) (D : va_G) (cA : Nat → ClassId) : Prop := l.stackTraces = false ∧ (∃ args0 : Array Value, (∀ w ∈ lw_tbl, w.before args0 s0 = true) ∧ (Jvm.Cond.and given_1 narrow_1).before args0 s0 = true) ∧ va_K D vwCl (tysG cA) s0
/-- what a body may use from its entry on -/
def cx_C (p : Program) (l : Launch) (s : State) (m : MethodId) (args : Array Value) (meth : Method) (c : Code) (s0 : State) (D : va_G) (cA : Nat → ClassId) (cc : ByteArray) (nL : Nat) (ret : Option FieldType) (own : String) (A : Nat → Prop) : Prop :=
  p.tables.exec = Jvm.exec ∧ c.code = cc ∧ c.maxLocals = nL ∧ s.vm.findClass own = some m.cls ∧ (∀ w ∈ TB, w.before args s = true) ∧ meth.sig.returnType = ret ∧ meth.locks = false ∧ cx_G l s0 D cA ∧ s0.WarmedH s.vm ∧ cx_old s0 s.heap ∧ va_K D vwCl (tysG cA) s ∧ (∀ q, s.heap.size ≤ q → A q) ∧ (∀ q, A q → s0.heap.size ≤ q)
def cx_pre (s0 : State) (D : va_G) (wc : va_W) (sz : Nat) (U : State) : Prop := U.heap.size = sz ∧ va_P D vwCl wc U.heap ∧ va_D (fun q => s0.heap.size ≤ q) wc ∧ s0.WarmedH U.vm ∧ cx_old s0 U.heap
def cx_post (D : va_G) (A : Nat → Prop) (post : Option Value → va_W → Prop) : Array Value → State → Outcome → State → Prop := fun _ st oc t => (∃ (v : Option Value) (w1 : va_W), oc = .returned v ∧ post v w1 ∧ va_P D vwCl w1 t.heap ∧ va_D A w1) ∧ va_F A st t
/-- a method's contract: over the world wc it returns v and leaves w1, and 'post v w1' -/
def Ct (l : Launch) (s0 : State) (D : va_G) (y : MethodName) (ws : List Cond) (rm : Room) (av : List Value) (wc : va_W) (post : Option Value → va_W → Prop) : Prop :=
  ∀ sz : Nat, Met l y ws rm (va_Pc av (cx_pre s0 D wc sz)) (cx_post D (va_A wc sz) post) rm.cells rm.slots (va_A wc sz)
theorem cx_blind {s0 : State} {D : va_G} {wc : va_W} {sz : Nat} {av : List Value} : FrameBlind (va_Pc av (cx_pre s0 D wc sz)) := fun _ _ _ _ q => q
section CoreA
variable {p : Program} {l : Launch} {e : Env} {R : Room} {s : State} {m : MethodId} {args : Array Value} {below : List Frame} {meth : Method} {c : Code} {H : Heap} {locs : List Loc} {cells slots : Nat} {Q : State → Prop}
variable {s0 : State} {D : va_G} {cA : Nat → ClassId} {cc : ByteArray} {nL : Nat} {ret : Option FieldType} {own : String} {A : Nat → Prop}
variable {pc : Nat} {ls : Array Slot} {rest : List Value}
theorem cx_x (C : cx_C p l s m args meth c s0 D cA cc nL ret own A) : p.tables.exec = Jvm.exec := C.1
theorem cx_b (C : cx_C p l s m args meth c s0 D cA cc nL ret own A) : c.code = cc := C.2.1
theorem cx_ml (C : cx_C p l s m args meth c s0 D cA cc nL ret own A) : c.maxLocals = nL := C.2.2.1
theorem cx_own (C : cx_C p l s m args meth c s0 D cA cc nL ret own A) : s.vm.findClass own = some m.cls := C.2.2.2.1
theorem cx_t (C : cx_C p l s m args meth c s0 D cA cc nL ret own A) : ∀ w ∈ TB, w.before args s = true := C.2.2.2.2.1
theorem cx_r (C : cx_C p l s m args meth c s0 D cA cc nL ret own A) : meth.sig.returnType = ret := C.2.2.2.2.2.1
theorem cx_lk (C : cx_C p l s m args meth c s0 D cA cc nL ret own A) : meth.locks = false := C.2.2.2.2.2.2.1
theorem cx_g (C : cx_C p l s m args meth c s0 D cA cc nL ret own A) : cx_G l s0 D cA := C.2.2.2.2.2.2.2.1
theorem cx_w (C : cx_C p l s m args meth c s0 D cA cc nL ret own A) : s0.WarmedH s.vm := C.2.2.2.2.2.2.2.2.1
theorem cx_o (C : cx_C p l s m args meth c s0 D cA cc nL ret own A) : cx_old s0 s.heap := C.2.2.2.2.2.2.2.2.2.1
theorem cx_k (C : cx_C p l s m args meth c s0 D cA cc nL ret own A) : va_K D vwCl (tysG cA) s := C.2.2.2.2.2.2.2.2.2.2.1
theorem cx_a (C : cx_C p l s m args meth c s0 D cA cc nL ret own A) : ∀ q, s.heap.size ≤ q → A q := C.2.2.2.2.2.2.2.2.2.2.2.1
theorem cx_n (C : cx_C p l s m args meth c s0 D cA cc nL ret own A) : ∀ q, A q → s0.heap.size ≤ q := C.2.2.2.2.2.2.2.2.2.2.2.2
/-- the old cells are as they were, also behind this body's writes -/
theorem cx_oldH (C : cx_C p l s m args meth c s0 D cA cc nL ret own A) (hS : va_S A s.heap H locs) : cx_old s0 H :=
  ⟨Nat.le_trans (cx_o C).1 hS.1, fun q hq => (hS.2.1 q (Nat.lt_of_lt_of_le hq (cx_o C).1) (fun h => absurd (cx_n C q h) (Nat.not_le.mpr hq))).trans ((cx_o C).2 q hq)⟩
/-- a contract, out of the walk of its body -/
theorem Ct.of {y : MethodName} {rm : Room} {av : List Value} {wc : va_W} {post : Option Value → va_W → Prop} (hG : cx_G l s0 D cA) (hy : plainName y.cls = true) (hn : (lg_sl av).length ≤ nL)
    (body : ∀ (p : Program) (e : Env) (s : State) (m : MethodId) (below : List Frame) (meth : Method) (c : Code) (A : Nat → Prop), cx_C p l s m av.toArray meth c s0 D cA cc nL ret y.cls A → meth.name = y.name → va_P D vwCl wc s.heap → va_D A wc → va_S A s.heap s.heap [] → ∀ ls : Array Slot, lv_has ls nL (lv_args 0 av) →
      W p l e rm s m av.toArray below meth c s.heap [] 0 0 (MQ below (cx_post D A post) av.toArray s rm.cells rm.slots A) (F0 m 0 ls [])) :
    Ct l s0 D y (.code y cc nL ret :: TB) rm av wc post := by
  intro sz
  refine Met.ofW (cc := cc) (maxL := nL) (ret := ret) hy rfl ?_
  intro p e s m args below meth c s₁ B hml hv
  obtain ⟨rfl, hsz, hP, hD, hW, hO⟩ := hv
  subst hsz
  have hts := atoms_spec (ws := .code y cc nL ret :: TB) B.pre
  have hown : s.vm.findClass y.cls = some m.cls := findClass_of_methodNamed B.named
  have hl := lv_entry av hn
  rw [lg_entry_eq]
  refine body p e s m below meth c (va_A wc s.heap.size) ⟨B.exec, B.bytes, hml, hown, fun w h => hts w (List.mem_cons_of_mem _ h), B.returns, B.notSynchronized, hG, hW, hO, va_K.moved hW.alike hG.2.2, fun q h => Or.inr h, ?_⟩ (name_of_methodNamed B.named B.method).1 hP hD.self va_S.rf _ hl
  rintro q (⟨k, e9, hk⟩ | h)
  · exact hD.2 k _ hk
  · exact Nat.le_trans hO.1 h
/-! returns -/
theorem ct_fin {post : Option Value → va_W → Prop} {w1 : va_W} {v : Option Value} (hS : va_S A s.heap H locs) (hP : va_P D vwCl w1 H) (hD : va_D A w1) (hp : post v w1) (t : State) (ht : t.heap = H) : cx_post D A post args s (.returned v) t :=
  ⟨⟨v, w1, rfl, hp, by rw [ht]; exact hP, hD⟩, hS.F ht⟩
theorem ct_iret {post : Option Value → va_W → Prop} {w1 : va_W} {v : Int32} {mc ms : Nat} (C : cx_C p l s m args meth c s0 D cA cc nL (some .int) own A) (hS : va_S A s.heap H locs) (hP : va_P D vwCl w1 H) (hD : va_D A w1) (hp : post (some (.int v)) w1) (hc : cells ≤ mc) (hs : slots ≤ ms) (d : decode cc pc = .ok (.ireturn, 1)) :
    W p l e R s m args below meth c H locs cells slots (MQ below (cx_post D A post) args s mc ms A) (F0 m pc ls [.int v]) :=
  W.widen hc hs (W.iret (v := v) (cx_x C) (cx_b C) (cx_r C) (fun t ht _ => ct_fin hS hP hD hp t ht) hS.2.2 d (cx_lk C))
theorem ct_zret {post : Option Value → va_W → Prop} {w1 : va_W} {v : Int32} {mc ms : Nat} (C : cx_C p l s m args meth c s0 D cA cc nL (some .boolean) own A) (hv : narrow .boolean (.int v) = .int v) (hS : va_S A s.heap H locs) (hP : va_P D vwCl w1 H) (hD : va_D A w1) (hp : post (some (.int v)) w1) (hc : cells ≤ mc) (hs : slots ≤ ms) (d : decode cc pc = .ok (.ireturn, 1)) :
    W p l e R s m args below meth c H locs cells slots (MQ below (cx_post D A post) args s mc ms A) (F0 m pc ls [.int v]) :=
  W.widen hc hs (W.zret (v := v) (cx_x C) (cx_b C) (cx_r C) hv (fun t ht _ => ct_fin hS hP hD hp t ht) hS.2.2 d (cx_lk C))
theorem ct_lret {post : Option Value → va_W → Prop} {w1 : va_W} {v : Int64} {mc ms : Nat} (C : cx_C p l s m args meth c s0 D cA cc nL (some .long) own A) (hS : va_S A s.heap H locs) (hP : va_P D vwCl w1 H) (hD : va_D A w1) (hp : post (some (.long v)) w1) (hc : cells ≤ mc) (hs : slots ≤ ms) (d : decode cc pc = .ok (.lreturn, 1)) :
    W p l e R s m args below meth c H locs cells slots (MQ below (cx_post D A post) args s mc ms A) (F0 m pc ls [.long v]) :=
  W.widen hc hs (W.lret (v := v) (cx_x C) (cx_b C) (cx_r C) (fun t ht _ => ct_fin hS hP hD hp t ht) hS.2.2 d (cx_lk C))
theorem ct_fret {post : Option Value → va_W → Prop} {w1 : va_W} {v : UInt32} {mc ms : Nat} (C : cx_C p l s m args meth c s0 D cA cc nL (some .float) own A) (hS : va_S A s.heap H locs) (hP : va_P D vwCl w1 H) (hD : va_D A w1) (hp : post (some (.float v)) w1) (hc : cells ≤ mc) (hs : slots ≤ ms) (d : decode cc pc = .ok (.freturn, 1)) :
    W p l e R s m args below meth c H locs cells slots (MQ below (cx_post D A post) args s mc ms A) (F0 m pc ls [.float v]) :=
  W.widen hc hs (W.fret (v := v) (cx_x C) (cx_b C) (cx_r C) (fun t ht _ => ct_fin hS hP hD hp t ht) hS.2.2 d (cx_lk C))
theorem ct_dret {post : Option Value → va_W → Prop} {w1 : va_W} {v : UInt64} {mc ms : Nat} (C : cx_C p l s m args meth c s0 D cA cc nL (some .double) own A) (hS : va_S A s.heap H locs) (hP : va_P D vwCl w1 H) (hD : va_D A w1) (hp : post (some (.double v)) w1) (hc : cells ≤ mc) (hs : slots ≤ ms) (d : decode cc pc = .ok (.dreturn, 1)) :
    W p l e R s m args below meth c H locs cells slots (MQ below (cx_post D A post) args s mc ms A) (F0 m pc ls [.double v]) :=
  W.widen hc hs (W.dret (v := v) (cx_x C) (cx_b C) (cx_r C) (fun t ht _ => ct_fin hS hP hD hp t ht) hS.2.2 d (cx_lk C))
theorem ct_vret {post : Option Value → va_W → Prop} {w1 : va_W} {mc ms : Nat} (C : cx_C p l s m args meth c s0 D cA cc nL none own A) (hS : va_S A s.heap H locs) (hP : va_P D vwCl w1 H) (hD : va_D A w1) (hp : post none w1) (hc : cells ≤ mc) (hs : slots ≤ ms) (d : decode cc pc = .ok (.return_, 1)) :
    W p l e R s m args below meth c H locs cells slots (MQ below (cx_post D A post) args s mc ms A) (F0 m pc ls []) :=
  W.widen hc hs (W.vret (cx_x C) (cx_b C) (cx_r C) (fun t ht _ => ct_fin hS hP hD hp t ht) hS.2.2 d (cx_lk C))
theorem ct_aret {post : Option Value → va_W → Prop} {w1 : va_W} {n : String} {r : Option Nat} {mc ms : Nat} (C : cx_C p l s m args meth c s0 D cA cc nL (some (.object n)) own A) (hS : va_S A s.heap H locs) (hP : va_P D vwCl w1 H) (hD : va_D A w1) (hp : post (some (va_rf r)) w1) (hc : cells ≤ mc) (hs : slots ≤ ms) (d : decode cc pc = .ok (.areturn, 1)) :
    W p l e R s m args below meth c H locs cells slots (MQ below (cx_post D A post) args s mc ms A) (F0 m pc ls [va_rf r]) :=
  W.widen hc hs (W.aret (v := va_rf r) (cx_x C) (cx_b C) (cx_r C) (Or.inl ⟨n, rfl⟩) (by cases r with | none => exact Or.inl rfl | some x => exact Or.inr ⟨x, rfl⟩) (fun t ht _ => ct_fin hS hP hD hp t ht) hS.2.2 d (cx_lk C))
/-! worlds up to order -/
theorem pm_P {ws wt : va_W} (h : ws.Perm wt) (hP : va_P D vwCl ws H) : va_P D vwCl wt H := fun k q hk => by
  obtain ⟨i, hi⟩ := List.getElem?_of_mem (h.mem_iff.mpr (List.mem_of_getElem? hk))
  exact hP i q hi
theorem va_D_iff {B : Nat → Prop} {ws : va_W} : va_D B ws ↔ (ws.map Prod.fst).Nodup ∧ ∀ q ∈ ws, B q.1 := by
  constructor
  · intro h
    refine ⟨?_, fun q hq => ?_⟩
    · rw [List.nodup_iff_pairwise_ne, List.pairwise_iff_getElem]
      intro i j hi hj hij he
      simp only [List.length_map] at hi hj
      simp only [List.getElem_map] at he
      have := h.1 i j _ _ (List.getElem?_eq_getElem hi) (List.getElem?_eq_getElem hj) he
      omega
    · obtain ⟨i, hi⟩ := List.getElem?_of_mem hq
      exact h.2 i q hi
  · rintro ⟨h1, h2⟩
    refine ⟨fun i j a b hi hj he => ?_, fun k q hk => h2 q (List.mem_of_getElem? hk)⟩
    obtain ⟨li, ei⟩ := List.getElem?_eq_some_iff.mp hi
    obtain ⟨lj, ej⟩ := List.getElem?_eq_some_iff.mp hj
    rw [List.nodup_iff_pairwise_ne, List.pairwise_iff_getElem] at h1
    rcases Nat.lt_trichotomy i j with h | h | h
    · exact absurd (by rw [List.getElem_map, List.getElem_map, ei, ej]; exact he) (h1 i j (by simpa using li) (by simpa using lj) h)
    · exact h
    · exact absurd (by rw [List.getElem_map, List.getElem_map, ei, ej]; exact he.symm) (h1 j i (by simpa using lj) (by simpa using li) h)
theorem pm_D {B : Nat → Prop} {ws wt : va_W} (h : ws.Perm wt) (hD : va_D B ws) : va_D B wt := by
  rw [va_D_iff] at hD ⊢
  exact ⟨(h.map Prod.fst).nodup_iff.mp hD.1, fun q hq => hD.2 q (h.mem_iff.mpr hq)⟩
theorem va_A_mem {wc : va_W} {sz q : Nat} : va_A wc sz q ↔ (∃ e, (q, e) ∈ wc) ∨ sz ≤ q := by
  constructor
  · rintro (⟨k, e, h⟩ | h)
    · exact Or.inl ⟨e, List.mem_of_getElem? h⟩
    · exact Or.inr h
  · rintro (⟨e, h⟩ | h)
    · obtain ⟨i, hi⟩ := List.getElem?_of_mem h
      exact Or.inl ⟨i, e, hi⟩
    · exact Or.inr h
/-- the frame rule: the rest stays beside what came back -/
theorem fr_join {ws wc wr w1 : va_W} {H1 : Heap} (hp : ws.Perm (wc ++ wr)) (hP : va_P D vwCl ws H) (hD : va_D A ws) (hF : ∀ q, va_A wc H.size q → A q) (hk : ∀ q : Nat, q < H.size → ¬ va_A wc H.size q → H1[q]? = H[q]?) (hP1 : va_P D vwCl w1 H1) (hD1 : va_D (va_A wc H.size) w1) :
    va_P D vwCl (w1 ++ wr) H1 ∧ va_D A (w1 ++ wr) := by
  have hP2 := pm_P hp hP
  have hD2 := pm_D hp hD
  have hlt : ∀ q ∈ wr, q.1 < H.size := fun q hq => by
    obtain ⟨i, hi⟩ := List.getElem?_of_mem (List.mem_append_right wc hq)
    exact (hP2 i q hi).lt
  have hno : ∀ q ∈ wr, ¬ va_A wc H.size q.1 := fun q hq h => by
    rcases va_A_mem.mp h with ⟨e9, h9⟩ | h9
    · have hn := (va_D_iff.mp hD2).1
      rw [List.map_append, List.nodup_append] at hn
      exact hn.2.2 q.1 (List.mem_map.mpr ⟨_, h9, rfl⟩) q.1 (List.mem_map.mpr ⟨_, hq, rfl⟩) rfl
    · exact absurd (hlt q hq) (Nat.not_lt.mpr h9)
  have hPr : va_P D vwCl wr H1 := fun k q hq => by
    have hm := List.mem_of_getElem? hq
    obtain ⟨i, hi⟩ := List.getElem?_of_mem (List.mem_append_right wc hm)
    exact (hP2 i q hi).kept (hk q.1 (hlt q hm) (hno q hm))
  refine ⟨hP1.app hPr, ?_⟩
  rw [va_D_iff] at hD2 hD1 ⊢
  rw [List.map_append, List.nodup_append] at hD2 ⊢
  refine ⟨⟨hD1.1, hD2.1.2.1, fun a ha b hb he => ?_⟩, fun q hq => ?_⟩
  · obtain ⟨x, hx, rfl⟩ := List.mem_map.mp ha
    obtain ⟨z, hz, rfl⟩ := List.mem_map.mp hb
    exact hno z hz (he ▸ hD1.2 x hx)
  · rcases List.mem_append.mp hq with h | h
    · exact hF _ (hD1.2 q h)
    · exact hD2.2 q (List.mem_append_right _ h)
theorem fr_free {ws wc wr : va_W} (C : cx_C p l s m args meth c s0 D cA cc nL ret own A) (hp : ws.Perm (wc ++ wr)) (hD : va_D A ws) (hS : va_S A s.heap H locs) : ∀ q, va_A wc H.size q → A q := fun q h => by
  rcases va_A_mem.mp h with ⟨e9, h9⟩ | h9
  · exact (va_D_iff.mp hD).2 (q, e9) (hp.mem_iff.mpr (List.mem_append_left _ h9))
  · exact cx_a C q (Nat.le_trans hS.1 h9)
/-- behind a call -/
theorem ct_call {post : Option Value → va_W → Prop} {ws wc wr : va_W} {mc ms : Nat} {st0 : List Value} {a : Array Value} (C : cx_C p l s m args meth c s0 D cA cc nL ret own A)
    (hr : va_Run p l e R s m args below meth c H locs cells slots mc ms (F0 m pc ls st0) rest (cx_post D (va_A wc H.size) post a) (va_A wc H.size)) (hp : ws.Perm (wc ++ wr)) (hP : va_P D vwCl ws H) (hD : va_D A ws) (hS : va_S A s.heap H locs)
    (kk : ∀ (v : Option Value) (w1 : va_W) (H1 : Heap) (locs1 : List Loc), post v w1 → va_P D vwCl (w1 ++ wr) H1 → va_D A (w1 ++ wr) → va_S A s.heap H1 locs1 → W p l e R s m args below meth c H1 locs1 (cells + mc) (slots + ms) Q (F0 m (pc + 3) ls (v.toList ++ rest))) :
    W p l e R s m args below meth c H locs cells slots Q (F0 m pc ls st0) := by
  intro T hT X
  obtain ⟨v, st₀, t, T', L, h0, X', hL, e1, -, hq, st⟩ := hr T hT X
  obtain ⟨⟨v', w1, hv, hpost, hP1, hD1⟩, hF⟩ := hq
  cases hv
  have hfree := fr_free C hp hD hS
  have hsz : H.size ≤ T'.heap.size := by rw [e1, ← h0]; exact hF.1
  have hk : ∀ q : Nat, q < H.size → ¬ va_A wc H.size q → T'.heap[q]? = H[q]? := fun q h1 h2 => by rw [e1, ← h0]; exact hF.2 q (by rw [h0]; exact h1) h2
  obtain ⟨hP2, hD2⟩ := fr_join hp hP hD hfree hk (by rw [e1]; exact hP1) hD1
  have hS2 : va_S A s.heap T'.heap (locs ++ L) := ⟨Nat.le_trans hS.1 hsz, fun q h1 h2 => (hk q (Nat.lt_of_lt_of_le h1 hS.1) (fun h => h2 (hfree q h))).trans (hS.2.1 q h1 h2), fun q hq => by
    rcases List.mem_append.mp hq with h | h
    · exact hS.2.2 q h
    · exact hfree _ (hL q h)⟩
  obtain ⟨t2, a1, b1⟩ := kk v w1 T'.heap (locs ++ L) hpost hP2 hD2 hS2 T' rfl X'
  exact ⟨t2, st t2 a1, b1⟩
end CoreA
end
section
/-! ===== calls by contract ===== -/
theorem gi_all {L : List Cond} (h : ∀ w ∈ L, w ∈ TB) : GoodIn TB L := fun w hw => ⟨h w hw, tb_good (h w hw)⟩
theorem gi_V {own C : String} {idx n : Nat} {y : MethodName} {b : ByteArray} {r : Option FieldType} (h1 : Cond.methodLink own idx y ∈ TB) (h2 : Cond.instanceMethod y ∈ TB) (h3 : Cond.selects C y y ∈ TB) (h4 : Cond.initialized C ∈ TB) (h5 : Cond.code y b n r ∈ TB) : GoodIn TB (wsV own idx C y (.code y b n r :: TB)) := by
  refine gi_all fun w hw => ?_
  simp only [wsV, List.mem_append, List.mem_cons, List.not_mem_nil, or_false] at hw
  rcases hw with (rfl | rfl | rfl | rfl) | rfl | h <;> assumption
theorem gi_S {own : String} {idx n : Nat} {y : MethodName} {b : ByteArray} {r : Option FieldType} (h1 : Cond.methodLink own idx y ∈ TB) (h2 : Cond.static y ∈ TB) (h4 : Cond.initialized y.cls ∈ TB) (h5 : Cond.code y b n r ∈ TB) : GoodIn TB (va_wsS own idx y (.code y b n r :: TB)) := by
  refine gi_all fun w hw => ?_
  simp only [va_wsS, List.mem_append, List.mem_cons, List.not_mem_nil, or_false] at hw
  rcases hw with (rfl | rfl | rfl) | rfl | h <;> assumption
theorem gi_C {n : Nat} {y : MethodName} {b : ByteArray} {r : Option FieldType} (h5 : Cond.code y b n r ∈ TB) : GoodIn TB (.code y b n r :: TB) := by
  refine gi_all fun w hw => ?_
  rcases List.mem_cons.mp hw with rfl | h <;> assumption
theorem gi_U {own C owner : String} {idx n : Nat} {x y : MethodName} {b : ByteArray} {r : Option FieldType} (h1 : Cond.methodLink own idx x ∈ TB) (h2 : Cond.sameMethod x.cls owner x.name x.desc ∈ TB) (h3 : Cond.selects C x y ∈ TB) (h6 : Cond.instanceMethod y ∈ TB) (h4 : Cond.initialized y.cls ∈ TB) (h5 : Cond.code y b n r ∈ TB) : GoodIn TB (va_wsU own idx C owner x y (.code y b n r :: TB)) := by
  refine gi_all fun w hw => ?_
  simp only [va_wsU, List.mem_append, List.mem_cons, List.not_mem_nil, or_false] at hw
  rcases hw with (rfl | rfl | rfl | rfl | rfl) | rfl | h <;> assumption
theorem gi_O {own C owner : String} {idx n : Nat} {x y : MethodName} {b : ByteArray} {r : Option FieldType} (h1 : Cond.methodLink own idx x ∈ TB) (h2 : Cond.sameMethod x.cls owner x.name x.desc ∈ TB) (h7 : Cond.instanceMethod ⟨owner, x.name, x.desc⟩ ∈ TB) (h3 : Cond.selects C x y ∈ TB) (h6 : Cond.instanceMethod y ∈ TB) (h4 : Cond.initialized y.cls ∈ TB) (h5 : Cond.code y b n r ∈ TB) : GoodIn TB (va_wsO own idx C owner x y (.code y b n r :: TB)) := by
  refine gi_all fun w hw => ?_
  simp only [va_wsO, List.mem_append, List.mem_cons, List.not_mem_nil, or_false] at hw
  rcases hw with (rfl | rfl | rfl | rfl | rfl | rfl) | rfl | h <;> assumption
/-- a contract of a method that may throw: 'PX E': it threw an E; then the world is as it was -/
def cx_X (D : va_G) (A : Nat → Prop) (wc : va_W) (PX : String → Prop) : String → State → State → Prop := fun E st t => PX E ∧ va_P D vwCl wc t.heap ∧ va_F A st t
def CtX (l : Launch) (s0 : State) (D : va_G) (y : MethodName) (ws : List Cond) (rm : Room) (av : List Value) (wc : va_W) (post : Option Value → va_W → Prop) (PX : String → Prop) : Prop :=
  ∀ sz : Nat, vx_Met l y ws rm (va_Pc av (cx_pre s0 D wc sz)) (cx_post D (va_A wc sz) post) (cx_X D (va_A wc sz) wc PX) rm.cells rm.slots (va_A wc sz)
section CoreB
variable {p : Program} {l : Launch} {e : Env} {R : Room} {s : State} {m : MethodId} {args : Array Value} {below : List Frame} {meth : Method} {c : Code} {H : Heap} {locs : List Loc} {cells slots : Nat} {Q : State → Prop}
variable {s0 : State} {D : va_G} {cA : Nat → ClassId} {cc : ByteArray} {nL : Nat} {ret : Option FieldType} {own : String} {A : Nat → Prop}
variable {pc : Nat} {ls : Array Slot} {rest : List Value}
variable {y : MethodName} {b : ByteArray} {mL : Nat} {rt : Option FieldType} {rm : Room} {As st : List Value} {ws wc wr : va_W} {post : Option Value → va_W → Prop} {PX : String → Prop} {idx x : Nat}
theorem cx_preOf (C : cx_C p l s m args meth c s0 D cA cc nL ret own A) (hp : ws.Perm (wc ++ wr)) (hP : va_P D vwCl ws H) (hD : va_D A ws) (hS : va_S A s.heap H locs) : ∀ U : State, U.heap = H → s.WarmedH U.vm → cx_pre s0 D wc H.size U := fun U hU hW => by
  have hP2 := pm_P hp hP
  have hD2 := va_D_iff.mp (pm_D hp hD)
  have hPc : va_P D vwCl wc H := fun k q hk => by
    obtain ⟨i, hi⟩ := List.getElem?_of_mem (List.mem_append_left wr (List.mem_of_getElem? hk))
    exact hP2 i q hi
  refine ⟨by rw [hU], by rw [hU]; exact hPc, ?_, State.WarmedH.trans (cx_w C) hW, by rw [hU]; exact cx_oldH C hS⟩
  · rw [va_D_iff]
    rw [List.map_append, List.nodup_append] at hD2
    exact ⟨hD2.1.1, fun q hq => cx_n C _ (hD2.2 q (List.mem_append_left _ hq))⟩
theorem cx_fix (C : cx_C p l s m args meth c s0 D cA cc nL ret own A) : CallFix p m c cc nL s args TB own := ⟨cx_x C, cx_b C, cx_ml C, cx_own C, cx_t C⟩
theorem cx_room (h : (rest.map fun v => v.category).sum ≤ 8) : 2 * (F0 m pc ls st).monitorRoom + (rest.map fun v => v.category).sum ≤ 8 := lv_room h
/-- a virtual method of the object's own class -/
theorem ct_V (C : cx_C p l s m args meth c s0 D cA cc nL ret own A) (hM : Ct l s0 D y (.code y b mL rt :: TB) rm (.ref x :: As) wc post) (h1 : Cond.methodLink own idx y ∈ TB) (h2 : Cond.instanceMethod y ∈ TB) (h3 : Cond.selects y.cls y y ∈ TB) (h4 : Cond.initialized y.cls ∈ TB) (h5 : Cond.code y b mL rt ∈ TB)
    (hd : y.cls = y.cls ∧ y.cls ≠ "java/lang/invoke/MethodHandle" ∧ y.cls ≠ "java/lang/invoke/VarHandle" ∧ (parseMethodDescriptor y.desc).map (fun d => d.parameters.length) = some As.length) (hR : rm.frames + 1 ≤ R.frames ∧ 8 + (mL + 11) + rm.locals ≤ R.locals)
    (hr : ∃ cell : Cell, H[x]? = some cell ∧ cell.vm.isStatics = false ∧ s.vm.findClass y.cls = some cell.cls) (hz : ls.size = nL) (hst : st = As.reverse ++ .ref x :: rest) (hw : (rest.map fun v => v.category).sum ≤ 8) (d : decode cc pc = .ok (.invokevirtual idx, 3)) (hc : cells + rm.cells ≤ R.cells ∧ slots + rm.slots ≤ R.slots)
    (hp : ws.Perm (wc ++ wr)) (hP : va_P D vwCl ws H) (hD : va_D A ws) (hS : va_S A s.heap H locs)
    (kk : ∀ (v : Option Value) (w1 : va_W) (H1 : Heap) (locs1 : List Loc), post v w1 → va_P D vwCl (w1 ++ wr) H1 → va_D A (w1 ++ wr) → va_S A s.heap H1 locs1 → W p l e R s m args below meth c H1 locs1 (cells + rm.cells) (slots + rm.slots) Q (F0 m (pc + 3) ls (v.toList ++ rest))) :
    W p l e R s m args below meth c H locs cells slots Q (F0 m pc ls st) := by
  subst hst
  exact ct_call C (va_runV (As := As) (rest := rest) (cx_fix C) (hM H.size) (cwV As.length (cx_t C) (gi_V h1 h2 h3 h4 h5) rfl rfl rfl hd hR) ⟨cx_blind, hr, fun U hU hW => ⟨rfl, cx_preOf C hp hP hD hS U hU hW⟩⟩ rfl rfl hz rfl (cx_room hw) d hc) hp hP hD hS kk
theorem ct_S (C : cx_C p l s m args meth c s0 D cA cc nL ret own A) (hM : Ct l s0 D y (.code y b mL rt :: TB) rm As wc post) (h1 : Cond.methodLink own idx y ∈ TB) (h2 : Cond.static y ∈ TB) (h4 : Cond.initialized y.cls ∈ TB) (h5 : Cond.code y b mL rt ∈ TB)
    (hd : y.cls ≠ "java/lang/invoke/MethodHandle" ∧ y.cls ≠ "java/lang/invoke/VarHandle" ∧ (parseMethodDescriptor y.desc).map (fun d => d.parameters.length) = some As.length) (hR : rm.frames + 1 ≤ R.frames ∧ 8 + (mL + 11) + rm.locals ≤ R.locals)
    (hz : ls.size = nL) (hst : st = As.reverse ++ rest) (hw : (rest.map fun v => v.category).sum ≤ 8) (d : decode cc pc = .ok (.invokestatic idx, 3)) (hc : cells + rm.cells ≤ R.cells ∧ slots + rm.slots ≤ R.slots)
    (hp : ws.Perm (wc ++ wr)) (hP : va_P D vwCl ws H) (hD : va_D A ws) (hS : va_S A s.heap H locs)
    (kk : ∀ (v : Option Value) (w1 : va_W) (H1 : Heap) (locs1 : List Loc), post v w1 → va_P D vwCl (w1 ++ wr) H1 → va_D A (w1 ++ wr) → va_S A s.heap H1 locs1 → W p l e R s m args below meth c H1 locs1 (cells + rm.cells) (slots + rm.slots) Q (F0 m (pc + 3) ls (v.toList ++ rest))) :
    W p l e R s m args below meth c H locs cells slots Q (F0 m pc ls st) := by
  subst hst
  exact ct_call C (va_runS (As := As) (rest := rest) (cx_fix C) (hM H.size) (va_cwS As.length (cx_t C) (gi_S h1 h2 h4 h5) rfl rfl rfl hd hR) ⟨cx_blind, fun U hU hW => ⟨rfl, cx_preOf C hp hP hD hS U hU hW⟩⟩ rfl rfl hz rfl (cx_room hw) d hc) hp hP hD hS kk
/-- a constructor -/
theorem ct_I (C : cx_C p l s m args meth c s0 D cA cc nL ret own A) (hM : Ct l s0 D y (.code y b mL none :: TB) rm (.ref x :: As) wc post) (h1 : Cond.methodLink own idx y ∈ TB) (h2 : Cond.instanceMethod y ∈ TB) (h4 : Cond.initialized y.cls ∈ TB) (h5 : Cond.code y b mL none ∈ TB) (hi : y.name = "<init>")
    (hd : y.cls ≠ "java/lang/invoke/MethodHandle" ∧ y.cls ≠ "java/lang/invoke/VarHandle" ∧ (parseMethodDescriptor y.desc).map (fun d => d.parameters.length) = some As.length) (hR : rm.frames + 1 ≤ R.frames ∧ 8 + (mL + 11) + rm.locals ≤ R.locals)
    (hz : ls.size = nL) (hst : st = As.reverse ++ .ref x :: rest) (hw : (rest.map fun v => v.category).sum ≤ 8) (d : decode cc pc = .ok (.invokespecial idx, 3)) (hc : cells + rm.cells ≤ R.cells ∧ slots + rm.slots ≤ R.slots)
    (hp : ws.Perm (wc ++ wr)) (hP : va_P D vwCl ws H) (hD : va_D A ws) (hS : va_S A s.heap H locs)
    (kk : ∀ (v : Option Value) (w1 : va_W) (H1 : Heap) (locs1 : List Loc), post v w1 → va_P D vwCl (w1 ++ wr) H1 → va_D A (w1 ++ wr) → va_S A s.heap H1 locs1 → W p l e R s m args below meth c H1 locs1 (cells + rm.cells) (slots + rm.slots) Q (F0 m (pc + 3) ls (v.toList ++ rest))) :
    W p l e R s m args below meth c H locs cells slots Q (F0 m pc ls st) := by
  subst hst
  exact ct_call C (va_runI (As := As) (rest := rest) (cx_fix C) (hM H.size) (cwI As.length (cx_t C) (gi_C h5) rfl rfl rfl (cx_t C _ h4) (cx_t C _ h1) (cx_t C _ h2) hi hd hR) ⟨cx_blind, fun U hU hW => ⟨rfl, cx_preOf C hp hP hD hS U hU hW⟩⟩ rfl rfl hz rfl (cx_room hw) d hc) hp hP hD hS kk
/-! words that calls don't carry, out of the start -/
theorem cx_lw (hG : cx_G l s0 D cA) {w : Cond} (hw : w ∈ lw_tbl) (ho : w.onTables = true) : va_Nw w s0 := by
  obtain ⟨-, ⟨a0, h, -⟩, -⟩ := hG
  exact va_Nw.of ho (h w hw)
theorem cx_cast (C : cx_C p l s m args meth c s0 D cA cc nL ret own A) {X Y : String} (h : Cond.castable X Y ∈ lw_tbl) : va_Nw (.castable X Y) s := va_Nw.warmC (cx_w C) (cx_lw (cx_g C) h rfl)
theorem cx_nest (C : cx_C p l s m args meth c s0 D cA cc nL ret own A) {a h : String} {i : Nat} {z : MethodName} (hm : Cond.methodLinkNest a i z h ∈ lw_tbl) : va_Nw (.methodLinkNest a i z h) s := va_Nw.warmM (cx_w C) (cx_lw (cx_g C) hm rfl)
theorem cx_decl (C : cx_C p l s m args meth c s0 D cA cc nL ret own A) {z : MethodName} (hm : Cond.declares z ∈ lw_tbl) : va_Nw (.declares z) s := va_Nw.warmD (cx_w C) (cx_lw (cx_g C) hm rfl)
theorem cx_over (C : cx_C p l s m args meth c s0 D cA cc nL ret own A) {X : String} (hm : Cond.arrayOver (.object X) ∈ lw_tbl) : va_AO X s := by
  obtain ⟨-, ⟨a0, h, -⟩, -⟩ := cx_g C
  exact va_AO.moved (cx_w C).alike (va_AO.of (h _ hm))
theorem cx_nc (C : cx_C p l s m args meth c s0 D cA cc nL ret own A) {X Y : String} (hm : Cond.not (.castable X Y) ∈ flatC (Jvm.Cond.and given_1 narrow_1)) : va_Nc X Y s := by
  obtain ⟨-, ⟨a0, -, h⟩, -⟩ := cx_g C
  exact va_Nc.moved (cx_w C).alike (va_Nc.of (flat_of_before _ h _ hm))
/-- a constructor that is its nest mate's -/
theorem ct_IN {host : String} (C : cx_C p l s m args meth c s0 D cA cc nL ret own A) (hM : Ct l s0 D y (.code y b mL none :: TB) rm (.ref x :: As) wc post) (h1 : Cond.methodLinkNest own idx y host ∈ lw_tbl) (h2 : Cond.instanceMethod y ∈ TB) (h4 : Cond.initialized y.cls ∈ TB) (h5 : Cond.code y b mL none ∈ TB) (hi : y.name = "<init>")
    (hd : y.cls ≠ "java/lang/invoke/MethodHandle" ∧ y.cls ≠ "java/lang/invoke/VarHandle" ∧ (parseMethodDescriptor y.desc).map (fun d => d.parameters.length) = some As.length) (hR : rm.frames + 1 ≤ R.frames ∧ 8 + (mL + 11) + rm.locals ≤ R.locals)
    (hz : ls.size = nL) (hst : st = As.reverse ++ .ref x :: rest) (hw : (rest.map fun v => v.category).sum ≤ 8) (d : decode cc pc = .ok (.invokespecial idx, 3)) (hc : cells + rm.cells ≤ R.cells ∧ slots + rm.slots ≤ R.slots)
    (hp : ws.Perm (wc ++ wr)) (hP : va_P D vwCl ws H) (hD : va_D A ws) (hS : va_S A s.heap H locs)
    (kk : ∀ (v : Option Value) (w1 : va_W) (H1 : Heap) (locs1 : List Loc), post v w1 → va_P D vwCl (w1 ++ wr) H1 → va_D A (w1 ++ wr) → va_S A s.heap H1 locs1 → W p l e R s m args below meth c H1 locs1 (cells + rm.cells) (slots + rm.slots) Q (F0 m (pc + 3) ls (v.toList ++ rest))) :
    W p l e R s m args below meth c H locs cells slots Q (F0 m pc ls st) := by
  subst hst
  exact ct_call C (va_runIN (As := As) (rest := rest) (cx_fix C) (hM H.size) ⟨va_cnB As.length (cx_t C) (gi_C h5) rfl rfl rfl (cx_nest C h1) (cx_t C _ h4) hd hR, hi, cx_t C _ h2⟩ ⟨cx_blind, fun U hU hW => ⟨rfl, cx_preOf C hp hP hD hS U hU hW⟩⟩ rfl rfl hz rfl (cx_room hw) d hc) hp hP hD hS kk
/-- a virtual call whose method is chosen by the object's class X: z is named, y is run; z is abstract -/
theorem ct_A {X owner : String} {z : MethodName} (C : cx_C p l s m args meth c s0 D cA cc nL ret own A) (hM : Ct l s0 D y (.code y b mL rt :: TB) rm (.ref x :: As) wc post) (h1 : Cond.methodLink own idx z ∈ TB) (h2 : Cond.sameMethod z.cls owner z.name z.desc ∈ TB) (h3 : Cond.selects X z y ∈ TB) (h6 : Cond.instanceMethod y ∈ TB) (h4 : Cond.initialized y.cls ∈ TB) (h5 : Cond.code y b mL rt ∈ TB) (h7 : Cond.declares ⟨owner, z.name, z.desc⟩ ∈ lw_tbl)
    (hd : owner ≠ "java/lang/invoke/MethodHandle" ∧ owner ≠ "java/lang/invoke/VarHandle" ∧ (parseMethodDescriptor z.desc).map (fun d => d.parameters.length) = some As.length) (hR : rm.frames + 1 ≤ R.frames ∧ 8 + (mL + 11) + rm.locals ≤ R.locals)
    (hr : ∃ cell : Cell, H[x]? = some cell ∧ cell.vm.isStatics = false ∧ s.vm.findClass X = some cell.cls) (hz : ls.size = nL) (hst : st = As.reverse ++ .ref x :: rest) (hw : (rest.map fun v => v.category).sum ≤ 8) (d : decode cc pc = .ok (.invokevirtual idx, 3)) (hc : cells + rm.cells ≤ R.cells ∧ slots + rm.slots ≤ R.slots)
    (hp : ws.Perm (wc ++ wr)) (hP : va_P D vwCl ws H) (hD : va_D A ws) (hS : va_S A s.heap H locs)
    (kk : ∀ (v : Option Value) (w1 : va_W) (H1 : Heap) (locs1 : List Loc), post v w1 → va_P D vwCl (w1 ++ wr) H1 → va_D A (w1 ++ wr) → va_S A s.heap H1 locs1 → W p l e R s m args below meth c H1 locs1 (cells + rm.cells) (slots + rm.slots) Q (F0 m (pc + 3) ls (v.toList ++ rest))) :
    W p l e R s m args below meth c H locs cells slots Q (F0 m pc ls st) := by
  subst hst
  exact ct_call C (va_runU (As := As) (rest := rest) (cx_fix C) (hM H.size) (va_cwA As.length (cx_t C) (gi_U h1 h2 h3 h6 h4 h5) rfl rfl rfl (cx_decl C h7) hd hR) ⟨cx_blind, hr, fun U hU hW => ⟨rfl, cx_preOf C hp hP hD hS U hU hW⟩⟩ rfl rfl hz rfl (cx_room hw) d hc) hp hP hD hS kk
/-- z has code of its own, y of the subclass is run -/
theorem ct_O {X owner : String} {z : MethodName} {b0 : ByteArray} {m0 : Nat} {r0 : Option FieldType} (C : cx_C p l s m args meth c s0 D cA cc nL ret own A) (hM : Ct l s0 D y (.code y b mL rt :: TB) rm (.ref x :: As) wc post) (h1 : Cond.methodLink own idx z ∈ TB) (h2 : Cond.sameMethod z.cls owner z.name z.desc ∈ TB) (h8 : Cond.instanceMethod ⟨owner, z.name, z.desc⟩ ∈ TB) (h3 : Cond.selects X z y ∈ TB) (h6 : Cond.instanceMethod y ∈ TB) (h4 : Cond.initialized y.cls ∈ TB) (h5 : Cond.code y b mL rt ∈ TB) (h7 : Cond.code ⟨owner, z.name, z.desc⟩ b0 m0 r0 ∈ TB)
    (hd : owner ≠ "java/lang/invoke/MethodHandle" ∧ owner ≠ "java/lang/invoke/VarHandle" ∧ (parseMethodDescriptor z.desc).map (fun d => d.parameters.length) = some As.length) (hR : rm.frames + 1 ≤ R.frames ∧ 8 + (mL + 11) + rm.locals ≤ R.locals)
    (hr : ∃ cell : Cell, H[x]? = some cell ∧ cell.vm.isStatics = false ∧ s.vm.findClass X = some cell.cls) (hz : ls.size = nL) (hst : st = As.reverse ++ .ref x :: rest) (hw : (rest.map fun v => v.category).sum ≤ 8) (d : decode cc pc = .ok (.invokevirtual idx, 3)) (hc : cells + rm.cells ≤ R.cells ∧ slots + rm.slots ≤ R.slots)
    (hp : ws.Perm (wc ++ wr)) (hP : va_P D vwCl ws H) (hD : va_D A ws) (hS : va_S A s.heap H locs)
    (kk : ∀ (v : Option Value) (w1 : va_W) (H1 : Heap) (locs1 : List Loc), post v w1 → va_P D vwCl (w1 ++ wr) H1 → va_D A (w1 ++ wr) → va_S A s.heap H1 locs1 → W p l e R s m args below meth c H1 locs1 (cells + rm.cells) (slots + rm.slots) Q (F0 m (pc + 3) ls (v.toList ++ rest))) :
    W p l e R s m args below meth c H locs cells slots Q (F0 m pc ls st) := by
  subst hst
  exact ct_call C (va_runU (As := As) (rest := rest) (cx_fix C) (hM H.size) (va_cwO As.length (cx_t C) (gi_O h1 h2 h8 h3 h6 h4 h5) rfl rfl rfl h7 hd hR) ⟨cx_blind, hr, fun U hU hW => ⟨rfl, cx_preOf C hp hP hD hS U hU hW⟩⟩ rfl rfl hz rfl (cx_room hw) d hc) hp hP hD hS kk
/-! ===== methods that may throw ===== -/
theorem CtX.of {av : List Value} (hG : cx_G l s0 D cA) (hy : plainName y.cls = true) (hn : (lg_sl av).length ≤ nL)
    (body : ∀ (p : Program) (e : Env) (s : State) (m : MethodId) (below : List Frame) (meth : Method) (c : Code) (A : Nat → Prop), cx_C p l s m av.toArray meth c s0 D cA cc nL ret y.cls A → (∀ z ∈ c.exceptionTable.toList, False) → va_P D vwCl wc s.heap → va_D A wc → va_S A s.heap s.heap [] → ∀ ls : Array Slot, lv_has ls nL (lv_args 0 av) →
      W p l e rm s m av.toArray below meth c s.heap [] 0 0 (vx_MQ below (cx_post D A post) (cx_X D A wc PX) av.toArray s rm.cells rm.slots A) (F0 m 0 ls [])) :
    CtX l s0 D y (.code y cc nL ret :: TB) rm av wc post PX := by
  intro sz
  refine vx_ofW (cc := cc) (maxL := nL) (ret := ret) hy rfl ?_
  intro p e s m args below meth c s₁ B hml hE hv
  obtain ⟨rfl, hsz, hP, hD, hW, hO⟩ := hv
  subst hsz
  have hts := atoms_spec (ws := .code y cc nL ret :: TB) B.pre
  have hown : s.vm.findClass y.cls = some m.cls := findClass_of_methodNamed B.named
  have hl := lv_entry av hn
  rw [lg_entry_eq]
  refine body p e s m below meth c (va_A wc s.heap.size) ⟨B.exec, B.bytes, hml, hown, fun w h => hts w (List.mem_cons_of_mem _ h), B.returns, B.notSynchronized, hG, hW, hO, va_K.moved hW.alike hG.2.2, fun q h => Or.inr h, ?_⟩ hE hP hD.self va_S.rf _ hl
  rintro q (⟨k, e9, hk⟩ | h)
  · exact hD.2 k _ hk
  · exact Nat.le_trans hO.1 h
/-- behind a call that may throw -/
theorem ct_callX {mc ms : Nat} {st0 : List Value} {a : Array Value} (C : cx_C p l s m args meth c s0 D cA cc nL ret own A)
    (hr : vx_Run p l e R s m args below meth c H locs cells slots mc ms (F0 m pc ls st0) rest (cx_post D (va_A wc H.size) post a) (cx_X D (va_A wc H.size) wc PX) (va_A wc H.size)) (hp : ws.Perm (wc ++ wr)) (hP : va_P D vwCl ws H) (hD : va_D A ws) (hS : va_S A s.heap H locs)
    (kx : ∀ (E : String) (ce : Cell) (q : Addr) (H1 : Heap) (locs1 : List Loc), PX E → va_P D vwCl (wc ++ wr) H1 → va_D A (wc ++ wr) → va_S A s.heap H1 locs1 → H1[q]? = some ce → ce.vm = .none → s.vm.findClass E = some ce.cls → vx_W p l e R s m args below meth c H1 locs1 (cells + mc) (slots + ms) Q (F0 m pc ls rest) q)
    (kk : ∀ (v : Option Value) (w1 : va_W) (H1 : Heap) (locs1 : List Loc), post v w1 → va_P D vwCl (w1 ++ wr) H1 → va_D A (w1 ++ wr) → va_S A s.heap H1 locs1 → W p l e R s m args below meth c H1 locs1 (cells + mc) (slots + ms) Q (F0 m (pc + 3) ls (v.toList ++ rest))) :
    W p l e R s m args below meth c H locs cells slots Q (F0 m pc ls st0) := by
  intro T hT X
  have hfree := fr_free C hp hD hS
  have hS9 : ∀ (st₀ t T' : State) (L : List Loc), st₀.heap = H → T'.heap = t.heap → (∀ q ∈ L, va_A wc H.size q.base) → va_F (va_A wc H.size) st₀ t → (∀ q : Nat, q < H.size → ¬ va_A wc H.size q → T'.heap[q]? = H[q]?) ∧ va_S A s.heap T'.heap (locs ++ L) := by
    intro st₀ t T' L h0 e1 hL hF
    have hsz : H.size ≤ T'.heap.size := by rw [e1, ← h0]; exact hF.1
    have hk : ∀ q : Nat, q < H.size → ¬ va_A wc H.size q → T'.heap[q]? = H[q]? := fun q h1 h2 => by rw [e1, ← h0]; exact hF.2 q (by rw [h0]; exact h1) h2
    exact ⟨hk, ⟨Nat.le_trans hS.1 hsz, fun q h1 h2 => (hk q (Nat.lt_of_lt_of_le h1 hS.1) (fun h => h2 (hfree q h))).trans (hS.2.1 q h1 h2), fun q hq => by
      rcases List.mem_append.mp hq with h | h
      · exact hS.2.2 q h
      · exact hfree _ (hL q h)⟩⟩
  have hDc : va_D (va_A wc H.size) wc := by
    have h2 := va_D_iff.mp (pm_D hp hD)
    rw [va_D_iff]
    rw [List.map_append, List.nodup_append] at h2
    exact ⟨h2.1.1, fun q hq => va_A_mem.mpr (Or.inl ⟨q.2, hq⟩)⟩
  rcases hr T hT X with ⟨v, st₀, t, T', L, h0, X', hL, e1, -, hq, st⟩ | ⟨q, st₀, t, T', L, E, ce, h0, X', hL, e1, -, ⟨hx, hP1, hF⟩, hc1, hc2, hc3, st⟩
  · obtain ⟨⟨v', w1, hv, hpost, hP1, hD1⟩, hF⟩ := hq
    cases hv
    obtain ⟨hk, hS2⟩ := hS9 st₀ t T' L h0 e1 hL hF
    obtain ⟨hP2, hD2⟩ := fr_join hp hP hD hfree hk (by rw [e1]; exact hP1) hD1
    obtain ⟨t2, a1, b1⟩ := kk v w1 T'.heap (locs ++ L) hpost hP2 hD2 hS2 T' rfl X'
    exact ⟨t2, st t2 a1, b1⟩
  · obtain ⟨hk, hS2⟩ := hS9 st₀ t T' L h0 e1 hL hF
    obtain ⟨hP2, hD2⟩ := fr_join hp hP hD hfree hk (by rw [e1]; exact hP1) hDc
    obtain ⟨t2, a1, b1⟩ := kx E ce q T'.heap (locs ++ L) hx hP2 hD2 hS2 (by rw [e1]; exact hc1) hc2 hc3 T' rfl X'
    exact ⟨t2, st.trans a1, b1⟩
theorem ct_VX (C : cx_C p l s m args meth c s0 D cA cc nL ret own A) (hM : CtX l s0 D y (.code y b mL rt :: TB) rm (.ref x :: As) wc post PX) (h1 : Cond.methodLink own idx y ∈ TB) (h2 : Cond.instanceMethod y ∈ TB) (h3 : Cond.selects y.cls y y ∈ TB) (h4 : Cond.initialized y.cls ∈ TB) (h5 : Cond.code y b mL rt ∈ TB)
    (hd : y.cls = y.cls ∧ y.cls ≠ "java/lang/invoke/MethodHandle" ∧ y.cls ≠ "java/lang/invoke/VarHandle" ∧ (parseMethodDescriptor y.desc).map (fun d => d.parameters.length) = some As.length) (hR : rm.frames + 1 ≤ R.frames ∧ 8 + (mL + 11) + rm.locals ≤ R.locals)
    (hr : ∃ cell : Cell, H[x]? = some cell ∧ cell.vm.isStatics = false ∧ s.vm.findClass y.cls = some cell.cls) (hz : ls.size = nL) (hst : st = As.reverse ++ .ref x :: rest) (hw : (rest.map fun v => v.category).sum ≤ 8) (d : decode cc pc = .ok (.invokevirtual idx, 3)) (hc : cells + rm.cells ≤ R.cells ∧ slots + rm.slots ≤ R.slots)
    (hp : ws.Perm (wc ++ wr)) (hP : va_P D vwCl ws H) (hD : va_D A ws) (hS : va_S A s.heap H locs)
    (kx : ∀ (E : String) (ce : Cell) (q : Addr) (H1 : Heap) (locs1 : List Loc), PX E → va_P D vwCl (wc ++ wr) H1 → va_D A (wc ++ wr) → va_S A s.heap H1 locs1 → H1[q]? = some ce → ce.vm = .none → s.vm.findClass E = some ce.cls → vx_W p l e R s m args below meth c H1 locs1 (cells + rm.cells) (slots + rm.slots) Q (F0 m pc ls rest) q)
    (kk : ∀ (v : Option Value) (w1 : va_W) (H1 : Heap) (locs1 : List Loc), post v w1 → va_P D vwCl (w1 ++ wr) H1 → va_D A (w1 ++ wr) → va_S A s.heap H1 locs1 → W p l e R s m args below meth c H1 locs1 (cells + rm.cells) (slots + rm.slots) Q (F0 m (pc + 3) ls (v.toList ++ rest))) :
    W p l e R s m args below meth c H locs cells slots Q (F0 m pc ls st) := by
  subst hst
  exact ct_callX C (vx_runV (As := As) (rest := rest) (cx_fix C) (hM H.size) (cwV As.length (cx_t C) (gi_V h1 h2 h3 h4 h5) rfl rfl rfl hd hR) ⟨cx_blind, hr, fun U hU hW => ⟨rfl, cx_preOf C hp hP hD hS U hU hW⟩⟩ rfl rfl hz rfl (cx_room hw) d hc) hp hP hD hS kx kk
/-- it isn't caught here: this method throws it too -/
theorem cx_out {E : String} {ce : Cell} {q : Addr} {mc ms : Nat} (C : cx_C p l s m args meth c s0 D cA cc nL ret own A) (hE : ∀ z ∈ c.exceptionTable.toList, False) (hX : PX E) (hP : va_P D vwCl wc H) (hS : va_S A s.heap H locs) (h1 : H[q]? = some ce) (h2 : ce.vm = .none) (h3 : s.vm.findClass E = some ce.cls) (hc : cells ≤ mc) (hs : slots ≤ ms) :
    vx_W p l e R s m args below meth c H locs cells slots (vx_MQ below (cx_post D A post) (cx_X D A wc PX) args s mc ms A) (F0 m pc ls rest) q :=
  vx_out (fun z hz => (hE z hz).elim) (cx_lk C) h1 h2 h3 (fun t ht _ => ⟨hX, by rw [ht]; exact hP, hS.F ht⟩) hS.2.2 hc hs
end CoreB
end
section
/-! ===== the memory of the class's objects: addresses, kinds, a function for each slot; arrays by address and place ===== -/
abbrev Mem : Type := List Nat × (Nat → Nat) × (Nat → Nat → Int32) × (Nat → Nat → Int64) × (Nat → Nat → Option Nat) × (Nat → Nat → UInt32) × (Nat → Nat → UInt64) × (Nat → Nat) × (Nat → Nat → Int32) × (Nat → Nat → Int64) × (Nat → Nat → Option Nat)
def mL (S : Mem) : List Nat := S.1
def mK (S : Mem) : Nat → Nat := S.2.1
def mI (S : Mem) : Nat → Nat → Int32 := S.2.2.1
def mJ (S : Mem) : Nat → Nat → Int64 := S.2.2.2.1
def mR (S : Mem) : Nat → Nat → Option Nat := S.2.2.2.2.1
def mF (S : Mem) : Nat → Nat → UInt32 := S.2.2.2.2.2.1
def mE (S : Mem) : Nat → Nat → UInt64 := S.2.2.2.2.2.2.1
def mN (S : Mem) : Nat → Nat := S.2.2.2.2.2.2.2.1
def maI (S : Mem) : Nat → Nat → Int32 := S.2.2.2.2.2.2.2.2.1
def maJ (S : Mem) : Nat → Nat → Int64 := S.2.2.2.2.2.2.2.2.2.1
def maR (S : Mem) : Nat → Nat → Option Nat := S.2.2.2.2.2.2.2.2.2.2
def up2 {α : Type} (f : Nat → Nat → α) (k a : Nat) (v : α) : Nat → Nat → α := fun i b => if i = k ∧ b = a then v else f i b
theorem up2_s {α : Type} {f : Nat → Nat → α} {k a : Nat} {v : α} : up2 f k a v k a = v := if_pos ⟨rfl, rfl⟩
theorem up2_a {α : Type} {f : Nat → Nat → α} {k a i b : Nat} {v : α} (h : b ≠ a) : up2 f k a v i b = f i b := if_neg fun q => h q.2
theorem up2_k {α : Type} {f : Nat → Nat → α} {k a i b : Nat} {v : α} (h : i ≠ k) : up2 f k a v i b = f i b := if_neg fun q => h q.1
def uI (S : Mem) (k a : Nat) (v : Int32) : Mem := (mL S, mK S, up2 (mI S) k a v, mJ S, mR S, mF S, mE S, mN S, maI S, maJ S, maR S)
def uJ (S : Mem) (k a : Nat) (v : Int64) : Mem := (mL S, mK S, mI S, up2 (mJ S) k a v, mR S, mF S, mE S, mN S, maI S, maJ S, maR S)
def uR (S : Mem) (k a : Nat) (v : Option Nat) : Mem := (mL S, mK S, mI S, mJ S, up2 (mR S) k a v, mF S, mE S, mN S, maI S, maJ S, maR S)
def uF (S : Mem) (k a : Nat) (v : UInt32) : Mem := (mL S, mK S, mI S, mJ S, mR S, up2 (mF S) k a v, mE S, mN S, maI S, maJ S, maR S)
def uE (S : Mem) (k a : Nat) (v : UInt64) : Mem := (mL S, mK S, mI S, mJ S, mR S, mF S, up2 (mE S) k a v, mN S, maI S, maJ S, maR S)
def uaI (S : Mem) (a j : Nat) (v : Int32) : Mem := (mL S, mK S, mI S, mJ S, mR S, mF S, mE S, mN S, up2 (maI S) a j v, maJ S, maR S)
def uaJ (S : Mem) (a j : Nat) (v : Int64) : Mem := (mL S, mK S, mI S, mJ S, mR S, mF S, mE S, mN S, maI S, up2 (maJ S) a j v, maR S)
def uaR (S : Mem) (a j : Nat) (v : Option Nat) : Mem := (mL S, mK S, mI S, mJ S, mR S, mF S, mE S, mN S, maI S, maJ S, up2 (maR S) a j v)
def nw (S : Mem) (q k n : Nat) : Mem := (mL S ++ [q], va_up (mK S) q k, fun i b => if b = q then 0 else mI S i b, fun i b => if b = q then 0 else mJ S i b, fun i b => if b = q then none else mR S i b, fun i b => if b = q then 0 else mF S i b, fun i b => if b = q then 0 else mE S i b, va_up (mN S) q n, va_up (maI S) q (fun _ => 0), va_up (maJ S) q (fun _ => 0), va_up (maR S) q (fun _ => none))
theorem mL_uI {S : Mem} {k a : Nat} {v : Int32} : mL (uI S k a v) = mL S := rfl
theorem mK_uI {S : Mem} {k a : Nat} {v : Int32} : mK (uI S k a v) = mK S := rfl
theorem mI_uI {S : Mem} {k a : Nat} {v : Int32} : mI (uI S k a v) = up2 (mI S) k a v := rfl
theorem mJ_uI {S : Mem} {k a : Nat} {v : Int32} : mJ (uI S k a v) = mJ S := rfl
theorem mR_uI {S : Mem} {k a : Nat} {v : Int32} : mR (uI S k a v) = mR S := rfl
theorem mF_uI {S : Mem} {k a : Nat} {v : Int32} : mF (uI S k a v) = mF S := rfl
theorem mE_uI {S : Mem} {k a : Nat} {v : Int32} : mE (uI S k a v) = mE S := rfl
theorem mN_uI {S : Mem} {k a : Nat} {v : Int32} : mN (uI S k a v) = mN S := rfl
theorem maI_uI {S : Mem} {k a : Nat} {v : Int32} : maI (uI S k a v) = maI S := rfl
theorem maJ_uI {S : Mem} {k a : Nat} {v : Int32} : maJ (uI S k a v) = maJ S := rfl
theorem maR_uI {S : Mem} {k a : Nat} {v : Int32} : maR (uI S k a v) = maR S := rfl
theorem mL_uJ {S : Mem} {k a : Nat} {v : Int64} : mL (uJ S k a v) = mL S := rfl
theorem mK_uJ {S : Mem} {k a : Nat} {v : Int64} : mK (uJ S k a v) = mK S := rfl
theorem mI_uJ {S : Mem} {k a : Nat} {v : Int64} : mI (uJ S k a v) = mI S := rfl
theorem mJ_uJ {S : Mem} {k a : Nat} {v : Int64} : mJ (uJ S k a v) = up2 (mJ S) k a v := rfl
theorem mR_uJ {S : Mem} {k a : Nat} {v : Int64} : mR (uJ S k a v) = mR S := rfl
theorem mF_uJ {S : Mem} {k a : Nat} {v : Int64} : mF (uJ S k a v) = mF S := rfl
theorem mE_uJ {S : Mem} {k a : Nat} {v : Int64} : mE (uJ S k a v) = mE S := rfl
theorem mN_uJ {S : Mem} {k a : Nat} {v : Int64} : mN (uJ S k a v) = mN S := rfl
theorem maI_uJ {S : Mem} {k a : Nat} {v : Int64} : maI (uJ S k a v) = maI S := rfl
theorem maJ_uJ {S : Mem} {k a : Nat} {v : Int64} : maJ (uJ S k a v) = maJ S := rfl
theorem maR_uJ {S : Mem} {k a : Nat} {v : Int64} : maR (uJ S k a v) = maR S := rfl
theorem mL_uR {S : Mem} {k a : Nat} {v : Option Nat} : mL (uR S k a v) = mL S := rfl
theorem mK_uR {S : Mem} {k a : Nat} {v : Option Nat} : mK (uR S k a v) = mK S := rfl
theorem mI_uR {S : Mem} {k a : Nat} {v : Option Nat} : mI (uR S k a v) = mI S := rfl
theorem mJ_uR {S : Mem} {k a : Nat} {v : Option Nat} : mJ (uR S k a v) = mJ S := rfl
theorem mR_uR {S : Mem} {k a : Nat} {v : Option Nat} : mR (uR S k a v) = up2 (mR S) k a v := rfl
theorem mF_uR {S : Mem} {k a : Nat} {v : Option Nat} : mF (uR S k a v) = mF S := rfl
theorem mE_uR {S : Mem} {k a : Nat} {v : Option Nat} : mE (uR S k a v) = mE S := rfl
theorem mN_uR {S : Mem} {k a : Nat} {v : Option Nat} : mN (uR S k a v) = mN S := rfl
theorem maI_uR {S : Mem} {k a : Nat} {v : Option Nat} : maI (uR S k a v) = maI S := rfl
theorem maJ_uR {S : Mem} {k a : Nat} {v : Option Nat} : maJ (uR S k a v) = maJ S := rfl
theorem maR_uR {S : Mem} {k a : Nat} {v : Option Nat} : maR (uR S k a v) = maR S := rfl
theorem mL_uF {S : Mem} {k a : Nat} {v : UInt32} : mL (uF S k a v) = mL S := rfl
theorem mK_uF {S : Mem} {k a : Nat} {v : UInt32} : mK (uF S k a v) = mK S := rfl
theorem mI_uF {S : Mem} {k a : Nat} {v : UInt32} : mI (uF S k a v) = mI S := rfl
theorem mJ_uF {S : Mem} {k a : Nat} {v : UInt32} : mJ (uF S k a v) = mJ S := rfl
theorem mR_uF {S : Mem} {k a : Nat} {v : UInt32} : mR (uF S k a v) = mR S := rfl
theorem mF_uF {S : Mem} {k a : Nat} {v : UInt32} : mF (uF S k a v) = up2 (mF S) k a v := rfl
theorem mE_uF {S : Mem} {k a : Nat} {v : UInt32} : mE (uF S k a v) = mE S := rfl
theorem mN_uF {S : Mem} {k a : Nat} {v : UInt32} : mN (uF S k a v) = mN S := rfl
theorem maI_uF {S : Mem} {k a : Nat} {v : UInt32} : maI (uF S k a v) = maI S := rfl
theorem maJ_uF {S : Mem} {k a : Nat} {v : UInt32} : maJ (uF S k a v) = maJ S := rfl
theorem maR_uF {S : Mem} {k a : Nat} {v : UInt32} : maR (uF S k a v) = maR S := rfl
theorem mL_uE {S : Mem} {k a : Nat} {v : UInt64} : mL (uE S k a v) = mL S := rfl
theorem mK_uE {S : Mem} {k a : Nat} {v : UInt64} : mK (uE S k a v) = mK S := rfl
theorem mI_uE {S : Mem} {k a : Nat} {v : UInt64} : mI (uE S k a v) = mI S := rfl
theorem mJ_uE {S : Mem} {k a : Nat} {v : UInt64} : mJ (uE S k a v) = mJ S := rfl
theorem mR_uE {S : Mem} {k a : Nat} {v : UInt64} : mR (uE S k a v) = mR S := rfl
theorem mF_uE {S : Mem} {k a : Nat} {v : UInt64} : mF (uE S k a v) = mF S := rfl
theorem mE_uE {S : Mem} {k a : Nat} {v : UInt64} : mE (uE S k a v) = up2 (mE S) k a v := rfl
theorem mN_uE {S : Mem} {k a : Nat} {v : UInt64} : mN (uE S k a v) = mN S := rfl
theorem maI_uE {S : Mem} {k a : Nat} {v : UInt64} : maI (uE S k a v) = maI S := rfl
theorem maJ_uE {S : Mem} {k a : Nat} {v : UInt64} : maJ (uE S k a v) = maJ S := rfl
theorem maR_uE {S : Mem} {k a : Nat} {v : UInt64} : maR (uE S k a v) = maR S := rfl
theorem mL_uaI {S : Mem} {k a : Nat} {v : Int32} : mL (uaI S k a v) = mL S := rfl
theorem mK_uaI {S : Mem} {k a : Nat} {v : Int32} : mK (uaI S k a v) = mK S := rfl
theorem mI_uaI {S : Mem} {k a : Nat} {v : Int32} : mI (uaI S k a v) = mI S := rfl
theorem mJ_uaI {S : Mem} {k a : Nat} {v : Int32} : mJ (uaI S k a v) = mJ S := rfl
theorem mR_uaI {S : Mem} {k a : Nat} {v : Int32} : mR (uaI S k a v) = mR S := rfl
theorem mF_uaI {S : Mem} {k a : Nat} {v : Int32} : mF (uaI S k a v) = mF S := rfl
theorem mE_uaI {S : Mem} {k a : Nat} {v : Int32} : mE (uaI S k a v) = mE S := rfl
theorem mN_uaI {S : Mem} {k a : Nat} {v : Int32} : mN (uaI S k a v) = mN S := rfl
theorem maI_uaI {S : Mem} {k a : Nat} {v : Int32} : maI (uaI S k a v) = up2 (maI S) k a v := rfl
theorem maJ_uaI {S : Mem} {k a : Nat} {v : Int32} : maJ (uaI S k a v) = maJ S := rfl
theorem maR_uaI {S : Mem} {k a : Nat} {v : Int32} : maR (uaI S k a v) = maR S := rfl
theorem mL_uaJ {S : Mem} {k a : Nat} {v : Int64} : mL (uaJ S k a v) = mL S := rfl
theorem mK_uaJ {S : Mem} {k a : Nat} {v : Int64} : mK (uaJ S k a v) = mK S := rfl
theorem mI_uaJ {S : Mem} {k a : Nat} {v : Int64} : mI (uaJ S k a v) = mI S := rfl
theorem mJ_uaJ {S : Mem} {k a : Nat} {v : Int64} : mJ (uaJ S k a v) = mJ S := rfl
theorem mR_uaJ {S : Mem} {k a : Nat} {v : Int64} : mR (uaJ S k a v) = mR S := rfl
theorem mF_uaJ {S : Mem} {k a : Nat} {v : Int64} : mF (uaJ S k a v) = mF S := rfl
theorem mE_uaJ {S : Mem} {k a : Nat} {v : Int64} : mE (uaJ S k a v) = mE S := rfl
theorem mN_uaJ {S : Mem} {k a : Nat} {v : Int64} : mN (uaJ S k a v) = mN S := rfl
theorem maI_uaJ {S : Mem} {k a : Nat} {v : Int64} : maI (uaJ S k a v) = maI S := rfl
theorem maJ_uaJ {S : Mem} {k a : Nat} {v : Int64} : maJ (uaJ S k a v) = up2 (maJ S) k a v := rfl
theorem maR_uaJ {S : Mem} {k a : Nat} {v : Int64} : maR (uaJ S k a v) = maR S := rfl
theorem mL_uaR {S : Mem} {k a : Nat} {v : Option Nat} : mL (uaR S k a v) = mL S := rfl
theorem mK_uaR {S : Mem} {k a : Nat} {v : Option Nat} : mK (uaR S k a v) = mK S := rfl
theorem mI_uaR {S : Mem} {k a : Nat} {v : Option Nat} : mI (uaR S k a v) = mI S := rfl
theorem mJ_uaR {S : Mem} {k a : Nat} {v : Option Nat} : mJ (uaR S k a v) = mJ S := rfl
theorem mR_uaR {S : Mem} {k a : Nat} {v : Option Nat} : mR (uaR S k a v) = mR S := rfl
theorem mF_uaR {S : Mem} {k a : Nat} {v : Option Nat} : mF (uaR S k a v) = mF S := rfl
theorem mE_uaR {S : Mem} {k a : Nat} {v : Option Nat} : mE (uaR S k a v) = mE S := rfl
theorem mN_uaR {S : Mem} {k a : Nat} {v : Option Nat} : mN (uaR S k a v) = mN S := rfl
theorem maI_uaR {S : Mem} {k a : Nat} {v : Option Nat} : maI (uaR S k a v) = maI S := rfl
theorem maJ_uaR {S : Mem} {k a : Nat} {v : Option Nat} : maJ (uaR S k a v) = maJ S := rfl
theorem maR_uaR {S : Mem} {k a : Nat} {v : Option Nat} : maR (uaR S k a v) = up2 (maR S) k a v := rfl
def pF (cA : Nat → ClassId) (S : Mem) (a : Nat) : va_E := if mK S a = 0 then .inr (0, [va_rf (mR S 0 a), .int (mI S 1 a), va_rf (mR S 2 a), .int (mI S 3 a), .long (mJ S 4 a), .long (mJ S 5 a), .int (mI S 6 a), .int (mI S 7 a), .int (mI S 8 a), .int (mI S 9 a), .long (mJ S 10 a), .int (mI S 11 a), .long (mJ S 12 a), .int (mI S 13 a), .int (mI S 14 a)]) else if mK S a = 1 then .inr (1, [va_rf (mR S 0 a), .int (mI S 1 a), .int (mI S 2 a)]) else if mK S a = 2 then .inr (2, [.double (mE S 0 a), .int (mI S 1 a), .double (mE S 2 a), .int (mI S 3 a)]) else if mK S a = 3 then .inr (3, [.int (mI S 0 a), va_rf (mR S 1 a), .int (mI S 2 a), .long (mJ S 3 a)]) else if mK S a = 4 then .inr (4, [va_rf (mR S 0 a), va_rf (mR S 1 a), va_rf (mR S 2 a), .long (mJ S 3 a), .long (mJ S 4 a)]) else if mK S a = 5 then .inr (5, [.float (mF S 0 a), .float (mF S 1 a)]) else if mK S a = 6 then .inr (6, [.long (mJ S 0 a), .long (mJ S 1 a)]) else if mK S a = 7 then .inr (7, [va_rf (mR S 0 a), va_rf (mR S 1 a), va_rf (mR S 2 a), .int (mI S 3 a), .int (mI S 4 a), .long (mJ S 5 a)]) else if mK S a = 9 then .inl (cA 0, mN S a, .inl (maI S a)) else if mK S a = 12 then .inl (cA 3, mN S a, .inl (maI S a)) else if mK S a = 13 then .inl (cA 4, mN S a, .inr (.inl (maJ S a))) else if mK S a = 15 then .inl (cA 6, mN S a, .inr (.inr (.inr (.inr (maR S a))))) else .inl (cA 7, mN S a, .inr (.inr (.inr (.inr (maR S a)))))
def pW (cA : Nat → ClassId) (S : Mem) : va_W := va_pl (mL S) (pF cA S)
theorem pF_eq {cA : Nat → ClassId} {S T : Mem} {b : Nat} (h1 : mK S b = mK T b) (h2 : ∀ k, mI S k b = mI T k b) (h3 : ∀ k, mJ S k b = mJ T k b) (h4 : ∀ k, mR S k b = mR T k b) (h5 : ∀ k, mF S k b = mF T k b) (h6 : ∀ k, mE S k b = mE T k b) (h7 : mN S b = mN T b) (h8 : maI S b = maI T b) (h9 : maJ S b = maJ T b) (h10 : maR S b = maR T b) : pF cA S b = pF cA T b := by
  unfold pF
  simp only [h1, h2, h3, h4, h5, h6, h7, h8, h9, h10]
theorem pW_get {cA : Nat → ClassId} {S : Mem} {a : Nat} (h : a ∈ mL S) : ∃ k : Nat, (pW cA S)[k]? = some (a, pF cA S a) := by
  obtain ⟨k, hk⟩ := va_pl_get (X := []) (f := pF cA S) h
  exact ⟨k, hk⟩
theorem pW_set {cA : Nat → ClassId} {S T : Mem} {A : Nat → Prop} {a k : Nat} {e : va_E} (hD : va_D A (pW cA S)) (h : a ∈ mL S) (hk : (pW cA S)[k]? = some (a, pF cA S a)) (hL : mL T = mL S) (ha : e = pF cA T a) (ho : ∀ b, b ≠ a → pF cA S b = pF cA T b) : (pW cA S).set k (a, e) = pW cA T := by
  have h1 := va_pl_set (X := []) (f := pF cA S) (e := e) hD h hk
  show ([] ++ va_pl (mL S) (pF cA S)).set k (a, e) = _
  rw [h1, List.nil_append]
  unfold pW
  rw [hL]
  refine va_pl_congr fun b => ?_
  by_cases hb : b = a
  · subst hb; rw [va_up_self]; exact ha
  · rw [va_up_ne _ _ hb]; exact ho b hb
theorem pW_new {cA : Nat → ClassId} {S : Mem} {A : Nat → Prop} {q k n : Nat} {e : va_E} (hD : va_D A (pW cA S ++ [(q, e)])) (he : e = pF cA (nw S q k n) q) : pW cA S ++ [(q, e)] = pW cA (nw S q k n) ∧ q ∉ mL S := by
  have hq : q ∉ mL S := fun h => by
    have hn := (va_D_iff.mp hD).1
    rw [List.map_append, List.nodup_append] at hn
    exact hn.2.2 q (List.mem_map.mpr ⟨(q, pF cA S q), List.mem_map.mpr ⟨q, h, rfl⟩, rfl⟩) q (by simp) rfl
  refine ⟨?_, hq⟩
  show va_pl (mL S) (pF cA S) ++ [(q, e)] = va_pl (mL S ++ [q]) (pF cA (nw S q k n))
  rw [va_pl_push hq]
  refine va_pl_congr fun b => ?_
  by_cases hb : b = q
  · subst hb; rw [va_up_self]; exact he
  · rw [va_up_ne _ _ hb]
    exact pF_eq (by simp [nw, mK, va_up, hb]) (by simp [nw, mI, hb]) (by simp [nw, mJ, hb]) (by simp [nw, mR, hb]) (by simp [nw, mF, hb]) (by simp [nw, mE, hb]) (by simp [nw, mN, va_up, hb]) (by simp [nw, maI, va_up, hb]) (by simp [nw, maJ, va_up, hb]) (by simp [nw, maR, va_up, hb])
/-- an index: in range, and its number -/
def ix (i : Int32) (n j : Nat) : Prop := vp_in i n ∧ i.toNatClampNeg = j
theorem ix_nI {j n : Nat} (h : j < n) (hn : n < 2 ^ 31) : ix (nI j) n j := ⟨vp_in_nI h hn, nI_clamp (Nat.lt_trans h hn)⟩
theorem ix_eq {i : Int32} {j n : Nat} (h : i = nI j) (h1 : j < n) (hn : n < 2 ^ 31) : ix i n j := by subst h; exact ix_nI h1 hn
theorem pF_0 {cA : Nat → ClassId} {S : Mem} {a : Nat} (h : mK S a = 0) : pF cA S a = .inr (0, [va_rf (mR S 0 a), .int (mI S 1 a), va_rf (mR S 2 a), .int (mI S 3 a), .long (mJ S 4 a), .long (mJ S 5 a), .int (mI S 6 a), .int (mI S 7 a), .int (mI S 8 a), .int (mI S 9 a), .long (mJ S 10 a), .int (mI S 11 a), .long (mJ S 12 a), .int (mI S 13 a), .int (mI S 14 a)]) := by simp [pF, h]
theorem pF_1 {cA : Nat → ClassId} {S : Mem} {a : Nat} (h : mK S a = 1) : pF cA S a = .inr (1, [va_rf (mR S 0 a), .int (mI S 1 a), .int (mI S 2 a)]) := by simp [pF, h]
theorem pF_2 {cA : Nat → ClassId} {S : Mem} {a : Nat} (h : mK S a = 2) : pF cA S a = .inr (2, [.double (mE S 0 a), .int (mI S 1 a), .double (mE S 2 a), .int (mI S 3 a)]) := by simp [pF, h]
theorem pF_3 {cA : Nat → ClassId} {S : Mem} {a : Nat} (h : mK S a = 3) : pF cA S a = .inr (3, [.int (mI S 0 a), va_rf (mR S 1 a), .int (mI S 2 a), .long (mJ S 3 a)]) := by simp [pF, h]
theorem pF_4 {cA : Nat → ClassId} {S : Mem} {a : Nat} (h : mK S a = 4) : pF cA S a = .inr (4, [va_rf (mR S 0 a), va_rf (mR S 1 a), va_rf (mR S 2 a), .long (mJ S 3 a), .long (mJ S 4 a)]) := by simp [pF, h]
theorem pF_5 {cA : Nat → ClassId} {S : Mem} {a : Nat} (h : mK S a = 5) : pF cA S a = .inr (5, [.float (mF S 0 a), .float (mF S 1 a)]) := by simp [pF, h]
theorem pF_6 {cA : Nat → ClassId} {S : Mem} {a : Nat} (h : mK S a = 6) : pF cA S a = .inr (6, [.long (mJ S 0 a), .long (mJ S 1 a)]) := by simp [pF, h]
theorem pF_7 {cA : Nat → ClassId} {S : Mem} {a : Nat} (h : mK S a = 7) : pF cA S a = .inr (7, [va_rf (mR S 0 a), va_rf (mR S 1 a), va_rf (mR S 2 a), .int (mI S 3 a), .int (mI S 4 a), .long (mJ S 5 a)]) := by simp [pF, h]
theorem pF_9 {cA : Nat → ClassId} {S : Mem} {a : Nat} (h : mK S a = 9) : pF cA S a = .inl (cA 0, mN S a, .inl (maI S a)) := by simp [pF, h]
theorem pF_12 {cA : Nat → ClassId} {S : Mem} {a : Nat} (h : mK S a = 12) : pF cA S a = .inl (cA 3, mN S a, .inl (maI S a)) := by simp [pF, h]
theorem pF_13 {cA : Nat → ClassId} {S : Mem} {a : Nat} (h : mK S a = 13) : pF cA S a = .inl (cA 4, mN S a, .inr (.inl (maJ S a))) := by simp [pF, h]
theorem pF_15 {cA : Nat → ClassId} {S : Mem} {a : Nat} (h : mK S a = 15) : pF cA S a = .inl (cA 6, mN S a, .inr (.inr (.inr (.inr (maR S a))))) := by simp [pF, h]
theorem pF_16 {cA : Nat → ClassId} {S : Mem} {a : Nat} (h : mK S a = 16) : pF cA S a = .inl (cA 7, mN S a, .inr (.inr (.inr (.inr (maR S a))))) := by simp [pF, h]
theorem inT_0 : ∀ w ∈ wsX00, w ∈ TB := by
  have h : wsX00 = [(Cond.laysFinal "RingPipeline$Consumer" "RingPipeline$Consumer" "handler" "LRingPipeline$Handler;"), (Cond.laysFinal "RingPipeline$Consumer" "RingPipeline$Consumer" "on" "I"), (Cond.laysFinal "RingPipeline$Consumer" "RingPipeline$Consumer" "pool" "LRingPipeline$Pool;"), (Cond.laysFinal "RingPipeline$Consumer" "RingPipeline$Consumer" "policy" "I"), (Cond.lays "RingPipeline$Consumer" "RingPipeline$Consumer" "place" "J"), (Cond.lays "RingPipeline$Consumer" "RingPipeline$Consumer" "event" "J"), (Cond.lays "RingPipeline$Consumer" "RingPipeline$Consumer" "handled" "I"), (Cond.lays "RingPipeline$Consumer" "RingPipeline$Consumer" "ignored" "I"), (Cond.lays "RingPipeline$Consumer" "RingPipeline$Consumer" "rewound" "I"), (Cond.lays "RingPipeline$Consumer" "RingPipeline$Consumer" "halted" "Z"), (Cond.lays "RingPipeline$Consumer" "RingPipeline$Consumer" "threwAt" "J"), (Cond.lays "RingPipeline$Consumer" "RingPipeline$Consumer" "threwThere" "I"), (Cond.lays "RingPipeline$Consumer" "RingPipeline$Consumer" "placeAtStart" "J"), (Cond.lays "RingPipeline$Consumer" "RingPipeline$Consumer" "handledAtStart" "I"), (Cond.lays "RingPipeline$Consumer" "RingPipeline$Consumer" "ignoredAtStart" "I")] := by decide +kernel
  rw [h]
  exact List.forall_mem_cons.mpr ⟨tm_310, List.forall_mem_cons.mpr ⟨tm_312, List.forall_mem_cons.mpr ⟨tm_314, List.forall_mem_cons.mpr ⟨tm_316, List.forall_mem_cons.mpr ⟨tm_318, List.forall_mem_cons.mpr ⟨tm_320, List.forall_mem_cons.mpr ⟨tm_322, List.forall_mem_cons.mpr ⟨tm_324, List.forall_mem_cons.mpr ⟨tm_326, List.forall_mem_cons.mpr ⟨tm_328, List.forall_mem_cons.mpr ⟨tm_330, List.forall_mem_cons.mpr ⟨tm_332, List.forall_mem_cons.mpr ⟨tm_334, List.forall_mem_cons.mpr ⟨tm_336, List.forall_mem_cons.mpr ⟨tm_338, fun _ h => nomatch h⟩⟩⟩⟩⟩⟩⟩⟩⟩⟩⟩⟩⟩⟩⟩
theorem inT_2 : ∀ w ∈ wsX20, w ∈ TB := by
  have h : wsX20 = [(Cond.laysFinal "RingPipeline$Journal" "RingPipeline$Journal" "bytes" "[B"), (Cond.lays "RingPipeline$Journal" "RingPipeline$Journal" "length" "I"), (Cond.lays "RingPipeline$Journal" "RingPipeline$Journal" "keptLength" "I")] := by decide +kernel
  rw [h]
  exact List.forall_mem_cons.mpr ⟨tm_251, List.forall_mem_cons.mpr ⟨tm_253, List.forall_mem_cons.mpr ⟨tm_255, fun _ h => nomatch h⟩⟩⟩
theorem inT_3 : ∀ w ∈ wsX30, w ∈ TB := by
  have h : wsX30 = [(Cond.lays "RingPipeline$Mean" "RingPipeline$Mean" "mean" "D"), (Cond.lays "RingPipeline$Mean" "RingPipeline$Mean" "events" "I"), (Cond.lays "RingPipeline$Mean" "RingPipeline$Mean" "keptMean" "D"), (Cond.lays "RingPipeline$Mean" "RingPipeline$Mean" "keptEvents" "I")] := by decide +kernel
  rw [h]
  exact List.forall_mem_cons.mpr ⟨tm_232, List.forall_mem_cons.mpr ⟨tm_234, List.forall_mem_cons.mpr ⟨tm_236, List.forall_mem_cons.mpr ⟨tm_238, fun _ h => nomatch h⟩⟩⟩⟩
theorem inT_4 : ∀ w ∈ wsX40, w ∈ TB := by
  have h : wsX40 = [(Cond.laysFinal "RingPipeline$Pool" "RingPipeline$Pool" "on" "I"), (Cond.laysFinal "RingPipeline$Pool" "RingPipeline$Pool" "workers" "[LRingPipeline$Consumer;"), (Cond.lays "RingPipeline$Pool" "RingPipeline$Pool" "size" "I"), (Cond.lays "RingPipeline$Pool" "RingPipeline$Pool" "next" "J")] := by decide +kernel
  rw [h]
  exact List.forall_mem_cons.mpr ⟨tm_273, List.forall_mem_cons.mpr ⟨tm_275, List.forall_mem_cons.mpr ⟨tm_277, List.forall_mem_cons.mpr ⟨tm_279, fun _ h => nomatch h⟩⟩⟩⟩
theorem inT_5 : ∀ w ∈ wsX50, w ∈ TB := by
  have h : wsX50 = [(Cond.laysFinal "RingPipeline$Ring" "RingPipeline$Ring" "values" "[J"), (Cond.laysFinal "RingPipeline$Ring" "RingPipeline$Ring" "producers" "[I"), (Cond.laysFinal "RingPipeline$Ring" "RingPipeline$Ring" "published" "[J"), (Cond.lays "RingPipeline$Ring" "RingPipeline$Ring" "cursor" "J"), (Cond.lays "RingPipeline$Ring" "RingPipeline$Ring" "available" "J")] := by decide +kernel
  rw [h]
  exact List.forall_mem_cons.mpr ⟨tm_45, List.forall_mem_cons.mpr ⟨tm_47, List.forall_mem_cons.mpr ⟨tm_49, List.forall_mem_cons.mpr ⟨tm_51, List.forall_mem_cons.mpr ⟨tm_53, fun _ h => nomatch h⟩⟩⟩⟩⟩
theorem inT_6 : ∀ w ∈ wsX60, w ∈ TB := by
  have h : wsX60 = [(Cond.lays "RingPipeline$Smooth" "RingPipeline$Smooth" "level" "F"), (Cond.lays "RingPipeline$Smooth" "RingPipeline$Smooth" "kept" "F")] := by decide +kernel
  rw [h]
  exact List.forall_mem_cons.mpr ⟨tm_216, List.forall_mem_cons.mpr ⟨tm_218, fun _ h => nomatch h⟩⟩
theorem inT_7 : ∀ w ∈ wsX70, w ∈ TB := by
  have h : wsX70 = [(Cond.lays "RingPipeline$Sum" "RingPipeline$Sum" "total" "J"), (Cond.lays "RingPipeline$Sum" "RingPipeline$Sum" "kept" "J")] := by decide +kernel
  rw [h]
  exact List.forall_mem_cons.mpr ⟨tm_202, List.forall_mem_cons.mpr ⟨tm_204, fun _ h => nomatch h⟩⟩
theorem inT_8 : ∀ w ∈ wsX80, w ∈ TB := by
  have h : wsX80 = [(Cond.laysFinal "RingPipeline" "RingPipeline" "ring" "LRingPipeline$Ring;"), (Cond.laysFinal "RingPipeline" "RingPipeline" "consumers" "[LRingPipeline$Consumer;"), (Cond.laysFinal "RingPipeline" "RingPipeline" "pools" "[LRingPipeline$Pool;"), (Cond.lays "RingPipeline" "RingPipeline" "made" "I"), (Cond.lays "RingPipeline" "RingPipeline" "hungOn" "I"), (Cond.lays "RingPipeline" "RingPipeline" "replayedSum" "J")] := by decide +kernel
  rw [h]
  exact List.forall_mem_cons.mpr ⟨tm_64, List.forall_mem_cons.mpr ⟨tm_66, List.forall_mem_cons.mpr ⟨tm_68, List.forall_mem_cons.mpr ⟨tm_70, List.forall_mem_cons.mpr ⟨tm_72, List.forall_mem_cons.mpr ⟨tm_74, fun _ h => nomatch h⟩⟩⟩⟩⟩⟩
section MemRows
variable {p : Program} {l : Launch} {e : Env} {R : Room} {s : State} {m : MethodId} {args : Array Value} {below : List Frame} {meth : Method} {c : Code} {H : Heap} {locs : List Loc} {cells slots : Nat} {Q : State → Prop}
variable {s0 : State} {D : va_G} {cA : Nat → ClassId} {cc : ByteArray} {nL : Nat} {ret : Option FieldType} {own : String} {A : Nat → Prop}
variable {pc : Nat} {ls : Array Slot} {rest : List Value} {S : Mem} {a idx : Nat}
theorem rcv_0 (C : cx_C p l s m args meth c s0 D cA cc nL ret own A) (hP : va_P D vwCl (pW cA S) H) (hL : a ∈ mL S) (hK : mK S a = 0) : ∃ cell : Cell, H[a]? = some cell ∧ cell.vm.isStatics = false ∧ s.vm.findClass RX0 = some cell.cls := by
  obtain ⟨k, hk⟩ := pW_get (cA := cA) hL
  rw [pF_0 hK] at hk
  exact va_recv (cx_k C) hP (ci := 0) (q := (RX0, TX0, 15)) rfl hk
theorem gf_0_0 (C : cx_C p l s m args meth c s0 D cA cc nL ret own A) (hP : va_P D vwCl (pW cA S) H) (hL : a ∈ mL S) (hK : mK S a = 0) (hw : Cond.fieldLink own idx "RingPipeline$Consumer" "handler" "LRingPipeline$Handler;" ∈ TB) (d : decode cc pc = .ok (.getfield idx, 3)) (kk : W p l e R s m args below meth c H locs cells slots Q (F0 m (pc + 3) ls (va_rf (mR S 0 a) :: rest))) : W p l e R s m args below meth c H locs cells slots Q (F0 m pc ls (.ref a :: rest)) := by
  obtain ⟨k, hk⟩ := pW_get (cA := cA) hL
  rw [pF_0 hK] at hk
  exact va_get (D := D) (ci := 0) (C := RX0) (T := TX0) (N := 15) (cx_x C) (cx_b C) (cx_t C) inT_0 (cx_own C) (cx_k C) hP k hk rfl 0 (by decide) (cx_t C _ hw) (fun _ h => h) rfl d kk
theorem gf_0_0s {b : Nat} (C : cx_C p l s m args meth c s0 D cA cc nL ret own A) (hP : va_P D vwCl (pW cA S) H) (hL : a ∈ mL S) (hK : mK S a = 0) (hv : mR S 0 a = some b) (hw : Cond.fieldLink own idx "RingPipeline$Consumer" "handler" "LRingPipeline$Handler;" ∈ TB) (d : decode cc pc = .ok (.getfield idx, 3)) (kk : W p l e R s m args below meth c H locs cells slots Q (F0 m (pc + 3) ls (.ref b :: rest))) : W p l e R s m args below meth c H locs cells slots Q (F0 m pc ls (.ref a :: rest)) := gf_0_0 C hP hL hK hw d (by rw [hv]; exact kk)
theorem pf_0_0 {v : Option Nat} (C : cx_C p l s m args meth c s0 D cA cc nL ret RX0 A) (hin : meth.name = "<init>") (hP : va_P D vwCl (pW cA S) H) (hD : va_D A (pW cA S)) (hS : va_S A s.heap H locs) (hL : a ∈ mL S) (hK : mK S a = 0) (hw : Cond.fieldLink RX0 idx "RingPipeline$Consumer" "handler" "LRingPipeline$Handler;" ∈ TB) (d : decode cc pc = .ok (.putfield idx, 3)) (kk : ∀ (H1 : Heap) (locs1 : List Loc), va_P D vwCl (pW cA (uR S 0 a v)) H1 → va_D A (pW cA (uR S 0 a v)) → va_S A s.heap H1 locs1 → W p l e R s m args below meth c H1 locs1 cells slots Q (F0 m (pc + 3) ls rest)) : W p l e R s m args below meth c H locs cells slots Q (F0 m pc ls (va_rf v :: .ref a :: rest)) := by
  obtain ⟨k, hk⟩ := pW_get (cA := cA) hL
  have hk2 := hk
  rw [pF_0 hK] at hk2
  have he : (pW cA S).set k (a, .inr (0, [va_rf v, .int (mI S 1 a), va_rf (mR S 2 a), .int (mI S 3 a), .long (mJ S 4 a), .long (mJ S 5 a), .int (mI S 6 a), .int (mI S 7 a), .int (mI S 8 a), .int (mI S 9 a), .long (mJ S 10 a), .int (mI S 11 a), .long (mJ S 12 a), .int (mI S 13 a), .int (mI S 14 a)])) = pW cA (uR S 0 a v) := by
    refine pW_set hD hL hk rfl ?_ (fun b hb => pF_eq rfl (fun _ => rfl) (fun _ => rfl) (fun _ => (up2_a hb).symm) (fun _ => rfl) (fun _ => rfl) rfl rfl rfl rfl)
    rw [pF_0 (S := uR S 0 a v) hK]
    simp [uR, mR, up2, mI, mJ, mF, mE]
  exact va_putF (D := D) (ci := 0) (v := va_rf v) (ty := .object "RingPipeline$Handler") (C := RX0) (T := TX0) (N := 15) (cx_x C) (cx_b C) (cx_t C) inT_0 tyX0 tyX0_ok nmX0 (cx_own C) (cx_k C) hP hD hS k hk2 rfl 0 (by decide) (cx_t C _ hw) (fun _ h => h) rfl hin rfl (by decide +kernel) (by cases v <;> rfl) (by cases v <;> rfl) (Nat.le_of_ble_eq_true rfl) d (fun H1 locs1 h1 h2 h3 => kk H1 locs1 (by rw [← he]; exact h1) (by rw [← he]; exact h2) h3)
theorem gf_0_1 (C : cx_C p l s m args meth c s0 D cA cc nL ret own A) (hP : va_P D vwCl (pW cA S) H) (hL : a ∈ mL S) (hK : mK S a = 0) (hw : Cond.fieldLink own idx "RingPipeline$Consumer" "on" "I" ∈ TB) (d : decode cc pc = .ok (.getfield idx, 3)) (kk : W p l e R s m args below meth c H locs cells slots Q (F0 m (pc + 3) ls (.int (mI S 1 a) :: rest))) : W p l e R s m args below meth c H locs cells slots Q (F0 m pc ls (.ref a :: rest)) := by
  obtain ⟨k, hk⟩ := pW_get (cA := cA) hL
  rw [pF_0 hK] at hk
  exact va_get (D := D) (ci := 0) (C := RX0) (T := TX0) (N := 15) (cx_x C) (cx_b C) (cx_t C) inT_0 (cx_own C) (cx_k C) hP k hk rfl 1 (by decide) (cx_t C _ hw) (fun _ h => h) rfl d kk
theorem pf_0_1 {v : Int32} (C : cx_C p l s m args meth c s0 D cA cc nL ret RX0 A) (hin : meth.name = "<init>") (hP : va_P D vwCl (pW cA S) H) (hD : va_D A (pW cA S)) (hS : va_S A s.heap H locs) (hL : a ∈ mL S) (hK : mK S a = 0) (hw : Cond.fieldLink RX0 idx "RingPipeline$Consumer" "on" "I" ∈ TB) (d : decode cc pc = .ok (.putfield idx, 3)) (kk : ∀ (H1 : Heap) (locs1 : List Loc), va_P D vwCl (pW cA (uI S 1 a v)) H1 → va_D A (pW cA (uI S 1 a v)) → va_S A s.heap H1 locs1 → W p l e R s m args below meth c H1 locs1 cells slots Q (F0 m (pc + 3) ls rest)) : W p l e R s m args below meth c H locs cells slots Q (F0 m pc ls (.int v :: .ref a :: rest)) := by
  obtain ⟨k, hk⟩ := pW_get (cA := cA) hL
  have hk2 := hk
  rw [pF_0 hK] at hk2
  have he : (pW cA S).set k (a, .inr (0, [va_rf (mR S 0 a), .int v, va_rf (mR S 2 a), .int (mI S 3 a), .long (mJ S 4 a), .long (mJ S 5 a), .int (mI S 6 a), .int (mI S 7 a), .int (mI S 8 a), .int (mI S 9 a), .long (mJ S 10 a), .int (mI S 11 a), .long (mJ S 12 a), .int (mI S 13 a), .int (mI S 14 a)])) = pW cA (uI S 1 a v) := by
    refine pW_set hD hL hk rfl ?_ (fun b hb => pF_eq rfl (fun _ => (up2_a hb).symm) (fun _ => rfl) (fun _ => rfl) (fun _ => rfl) (fun _ => rfl) rfl rfl rfl rfl)
    rw [pF_0 (S := uI S 1 a v) hK]
    simp [uI, mI, up2, mJ, mR, mF, mE]
  exact va_putF (D := D) (ci := 0) (v := .int v) (ty := .int) (C := RX0) (T := TX0) (N := 15) (cx_x C) (cx_b C) (cx_t C) inT_0 tyX0 tyX0_ok nmX0 (cx_own C) (cx_k C) hP hD hS k hk2 rfl 1 (by decide) (cx_t C _ hw) (fun _ h => h) rfl hin rfl (by decide +kernel) rfl rfl (Nat.le_of_ble_eq_true rfl) d (fun H1 locs1 h1 h2 h3 => kk H1 locs1 (by rw [← he]; exact h1) (by rw [← he]; exact h2) h3)
theorem gf_0_2 (C : cx_C p l s m args meth c s0 D cA cc nL ret own A) (hP : va_P D vwCl (pW cA S) H) (hL : a ∈ mL S) (hK : mK S a = 0) (hw : Cond.fieldLink own idx "RingPipeline$Consumer" "pool" "LRingPipeline$Pool;" ∈ TB) (d : decode cc pc = .ok (.getfield idx, 3)) (kk : W p l e R s m args below meth c H locs cells slots Q (F0 m (pc + 3) ls (va_rf (mR S 2 a) :: rest))) : W p l e R s m args below meth c H locs cells slots Q (F0 m pc ls (.ref a :: rest)) := by
  obtain ⟨k, hk⟩ := pW_get (cA := cA) hL
  rw [pF_0 hK] at hk
  exact va_get (D := D) (ci := 0) (C := RX0) (T := TX0) (N := 15) (cx_x C) (cx_b C) (cx_t C) inT_0 (cx_own C) (cx_k C) hP k hk rfl 2 (by decide) (cx_t C _ hw) (fun _ h => h) rfl d kk
theorem gf_0_2s {b : Nat} (C : cx_C p l s m args meth c s0 D cA cc nL ret own A) (hP : va_P D vwCl (pW cA S) H) (hL : a ∈ mL S) (hK : mK S a = 0) (hv : mR S 2 a = some b) (hw : Cond.fieldLink own idx "RingPipeline$Consumer" "pool" "LRingPipeline$Pool;" ∈ TB) (d : decode cc pc = .ok (.getfield idx, 3)) (kk : W p l e R s m args below meth c H locs cells slots Q (F0 m (pc + 3) ls (.ref b :: rest))) : W p l e R s m args below meth c H locs cells slots Q (F0 m pc ls (.ref a :: rest)) := gf_0_2 C hP hL hK hw d (by rw [hv]; exact kk)
theorem pf_0_2 {v : Option Nat} (C : cx_C p l s m args meth c s0 D cA cc nL ret RX0 A) (hin : meth.name = "<init>") (hP : va_P D vwCl (pW cA S) H) (hD : va_D A (pW cA S)) (hS : va_S A s.heap H locs) (hL : a ∈ mL S) (hK : mK S a = 0) (hw : Cond.fieldLink RX0 idx "RingPipeline$Consumer" "pool" "LRingPipeline$Pool;" ∈ TB) (d : decode cc pc = .ok (.putfield idx, 3)) (kk : ∀ (H1 : Heap) (locs1 : List Loc), va_P D vwCl (pW cA (uR S 2 a v)) H1 → va_D A (pW cA (uR S 2 a v)) → va_S A s.heap H1 locs1 → W p l e R s m args below meth c H1 locs1 cells slots Q (F0 m (pc + 3) ls rest)) : W p l e R s m args below meth c H locs cells slots Q (F0 m pc ls (va_rf v :: .ref a :: rest)) := by
  obtain ⟨k, hk⟩ := pW_get (cA := cA) hL
  have hk2 := hk
  rw [pF_0 hK] at hk2
  have he : (pW cA S).set k (a, .inr (0, [va_rf (mR S 0 a), .int (mI S 1 a), va_rf v, .int (mI S 3 a), .long (mJ S 4 a), .long (mJ S 5 a), .int (mI S 6 a), .int (mI S 7 a), .int (mI S 8 a), .int (mI S 9 a), .long (mJ S 10 a), .int (mI S 11 a), .long (mJ S 12 a), .int (mI S 13 a), .int (mI S 14 a)])) = pW cA (uR S 2 a v) := by
    refine pW_set hD hL hk rfl ?_ (fun b hb => pF_eq rfl (fun _ => rfl) (fun _ => rfl) (fun _ => (up2_a hb).symm) (fun _ => rfl) (fun _ => rfl) rfl rfl rfl rfl)
    rw [pF_0 (S := uR S 2 a v) hK]
    simp [uR, mR, up2, mI, mJ, mF, mE]
  exact va_putF (D := D) (ci := 0) (v := va_rf v) (ty := .object "RingPipeline$Pool") (C := RX0) (T := TX0) (N := 15) (cx_x C) (cx_b C) (cx_t C) inT_0 tyX0 tyX0_ok nmX0 (cx_own C) (cx_k C) hP hD hS k hk2 rfl 2 (by decide) (cx_t C _ hw) (fun _ h => h) rfl hin rfl (by decide +kernel) (by cases v <;> rfl) (by cases v <;> rfl) (Nat.le_of_ble_eq_true rfl) d (fun H1 locs1 h1 h2 h3 => kk H1 locs1 (by rw [← he]; exact h1) (by rw [← he]; exact h2) h3)
theorem gf_0_3 (C : cx_C p l s m args meth c s0 D cA cc nL ret own A) (hP : va_P D vwCl (pW cA S) H) (hL : a ∈ mL S) (hK : mK S a = 0) (hw : Cond.fieldLink own idx "RingPipeline$Consumer" "policy" "I" ∈ TB) (d : decode cc pc = .ok (.getfield idx, 3)) (kk : W p l e R s m args below meth c H locs cells slots Q (F0 m (pc + 3) ls (.int (mI S 3 a) :: rest))) : W p l e R s m args below meth c H locs cells slots Q (F0 m pc ls (.ref a :: rest)) := by
  obtain ⟨k, hk⟩ := pW_get (cA := cA) hL
  rw [pF_0 hK] at hk
  exact va_get (D := D) (ci := 0) (C := RX0) (T := TX0) (N := 15) (cx_x C) (cx_b C) (cx_t C) inT_0 (cx_own C) (cx_k C) hP k hk rfl 3 (by decide) (cx_t C _ hw) (fun _ h => h) rfl d kk
theorem pf_0_3 {v : Int32} (C : cx_C p l s m args meth c s0 D cA cc nL ret RX0 A) (hin : meth.name = "<init>") (hP : va_P D vwCl (pW cA S) H) (hD : va_D A (pW cA S)) (hS : va_S A s.heap H locs) (hL : a ∈ mL S) (hK : mK S a = 0) (hw : Cond.fieldLink RX0 idx "RingPipeline$Consumer" "policy" "I" ∈ TB) (d : decode cc pc = .ok (.putfield idx, 3)) (kk : ∀ (H1 : Heap) (locs1 : List Loc), va_P D vwCl (pW cA (uI S 3 a v)) H1 → va_D A (pW cA (uI S 3 a v)) → va_S A s.heap H1 locs1 → W p l e R s m args below meth c H1 locs1 cells slots Q (F0 m (pc + 3) ls rest)) : W p l e R s m args below meth c H locs cells slots Q (F0 m pc ls (.int v :: .ref a :: rest)) := by
  obtain ⟨k, hk⟩ := pW_get (cA := cA) hL
  have hk2 := hk
  rw [pF_0 hK] at hk2
  have he : (pW cA S).set k (a, .inr (0, [va_rf (mR S 0 a), .int (mI S 1 a), va_rf (mR S 2 a), .int v, .long (mJ S 4 a), .long (mJ S 5 a), .int (mI S 6 a), .int (mI S 7 a), .int (mI S 8 a), .int (mI S 9 a), .long (mJ S 10 a), .int (mI S 11 a), .long (mJ S 12 a), .int (mI S 13 a), .int (mI S 14 a)])) = pW cA (uI S 3 a v) := by
    refine pW_set hD hL hk rfl ?_ (fun b hb => pF_eq rfl (fun _ => (up2_a hb).symm) (fun _ => rfl) (fun _ => rfl) (fun _ => rfl) (fun _ => rfl) rfl rfl rfl rfl)
    rw [pF_0 (S := uI S 3 a v) hK]
    simp [uI, mI, up2, mJ, mR, mF, mE]
  exact va_putF (D := D) (ci := 0) (v := .int v) (ty := .int) (C := RX0) (T := TX0) (N := 15) (cx_x C) (cx_b C) (cx_t C) inT_0 tyX0 tyX0_ok nmX0 (cx_own C) (cx_k C) hP hD hS k hk2 rfl 3 (by decide) (cx_t C _ hw) (fun _ h => h) rfl hin rfl (by decide +kernel) rfl rfl (Nat.le_of_ble_eq_true rfl) d (fun H1 locs1 h1 h2 h3 => kk H1 locs1 (by rw [← he]; exact h1) (by rw [← he]; exact h2) h3)
theorem gf_0_4 (C : cx_C p l s m args meth c s0 D cA cc nL ret own A) (hP : va_P D vwCl (pW cA S) H) (hL : a ∈ mL S) (hK : mK S a = 0) (hw : Cond.fieldLink own idx "RingPipeline$Consumer" "place" "J" ∈ TB) (d : decode cc pc = .ok (.getfield idx, 3)) (kk : W p l e R s m args below meth c H locs cells slots Q (F0 m (pc + 3) ls (.long (mJ S 4 a) :: rest))) : W p l e R s m args below meth c H locs cells slots Q (F0 m pc ls (.ref a :: rest)) := by
  obtain ⟨k, hk⟩ := pW_get (cA := cA) hL
  rw [pF_0 hK] at hk
  exact va_get (D := D) (ci := 0) (C := RX0) (T := TX0) (N := 15) (cx_x C) (cx_b C) (cx_t C) inT_0 (cx_own C) (cx_k C) hP k hk rfl 4 (by decide) (cx_t C _ hw) (fun _ h => h) rfl d kk
theorem pf_0_4 {v : Int64} (C : cx_C p l s m args meth c s0 D cA cc nL ret own A) (hP : va_P D vwCl (pW cA S) H) (hD : va_D A (pW cA S)) (hS : va_S A s.heap H locs) (hL : a ∈ mL S) (hK : mK S a = 0) (hw : Cond.fieldLink own idx "RingPipeline$Consumer" "place" "J" ∈ TB) (d : decode cc pc = .ok (.putfield idx, 3)) (kk : ∀ (H1 : Heap) (locs1 : List Loc), va_P D vwCl (pW cA (uJ S 4 a v)) H1 → va_D A (pW cA (uJ S 4 a v)) → va_S A s.heap H1 locs1 → W p l e R s m args below meth c H1 locs1 cells slots Q (F0 m (pc + 3) ls rest)) : W p l e R s m args below meth c H locs cells slots Q (F0 m pc ls (.long v :: .ref a :: rest)) := by
  obtain ⟨k, hk⟩ := pW_get (cA := cA) hL
  have hk2 := hk
  rw [pF_0 hK] at hk2
  have he : (pW cA S).set k (a, .inr (0, [va_rf (mR S 0 a), .int (mI S 1 a), va_rf (mR S 2 a), .int (mI S 3 a), .long v, .long (mJ S 5 a), .int (mI S 6 a), .int (mI S 7 a), .int (mI S 8 a), .int (mI S 9 a), .long (mJ S 10 a), .int (mI S 11 a), .long (mJ S 12 a), .int (mI S 13 a), .int (mI S 14 a)])) = pW cA (uJ S 4 a v) := by
    refine pW_set hD hL hk rfl ?_ (fun b hb => pF_eq rfl (fun _ => rfl) (fun _ => (up2_a hb).symm) (fun _ => rfl) (fun _ => rfl) (fun _ => rfl) rfl rfl rfl rfl)
    rw [pF_0 (S := uJ S 4 a v) hK]
    simp [uJ, mJ, up2, mI, mR, mF, mE]
  exact va_put (D := D) (ci := 0) (v := .long v) (ty := .long) (C := RX0) (T := TX0) (N := 15) (cx_x C) (cx_b C) (cx_t C) inT_0 tyX0 tyX0_ok nmX0 (cx_own C) (cx_k C) hP hD hS k hk2 rfl 4 (by decide) (cx_t C _ hw) (fun _ h => h) rfl (by decide +kernel) rfl rfl (Nat.le_of_ble_eq_true rfl) d (fun H1 locs1 h1 h2 h3 => kk H1 locs1 (by rw [← he]; exact h1) (by rw [← he]; exact h2) h3)
theorem gf_0_5 (C : cx_C p l s m args meth c s0 D cA cc nL ret own A) (hP : va_P D vwCl (pW cA S) H) (hL : a ∈ mL S) (hK : mK S a = 0) (hw : Cond.fieldLink own idx "RingPipeline$Consumer" "event" "J" ∈ TB) (d : decode cc pc = .ok (.getfield idx, 3)) (kk : W p l e R s m args below meth c H locs cells slots Q (F0 m (pc + 3) ls (.long (mJ S 5 a) :: rest))) : W p l e R s m args below meth c H locs cells slots Q (F0 m pc ls (.ref a :: rest)) := by
  obtain ⟨k, hk⟩ := pW_get (cA := cA) hL
  rw [pF_0 hK] at hk
  exact va_get (D := D) (ci := 0) (C := RX0) (T := TX0) (N := 15) (cx_x C) (cx_b C) (cx_t C) inT_0 (cx_own C) (cx_k C) hP k hk rfl 5 (by decide) (cx_t C _ hw) (fun _ h => h) rfl d kk
theorem pf_0_5 {v : Int64} (C : cx_C p l s m args meth c s0 D cA cc nL ret own A) (hP : va_P D vwCl (pW cA S) H) (hD : va_D A (pW cA S)) (hS : va_S A s.heap H locs) (hL : a ∈ mL S) (hK : mK S a = 0) (hw : Cond.fieldLink own idx "RingPipeline$Consumer" "event" "J" ∈ TB) (d : decode cc pc = .ok (.putfield idx, 3)) (kk : ∀ (H1 : Heap) (locs1 : List Loc), va_P D vwCl (pW cA (uJ S 5 a v)) H1 → va_D A (pW cA (uJ S 5 a v)) → va_S A s.heap H1 locs1 → W p l e R s m args below meth c H1 locs1 cells slots Q (F0 m (pc + 3) ls rest)) : W p l e R s m args below meth c H locs cells slots Q (F0 m pc ls (.long v :: .ref a :: rest)) := by
  obtain ⟨k, hk⟩ := pW_get (cA := cA) hL
  have hk2 := hk
  rw [pF_0 hK] at hk2
  have he : (pW cA S).set k (a, .inr (0, [va_rf (mR S 0 a), .int (mI S 1 a), va_rf (mR S 2 a), .int (mI S 3 a), .long (mJ S 4 a), .long v, .int (mI S 6 a), .int (mI S 7 a), .int (mI S 8 a), .int (mI S 9 a), .long (mJ S 10 a), .int (mI S 11 a), .long (mJ S 12 a), .int (mI S 13 a), .int (mI S 14 a)])) = pW cA (uJ S 5 a v) := by
    refine pW_set hD hL hk rfl ?_ (fun b hb => pF_eq rfl (fun _ => rfl) (fun _ => (up2_a hb).symm) (fun _ => rfl) (fun _ => rfl) (fun _ => rfl) rfl rfl rfl rfl)
    rw [pF_0 (S := uJ S 5 a v) hK]
    simp [uJ, mJ, up2, mI, mR, mF, mE]
  exact va_put (D := D) (ci := 0) (v := .long v) (ty := .long) (C := RX0) (T := TX0) (N := 15) (cx_x C) (cx_b C) (cx_t C) inT_0 tyX0 tyX0_ok nmX0 (cx_own C) (cx_k C) hP hD hS k hk2 rfl 5 (by decide) (cx_t C _ hw) (fun _ h => h) rfl (by decide +kernel) rfl rfl (Nat.le_of_ble_eq_true rfl) d (fun H1 locs1 h1 h2 h3 => kk H1 locs1 (by rw [← he]; exact h1) (by rw [← he]; exact h2) h3)
theorem gf_0_6 (C : cx_C p l s m args meth c s0 D cA cc nL ret own A) (hP : va_P D vwCl (pW cA S) H) (hL : a ∈ mL S) (hK : mK S a = 0) (hw : Cond.fieldLink own idx "RingPipeline$Consumer" "handled" "I" ∈ TB) (d : decode cc pc = .ok (.getfield idx, 3)) (kk : W p l e R s m args below meth c H locs cells slots Q (F0 m (pc + 3) ls (.int (mI S 6 a) :: rest))) : W p l e R s m args below meth c H locs cells slots Q (F0 m pc ls (.ref a :: rest)) := by
  obtain ⟨k, hk⟩ := pW_get (cA := cA) hL
  rw [pF_0 hK] at hk
  exact va_get (D := D) (ci := 0) (C := RX0) (T := TX0) (N := 15) (cx_x C) (cx_b C) (cx_t C) inT_0 (cx_own C) (cx_k C) hP k hk rfl 6 (by decide) (cx_t C _ hw) (fun _ h => h) rfl d kk
theorem pf_0_6 {v : Int32} (C : cx_C p l s m args meth c s0 D cA cc nL ret own A) (hP : va_P D vwCl (pW cA S) H) (hD : va_D A (pW cA S)) (hS : va_S A s.heap H locs) (hL : a ∈ mL S) (hK : mK S a = 0) (hw : Cond.fieldLink own idx "RingPipeline$Consumer" "handled" "I" ∈ TB) (d : decode cc pc = .ok (.putfield idx, 3)) (kk : ∀ (H1 : Heap) (locs1 : List Loc), va_P D vwCl (pW cA (uI S 6 a v)) H1 → va_D A (pW cA (uI S 6 a v)) → va_S A s.heap H1 locs1 → W p l e R s m args below meth c H1 locs1 cells slots Q (F0 m (pc + 3) ls rest)) : W p l e R s m args below meth c H locs cells slots Q (F0 m pc ls (.int v :: .ref a :: rest)) := by
  obtain ⟨k, hk⟩ := pW_get (cA := cA) hL
  have hk2 := hk
  rw [pF_0 hK] at hk2
  have he : (pW cA S).set k (a, .inr (0, [va_rf (mR S 0 a), .int (mI S 1 a), va_rf (mR S 2 a), .int (mI S 3 a), .long (mJ S 4 a), .long (mJ S 5 a), .int v, .int (mI S 7 a), .int (mI S 8 a), .int (mI S 9 a), .long (mJ S 10 a), .int (mI S 11 a), .long (mJ S 12 a), .int (mI S 13 a), .int (mI S 14 a)])) = pW cA (uI S 6 a v) := by
    refine pW_set hD hL hk rfl ?_ (fun b hb => pF_eq rfl (fun _ => (up2_a hb).symm) (fun _ => rfl) (fun _ => rfl) (fun _ => rfl) (fun _ => rfl) rfl rfl rfl rfl)
    rw [pF_0 (S := uI S 6 a v) hK]
    simp [uI, mI, up2, mJ, mR, mF, mE]
  exact va_put (D := D) (ci := 0) (v := .int v) (ty := .int) (C := RX0) (T := TX0) (N := 15) (cx_x C) (cx_b C) (cx_t C) inT_0 tyX0 tyX0_ok nmX0 (cx_own C) (cx_k C) hP hD hS k hk2 rfl 6 (by decide) (cx_t C _ hw) (fun _ h => h) rfl (by decide +kernel) rfl rfl (Nat.le_of_ble_eq_true rfl) d (fun H1 locs1 h1 h2 h3 => kk H1 locs1 (by rw [← he]; exact h1) (by rw [← he]; exact h2) h3)
theorem gf_0_7 (C : cx_C p l s m args meth c s0 D cA cc nL ret own A) (hP : va_P D vwCl (pW cA S) H) (hL : a ∈ mL S) (hK : mK S a = 0) (hw : Cond.fieldLink own idx "RingPipeline$Consumer" "ignored" "I" ∈ TB) (d : decode cc pc = .ok (.getfield idx, 3)) (kk : W p l e R s m args below meth c H locs cells slots Q (F0 m (pc + 3) ls (.int (mI S 7 a) :: rest))) : W p l e R s m args below meth c H locs cells slots Q (F0 m pc ls (.ref a :: rest)) := by
  obtain ⟨k, hk⟩ := pW_get (cA := cA) hL
  rw [pF_0 hK] at hk
  exact va_get (D := D) (ci := 0) (C := RX0) (T := TX0) (N := 15) (cx_x C) (cx_b C) (cx_t C) inT_0 (cx_own C) (cx_k C) hP k hk rfl 7 (by decide) (cx_t C _ hw) (fun _ h => h) rfl d kk
theorem pf_0_7 {v : Int32} (C : cx_C p l s m args meth c s0 D cA cc nL ret own A) (hP : va_P D vwCl (pW cA S) H) (hD : va_D A (pW cA S)) (hS : va_S A s.heap H locs) (hL : a ∈ mL S) (hK : mK S a = 0) (hw : Cond.fieldLink own idx "RingPipeline$Consumer" "ignored" "I" ∈ TB) (d : decode cc pc = .ok (.putfield idx, 3)) (kk : ∀ (H1 : Heap) (locs1 : List Loc), va_P D vwCl (pW cA (uI S 7 a v)) H1 → va_D A (pW cA (uI S 7 a v)) → va_S A s.heap H1 locs1 → W p l e R s m args below meth c H1 locs1 cells slots Q (F0 m (pc + 3) ls rest)) : W p l e R s m args below meth c H locs cells slots Q (F0 m pc ls (.int v :: .ref a :: rest)) := by
  obtain ⟨k, hk⟩ := pW_get (cA := cA) hL
  have hk2 := hk
  rw [pF_0 hK] at hk2
  have he : (pW cA S).set k (a, .inr (0, [va_rf (mR S 0 a), .int (mI S 1 a), va_rf (mR S 2 a), .int (mI S 3 a), .long (mJ S 4 a), .long (mJ S 5 a), .int (mI S 6 a), .int v, .int (mI S 8 a), .int (mI S 9 a), .long (mJ S 10 a), .int (mI S 11 a), .long (mJ S 12 a), .int (mI S 13 a), .int (mI S 14 a)])) = pW cA (uI S 7 a v) := by
    refine pW_set hD hL hk rfl ?_ (fun b hb => pF_eq rfl (fun _ => (up2_a hb).symm) (fun _ => rfl) (fun _ => rfl) (fun _ => rfl) (fun _ => rfl) rfl rfl rfl rfl)
    rw [pF_0 (S := uI S 7 a v) hK]
    simp [uI, mI, up2, mJ, mR, mF, mE]
  exact va_put (D := D) (ci := 0) (v := .int v) (ty := .int) (C := RX0) (T := TX0) (N := 15) (cx_x C) (cx_b C) (cx_t C) inT_0 tyX0 tyX0_ok nmX0 (cx_own C) (cx_k C) hP hD hS k hk2 rfl 7 (by decide) (cx_t C _ hw) (fun _ h => h) rfl (by decide +kernel) rfl rfl (Nat.le_of_ble_eq_true rfl) d (fun H1 locs1 h1 h2 h3 => kk H1 locs1 (by rw [← he]; exact h1) (by rw [← he]; exact h2) h3)
theorem gf_0_8 (C : cx_C p l s m args meth c s0 D cA cc nL ret own A) (hP : va_P D vwCl (pW cA S) H) (hL : a ∈ mL S) (hK : mK S a = 0) (hw : Cond.fieldLink own idx "RingPipeline$Consumer" "rewound" "I" ∈ TB) (d : decode cc pc = .ok (.getfield idx, 3)) (kk : W p l e R s m args below meth c H locs cells slots Q (F0 m (pc + 3) ls (.int (mI S 8 a) :: rest))) : W p l e R s m args below meth c H locs cells slots Q (F0 m pc ls (.ref a :: rest)) := by
  obtain ⟨k, hk⟩ := pW_get (cA := cA) hL
  rw [pF_0 hK] at hk
  exact va_get (D := D) (ci := 0) (C := RX0) (T := TX0) (N := 15) (cx_x C) (cx_b C) (cx_t C) inT_0 (cx_own C) (cx_k C) hP k hk rfl 8 (by decide) (cx_t C _ hw) (fun _ h => h) rfl d kk
theorem pf_0_8 {v : Int32} (C : cx_C p l s m args meth c s0 D cA cc nL ret own A) (hP : va_P D vwCl (pW cA S) H) (hD : va_D A (pW cA S)) (hS : va_S A s.heap H locs) (hL : a ∈ mL S) (hK : mK S a = 0) (hw : Cond.fieldLink own idx "RingPipeline$Consumer" "rewound" "I" ∈ TB) (d : decode cc pc = .ok (.putfield idx, 3)) (kk : ∀ (H1 : Heap) (locs1 : List Loc), va_P D vwCl (pW cA (uI S 8 a v)) H1 → va_D A (pW cA (uI S 8 a v)) → va_S A s.heap H1 locs1 → W p l e R s m args below meth c H1 locs1 cells slots Q (F0 m (pc + 3) ls rest)) : W p l e R s m args below meth c H locs cells slots Q (F0 m pc ls (.int v :: .ref a :: rest)) := by
  obtain ⟨k, hk⟩ := pW_get (cA := cA) hL
  have hk2 := hk
  rw [pF_0 hK] at hk2
  have he : (pW cA S).set k (a, .inr (0, [va_rf (mR S 0 a), .int (mI S 1 a), va_rf (mR S 2 a), .int (mI S 3 a), .long (mJ S 4 a), .long (mJ S 5 a), .int (mI S 6 a), .int (mI S 7 a), .int v, .int (mI S 9 a), .long (mJ S 10 a), .int (mI S 11 a), .long (mJ S 12 a), .int (mI S 13 a), .int (mI S 14 a)])) = pW cA (uI S 8 a v) := by
    refine pW_set hD hL hk rfl ?_ (fun b hb => pF_eq rfl (fun _ => (up2_a hb).symm) (fun _ => rfl) (fun _ => rfl) (fun _ => rfl) (fun _ => rfl) rfl rfl rfl rfl)
    rw [pF_0 (S := uI S 8 a v) hK]
    simp [uI, mI, up2, mJ, mR, mF, mE]
  exact va_put (D := D) (ci := 0) (v := .int v) (ty := .int) (C := RX0) (T := TX0) (N := 15) (cx_x C) (cx_b C) (cx_t C) inT_0 tyX0 tyX0_ok nmX0 (cx_own C) (cx_k C) hP hD hS k hk2 rfl 8 (by decide) (cx_t C _ hw) (fun _ h => h) rfl (by decide +kernel) rfl rfl (Nat.le_of_ble_eq_true rfl) d (fun H1 locs1 h1 h2 h3 => kk H1 locs1 (by rw [← he]; exact h1) (by rw [← he]; exact h2) h3)
theorem gf_0_9 (C : cx_C p l s m args meth c s0 D cA cc nL ret own A) (hP : va_P D vwCl (pW cA S) H) (hL : a ∈ mL S) (hK : mK S a = 0) (hw : Cond.fieldLink own idx "RingPipeline$Consumer" "halted" "Z" ∈ TB) (d : decode cc pc = .ok (.getfield idx, 3)) (kk : W p l e R s m args below meth c H locs cells slots Q (F0 m (pc + 3) ls (.int (mI S 9 a) :: rest))) : W p l e R s m args below meth c H locs cells slots Q (F0 m pc ls (.ref a :: rest)) := by
  obtain ⟨k, hk⟩ := pW_get (cA := cA) hL
  rw [pF_0 hK] at hk
  exact va_get (D := D) (ci := 0) (C := RX0) (T := TX0) (N := 15) (cx_x C) (cx_b C) (cx_t C) inT_0 (cx_own C) (cx_k C) hP k hk rfl 9 (by decide) (cx_t C _ hw) (fun _ h => h) rfl d kk
theorem pf_0_9 {v : Int32} (C : cx_C p l s m args meth c s0 D cA cc nL ret own A) (hz : narrow .boolean (.int v) = .int v) (hfit : fits .boolean (.int v) = true) (hP : va_P D vwCl (pW cA S) H) (hD : va_D A (pW cA S)) (hS : va_S A s.heap H locs) (hL : a ∈ mL S) (hK : mK S a = 0) (hw : Cond.fieldLink own idx "RingPipeline$Consumer" "halted" "Z" ∈ TB) (d : decode cc pc = .ok (.putfield idx, 3)) (kk : ∀ (H1 : Heap) (locs1 : List Loc), va_P D vwCl (pW cA (uI S 9 a v)) H1 → va_D A (pW cA (uI S 9 a v)) → va_S A s.heap H1 locs1 → W p l e R s m args below meth c H1 locs1 cells slots Q (F0 m (pc + 3) ls rest)) : W p l e R s m args below meth c H locs cells slots Q (F0 m pc ls (.int v :: .ref a :: rest)) := by
  obtain ⟨k, hk⟩ := pW_get (cA := cA) hL
  have hk2 := hk
  rw [pF_0 hK] at hk2
  have he : (pW cA S).set k (a, .inr (0, [va_rf (mR S 0 a), .int (mI S 1 a), va_rf (mR S 2 a), .int (mI S 3 a), .long (mJ S 4 a), .long (mJ S 5 a), .int (mI S 6 a), .int (mI S 7 a), .int (mI S 8 a), .int v, .long (mJ S 10 a), .int (mI S 11 a), .long (mJ S 12 a), .int (mI S 13 a), .int (mI S 14 a)])) = pW cA (uI S 9 a v) := by
    refine pW_set hD hL hk rfl ?_ (fun b hb => pF_eq rfl (fun _ => (up2_a hb).symm) (fun _ => rfl) (fun _ => rfl) (fun _ => rfl) (fun _ => rfl) rfl rfl rfl rfl)
    rw [pF_0 (S := uI S 9 a v) hK]
    simp [uI, mI, up2, mJ, mR, mF, mE]
  exact va_put (D := D) (ci := 0) (v := .int v) (ty := .boolean) (C := RX0) (T := TX0) (N := 15) (cx_x C) (cx_b C) (cx_t C) inT_0 tyX0 tyX0_ok nmX0 (cx_own C) (cx_k C) hP hD hS k hk2 rfl 9 (by decide) (cx_t C _ hw) (fun _ h => h) rfl (by decide +kernel) hz hfit (Nat.le_of_ble_eq_true rfl) d (fun H1 locs1 h1 h2 h3 => kk H1 locs1 (by rw [← he]; exact h1) (by rw [← he]; exact h2) h3)
theorem gf_0_10 (C : cx_C p l s m args meth c s0 D cA cc nL ret own A) (hP : va_P D vwCl (pW cA S) H) (hL : a ∈ mL S) (hK : mK S a = 0) (hw : Cond.fieldLink own idx "RingPipeline$Consumer" "threwAt" "J" ∈ TB) (d : decode cc pc = .ok (.getfield idx, 3)) (kk : W p l e R s m args below meth c H locs cells slots Q (F0 m (pc + 3) ls (.long (mJ S 10 a) :: rest))) : W p l e R s m args below meth c H locs cells slots Q (F0 m pc ls (.ref a :: rest)) := by
  obtain ⟨k, hk⟩ := pW_get (cA := cA) hL
  rw [pF_0 hK] at hk
  exact va_get (D := D) (ci := 0) (C := RX0) (T := TX0) (N := 15) (cx_x C) (cx_b C) (cx_t C) inT_0 (cx_own C) (cx_k C) hP k hk rfl 10 (by decide) (cx_t C _ hw) (fun _ h => h) rfl d kk
theorem pf_0_10 {v : Int64} (C : cx_C p l s m args meth c s0 D cA cc nL ret own A) (hP : va_P D vwCl (pW cA S) H) (hD : va_D A (pW cA S)) (hS : va_S A s.heap H locs) (hL : a ∈ mL S) (hK : mK S a = 0) (hw : Cond.fieldLink own idx "RingPipeline$Consumer" "threwAt" "J" ∈ TB) (d : decode cc pc = .ok (.putfield idx, 3)) (kk : ∀ (H1 : Heap) (locs1 : List Loc), va_P D vwCl (pW cA (uJ S 10 a v)) H1 → va_D A (pW cA (uJ S 10 a v)) → va_S A s.heap H1 locs1 → W p l e R s m args below meth c H1 locs1 cells slots Q (F0 m (pc + 3) ls rest)) : W p l e R s m args below meth c H locs cells slots Q (F0 m pc ls (.long v :: .ref a :: rest)) := by
  obtain ⟨k, hk⟩ := pW_get (cA := cA) hL
  have hk2 := hk
  rw [pF_0 hK] at hk2
  have he : (pW cA S).set k (a, .inr (0, [va_rf (mR S 0 a), .int (mI S 1 a), va_rf (mR S 2 a), .int (mI S 3 a), .long (mJ S 4 a), .long (mJ S 5 a), .int (mI S 6 a), .int (mI S 7 a), .int (mI S 8 a), .int (mI S 9 a), .long v, .int (mI S 11 a), .long (mJ S 12 a), .int (mI S 13 a), .int (mI S 14 a)])) = pW cA (uJ S 10 a v) := by
    refine pW_set hD hL hk rfl ?_ (fun b hb => pF_eq rfl (fun _ => rfl) (fun _ => (up2_a hb).symm) (fun _ => rfl) (fun _ => rfl) (fun _ => rfl) rfl rfl rfl rfl)
    rw [pF_0 (S := uJ S 10 a v) hK]
    simp [uJ, mJ, up2, mI, mR, mF, mE]
  exact va_put (D := D) (ci := 0) (v := .long v) (ty := .long) (C := RX0) (T := TX0) (N := 15) (cx_x C) (cx_b C) (cx_t C) inT_0 tyX0 tyX0_ok nmX0 (cx_own C) (cx_k C) hP hD hS k hk2 rfl 10 (by decide) (cx_t C _ hw) (fun _ h => h) rfl (by decide +kernel) rfl rfl (Nat.le_of_ble_eq_true rfl) d (fun H1 locs1 h1 h2 h3 => kk H1 locs1 (by rw [← he]; exact h1) (by rw [← he]; exact h2) h3)
theorem gf_0_11 (C : cx_C p l s m args meth c s0 D cA cc nL ret own A) (hP : va_P D vwCl (pW cA S) H) (hL : a ∈ mL S) (hK : mK S a = 0) (hw : Cond.fieldLink own idx "RingPipeline$Consumer" "threwThere" "I" ∈ TB) (d : decode cc pc = .ok (.getfield idx, 3)) (kk : W p l e R s m args below meth c H locs cells slots Q (F0 m (pc + 3) ls (.int (mI S 11 a) :: rest))) : W p l e R s m args below meth c H locs cells slots Q (F0 m pc ls (.ref a :: rest)) := by
  obtain ⟨k, hk⟩ := pW_get (cA := cA) hL
  rw [pF_0 hK] at hk
  exact va_get (D := D) (ci := 0) (C := RX0) (T := TX0) (N := 15) (cx_x C) (cx_b C) (cx_t C) inT_0 (cx_own C) (cx_k C) hP k hk rfl 11 (by decide) (cx_t C _ hw) (fun _ h => h) rfl d kk
theorem pf_0_11 {v : Int32} (C : cx_C p l s m args meth c s0 D cA cc nL ret own A) (hP : va_P D vwCl (pW cA S) H) (hD : va_D A (pW cA S)) (hS : va_S A s.heap H locs) (hL : a ∈ mL S) (hK : mK S a = 0) (hw : Cond.fieldLink own idx "RingPipeline$Consumer" "threwThere" "I" ∈ TB) (d : decode cc pc = .ok (.putfield idx, 3)) (kk : ∀ (H1 : Heap) (locs1 : List Loc), va_P D vwCl (pW cA (uI S 11 a v)) H1 → va_D A (pW cA (uI S 11 a v)) → va_S A s.heap H1 locs1 → W p l e R s m args below meth c H1 locs1 cells slots Q (F0 m (pc + 3) ls rest)) : W p l e R s m args below meth c H locs cells slots Q (F0 m pc ls (.int v :: .ref a :: rest)) := by
  obtain ⟨k, hk⟩ := pW_get (cA := cA) hL
  have hk2 := hk
  rw [pF_0 hK] at hk2
  have he : (pW cA S).set k (a, .inr (0, [va_rf (mR S 0 a), .int (mI S 1 a), va_rf (mR S 2 a), .int (mI S 3 a), .long (mJ S 4 a), .long (mJ S 5 a), .int (mI S 6 a), .int (mI S 7 a), .int (mI S 8 a), .int (mI S 9 a), .long (mJ S 10 a), .int v, .long (mJ S 12 a), .int (mI S 13 a), .int (mI S 14 a)])) = pW cA (uI S 11 a v) := by
    refine pW_set hD hL hk rfl ?_ (fun b hb => pF_eq rfl (fun _ => (up2_a hb).symm) (fun _ => rfl) (fun _ => rfl) (fun _ => rfl) (fun _ => rfl) rfl rfl rfl rfl)
    rw [pF_0 (S := uI S 11 a v) hK]
    simp [uI, mI, up2, mJ, mR, mF, mE]
  exact va_put (D := D) (ci := 0) (v := .int v) (ty := .int) (C := RX0) (T := TX0) (N := 15) (cx_x C) (cx_b C) (cx_t C) inT_0 tyX0 tyX0_ok nmX0 (cx_own C) (cx_k C) hP hD hS k hk2 rfl 11 (by decide) (cx_t C _ hw) (fun _ h => h) rfl (by decide +kernel) rfl rfl (Nat.le_of_ble_eq_true rfl) d (fun H1 locs1 h1 h2 h3 => kk H1 locs1 (by rw [← he]; exact h1) (by rw [← he]; exact h2) h3)
theorem gf_0_12 (C : cx_C p l s m args meth c s0 D cA cc nL ret own A) (hP : va_P D vwCl (pW cA S) H) (hL : a ∈ mL S) (hK : mK S a = 0) (hw : Cond.fieldLink own idx "RingPipeline$Consumer" "placeAtStart" "J" ∈ TB) (d : decode cc pc = .ok (.getfield idx, 3)) (kk : W p l e R s m args below meth c H locs cells slots Q (F0 m (pc + 3) ls (.long (mJ S 12 a) :: rest))) : W p l e R s m args below meth c H locs cells slots Q (F0 m pc ls (.ref a :: rest)) := by
  obtain ⟨k, hk⟩ := pW_get (cA := cA) hL
  rw [pF_0 hK] at hk
  exact va_get (D := D) (ci := 0) (C := RX0) (T := TX0) (N := 15) (cx_x C) (cx_b C) (cx_t C) inT_0 (cx_own C) (cx_k C) hP k hk rfl 12 (by decide) (cx_t C _ hw) (fun _ h => h) rfl d kk
theorem pf_0_12 {v : Int64} (C : cx_C p l s m args meth c s0 D cA cc nL ret own A) (hP : va_P D vwCl (pW cA S) H) (hD : va_D A (pW cA S)) (hS : va_S A s.heap H locs) (hL : a ∈ mL S) (hK : mK S a = 0) (hw : Cond.fieldLink own idx "RingPipeline$Consumer" "placeAtStart" "J" ∈ TB) (d : decode cc pc = .ok (.putfield idx, 3)) (kk : ∀ (H1 : Heap) (locs1 : List Loc), va_P D vwCl (pW cA (uJ S 12 a v)) H1 → va_D A (pW cA (uJ S 12 a v)) → va_S A s.heap H1 locs1 → W p l e R s m args below meth c H1 locs1 cells slots Q (F0 m (pc + 3) ls rest)) : W p l e R s m args below meth c H locs cells slots Q (F0 m pc ls (.long v :: .ref a :: rest)) := by
  obtain ⟨k, hk⟩ := pW_get (cA := cA) hL
  have hk2 := hk
  rw [pF_0 hK] at hk2
  have he : (pW cA S).set k (a, .inr (0, [va_rf (mR S 0 a), .int (mI S 1 a), va_rf (mR S 2 a), .int (mI S 3 a), .long (mJ S 4 a), .long (mJ S 5 a), .int (mI S 6 a), .int (mI S 7 a), .int (mI S 8 a), .int (mI S 9 a), .long (mJ S 10 a), .int (mI S 11 a), .long v, .int (mI S 13 a), .int (mI S 14 a)])) = pW cA (uJ S 12 a v) := by
    refine pW_set hD hL hk rfl ?_ (fun b hb => pF_eq rfl (fun _ => rfl) (fun _ => (up2_a hb).symm) (fun _ => rfl) (fun _ => rfl) (fun _ => rfl) rfl rfl rfl rfl)
    rw [pF_0 (S := uJ S 12 a v) hK]
    simp [uJ, mJ, up2, mI, mR, mF, mE]
  exact va_put (D := D) (ci := 0) (v := .long v) (ty := .long) (C := RX0) (T := TX0) (N := 15) (cx_x C) (cx_b C) (cx_t C) inT_0 tyX0 tyX0_ok nmX0 (cx_own C) (cx_k C) hP hD hS k hk2 rfl 12 (by decide) (cx_t C _ hw) (fun _ h => h) rfl (by decide +kernel) rfl rfl (Nat.le_of_ble_eq_true rfl) d (fun H1 locs1 h1 h2 h3 => kk H1 locs1 (by rw [← he]; exact h1) (by rw [← he]; exact h2) h3)
theorem gf_0_13 (C : cx_C p l s m args meth c s0 D cA cc nL ret own A) (hP : va_P D vwCl (pW cA S) H) (hL : a ∈ mL S) (hK : mK S a = 0) (hw : Cond.fieldLink own idx "RingPipeline$Consumer" "handledAtStart" "I" ∈ TB) (d : decode cc pc = .ok (.getfield idx, 3)) (kk : W p l e R s m args below meth c H locs cells slots Q (F0 m (pc + 3) ls (.int (mI S 13 a) :: rest))) : W p l e R s m args below meth c H locs cells slots Q (F0 m pc ls (.ref a :: rest)) := by
  obtain ⟨k, hk⟩ := pW_get (cA := cA) hL
  rw [pF_0 hK] at hk
  exact va_get (D := D) (ci := 0) (C := RX0) (T := TX0) (N := 15) (cx_x C) (cx_b C) (cx_t C) inT_0 (cx_own C) (cx_k C) hP k hk rfl 13 (by decide) (cx_t C _ hw) (fun _ h => h) rfl d kk
theorem pf_0_13 {v : Int32} (C : cx_C p l s m args meth c s0 D cA cc nL ret own A) (hP : va_P D vwCl (pW cA S) H) (hD : va_D A (pW cA S)) (hS : va_S A s.heap H locs) (hL : a ∈ mL S) (hK : mK S a = 0) (hw : Cond.fieldLink own idx "RingPipeline$Consumer" "handledAtStart" "I" ∈ TB) (d : decode cc pc = .ok (.putfield idx, 3)) (kk : ∀ (H1 : Heap) (locs1 : List Loc), va_P D vwCl (pW cA (uI S 13 a v)) H1 → va_D A (pW cA (uI S 13 a v)) → va_S A s.heap H1 locs1 → W p l e R s m args below meth c H1 locs1 cells slots Q (F0 m (pc + 3) ls rest)) : W p l e R s m args below meth c H locs cells slots Q (F0 m pc ls (.int v :: .ref a :: rest)) := by
  obtain ⟨k, hk⟩ := pW_get (cA := cA) hL
  have hk2 := hk
  rw [pF_0 hK] at hk2
  have he : (pW cA S).set k (a, .inr (0, [va_rf (mR S 0 a), .int (mI S 1 a), va_rf (mR S 2 a), .int (mI S 3 a), .long (mJ S 4 a), .long (mJ S 5 a), .int (mI S 6 a), .int (mI S 7 a), .int (mI S 8 a), .int (mI S 9 a), .long (mJ S 10 a), .int (mI S 11 a), .long (mJ S 12 a), .int v, .int (mI S 14 a)])) = pW cA (uI S 13 a v) := by
    refine pW_set hD hL hk rfl ?_ (fun b hb => pF_eq rfl (fun _ => (up2_a hb).symm) (fun _ => rfl) (fun _ => rfl) (fun _ => rfl) (fun _ => rfl) rfl rfl rfl rfl)
    rw [pF_0 (S := uI S 13 a v) hK]
    simp [uI, mI, up2, mJ, mR, mF, mE]
  exact va_put (D := D) (ci := 0) (v := .int v) (ty := .int) (C := RX0) (T := TX0) (N := 15) (cx_x C) (cx_b C) (cx_t C) inT_0 tyX0 tyX0_ok nmX0 (cx_own C) (cx_k C) hP hD hS k hk2 rfl 13 (by decide) (cx_t C _ hw) (fun _ h => h) rfl (by decide +kernel) rfl rfl (Nat.le_of_ble_eq_true rfl) d (fun H1 locs1 h1 h2 h3 => kk H1 locs1 (by rw [← he]; exact h1) (by rw [← he]; exact h2) h3)
theorem gf_0_14 (C : cx_C p l s m args meth c s0 D cA cc nL ret own A) (hP : va_P D vwCl (pW cA S) H) (hL : a ∈ mL S) (hK : mK S a = 0) (hw : Cond.fieldLink own idx "RingPipeline$Consumer" "ignoredAtStart" "I" ∈ TB) (d : decode cc pc = .ok (.getfield idx, 3)) (kk : W p l e R s m args below meth c H locs cells slots Q (F0 m (pc + 3) ls (.int (mI S 14 a) :: rest))) : W p l e R s m args below meth c H locs cells slots Q (F0 m pc ls (.ref a :: rest)) := by
  obtain ⟨k, hk⟩ := pW_get (cA := cA) hL
  rw [pF_0 hK] at hk
  exact va_get (D := D) (ci := 0) (C := RX0) (T := TX0) (N := 15) (cx_x C) (cx_b C) (cx_t C) inT_0 (cx_own C) (cx_k C) hP k hk rfl 14 (by decide) (cx_t C _ hw) (fun _ h => h) rfl d kk
theorem pf_0_14 {v : Int32} (C : cx_C p l s m args meth c s0 D cA cc nL ret own A) (hP : va_P D vwCl (pW cA S) H) (hD : va_D A (pW cA S)) (hS : va_S A s.heap H locs) (hL : a ∈ mL S) (hK : mK S a = 0) (hw : Cond.fieldLink own idx "RingPipeline$Consumer" "ignoredAtStart" "I" ∈ TB) (d : decode cc pc = .ok (.putfield idx, 3)) (kk : ∀ (H1 : Heap) (locs1 : List Loc), va_P D vwCl (pW cA (uI S 14 a v)) H1 → va_D A (pW cA (uI S 14 a v)) → va_S A s.heap H1 locs1 → W p l e R s m args below meth c H1 locs1 cells slots Q (F0 m (pc + 3) ls rest)) : W p l e R s m args below meth c H locs cells slots Q (F0 m pc ls (.int v :: .ref a :: rest)) := by
  obtain ⟨k, hk⟩ := pW_get (cA := cA) hL
  have hk2 := hk
  rw [pF_0 hK] at hk2
  have he : (pW cA S).set k (a, .inr (0, [va_rf (mR S 0 a), .int (mI S 1 a), va_rf (mR S 2 a), .int (mI S 3 a), .long (mJ S 4 a), .long (mJ S 5 a), .int (mI S 6 a), .int (mI S 7 a), .int (mI S 8 a), .int (mI S 9 a), .long (mJ S 10 a), .int (mI S 11 a), .long (mJ S 12 a), .int (mI S 13 a), .int v])) = pW cA (uI S 14 a v) := by
    refine pW_set hD hL hk rfl ?_ (fun b hb => pF_eq rfl (fun _ => (up2_a hb).symm) (fun _ => rfl) (fun _ => rfl) (fun _ => rfl) (fun _ => rfl) rfl rfl rfl rfl)
    rw [pF_0 (S := uI S 14 a v) hK]
    simp [uI, mI, up2, mJ, mR, mF, mE]
  exact va_put (D := D) (ci := 0) (v := .int v) (ty := .int) (C := RX0) (T := TX0) (N := 15) (cx_x C) (cx_b C) (cx_t C) inT_0 tyX0 tyX0_ok nmX0 (cx_own C) (cx_k C) hP hD hS k hk2 rfl 14 (by decide) (cx_t C _ hw) (fun _ h => h) rfl (by decide +kernel) rfl rfl (Nat.le_of_ble_eq_true rfl) d (fun H1 locs1 h1 h2 h3 => kk H1 locs1 (by rw [← he]; exact h1) (by rw [← he]; exact h2) h3)
theorem nwo_0 (C : cx_C p l s m args meth c s0 D cA cc nL ret own A) (hP : va_P D vwCl (pW cA S) H) (hD : va_D A (pW cA S)) (hS : va_S A s.heap H locs) (hw : Cond.classLink own idx "RingPipeline$Consumer" ∈ TB) (hc : cells + 1 ≤ R.cells) (hs : slots + 15 ≤ R.slots) (d : decode cc pc = .ok (.new idx, 3)) (kk : ∀ (q : Nat) (H1 : Heap), q ∉ mL S → va_P D vwCl (pW cA (nw S q 0 0)) H1 → va_D A (pW cA (nw S q 0 0)) → va_S A s.heap H1 locs → W p l e R s m args below meth c H1 locs (cells + 1) (slots + 15) Q (F0 m (pc + 3) ls (.ref q :: rest))) : W p l e R s m args below meth c H locs cells slots Q (F0 m pc ls rest) := by
  refine va_new (D := D) (ci := 0) (fs := [.null, .int 0, .null, .int 0, .long 0, .long 0, .int 0, .int 0, .int 0, .int 0, .long 0, .int 0, .long 0, .int 0, .int 0]) (C := RX0) (T := TX0) (N := 15) (cx_x C) (cx_b C) (cx_t C) inT_0 tyX0 tyX0_ok (cx_own C) (cx_t C _ hw) (cx_t C _ tm_187) (cx_t C _ tm_9) (cx_k C) hP hD hS (cx_a C) rfl (fun j hj => by rcases (show j = 0 ∨ j = 1 ∨ j = 2 ∨ j = 3 ∨ j = 4 ∨ j = 5 ∨ j = 6 ∨ j = 7 ∨ j = 8 ∨ j = 9 ∨ j = 10 ∨ j = 11 ∨ j = 12 ∨ j = 13 ∨ j = 14 by omega) with rfl | rfl | rfl | rfl | rfl | rfl | rfl | rfl | rfl | rfl | rfl | rfl | rfl | rfl | rfl <;> rfl) hc hs d (fun q H1 h1 h2 h3 => ?_)
  have hq := pW_new (k := 0) (n := 0) h2 (by rw [pF_0 (by simp [nw, mK, va_up])]; simp [nw, mI, mJ, mR, mF, mE, va_rf])
  exact kk q H1 hq.2 (by rw [← hq.1]; exact h1) (by rw [← hq.1]; exact h2) h3
theorem rcv_2 (C : cx_C p l s m args meth c s0 D cA cc nL ret own A) (hP : va_P D vwCl (pW cA S) H) (hL : a ∈ mL S) (hK : mK S a = 1) : ∃ cell : Cell, H[a]? = some cell ∧ cell.vm.isStatics = false ∧ s.vm.findClass RX2 = some cell.cls := by
  obtain ⟨k, hk⟩ := pW_get (cA := cA) hL
  rw [pF_1 hK] at hk
  exact va_recv (cx_k C) hP (ci := 1) (q := (RX2, TX2, 3)) rfl hk
theorem gf_2_0 (C : cx_C p l s m args meth c s0 D cA cc nL ret own A) (hP : va_P D vwCl (pW cA S) H) (hL : a ∈ mL S) (hK : mK S a = 1) (hw : Cond.fieldLink own idx "RingPipeline$Journal" "bytes" "[B" ∈ TB) (d : decode cc pc = .ok (.getfield idx, 3)) (kk : W p l e R s m args below meth c H locs cells slots Q (F0 m (pc + 3) ls (va_rf (mR S 0 a) :: rest))) : W p l e R s m args below meth c H locs cells slots Q (F0 m pc ls (.ref a :: rest)) := by
  obtain ⟨k, hk⟩ := pW_get (cA := cA) hL
  rw [pF_1 hK] at hk
  exact va_get (D := D) (ci := 1) (C := RX2) (T := TX2) (N := 3) (cx_x C) (cx_b C) (cx_t C) inT_2 (cx_own C) (cx_k C) hP k hk rfl 0 (by decide) (cx_t C _ hw) (fun _ h => h) rfl d kk
theorem gf_2_0s {b : Nat} (C : cx_C p l s m args meth c s0 D cA cc nL ret own A) (hP : va_P D vwCl (pW cA S) H) (hL : a ∈ mL S) (hK : mK S a = 1) (hv : mR S 0 a = some b) (hw : Cond.fieldLink own idx "RingPipeline$Journal" "bytes" "[B" ∈ TB) (d : decode cc pc = .ok (.getfield idx, 3)) (kk : W p l e R s m args below meth c H locs cells slots Q (F0 m (pc + 3) ls (.ref b :: rest))) : W p l e R s m args below meth c H locs cells slots Q (F0 m pc ls (.ref a :: rest)) := gf_2_0 C hP hL hK hw d (by rw [hv]; exact kk)
theorem pf_2_0 {v : Option Nat} (C : cx_C p l s m args meth c s0 D cA cc nL ret RX2 A) (hin : meth.name = "<init>") (hP : va_P D vwCl (pW cA S) H) (hD : va_D A (pW cA S)) (hS : va_S A s.heap H locs) (hL : a ∈ mL S) (hK : mK S a = 1) (hw : Cond.fieldLink RX2 idx "RingPipeline$Journal" "bytes" "[B" ∈ TB) (d : decode cc pc = .ok (.putfield idx, 3)) (kk : ∀ (H1 : Heap) (locs1 : List Loc), va_P D vwCl (pW cA (uR S 0 a v)) H1 → va_D A (pW cA (uR S 0 a v)) → va_S A s.heap H1 locs1 → W p l e R s m args below meth c H1 locs1 cells slots Q (F0 m (pc + 3) ls rest)) : W p l e R s m args below meth c H locs cells slots Q (F0 m pc ls (va_rf v :: .ref a :: rest)) := by
  obtain ⟨k, hk⟩ := pW_get (cA := cA) hL
  have hk2 := hk
  rw [pF_1 hK] at hk2
  have he : (pW cA S).set k (a, .inr (1, [va_rf v, .int (mI S 1 a), .int (mI S 2 a)])) = pW cA (uR S 0 a v) := by
    refine pW_set hD hL hk rfl ?_ (fun b hb => pF_eq rfl (fun _ => rfl) (fun _ => rfl) (fun _ => (up2_a hb).symm) (fun _ => rfl) (fun _ => rfl) rfl rfl rfl rfl)
    rw [pF_1 (S := uR S 0 a v) hK]
    simp [uR, mR, up2, mI, mJ, mF, mE]
  exact va_putF (D := D) (ci := 1) (v := va_rf v) (ty := .array .byte) (C := RX2) (T := TX2) (N := 3) (cx_x C) (cx_b C) (cx_t C) inT_2 tyX2 tyX2_ok nmX2 (cx_own C) (cx_k C) hP hD hS k hk2 rfl 0 (by decide) (cx_t C _ hw) (fun _ h => h) rfl hin rfl (by decide +kernel) (by cases v <;> rfl) (by cases v <;> rfl) (Nat.le_of_ble_eq_true rfl) d (fun H1 locs1 h1 h2 h3 => kk H1 locs1 (by rw [← he]; exact h1) (by rw [← he]; exact h2) h3)
theorem gf_2_1 (C : cx_C p l s m args meth c s0 D cA cc nL ret own A) (hP : va_P D vwCl (pW cA S) H) (hL : a ∈ mL S) (hK : mK S a = 1) (hw : Cond.fieldLink own idx "RingPipeline$Journal" "length" "I" ∈ TB) (d : decode cc pc = .ok (.getfield idx, 3)) (kk : W p l e R s m args below meth c H locs cells slots Q (F0 m (pc + 3) ls (.int (mI S 1 a) :: rest))) : W p l e R s m args below meth c H locs cells slots Q (F0 m pc ls (.ref a :: rest)) := by
  obtain ⟨k, hk⟩ := pW_get (cA := cA) hL
  rw [pF_1 hK] at hk
  exact va_get (D := D) (ci := 1) (C := RX2) (T := TX2) (N := 3) (cx_x C) (cx_b C) (cx_t C) inT_2 (cx_own C) (cx_k C) hP k hk rfl 1 (by decide) (cx_t C _ hw) (fun _ h => h) rfl d kk
theorem pf_2_1 {v : Int32} (C : cx_C p l s m args meth c s0 D cA cc nL ret own A) (hP : va_P D vwCl (pW cA S) H) (hD : va_D A (pW cA S)) (hS : va_S A s.heap H locs) (hL : a ∈ mL S) (hK : mK S a = 1) (hw : Cond.fieldLink own idx "RingPipeline$Journal" "length" "I" ∈ TB) (d : decode cc pc = .ok (.putfield idx, 3)) (kk : ∀ (H1 : Heap) (locs1 : List Loc), va_P D vwCl (pW cA (uI S 1 a v)) H1 → va_D A (pW cA (uI S 1 a v)) → va_S A s.heap H1 locs1 → W p l e R s m args below meth c H1 locs1 cells slots Q (F0 m (pc + 3) ls rest)) : W p l e R s m args below meth c H locs cells slots Q (F0 m pc ls (.int v :: .ref a :: rest)) := by
  obtain ⟨k, hk⟩ := pW_get (cA := cA) hL
  have hk2 := hk
  rw [pF_1 hK] at hk2
  have he : (pW cA S).set k (a, .inr (1, [va_rf (mR S 0 a), .int v, .int (mI S 2 a)])) = pW cA (uI S 1 a v) := by
    refine pW_set hD hL hk rfl ?_ (fun b hb => pF_eq rfl (fun _ => (up2_a hb).symm) (fun _ => rfl) (fun _ => rfl) (fun _ => rfl) (fun _ => rfl) rfl rfl rfl rfl)
    rw [pF_1 (S := uI S 1 a v) hK]
    simp [uI, mI, up2, mJ, mR, mF, mE]
  exact va_put (D := D) (ci := 1) (v := .int v) (ty := .int) (C := RX2) (T := TX2) (N := 3) (cx_x C) (cx_b C) (cx_t C) inT_2 tyX2 tyX2_ok nmX2 (cx_own C) (cx_k C) hP hD hS k hk2 rfl 1 (by decide) (cx_t C _ hw) (fun _ h => h) rfl (by decide +kernel) rfl rfl (Nat.le_of_ble_eq_true rfl) d (fun H1 locs1 h1 h2 h3 => kk H1 locs1 (by rw [← he]; exact h1) (by rw [← he]; exact h2) h3)
theorem gf_2_2 (C : cx_C p l s m args meth c s0 D cA cc nL ret own A) (hP : va_P D vwCl (pW cA S) H) (hL : a ∈ mL S) (hK : mK S a = 1) (hw : Cond.fieldLink own idx "RingPipeline$Journal" "keptLength" "I" ∈ TB) (d : decode cc pc = .ok (.getfield idx, 3)) (kk : W p l e R s m args below meth c H locs cells slots Q (F0 m (pc + 3) ls (.int (mI S 2 a) :: rest))) : W p l e R s m args below meth c H locs cells slots Q (F0 m pc ls (.ref a :: rest)) := by
  obtain ⟨k, hk⟩ := pW_get (cA := cA) hL
  rw [pF_1 hK] at hk
  exact va_get (D := D) (ci := 1) (C := RX2) (T := TX2) (N := 3) (cx_x C) (cx_b C) (cx_t C) inT_2 (cx_own C) (cx_k C) hP k hk rfl 2 (by decide) (cx_t C _ hw) (fun _ h => h) rfl d kk
theorem pf_2_2 {v : Int32} (C : cx_C p l s m args meth c s0 D cA cc nL ret own A) (hP : va_P D vwCl (pW cA S) H) (hD : va_D A (pW cA S)) (hS : va_S A s.heap H locs) (hL : a ∈ mL S) (hK : mK S a = 1) (hw : Cond.fieldLink own idx "RingPipeline$Journal" "keptLength" "I" ∈ TB) (d : decode cc pc = .ok (.putfield idx, 3)) (kk : ∀ (H1 : Heap) (locs1 : List Loc), va_P D vwCl (pW cA (uI S 2 a v)) H1 → va_D A (pW cA (uI S 2 a v)) → va_S A s.heap H1 locs1 → W p l e R s m args below meth c H1 locs1 cells slots Q (F0 m (pc + 3) ls rest)) : W p l e R s m args below meth c H locs cells slots Q (F0 m pc ls (.int v :: .ref a :: rest)) := by
  obtain ⟨k, hk⟩ := pW_get (cA := cA) hL
  have hk2 := hk
  rw [pF_1 hK] at hk2
  have he : (pW cA S).set k (a, .inr (1, [va_rf (mR S 0 a), .int (mI S 1 a), .int v])) = pW cA (uI S 2 a v) := by
    refine pW_set hD hL hk rfl ?_ (fun b hb => pF_eq rfl (fun _ => (up2_a hb).symm) (fun _ => rfl) (fun _ => rfl) (fun _ => rfl) (fun _ => rfl) rfl rfl rfl rfl)
    rw [pF_1 (S := uI S 2 a v) hK]
    simp [uI, mI, up2, mJ, mR, mF, mE]
  exact va_put (D := D) (ci := 1) (v := .int v) (ty := .int) (C := RX2) (T := TX2) (N := 3) (cx_x C) (cx_b C) (cx_t C) inT_2 tyX2 tyX2_ok nmX2 (cx_own C) (cx_k C) hP hD hS k hk2 rfl 2 (by decide) (cx_t C _ hw) (fun _ h => h) rfl (by decide +kernel) rfl rfl (Nat.le_of_ble_eq_true rfl) d (fun H1 locs1 h1 h2 h3 => kk H1 locs1 (by rw [← he]; exact h1) (by rw [← he]; exact h2) h3)
theorem nwo_2 (C : cx_C p l s m args meth c s0 D cA cc nL ret own A) (hP : va_P D vwCl (pW cA S) H) (hD : va_D A (pW cA S)) (hS : va_S A s.heap H locs) (hw : Cond.classLink own idx "RingPipeline$Journal" ∈ TB) (hc : cells + 1 ≤ R.cells) (hs : slots + 3 ≤ R.slots) (d : decode cc pc = .ok (.new idx, 3)) (kk : ∀ (q : Nat) (H1 : Heap), q ∉ mL S → va_P D vwCl (pW cA (nw S q 1 0)) H1 → va_D A (pW cA (nw S q 1 0)) → va_S A s.heap H1 locs → W p l e R s m args below meth c H1 locs (cells + 1) (slots + 3) Q (F0 m (pc + 3) ls (.ref q :: rest))) : W p l e R s m args below meth c H locs cells slots Q (F0 m pc ls rest) := by
  refine va_new (D := D) (ci := 1) (fs := [.null, .int 0, .int 0]) (C := RX2) (T := TX2) (N := 3) (cx_x C) (cx_b C) (cx_t C) inT_2 tyX2 tyX2_ok (cx_own C) (cx_t C _ hw) (cx_t C _ tm_242) (cx_t C _ tm_14) (cx_k C) hP hD hS (cx_a C) rfl (fun j hj => by rcases (show j = 0 ∨ j = 1 ∨ j = 2 by omega) with rfl | rfl | rfl <;> rfl) hc hs d (fun q H1 h1 h2 h3 => ?_)
  have hq := pW_new (k := 1) (n := 0) h2 (by rw [pF_1 (by simp [nw, mK, va_up])]; simp [nw, mI, mJ, mR, mF, mE, va_rf])
  exact kk q H1 hq.2 (by rw [← hq.1]; exact h1) (by rw [← hq.1]; exact h2) h3
theorem rcv_3 (C : cx_C p l s m args meth c s0 D cA cc nL ret own A) (hP : va_P D vwCl (pW cA S) H) (hL : a ∈ mL S) (hK : mK S a = 2) : ∃ cell : Cell, H[a]? = some cell ∧ cell.vm.isStatics = false ∧ s.vm.findClass RX3 = some cell.cls := by
  obtain ⟨k, hk⟩ := pW_get (cA := cA) hL
  rw [pF_2 hK] at hk
  exact va_recv (cx_k C) hP (ci := 2) (q := (RX3, TX3, 4)) rfl hk
theorem gf_3_0 (C : cx_C p l s m args meth c s0 D cA cc nL ret own A) (hP : va_P D vwCl (pW cA S) H) (hL : a ∈ mL S) (hK : mK S a = 2) (hw : Cond.fieldLink own idx "RingPipeline$Mean" "mean" "D" ∈ TB) (d : decode cc pc = .ok (.getfield idx, 3)) (kk : W p l e R s m args below meth c H locs cells slots Q (F0 m (pc + 3) ls (.double (mE S 0 a) :: rest))) : W p l e R s m args below meth c H locs cells slots Q (F0 m pc ls (.ref a :: rest)) := by
  obtain ⟨k, hk⟩ := pW_get (cA := cA) hL
  rw [pF_2 hK] at hk
  exact va_get (D := D) (ci := 2) (C := RX3) (T := TX3) (N := 4) (cx_x C) (cx_b C) (cx_t C) inT_3 (cx_own C) (cx_k C) hP k hk rfl 0 (by decide) (cx_t C _ hw) (fun _ h => h) rfl d kk
theorem pf_3_0 {v : UInt64} (C : cx_C p l s m args meth c s0 D cA cc nL ret own A) (hP : va_P D vwCl (pW cA S) H) (hD : va_D A (pW cA S)) (hS : va_S A s.heap H locs) (hL : a ∈ mL S) (hK : mK S a = 2) (hw : Cond.fieldLink own idx "RingPipeline$Mean" "mean" "D" ∈ TB) (d : decode cc pc = .ok (.putfield idx, 3)) (kk : ∀ (H1 : Heap) (locs1 : List Loc), va_P D vwCl (pW cA (uE S 0 a v)) H1 → va_D A (pW cA (uE S 0 a v)) → va_S A s.heap H1 locs1 → W p l e R s m args below meth c H1 locs1 cells slots Q (F0 m (pc + 3) ls rest)) : W p l e R s m args below meth c H locs cells slots Q (F0 m pc ls (.double v :: .ref a :: rest)) := by
  obtain ⟨k, hk⟩ := pW_get (cA := cA) hL
  have hk2 := hk
  rw [pF_2 hK] at hk2
  have he : (pW cA S).set k (a, .inr (2, [.double v, .int (mI S 1 a), .double (mE S 2 a), .int (mI S 3 a)])) = pW cA (uE S 0 a v) := by
    refine pW_set hD hL hk rfl ?_ (fun b hb => pF_eq rfl (fun _ => rfl) (fun _ => rfl) (fun _ => rfl) (fun _ => rfl) (fun _ => (up2_a hb).symm) rfl rfl rfl rfl)
    rw [pF_2 (S := uE S 0 a v) hK]
    simp [uE, mE, up2, mI, mJ, mR, mF]
  exact va_put (D := D) (ci := 2) (v := .double v) (ty := .double) (C := RX3) (T := TX3) (N := 4) (cx_x C) (cx_b C) (cx_t C) inT_3 tyX3 tyX3_ok nmX3 (cx_own C) (cx_k C) hP hD hS k hk2 rfl 0 (by decide) (cx_t C _ hw) (fun _ h => h) rfl (by decide +kernel) rfl rfl (Nat.le_of_ble_eq_true rfl) d (fun H1 locs1 h1 h2 h3 => kk H1 locs1 (by rw [← he]; exact h1) (by rw [← he]; exact h2) h3)
theorem gf_3_1 (C : cx_C p l s m args meth c s0 D cA cc nL ret own A) (hP : va_P D vwCl (pW cA S) H) (hL : a ∈ mL S) (hK : mK S a = 2) (hw : Cond.fieldLink own idx "RingPipeline$Mean" "events" "I" ∈ TB) (d : decode cc pc = .ok (.getfield idx, 3)) (kk : W p l e R s m args below meth c H locs cells slots Q (F0 m (pc + 3) ls (.int (mI S 1 a) :: rest))) : W p l e R s m args below meth c H locs cells slots Q (F0 m pc ls (.ref a :: rest)) := by
  obtain ⟨k, hk⟩ := pW_get (cA := cA) hL
  rw [pF_2 hK] at hk
  exact va_get (D := D) (ci := 2) (C := RX3) (T := TX3) (N := 4) (cx_x C) (cx_b C) (cx_t C) inT_3 (cx_own C) (cx_k C) hP k hk rfl 1 (by decide) (cx_t C _ hw) (fun _ h => h) rfl d kk
theorem pf_3_1 {v : Int32} (C : cx_C p l s m args meth c s0 D cA cc nL ret own A) (hP : va_P D vwCl (pW cA S) H) (hD : va_D A (pW cA S)) (hS : va_S A s.heap H locs) (hL : a ∈ mL S) (hK : mK S a = 2) (hw : Cond.fieldLink own idx "RingPipeline$Mean" "events" "I" ∈ TB) (d : decode cc pc = .ok (.putfield idx, 3)) (kk : ∀ (H1 : Heap) (locs1 : List Loc), va_P D vwCl (pW cA (uI S 1 a v)) H1 → va_D A (pW cA (uI S 1 a v)) → va_S A s.heap H1 locs1 → W p l e R s m args below meth c H1 locs1 cells slots Q (F0 m (pc + 3) ls rest)) : W p l e R s m args below meth c H locs cells slots Q (F0 m pc ls (.int v :: .ref a :: rest)) := by
  obtain ⟨k, hk⟩ := pW_get (cA := cA) hL
  have hk2 := hk
  rw [pF_2 hK] at hk2
  have he : (pW cA S).set k (a, .inr (2, [.double (mE S 0 a), .int v, .double (mE S 2 a), .int (mI S 3 a)])) = pW cA (uI S 1 a v) := by
    refine pW_set hD hL hk rfl ?_ (fun b hb => pF_eq rfl (fun _ => (up2_a hb).symm) (fun _ => rfl) (fun _ => rfl) (fun _ => rfl) (fun _ => rfl) rfl rfl rfl rfl)
    rw [pF_2 (S := uI S 1 a v) hK]
    simp [uI, mI, up2, mJ, mR, mF, mE]
  exact va_put (D := D) (ci := 2) (v := .int v) (ty := .int) (C := RX3) (T := TX3) (N := 4) (cx_x C) (cx_b C) (cx_t C) inT_3 tyX3 tyX3_ok nmX3 (cx_own C) (cx_k C) hP hD hS k hk2 rfl 1 (by decide) (cx_t C _ hw) (fun _ h => h) rfl (by decide +kernel) rfl rfl (Nat.le_of_ble_eq_true rfl) d (fun H1 locs1 h1 h2 h3 => kk H1 locs1 (by rw [← he]; exact h1) (by rw [← he]; exact h2) h3)
theorem gf_3_2 (C : cx_C p l s m args meth c s0 D cA cc nL ret own A) (hP : va_P D vwCl (pW cA S) H) (hL : a ∈ mL S) (hK : mK S a = 2) (hw : Cond.fieldLink own idx "RingPipeline$Mean" "keptMean" "D" ∈ TB) (d : decode cc pc = .ok (.getfield idx, 3)) (kk : W p l e R s m args below meth c H locs cells slots Q (F0 m (pc + 3) ls (.double (mE S 2 a) :: rest))) : W p l e R s m args below meth c H locs cells slots Q (F0 m pc ls (.ref a :: rest)) := by
  obtain ⟨k, hk⟩ := pW_get (cA := cA) hL
  rw [pF_2 hK] at hk
  exact va_get (D := D) (ci := 2) (C := RX3) (T := TX3) (N := 4) (cx_x C) (cx_b C) (cx_t C) inT_3 (cx_own C) (cx_k C) hP k hk rfl 2 (by decide) (cx_t C _ hw) (fun _ h => h) rfl d kk
theorem pf_3_2 {v : UInt64} (C : cx_C p l s m args meth c s0 D cA cc nL ret own A) (hP : va_P D vwCl (pW cA S) H) (hD : va_D A (pW cA S)) (hS : va_S A s.heap H locs) (hL : a ∈ mL S) (hK : mK S a = 2) (hw : Cond.fieldLink own idx "RingPipeline$Mean" "keptMean" "D" ∈ TB) (d : decode cc pc = .ok (.putfield idx, 3)) (kk : ∀ (H1 : Heap) (locs1 : List Loc), va_P D vwCl (pW cA (uE S 2 a v)) H1 → va_D A (pW cA (uE S 2 a v)) → va_S A s.heap H1 locs1 → W p l e R s m args below meth c H1 locs1 cells slots Q (F0 m (pc + 3) ls rest)) : W p l e R s m args below meth c H locs cells slots Q (F0 m pc ls (.double v :: .ref a :: rest)) := by
  obtain ⟨k, hk⟩ := pW_get (cA := cA) hL
  have hk2 := hk
  rw [pF_2 hK] at hk2
  have he : (pW cA S).set k (a, .inr (2, [.double (mE S 0 a), .int (mI S 1 a), .double v, .int (mI S 3 a)])) = pW cA (uE S 2 a v) := by
    refine pW_set hD hL hk rfl ?_ (fun b hb => pF_eq rfl (fun _ => rfl) (fun _ => rfl) (fun _ => rfl) (fun _ => rfl) (fun _ => (up2_a hb).symm) rfl rfl rfl rfl)
    rw [pF_2 (S := uE S 2 a v) hK]
    simp [uE, mE, up2, mI, mJ, mR, mF]
  exact va_put (D := D) (ci := 2) (v := .double v) (ty := .double) (C := RX3) (T := TX3) (N := 4) (cx_x C) (cx_b C) (cx_t C) inT_3 tyX3 tyX3_ok nmX3 (cx_own C) (cx_k C) hP hD hS k hk2 rfl 2 (by decide) (cx_t C _ hw) (fun _ h => h) rfl (by decide +kernel) rfl rfl (Nat.le_of_ble_eq_true rfl) d (fun H1 locs1 h1 h2 h3 => kk H1 locs1 (by rw [← he]; exact h1) (by rw [← he]; exact h2) h3)
theorem gf_3_3 (C : cx_C p l s m args meth c s0 D cA cc nL ret own A) (hP : va_P D vwCl (pW cA S) H) (hL : a ∈ mL S) (hK : mK S a = 2) (hw : Cond.fieldLink own idx "RingPipeline$Mean" "keptEvents" "I" ∈ TB) (d : decode cc pc = .ok (.getfield idx, 3)) (kk : W p l e R s m args below meth c H locs cells slots Q (F0 m (pc + 3) ls (.int (mI S 3 a) :: rest))) : W p l e R s m args below meth c H locs cells slots Q (F0 m pc ls (.ref a :: rest)) := by
  obtain ⟨k, hk⟩ := pW_get (cA := cA) hL
  rw [pF_2 hK] at hk
  exact va_get (D := D) (ci := 2) (C := RX3) (T := TX3) (N := 4) (cx_x C) (cx_b C) (cx_t C) inT_3 (cx_own C) (cx_k C) hP k hk rfl 3 (by decide) (cx_t C _ hw) (fun _ h => h) rfl d kk
theorem pf_3_3 {v : Int32} (C : cx_C p l s m args meth c s0 D cA cc nL ret own A) (hP : va_P D vwCl (pW cA S) H) (hD : va_D A (pW cA S)) (hS : va_S A s.heap H locs) (hL : a ∈ mL S) (hK : mK S a = 2) (hw : Cond.fieldLink own idx "RingPipeline$Mean" "keptEvents" "I" ∈ TB) (d : decode cc pc = .ok (.putfield idx, 3)) (kk : ∀ (H1 : Heap) (locs1 : List Loc), va_P D vwCl (pW cA (uI S 3 a v)) H1 → va_D A (pW cA (uI S 3 a v)) → va_S A s.heap H1 locs1 → W p l e R s m args below meth c H1 locs1 cells slots Q (F0 m (pc + 3) ls rest)) : W p l e R s m args below meth c H locs cells slots Q (F0 m pc ls (.int v :: .ref a :: rest)) := by
  obtain ⟨k, hk⟩ := pW_get (cA := cA) hL
  have hk2 := hk
  rw [pF_2 hK] at hk2
  have he : (pW cA S).set k (a, .inr (2, [.double (mE S 0 a), .int (mI S 1 a), .double (mE S 2 a), .int v])) = pW cA (uI S 3 a v) := by
    refine pW_set hD hL hk rfl ?_ (fun b hb => pF_eq rfl (fun _ => (up2_a hb).symm) (fun _ => rfl) (fun _ => rfl) (fun _ => rfl) (fun _ => rfl) rfl rfl rfl rfl)
    rw [pF_2 (S := uI S 3 a v) hK]
    simp [uI, mI, up2, mJ, mR, mF, mE]
  exact va_put (D := D) (ci := 2) (v := .int v) (ty := .int) (C := RX3) (T := TX3) (N := 4) (cx_x C) (cx_b C) (cx_t C) inT_3 tyX3 tyX3_ok nmX3 (cx_own C) (cx_k C) hP hD hS k hk2 rfl 3 (by decide) (cx_t C _ hw) (fun _ h => h) rfl (by decide +kernel) rfl rfl (Nat.le_of_ble_eq_true rfl) d (fun H1 locs1 h1 h2 h3 => kk H1 locs1 (by rw [← he]; exact h1) (by rw [← he]; exact h2) h3)
theorem nwo_3 (C : cx_C p l s m args meth c s0 D cA cc nL ret own A) (hP : va_P D vwCl (pW cA S) H) (hD : va_D A (pW cA S)) (hS : va_S A s.heap H locs) (hw : Cond.classLink own idx "RingPipeline$Mean" ∈ TB) (hc : cells + 1 ≤ R.cells) (hs : slots + 4 ≤ R.slots) (d : decode cc pc = .ok (.new idx, 3)) (kk : ∀ (q : Nat) (H1 : Heap), q ∉ mL S → va_P D vwCl (pW cA (nw S q 2 0)) H1 → va_D A (pW cA (nw S q 2 0)) → va_S A s.heap H1 locs → W p l e R s m args below meth c H1 locs (cells + 1) (slots + 4) Q (F0 m (pc + 3) ls (.ref q :: rest))) : W p l e R s m args below meth c H locs cells slots Q (F0 m pc ls rest) := by
  refine va_new (D := D) (ci := 2) (fs := [.double 0, .int 0, .double 0, .int 0]) (C := RX3) (T := TX3) (N := 4) (cx_x C) (cx_b C) (cx_t C) inT_3 tyX3 tyX3_ok (cx_own C) (cx_t C _ hw) (cx_t C _ tm_222) (cx_t C _ tm_13) (cx_k C) hP hD hS (cx_a C) rfl (fun j hj => by rcases (show j = 0 ∨ j = 1 ∨ j = 2 ∨ j = 3 by omega) with rfl | rfl | rfl | rfl <;> rfl) hc hs d (fun q H1 h1 h2 h3 => ?_)
  have hq := pW_new (k := 2) (n := 0) h2 (by rw [pF_2 (by simp [nw, mK, va_up])]; simp [nw, mI, mJ, mR, mF, mE, va_rf])
  exact kk q H1 hq.2 (by rw [← hq.1]; exact h1) (by rw [← hq.1]; exact h2) h3
theorem rcv_4 (C : cx_C p l s m args meth c s0 D cA cc nL ret own A) (hP : va_P D vwCl (pW cA S) H) (hL : a ∈ mL S) (hK : mK S a = 3) : ∃ cell : Cell, H[a]? = some cell ∧ cell.vm.isStatics = false ∧ s.vm.findClass RX4 = some cell.cls := by
  obtain ⟨k, hk⟩ := pW_get (cA := cA) hL
  rw [pF_3 hK] at hk
  exact va_recv (cx_k C) hP (ci := 3) (q := (RX4, TX4, 4)) rfl hk
theorem gf_4_0 (C : cx_C p l s m args meth c s0 D cA cc nL ret own A) (hP : va_P D vwCl (pW cA S) H) (hL : a ∈ mL S) (hK : mK S a = 3) (hw : Cond.fieldLink own idx "RingPipeline$Pool" "on" "I" ∈ TB) (d : decode cc pc = .ok (.getfield idx, 3)) (kk : W p l e R s m args below meth c H locs cells slots Q (F0 m (pc + 3) ls (.int (mI S 0 a) :: rest))) : W p l e R s m args below meth c H locs cells slots Q (F0 m pc ls (.ref a :: rest)) := by
  obtain ⟨k, hk⟩ := pW_get (cA := cA) hL
  rw [pF_3 hK] at hk
  exact va_get (D := D) (ci := 3) (C := RX4) (T := TX4) (N := 4) (cx_x C) (cx_b C) (cx_t C) inT_4 (cx_own C) (cx_k C) hP k hk rfl 0 (by decide) (cx_t C _ hw) (fun _ h => h) rfl d kk
theorem pf_4_0 {v : Int32} (C : cx_C p l s m args meth c s0 D cA cc nL ret RX4 A) (hin : meth.name = "<init>") (hP : va_P D vwCl (pW cA S) H) (hD : va_D A (pW cA S)) (hS : va_S A s.heap H locs) (hL : a ∈ mL S) (hK : mK S a = 3) (hw : Cond.fieldLink RX4 idx "RingPipeline$Pool" "on" "I" ∈ TB) (d : decode cc pc = .ok (.putfield idx, 3)) (kk : ∀ (H1 : Heap) (locs1 : List Loc), va_P D vwCl (pW cA (uI S 0 a v)) H1 → va_D A (pW cA (uI S 0 a v)) → va_S A s.heap H1 locs1 → W p l e R s m args below meth c H1 locs1 cells slots Q (F0 m (pc + 3) ls rest)) : W p l e R s m args below meth c H locs cells slots Q (F0 m pc ls (.int v :: .ref a :: rest)) := by
  obtain ⟨k, hk⟩ := pW_get (cA := cA) hL
  have hk2 := hk
  rw [pF_3 hK] at hk2
  have he : (pW cA S).set k (a, .inr (3, [.int v, va_rf (mR S 1 a), .int (mI S 2 a), .long (mJ S 3 a)])) = pW cA (uI S 0 a v) := by
    refine pW_set hD hL hk rfl ?_ (fun b hb => pF_eq rfl (fun _ => (up2_a hb).symm) (fun _ => rfl) (fun _ => rfl) (fun _ => rfl) (fun _ => rfl) rfl rfl rfl rfl)
    rw [pF_3 (S := uI S 0 a v) hK]
    simp [uI, mI, up2, mJ, mR, mF, mE]
  exact va_putF (D := D) (ci := 3) (v := .int v) (ty := .int) (C := RX4) (T := TX4) (N := 4) (cx_x C) (cx_b C) (cx_t C) inT_4 tyX4 tyX4_ok nmX4 (cx_own C) (cx_k C) hP hD hS k hk2 rfl 0 (by decide) (cx_t C _ hw) (fun _ h => h) rfl hin rfl (by decide +kernel) rfl rfl (Nat.le_of_ble_eq_true rfl) d (fun H1 locs1 h1 h2 h3 => kk H1 locs1 (by rw [← he]; exact h1) (by rw [← he]; exact h2) h3)
theorem gf_4_1 (C : cx_C p l s m args meth c s0 D cA cc nL ret own A) (hP : va_P D vwCl (pW cA S) H) (hL : a ∈ mL S) (hK : mK S a = 3) (hw : Cond.fieldLink own idx "RingPipeline$Pool" "workers" "[LRingPipeline$Consumer;" ∈ TB) (d : decode cc pc = .ok (.getfield idx, 3)) (kk : W p l e R s m args below meth c H locs cells slots Q (F0 m (pc + 3) ls (va_rf (mR S 1 a) :: rest))) : W p l e R s m args below meth c H locs cells slots Q (F0 m pc ls (.ref a :: rest)) := by
  obtain ⟨k, hk⟩ := pW_get (cA := cA) hL
  rw [pF_3 hK] at hk
  exact va_get (D := D) (ci := 3) (C := RX4) (T := TX4) (N := 4) (cx_x C) (cx_b C) (cx_t C) inT_4 (cx_own C) (cx_k C) hP k hk rfl 1 (by decide) (cx_t C _ hw) (fun _ h => h) rfl d kk
theorem gf_4_1s {b : Nat} (C : cx_C p l s m args meth c s0 D cA cc nL ret own A) (hP : va_P D vwCl (pW cA S) H) (hL : a ∈ mL S) (hK : mK S a = 3) (hv : mR S 1 a = some b) (hw : Cond.fieldLink own idx "RingPipeline$Pool" "workers" "[LRingPipeline$Consumer;" ∈ TB) (d : decode cc pc = .ok (.getfield idx, 3)) (kk : W p l e R s m args below meth c H locs cells slots Q (F0 m (pc + 3) ls (.ref b :: rest))) : W p l e R s m args below meth c H locs cells slots Q (F0 m pc ls (.ref a :: rest)) := gf_4_1 C hP hL hK hw d (by rw [hv]; exact kk)
theorem pf_4_1 {v : Option Nat} (C : cx_C p l s m args meth c s0 D cA cc nL ret RX4 A) (hin : meth.name = "<init>") (hP : va_P D vwCl (pW cA S) H) (hD : va_D A (pW cA S)) (hS : va_S A s.heap H locs) (hL : a ∈ mL S) (hK : mK S a = 3) (hw : Cond.fieldLink RX4 idx "RingPipeline$Pool" "workers" "[LRingPipeline$Consumer;" ∈ TB) (d : decode cc pc = .ok (.putfield idx, 3)) (kk : ∀ (H1 : Heap) (locs1 : List Loc), va_P D vwCl (pW cA (uR S 1 a v)) H1 → va_D A (pW cA (uR S 1 a v)) → va_S A s.heap H1 locs1 → W p l e R s m args below meth c H1 locs1 cells slots Q (F0 m (pc + 3) ls rest)) : W p l e R s m args below meth c H locs cells slots Q (F0 m pc ls (va_rf v :: .ref a :: rest)) := by
  obtain ⟨k, hk⟩ := pW_get (cA := cA) hL
  have hk2 := hk
  rw [pF_3 hK] at hk2
  have he : (pW cA S).set k (a, .inr (3, [.int (mI S 0 a), va_rf v, .int (mI S 2 a), .long (mJ S 3 a)])) = pW cA (uR S 1 a v) := by
    refine pW_set hD hL hk rfl ?_ (fun b hb => pF_eq rfl (fun _ => rfl) (fun _ => rfl) (fun _ => (up2_a hb).symm) (fun _ => rfl) (fun _ => rfl) rfl rfl rfl rfl)
    rw [pF_3 (S := uR S 1 a v) hK]
    simp [uR, mR, up2, mI, mJ, mF, mE]
  exact va_putF (D := D) (ci := 3) (v := va_rf v) (ty := .array (.object "RingPipeline$Consumer")) (C := RX4) (T := TX4) (N := 4) (cx_x C) (cx_b C) (cx_t C) inT_4 tyX4 tyX4_ok nmX4 (cx_own C) (cx_k C) hP hD hS k hk2 rfl 1 (by decide) (cx_t C _ hw) (fun _ h => h) rfl hin rfl (by decide +kernel) (by cases v <;> rfl) (by cases v <;> rfl) (Nat.le_of_ble_eq_true rfl) d (fun H1 locs1 h1 h2 h3 => kk H1 locs1 (by rw [← he]; exact h1) (by rw [← he]; exact h2) h3)
theorem gf_4_2 (C : cx_C p l s m args meth c s0 D cA cc nL ret own A) (hP : va_P D vwCl (pW cA S) H) (hL : a ∈ mL S) (hK : mK S a = 3) (hw : Cond.fieldLink own idx "RingPipeline$Pool" "size" "I" ∈ TB) (d : decode cc pc = .ok (.getfield idx, 3)) (kk : W p l e R s m args below meth c H locs cells slots Q (F0 m (pc + 3) ls (.int (mI S 2 a) :: rest))) : W p l e R s m args below meth c H locs cells slots Q (F0 m pc ls (.ref a :: rest)) := by
  obtain ⟨k, hk⟩ := pW_get (cA := cA) hL
  rw [pF_3 hK] at hk
  exact va_get (D := D) (ci := 3) (C := RX4) (T := TX4) (N := 4) (cx_x C) (cx_b C) (cx_t C) inT_4 (cx_own C) (cx_k C) hP k hk rfl 2 (by decide) (cx_t C _ hw) (fun _ h => h) rfl d kk
theorem pf_4_2 {v : Int32} (C : cx_C p l s m args meth c s0 D cA cc nL ret own A) (hP : va_P D vwCl (pW cA S) H) (hD : va_D A (pW cA S)) (hS : va_S A s.heap H locs) (hL : a ∈ mL S) (hK : mK S a = 3) (hw : Cond.fieldLink own idx "RingPipeline$Pool" "size" "I" ∈ TB) (d : decode cc pc = .ok (.putfield idx, 3)) (kk : ∀ (H1 : Heap) (locs1 : List Loc), va_P D vwCl (pW cA (uI S 2 a v)) H1 → va_D A (pW cA (uI S 2 a v)) → va_S A s.heap H1 locs1 → W p l e R s m args below meth c H1 locs1 cells slots Q (F0 m (pc + 3) ls rest)) : W p l e R s m args below meth c H locs cells slots Q (F0 m pc ls (.int v :: .ref a :: rest)) := by
  obtain ⟨k, hk⟩ := pW_get (cA := cA) hL
  have hk2 := hk
  rw [pF_3 hK] at hk2
  have he : (pW cA S).set k (a, .inr (3, [.int (mI S 0 a), va_rf (mR S 1 a), .int v, .long (mJ S 3 a)])) = pW cA (uI S 2 a v) := by
    refine pW_set hD hL hk rfl ?_ (fun b hb => pF_eq rfl (fun _ => (up2_a hb).symm) (fun _ => rfl) (fun _ => rfl) (fun _ => rfl) (fun _ => rfl) rfl rfl rfl rfl)
    rw [pF_3 (S := uI S 2 a v) hK]
    simp [uI, mI, up2, mJ, mR, mF, mE]
  exact va_put (D := D) (ci := 3) (v := .int v) (ty := .int) (C := RX4) (T := TX4) (N := 4) (cx_x C) (cx_b C) (cx_t C) inT_4 tyX4 tyX4_ok nmX4 (cx_own C) (cx_k C) hP hD hS k hk2 rfl 2 (by decide) (cx_t C _ hw) (fun _ h => h) rfl (by decide +kernel) rfl rfl (Nat.le_of_ble_eq_true rfl) d (fun H1 locs1 h1 h2 h3 => kk H1 locs1 (by rw [← he]; exact h1) (by rw [← he]; exact h2) h3)
theorem gf_4_3 (C : cx_C p l s m args meth c s0 D cA cc nL ret own A) (hP : va_P D vwCl (pW cA S) H) (hL : a ∈ mL S) (hK : mK S a = 3) (hw : Cond.fieldLink own idx "RingPipeline$Pool" "next" "J" ∈ TB) (d : decode cc pc = .ok (.getfield idx, 3)) (kk : W p l e R s m args below meth c H locs cells slots Q (F0 m (pc + 3) ls (.long (mJ S 3 a) :: rest))) : W p l e R s m args below meth c H locs cells slots Q (F0 m pc ls (.ref a :: rest)) := by
  obtain ⟨k, hk⟩ := pW_get (cA := cA) hL
  rw [pF_3 hK] at hk
  exact va_get (D := D) (ci := 3) (C := RX4) (T := TX4) (N := 4) (cx_x C) (cx_b C) (cx_t C) inT_4 (cx_own C) (cx_k C) hP k hk rfl 3 (by decide) (cx_t C _ hw) (fun _ h => h) rfl d kk
theorem pf_4_3 {v : Int64} (C : cx_C p l s m args meth c s0 D cA cc nL ret own A) (hP : va_P D vwCl (pW cA S) H) (hD : va_D A (pW cA S)) (hS : va_S A s.heap H locs) (hL : a ∈ mL S) (hK : mK S a = 3) (hw : Cond.fieldLink own idx "RingPipeline$Pool" "next" "J" ∈ TB) (d : decode cc pc = .ok (.putfield idx, 3)) (kk : ∀ (H1 : Heap) (locs1 : List Loc), va_P D vwCl (pW cA (uJ S 3 a v)) H1 → va_D A (pW cA (uJ S 3 a v)) → va_S A s.heap H1 locs1 → W p l e R s m args below meth c H1 locs1 cells slots Q (F0 m (pc + 3) ls rest)) : W p l e R s m args below meth c H locs cells slots Q (F0 m pc ls (.long v :: .ref a :: rest)) := by
  obtain ⟨k, hk⟩ := pW_get (cA := cA) hL
  have hk2 := hk
  rw [pF_3 hK] at hk2
  have he : (pW cA S).set k (a, .inr (3, [.int (mI S 0 a), va_rf (mR S 1 a), .int (mI S 2 a), .long v])) = pW cA (uJ S 3 a v) := by
    refine pW_set hD hL hk rfl ?_ (fun b hb => pF_eq rfl (fun _ => rfl) (fun _ => (up2_a hb).symm) (fun _ => rfl) (fun _ => rfl) (fun _ => rfl) rfl rfl rfl rfl)
    rw [pF_3 (S := uJ S 3 a v) hK]
    simp [uJ, mJ, up2, mI, mR, mF, mE]
  exact va_put (D := D) (ci := 3) (v := .long v) (ty := .long) (C := RX4) (T := TX4) (N := 4) (cx_x C) (cx_b C) (cx_t C) inT_4 tyX4 tyX4_ok nmX4 (cx_own C) (cx_k C) hP hD hS k hk2 rfl 3 (by decide) (cx_t C _ hw) (fun _ h => h) rfl (by decide +kernel) rfl rfl (Nat.le_of_ble_eq_true rfl) d (fun H1 locs1 h1 h2 h3 => kk H1 locs1 (by rw [← he]; exact h1) (by rw [← he]; exact h2) h3)
theorem nwo_4 (C : cx_C p l s m args meth c s0 D cA cc nL ret own A) (hP : va_P D vwCl (pW cA S) H) (hD : va_D A (pW cA S)) (hS : va_S A s.heap H locs) (hw : Cond.classLink own idx "RingPipeline$Pool" ∈ TB) (hc : cells + 1 ≤ R.cells) (hs : slots + 4 ≤ R.slots) (d : decode cc pc = .ok (.new idx, 3)) (kk : ∀ (q : Nat) (H1 : Heap), q ∉ mL S → va_P D vwCl (pW cA (nw S q 3 0)) H1 → va_D A (pW cA (nw S q 3 0)) → va_S A s.heap H1 locs → W p l e R s m args below meth c H1 locs (cells + 1) (slots + 4) Q (F0 m (pc + 3) ls (.ref q :: rest))) : W p l e R s m args below meth c H locs cells slots Q (F0 m pc ls rest) := by
  refine va_new (D := D) (ci := 3) (fs := [.int 0, .null, .int 0, .long 0]) (C := RX4) (T := TX4) (N := 4) (cx_x C) (cx_b C) (cx_t C) inT_4 tyX4 tyX4_ok (cx_own C) (cx_t C _ hw) (cx_t C _ tm_262) (cx_t C _ tm_15) (cx_k C) hP hD hS (cx_a C) rfl (fun j hj => by rcases (show j = 0 ∨ j = 1 ∨ j = 2 ∨ j = 3 by omega) with rfl | rfl | rfl | rfl <;> rfl) hc hs d (fun q H1 h1 h2 h3 => ?_)
  have hq := pW_new (k := 3) (n := 0) h2 (by rw [pF_3 (by simp [nw, mK, va_up])]; simp [nw, mI, mJ, mR, mF, mE, va_rf])
  exact kk q H1 hq.2 (by rw [← hq.1]; exact h1) (by rw [← hq.1]; exact h2) h3
theorem rcv_5 (C : cx_C p l s m args meth c s0 D cA cc nL ret own A) (hP : va_P D vwCl (pW cA S) H) (hL : a ∈ mL S) (hK : mK S a = 4) : ∃ cell : Cell, H[a]? = some cell ∧ cell.vm.isStatics = false ∧ s.vm.findClass RX5 = some cell.cls := by
  obtain ⟨k, hk⟩ := pW_get (cA := cA) hL
  rw [pF_4 hK] at hk
  exact va_recv (cx_k C) hP (ci := 4) (q := (RX5, TX5, 5)) rfl hk
theorem gf_5_0 (C : cx_C p l s m args meth c s0 D cA cc nL ret own A) (hP : va_P D vwCl (pW cA S) H) (hL : a ∈ mL S) (hK : mK S a = 4) (hw : Cond.fieldLink own idx "RingPipeline$Ring" "values" "[J" ∈ TB) (d : decode cc pc = .ok (.getfield idx, 3)) (kk : W p l e R s m args below meth c H locs cells slots Q (F0 m (pc + 3) ls (va_rf (mR S 0 a) :: rest))) : W p l e R s m args below meth c H locs cells slots Q (F0 m pc ls (.ref a :: rest)) := by
  obtain ⟨k, hk⟩ := pW_get (cA := cA) hL
  rw [pF_4 hK] at hk
  exact va_get (D := D) (ci := 4) (C := RX5) (T := TX5) (N := 5) (cx_x C) (cx_b C) (cx_t C) inT_5 (cx_own C) (cx_k C) hP k hk rfl 0 (by decide) (cx_t C _ hw) (fun _ h => h) rfl d kk
theorem gf_5_0s {b : Nat} (C : cx_C p l s m args meth c s0 D cA cc nL ret own A) (hP : va_P D vwCl (pW cA S) H) (hL : a ∈ mL S) (hK : mK S a = 4) (hv : mR S 0 a = some b) (hw : Cond.fieldLink own idx "RingPipeline$Ring" "values" "[J" ∈ TB) (d : decode cc pc = .ok (.getfield idx, 3)) (kk : W p l e R s m args below meth c H locs cells slots Q (F0 m (pc + 3) ls (.ref b :: rest))) : W p l e R s m args below meth c H locs cells slots Q (F0 m pc ls (.ref a :: rest)) := gf_5_0 C hP hL hK hw d (by rw [hv]; exact kk)
theorem pf_5_0 {v : Option Nat} (C : cx_C p l s m args meth c s0 D cA cc nL ret RX5 A) (hin : meth.name = "<init>") (hP : va_P D vwCl (pW cA S) H) (hD : va_D A (pW cA S)) (hS : va_S A s.heap H locs) (hL : a ∈ mL S) (hK : mK S a = 4) (hw : Cond.fieldLink RX5 idx "RingPipeline$Ring" "values" "[J" ∈ TB) (d : decode cc pc = .ok (.putfield idx, 3)) (kk : ∀ (H1 : Heap) (locs1 : List Loc), va_P D vwCl (pW cA (uR S 0 a v)) H1 → va_D A (pW cA (uR S 0 a v)) → va_S A s.heap H1 locs1 → W p l e R s m args below meth c H1 locs1 cells slots Q (F0 m (pc + 3) ls rest)) : W p l e R s m args below meth c H locs cells slots Q (F0 m pc ls (va_rf v :: .ref a :: rest)) := by
  obtain ⟨k, hk⟩ := pW_get (cA := cA) hL
  have hk2 := hk
  rw [pF_4 hK] at hk2
  have he : (pW cA S).set k (a, .inr (4, [va_rf v, va_rf (mR S 1 a), va_rf (mR S 2 a), .long (mJ S 3 a), .long (mJ S 4 a)])) = pW cA (uR S 0 a v) := by
    refine pW_set hD hL hk rfl ?_ (fun b hb => pF_eq rfl (fun _ => rfl) (fun _ => rfl) (fun _ => (up2_a hb).symm) (fun _ => rfl) (fun _ => rfl) rfl rfl rfl rfl)
    rw [pF_4 (S := uR S 0 a v) hK]
    simp [uR, mR, up2, mI, mJ, mF, mE]
  exact va_putF (D := D) (ci := 4) (v := va_rf v) (ty := .array .long) (C := RX5) (T := TX5) (N := 5) (cx_x C) (cx_b C) (cx_t C) inT_5 tyX5 tyX5_ok nmX5 (cx_own C) (cx_k C) hP hD hS k hk2 rfl 0 (by decide) (cx_t C _ hw) (fun _ h => h) rfl hin rfl (by decide +kernel) (by cases v <;> rfl) (by cases v <;> rfl) (Nat.le_of_ble_eq_true rfl) d (fun H1 locs1 h1 h2 h3 => kk H1 locs1 (by rw [← he]; exact h1) (by rw [← he]; exact h2) h3)
theorem gf_5_1 (C : cx_C p l s m args meth c s0 D cA cc nL ret own A) (hP : va_P D vwCl (pW cA S) H) (hL : a ∈ mL S) (hK : mK S a = 4) (hw : Cond.fieldLink own idx "RingPipeline$Ring" "producers" "[I" ∈ TB) (d : decode cc pc = .ok (.getfield idx, 3)) (kk : W p l e R s m args below meth c H locs cells slots Q (F0 m (pc + 3) ls (va_rf (mR S 1 a) :: rest))) : W p l e R s m args below meth c H locs cells slots Q (F0 m pc ls (.ref a :: rest)) := by
  obtain ⟨k, hk⟩ := pW_get (cA := cA) hL
  rw [pF_4 hK] at hk
  exact va_get (D := D) (ci := 4) (C := RX5) (T := TX5) (N := 5) (cx_x C) (cx_b C) (cx_t C) inT_5 (cx_own C) (cx_k C) hP k hk rfl 1 (by decide) (cx_t C _ hw) (fun _ h => h) rfl d kk
theorem gf_5_1s {b : Nat} (C : cx_C p l s m args meth c s0 D cA cc nL ret own A) (hP : va_P D vwCl (pW cA S) H) (hL : a ∈ mL S) (hK : mK S a = 4) (hv : mR S 1 a = some b) (hw : Cond.fieldLink own idx "RingPipeline$Ring" "producers" "[I" ∈ TB) (d : decode cc pc = .ok (.getfield idx, 3)) (kk : W p l e R s m args below meth c H locs cells slots Q (F0 m (pc + 3) ls (.ref b :: rest))) : W p l e R s m args below meth c H locs cells slots Q (F0 m pc ls (.ref a :: rest)) := gf_5_1 C hP hL hK hw d (by rw [hv]; exact kk)
theorem pf_5_1 {v : Option Nat} (C : cx_C p l s m args meth c s0 D cA cc nL ret RX5 A) (hin : meth.name = "<init>") (hP : va_P D vwCl (pW cA S) H) (hD : va_D A (pW cA S)) (hS : va_S A s.heap H locs) (hL : a ∈ mL S) (hK : mK S a = 4) (hw : Cond.fieldLink RX5 idx "RingPipeline$Ring" "producers" "[I" ∈ TB) (d : decode cc pc = .ok (.putfield idx, 3)) (kk : ∀ (H1 : Heap) (locs1 : List Loc), va_P D vwCl (pW cA (uR S 1 a v)) H1 → va_D A (pW cA (uR S 1 a v)) → va_S A s.heap H1 locs1 → W p l e R s m args below meth c H1 locs1 cells slots Q (F0 m (pc + 3) ls rest)) : W p l e R s m args below meth c H locs cells slots Q (F0 m pc ls (va_rf v :: .ref a :: rest)) := by
  obtain ⟨k, hk⟩ := pW_get (cA := cA) hL
  have hk2 := hk
  rw [pF_4 hK] at hk2
  have he : (pW cA S).set k (a, .inr (4, [va_rf (mR S 0 a), va_rf v, va_rf (mR S 2 a), .long (mJ S 3 a), .long (mJ S 4 a)])) = pW cA (uR S 1 a v) := by
    refine pW_set hD hL hk rfl ?_ (fun b hb => pF_eq rfl (fun _ => rfl) (fun _ => rfl) (fun _ => (up2_a hb).symm) (fun _ => rfl) (fun _ => rfl) rfl rfl rfl rfl)
    rw [pF_4 (S := uR S 1 a v) hK]
    simp [uR, mR, up2, mI, mJ, mF, mE]
  exact va_putF (D := D) (ci := 4) (v := va_rf v) (ty := .array .int) (C := RX5) (T := TX5) (N := 5) (cx_x C) (cx_b C) (cx_t C) inT_5 tyX5 tyX5_ok nmX5 (cx_own C) (cx_k C) hP hD hS k hk2 rfl 1 (by decide) (cx_t C _ hw) (fun _ h => h) rfl hin rfl (by decide +kernel) (by cases v <;> rfl) (by cases v <;> rfl) (Nat.le_of_ble_eq_true rfl) d (fun H1 locs1 h1 h2 h3 => kk H1 locs1 (by rw [← he]; exact h1) (by rw [← he]; exact h2) h3)
theorem gf_5_2 (C : cx_C p l s m args meth c s0 D cA cc nL ret own A) (hP : va_P D vwCl (pW cA S) H) (hL : a ∈ mL S) (hK : mK S a = 4) (hw : Cond.fieldLink own idx "RingPipeline$Ring" "published" "[J" ∈ TB) (d : decode cc pc = .ok (.getfield idx, 3)) (kk : W p l e R s m args below meth c H locs cells slots Q (F0 m (pc + 3) ls (va_rf (mR S 2 a) :: rest))) : W p l e R s m args below meth c H locs cells slots Q (F0 m pc ls (.ref a :: rest)) := by
  obtain ⟨k, hk⟩ := pW_get (cA := cA) hL
  rw [pF_4 hK] at hk
  exact va_get (D := D) (ci := 4) (C := RX5) (T := TX5) (N := 5) (cx_x C) (cx_b C) (cx_t C) inT_5 (cx_own C) (cx_k C) hP k hk rfl 2 (by decide) (cx_t C _ hw) (fun _ h => h) rfl d kk
theorem gf_5_2s {b : Nat} (C : cx_C p l s m args meth c s0 D cA cc nL ret own A) (hP : va_P D vwCl (pW cA S) H) (hL : a ∈ mL S) (hK : mK S a = 4) (hv : mR S 2 a = some b) (hw : Cond.fieldLink own idx "RingPipeline$Ring" "published" "[J" ∈ TB) (d : decode cc pc = .ok (.getfield idx, 3)) (kk : W p l e R s m args below meth c H locs cells slots Q (F0 m (pc + 3) ls (.ref b :: rest))) : W p l e R s m args below meth c H locs cells slots Q (F0 m pc ls (.ref a :: rest)) := gf_5_2 C hP hL hK hw d (by rw [hv]; exact kk)
theorem pf_5_2 {v : Option Nat} (C : cx_C p l s m args meth c s0 D cA cc nL ret RX5 A) (hin : meth.name = "<init>") (hP : va_P D vwCl (pW cA S) H) (hD : va_D A (pW cA S)) (hS : va_S A s.heap H locs) (hL : a ∈ mL S) (hK : mK S a = 4) (hw : Cond.fieldLink RX5 idx "RingPipeline$Ring" "published" "[J" ∈ TB) (d : decode cc pc = .ok (.putfield idx, 3)) (kk : ∀ (H1 : Heap) (locs1 : List Loc), va_P D vwCl (pW cA (uR S 2 a v)) H1 → va_D A (pW cA (uR S 2 a v)) → va_S A s.heap H1 locs1 → W p l e R s m args below meth c H1 locs1 cells slots Q (F0 m (pc + 3) ls rest)) : W p l e R s m args below meth c H locs cells slots Q (F0 m pc ls (va_rf v :: .ref a :: rest)) := by
  obtain ⟨k, hk⟩ := pW_get (cA := cA) hL
  have hk2 := hk
  rw [pF_4 hK] at hk2
  have he : (pW cA S).set k (a, .inr (4, [va_rf (mR S 0 a), va_rf (mR S 1 a), va_rf v, .long (mJ S 3 a), .long (mJ S 4 a)])) = pW cA (uR S 2 a v) := by
    refine pW_set hD hL hk rfl ?_ (fun b hb => pF_eq rfl (fun _ => rfl) (fun _ => rfl) (fun _ => (up2_a hb).symm) (fun _ => rfl) (fun _ => rfl) rfl rfl rfl rfl)
    rw [pF_4 (S := uR S 2 a v) hK]
    simp [uR, mR, up2, mI, mJ, mF, mE]
  exact va_putF (D := D) (ci := 4) (v := va_rf v) (ty := .array .long) (C := RX5) (T := TX5) (N := 5) (cx_x C) (cx_b C) (cx_t C) inT_5 tyX5 tyX5_ok nmX5 (cx_own C) (cx_k C) hP hD hS k hk2 rfl 2 (by decide) (cx_t C _ hw) (fun _ h => h) rfl hin rfl (by decide +kernel) (by cases v <;> rfl) (by cases v <;> rfl) (Nat.le_of_ble_eq_true rfl) d (fun H1 locs1 h1 h2 h3 => kk H1 locs1 (by rw [← he]; exact h1) (by rw [← he]; exact h2) h3)
theorem gf_5_3 (C : cx_C p l s m args meth c s0 D cA cc nL ret own A) (hP : va_P D vwCl (pW cA S) H) (hL : a ∈ mL S) (hK : mK S a = 4) (hw : Cond.fieldLink own idx "RingPipeline$Ring" "cursor" "J" ∈ TB) (d : decode cc pc = .ok (.getfield idx, 3)) (kk : W p l e R s m args below meth c H locs cells slots Q (F0 m (pc + 3) ls (.long (mJ S 3 a) :: rest))) : W p l e R s m args below meth c H locs cells slots Q (F0 m pc ls (.ref a :: rest)) := by
  obtain ⟨k, hk⟩ := pW_get (cA := cA) hL
  rw [pF_4 hK] at hk
  exact va_get (D := D) (ci := 4) (C := RX5) (T := TX5) (N := 5) (cx_x C) (cx_b C) (cx_t C) inT_5 (cx_own C) (cx_k C) hP k hk rfl 3 (by decide) (cx_t C _ hw) (fun _ h => h) rfl d kk
theorem pf_5_3 {v : Int64} (C : cx_C p l s m args meth c s0 D cA cc nL ret own A) (hP : va_P D vwCl (pW cA S) H) (hD : va_D A (pW cA S)) (hS : va_S A s.heap H locs) (hL : a ∈ mL S) (hK : mK S a = 4) (hw : Cond.fieldLink own idx "RingPipeline$Ring" "cursor" "J" ∈ TB) (d : decode cc pc = .ok (.putfield idx, 3)) (kk : ∀ (H1 : Heap) (locs1 : List Loc), va_P D vwCl (pW cA (uJ S 3 a v)) H1 → va_D A (pW cA (uJ S 3 a v)) → va_S A s.heap H1 locs1 → W p l e R s m args below meth c H1 locs1 cells slots Q (F0 m (pc + 3) ls rest)) : W p l e R s m args below meth c H locs cells slots Q (F0 m pc ls (.long v :: .ref a :: rest)) := by
  obtain ⟨k, hk⟩ := pW_get (cA := cA) hL
  have hk2 := hk
  rw [pF_4 hK] at hk2
  have he : (pW cA S).set k (a, .inr (4, [va_rf (mR S 0 a), va_rf (mR S 1 a), va_rf (mR S 2 a), .long v, .long (mJ S 4 a)])) = pW cA (uJ S 3 a v) := by
    refine pW_set hD hL hk rfl ?_ (fun b hb => pF_eq rfl (fun _ => rfl) (fun _ => (up2_a hb).symm) (fun _ => rfl) (fun _ => rfl) (fun _ => rfl) rfl rfl rfl rfl)
    rw [pF_4 (S := uJ S 3 a v) hK]
    simp [uJ, mJ, up2, mI, mR, mF, mE]
  exact va_put (D := D) (ci := 4) (v := .long v) (ty := .long) (C := RX5) (T := TX5) (N := 5) (cx_x C) (cx_b C) (cx_t C) inT_5 tyX5 tyX5_ok nmX5 (cx_own C) (cx_k C) hP hD hS k hk2 rfl 3 (by decide) (cx_t C _ hw) (fun _ h => h) rfl (by decide +kernel) rfl rfl (Nat.le_of_ble_eq_true rfl) d (fun H1 locs1 h1 h2 h3 => kk H1 locs1 (by rw [← he]; exact h1) (by rw [← he]; exact h2) h3)
theorem gf_5_4 (C : cx_C p l s m args meth c s0 D cA cc nL ret own A) (hP : va_P D vwCl (pW cA S) H) (hL : a ∈ mL S) (hK : mK S a = 4) (hw : Cond.fieldLink own idx "RingPipeline$Ring" "available" "J" ∈ TB) (d : decode cc pc = .ok (.getfield idx, 3)) (kk : W p l e R s m args below meth c H locs cells slots Q (F0 m (pc + 3) ls (.long (mJ S 4 a) :: rest))) : W p l e R s m args below meth c H locs cells slots Q (F0 m pc ls (.ref a :: rest)) := by
  obtain ⟨k, hk⟩ := pW_get (cA := cA) hL
  rw [pF_4 hK] at hk
  exact va_get (D := D) (ci := 4) (C := RX5) (T := TX5) (N := 5) (cx_x C) (cx_b C) (cx_t C) inT_5 (cx_own C) (cx_k C) hP k hk rfl 4 (by decide) (cx_t C _ hw) (fun _ h => h) rfl d kk
theorem pf_5_4 {v : Int64} (C : cx_C p l s m args meth c s0 D cA cc nL ret own A) (hP : va_P D vwCl (pW cA S) H) (hD : va_D A (pW cA S)) (hS : va_S A s.heap H locs) (hL : a ∈ mL S) (hK : mK S a = 4) (hw : Cond.fieldLink own idx "RingPipeline$Ring" "available" "J" ∈ TB) (d : decode cc pc = .ok (.putfield idx, 3)) (kk : ∀ (H1 : Heap) (locs1 : List Loc), va_P D vwCl (pW cA (uJ S 4 a v)) H1 → va_D A (pW cA (uJ S 4 a v)) → va_S A s.heap H1 locs1 → W p l e R s m args below meth c H1 locs1 cells slots Q (F0 m (pc + 3) ls rest)) : W p l e R s m args below meth c H locs cells slots Q (F0 m pc ls (.long v :: .ref a :: rest)) := by
  obtain ⟨k, hk⟩ := pW_get (cA := cA) hL
  have hk2 := hk
  rw [pF_4 hK] at hk2
  have he : (pW cA S).set k (a, .inr (4, [va_rf (mR S 0 a), va_rf (mR S 1 a), va_rf (mR S 2 a), .long (mJ S 3 a), .long v])) = pW cA (uJ S 4 a v) := by
    refine pW_set hD hL hk rfl ?_ (fun b hb => pF_eq rfl (fun _ => rfl) (fun _ => (up2_a hb).symm) (fun _ => rfl) (fun _ => rfl) (fun _ => rfl) rfl rfl rfl rfl)
    rw [pF_4 (S := uJ S 4 a v) hK]
    simp [uJ, mJ, up2, mI, mR, mF, mE]
  exact va_put (D := D) (ci := 4) (v := .long v) (ty := .long) (C := RX5) (T := TX5) (N := 5) (cx_x C) (cx_b C) (cx_t C) inT_5 tyX5 tyX5_ok nmX5 (cx_own C) (cx_k C) hP hD hS k hk2 rfl 4 (by decide) (cx_t C _ hw) (fun _ h => h) rfl (by decide +kernel) rfl rfl (Nat.le_of_ble_eq_true rfl) d (fun H1 locs1 h1 h2 h3 => kk H1 locs1 (by rw [← he]; exact h1) (by rw [← he]; exact h2) h3)
theorem nwo_5 (C : cx_C p l s m args meth c s0 D cA cc nL ret own A) (hP : va_P D vwCl (pW cA S) H) (hD : va_D A (pW cA S)) (hS : va_S A s.heap H locs) (hw : Cond.classLink own idx "RingPipeline$Ring" ∈ TB) (hc : cells + 1 ≤ R.cells) (hs : slots + 5 ≤ R.slots) (d : decode cc pc = .ok (.new idx, 3)) (kk : ∀ (q : Nat) (H1 : Heap), q ∉ mL S → va_P D vwCl (pW cA (nw S q 4 0)) H1 → va_D A (pW cA (nw S q 4 0)) → va_S A s.heap H1 locs → W p l e R s m args below meth c H1 locs (cells + 1) (slots + 5) Q (F0 m (pc + 3) ls (.ref q :: rest))) : W p l e R s m args below meth c H locs cells slots Q (F0 m pc ls rest) := by
  refine va_new (D := D) (ci := 4) (fs := [.null, .null, .null, .long 0, .long 0]) (C := RX5) (T := TX5) (N := 5) (cx_x C) (cx_b C) (cx_t C) inT_5 tyX5 tyX5_ok (cx_own C) (cx_t C _ hw) (cx_t C _ tm_32) (cx_t C _ tm_2) (cx_k C) hP hD hS (cx_a C) rfl (fun j hj => by rcases (show j = 0 ∨ j = 1 ∨ j = 2 ∨ j = 3 ∨ j = 4 by omega) with rfl | rfl | rfl | rfl | rfl <;> rfl) hc hs d (fun q H1 h1 h2 h3 => ?_)
  have hq := pW_new (k := 4) (n := 0) h2 (by rw [pF_4 (by simp [nw, mK, va_up])]; simp [nw, mI, mJ, mR, mF, mE, va_rf])
  exact kk q H1 hq.2 (by rw [← hq.1]; exact h1) (by rw [← hq.1]; exact h2) h3
theorem rcv_6 (C : cx_C p l s m args meth c s0 D cA cc nL ret own A) (hP : va_P D vwCl (pW cA S) H) (hL : a ∈ mL S) (hK : mK S a = 5) : ∃ cell : Cell, H[a]? = some cell ∧ cell.vm.isStatics = false ∧ s.vm.findClass RX6 = some cell.cls := by
  obtain ⟨k, hk⟩ := pW_get (cA := cA) hL
  rw [pF_5 hK] at hk
  exact va_recv (cx_k C) hP (ci := 5) (q := (RX6, TX6, 2)) rfl hk
theorem gf_6_0 (C : cx_C p l s m args meth c s0 D cA cc nL ret own A) (hP : va_P D vwCl (pW cA S) H) (hL : a ∈ mL S) (hK : mK S a = 5) (hw : Cond.fieldLink own idx "RingPipeline$Smooth" "level" "F" ∈ TB) (d : decode cc pc = .ok (.getfield idx, 3)) (kk : W p l e R s m args below meth c H locs cells slots Q (F0 m (pc + 3) ls (.float (mF S 0 a) :: rest))) : W p l e R s m args below meth c H locs cells slots Q (F0 m pc ls (.ref a :: rest)) := by
  obtain ⟨k, hk⟩ := pW_get (cA := cA) hL
  rw [pF_5 hK] at hk
  exact va_get (D := D) (ci := 5) (C := RX6) (T := TX6) (N := 2) (cx_x C) (cx_b C) (cx_t C) inT_6 (cx_own C) (cx_k C) hP k hk rfl 0 (by decide) (cx_t C _ hw) (fun _ h => h) rfl d kk
theorem pf_6_0 {v : UInt32} (C : cx_C p l s m args meth c s0 D cA cc nL ret own A) (hP : va_P D vwCl (pW cA S) H) (hD : va_D A (pW cA S)) (hS : va_S A s.heap H locs) (hL : a ∈ mL S) (hK : mK S a = 5) (hw : Cond.fieldLink own idx "RingPipeline$Smooth" "level" "F" ∈ TB) (d : decode cc pc = .ok (.putfield idx, 3)) (kk : ∀ (H1 : Heap) (locs1 : List Loc), va_P D vwCl (pW cA (uF S 0 a v)) H1 → va_D A (pW cA (uF S 0 a v)) → va_S A s.heap H1 locs1 → W p l e R s m args below meth c H1 locs1 cells slots Q (F0 m (pc + 3) ls rest)) : W p l e R s m args below meth c H locs cells slots Q (F0 m pc ls (.float v :: .ref a :: rest)) := by
  obtain ⟨k, hk⟩ := pW_get (cA := cA) hL
  have hk2 := hk
  rw [pF_5 hK] at hk2
  have he : (pW cA S).set k (a, .inr (5, [.float v, .float (mF S 1 a)])) = pW cA (uF S 0 a v) := by
    refine pW_set hD hL hk rfl ?_ (fun b hb => pF_eq rfl (fun _ => rfl) (fun _ => rfl) (fun _ => rfl) (fun _ => (up2_a hb).symm) (fun _ => rfl) rfl rfl rfl rfl)
    rw [pF_5 (S := uF S 0 a v) hK]
    simp [uF, mF, up2, mI, mJ, mR, mE]
  exact va_put (D := D) (ci := 5) (v := .float v) (ty := .float) (C := RX6) (T := TX6) (N := 2) (cx_x C) (cx_b C) (cx_t C) inT_6 tyX6 tyX6_ok nmX6 (cx_own C) (cx_k C) hP hD hS k hk2 rfl 0 (by decide) (cx_t C _ hw) (fun _ h => h) rfl (by decide +kernel) rfl rfl (Nat.le_of_ble_eq_true rfl) d (fun H1 locs1 h1 h2 h3 => kk H1 locs1 (by rw [← he]; exact h1) (by rw [← he]; exact h2) h3)
theorem gf_6_1 (C : cx_C p l s m args meth c s0 D cA cc nL ret own A) (hP : va_P D vwCl (pW cA S) H) (hL : a ∈ mL S) (hK : mK S a = 5) (hw : Cond.fieldLink own idx "RingPipeline$Smooth" "kept" "F" ∈ TB) (d : decode cc pc = .ok (.getfield idx, 3)) (kk : W p l e R s m args below meth c H locs cells slots Q (F0 m (pc + 3) ls (.float (mF S 1 a) :: rest))) : W p l e R s m args below meth c H locs cells slots Q (F0 m pc ls (.ref a :: rest)) := by
  obtain ⟨k, hk⟩ := pW_get (cA := cA) hL
  rw [pF_5 hK] at hk
  exact va_get (D := D) (ci := 5) (C := RX6) (T := TX6) (N := 2) (cx_x C) (cx_b C) (cx_t C) inT_6 (cx_own C) (cx_k C) hP k hk rfl 1 (by decide) (cx_t C _ hw) (fun _ h => h) rfl d kk
theorem pf_6_1 {v : UInt32} (C : cx_C p l s m args meth c s0 D cA cc nL ret own A) (hP : va_P D vwCl (pW cA S) H) (hD : va_D A (pW cA S)) (hS : va_S A s.heap H locs) (hL : a ∈ mL S) (hK : mK S a = 5) (hw : Cond.fieldLink own idx "RingPipeline$Smooth" "kept" "F" ∈ TB) (d : decode cc pc = .ok (.putfield idx, 3)) (kk : ∀ (H1 : Heap) (locs1 : List Loc), va_P D vwCl (pW cA (uF S 1 a v)) H1 → va_D A (pW cA (uF S 1 a v)) → va_S A s.heap H1 locs1 → W p l e R s m args below meth c H1 locs1 cells slots Q (F0 m (pc + 3) ls rest)) : W p l e R s m args below meth c H locs cells slots Q (F0 m pc ls (.float v :: .ref a :: rest)) := by
  obtain ⟨k, hk⟩ := pW_get (cA := cA) hL
  have hk2 := hk
  rw [pF_5 hK] at hk2
  have he : (pW cA S).set k (a, .inr (5, [.float (mF S 0 a), .float v])) = pW cA (uF S 1 a v) := by
    refine pW_set hD hL hk rfl ?_ (fun b hb => pF_eq rfl (fun _ => rfl) (fun _ => rfl) (fun _ => rfl) (fun _ => (up2_a hb).symm) (fun _ => rfl) rfl rfl rfl rfl)
    rw [pF_5 (S := uF S 1 a v) hK]
    simp [uF, mF, up2, mI, mJ, mR, mE]
  exact va_put (D := D) (ci := 5) (v := .float v) (ty := .float) (C := RX6) (T := TX6) (N := 2) (cx_x C) (cx_b C) (cx_t C) inT_6 tyX6 tyX6_ok nmX6 (cx_own C) (cx_k C) hP hD hS k hk2 rfl 1 (by decide) (cx_t C _ hw) (fun _ h => h) rfl (by decide +kernel) rfl rfl (Nat.le_of_ble_eq_true rfl) d (fun H1 locs1 h1 h2 h3 => kk H1 locs1 (by rw [← he]; exact h1) (by rw [← he]; exact h2) h3)
theorem nwo_6 (C : cx_C p l s m args meth c s0 D cA cc nL ret own A) (hP : va_P D vwCl (pW cA S) H) (hD : va_D A (pW cA S)) (hS : va_S A s.heap H locs) (hw : Cond.classLink own idx "RingPipeline$Smooth" ∈ TB) (hc : cells + 1 ≤ R.cells) (hs : slots + 2 ≤ R.slots) (d : decode cc pc = .ok (.new idx, 3)) (kk : ∀ (q : Nat) (H1 : Heap), q ∉ mL S → va_P D vwCl (pW cA (nw S q 5 0)) H1 → va_D A (pW cA (nw S q 5 0)) → va_S A s.heap H1 locs → W p l e R s m args below meth c H1 locs (cells + 1) (slots + 2) Q (F0 m (pc + 3) ls (.ref q :: rest))) : W p l e R s m args below meth c H locs cells slots Q (F0 m pc ls rest) := by
  refine va_new (D := D) (ci := 5) (fs := [.float 0, .float 0]) (C := RX6) (T := TX6) (N := 2) (cx_x C) (cx_b C) (cx_t C) inT_6 tyX6 tyX6_ok (cx_own C) (cx_t C _ hw) (cx_t C _ tm_208) (cx_t C _ tm_12) (cx_k C) hP hD hS (cx_a C) rfl (fun j hj => by rcases (show j = 0 ∨ j = 1 by omega) with rfl | rfl <;> rfl) hc hs d (fun q H1 h1 h2 h3 => ?_)
  have hq := pW_new (k := 5) (n := 0) h2 (by rw [pF_5 (by simp [nw, mK, va_up])]; simp [nw, mI, mJ, mR, mF, mE, va_rf])
  exact kk q H1 hq.2 (by rw [← hq.1]; exact h1) (by rw [← hq.1]; exact h2) h3
theorem rcv_7 (C : cx_C p l s m args meth c s0 D cA cc nL ret own A) (hP : va_P D vwCl (pW cA S) H) (hL : a ∈ mL S) (hK : mK S a = 6) : ∃ cell : Cell, H[a]? = some cell ∧ cell.vm.isStatics = false ∧ s.vm.findClass RX7 = some cell.cls := by
  obtain ⟨k, hk⟩ := pW_get (cA := cA) hL
  rw [pF_6 hK] at hk
  exact va_recv (cx_k C) hP (ci := 6) (q := (RX7, TX7, 2)) rfl hk
theorem gf_7_0 (C : cx_C p l s m args meth c s0 D cA cc nL ret own A) (hP : va_P D vwCl (pW cA S) H) (hL : a ∈ mL S) (hK : mK S a = 6) (hw : Cond.fieldLink own idx "RingPipeline$Sum" "total" "J" ∈ TB) (d : decode cc pc = .ok (.getfield idx, 3)) (kk : W p l e R s m args below meth c H locs cells slots Q (F0 m (pc + 3) ls (.long (mJ S 0 a) :: rest))) : W p l e R s m args below meth c H locs cells slots Q (F0 m pc ls (.ref a :: rest)) := by
  obtain ⟨k, hk⟩ := pW_get (cA := cA) hL
  rw [pF_6 hK] at hk
  exact va_get (D := D) (ci := 6) (C := RX7) (T := TX7) (N := 2) (cx_x C) (cx_b C) (cx_t C) inT_7 (cx_own C) (cx_k C) hP k hk rfl 0 (by decide) (cx_t C _ hw) (fun _ h => h) rfl d kk
theorem pf_7_0 {v : Int64} (C : cx_C p l s m args meth c s0 D cA cc nL ret own A) (hP : va_P D vwCl (pW cA S) H) (hD : va_D A (pW cA S)) (hS : va_S A s.heap H locs) (hL : a ∈ mL S) (hK : mK S a = 6) (hw : Cond.fieldLink own idx "RingPipeline$Sum" "total" "J" ∈ TB) (d : decode cc pc = .ok (.putfield idx, 3)) (kk : ∀ (H1 : Heap) (locs1 : List Loc), va_P D vwCl (pW cA (uJ S 0 a v)) H1 → va_D A (pW cA (uJ S 0 a v)) → va_S A s.heap H1 locs1 → W p l e R s m args below meth c H1 locs1 cells slots Q (F0 m (pc + 3) ls rest)) : W p l e R s m args below meth c H locs cells slots Q (F0 m pc ls (.long v :: .ref a :: rest)) := by
  obtain ⟨k, hk⟩ := pW_get (cA := cA) hL
  have hk2 := hk
  rw [pF_6 hK] at hk2
  have he : (pW cA S).set k (a, .inr (6, [.long v, .long (mJ S 1 a)])) = pW cA (uJ S 0 a v) := by
    refine pW_set hD hL hk rfl ?_ (fun b hb => pF_eq rfl (fun _ => rfl) (fun _ => (up2_a hb).symm) (fun _ => rfl) (fun _ => rfl) (fun _ => rfl) rfl rfl rfl rfl)
    rw [pF_6 (S := uJ S 0 a v) hK]
    simp [uJ, mJ, up2, mI, mR, mF, mE]
  exact va_put (D := D) (ci := 6) (v := .long v) (ty := .long) (C := RX7) (T := TX7) (N := 2) (cx_x C) (cx_b C) (cx_t C) inT_7 tyX7 tyX7_ok nmX7 (cx_own C) (cx_k C) hP hD hS k hk2 rfl 0 (by decide) (cx_t C _ hw) (fun _ h => h) rfl (by decide +kernel) rfl rfl (Nat.le_of_ble_eq_true rfl) d (fun H1 locs1 h1 h2 h3 => kk H1 locs1 (by rw [← he]; exact h1) (by rw [← he]; exact h2) h3)
theorem gf_7_1 (C : cx_C p l s m args meth c s0 D cA cc nL ret own A) (hP : va_P D vwCl (pW cA S) H) (hL : a ∈ mL S) (hK : mK S a = 6) (hw : Cond.fieldLink own idx "RingPipeline$Sum" "kept" "J" ∈ TB) (d : decode cc pc = .ok (.getfield idx, 3)) (kk : W p l e R s m args below meth c H locs cells slots Q (F0 m (pc + 3) ls (.long (mJ S 1 a) :: rest))) : W p l e R s m args below meth c H locs cells slots Q (F0 m pc ls (.ref a :: rest)) := by
  obtain ⟨k, hk⟩ := pW_get (cA := cA) hL
  rw [pF_6 hK] at hk
  exact va_get (D := D) (ci := 6) (C := RX7) (T := TX7) (N := 2) (cx_x C) (cx_b C) (cx_t C) inT_7 (cx_own C) (cx_k C) hP k hk rfl 1 (by decide) (cx_t C _ hw) (fun _ h => h) rfl d kk
theorem pf_7_1 {v : Int64} (C : cx_C p l s m args meth c s0 D cA cc nL ret own A) (hP : va_P D vwCl (pW cA S) H) (hD : va_D A (pW cA S)) (hS : va_S A s.heap H locs) (hL : a ∈ mL S) (hK : mK S a = 6) (hw : Cond.fieldLink own idx "RingPipeline$Sum" "kept" "J" ∈ TB) (d : decode cc pc = .ok (.putfield idx, 3)) (kk : ∀ (H1 : Heap) (locs1 : List Loc), va_P D vwCl (pW cA (uJ S 1 a v)) H1 → va_D A (pW cA (uJ S 1 a v)) → va_S A s.heap H1 locs1 → W p l e R s m args below meth c H1 locs1 cells slots Q (F0 m (pc + 3) ls rest)) : W p l e R s m args below meth c H locs cells slots Q (F0 m pc ls (.long v :: .ref a :: rest)) := by
  obtain ⟨k, hk⟩ := pW_get (cA := cA) hL
  have hk2 := hk
  rw [pF_6 hK] at hk2
  have he : (pW cA S).set k (a, .inr (6, [.long (mJ S 0 a), .long v])) = pW cA (uJ S 1 a v) := by
    refine pW_set hD hL hk rfl ?_ (fun b hb => pF_eq rfl (fun _ => rfl) (fun _ => (up2_a hb).symm) (fun _ => rfl) (fun _ => rfl) (fun _ => rfl) rfl rfl rfl rfl)
    rw [pF_6 (S := uJ S 1 a v) hK]
    simp [uJ, mJ, up2, mI, mR, mF, mE]
  exact va_put (D := D) (ci := 6) (v := .long v) (ty := .long) (C := RX7) (T := TX7) (N := 2) (cx_x C) (cx_b C) (cx_t C) inT_7 tyX7 tyX7_ok nmX7 (cx_own C) (cx_k C) hP hD hS k hk2 rfl 1 (by decide) (cx_t C _ hw) (fun _ h => h) rfl (by decide +kernel) rfl rfl (Nat.le_of_ble_eq_true rfl) d (fun H1 locs1 h1 h2 h3 => kk H1 locs1 (by rw [← he]; exact h1) (by rw [← he]; exact h2) h3)
theorem nwo_7 (C : cx_C p l s m args meth c s0 D cA cc nL ret own A) (hP : va_P D vwCl (pW cA S) H) (hD : va_D A (pW cA S)) (hS : va_S A s.heap H locs) (hw : Cond.classLink own idx "RingPipeline$Sum" ∈ TB) (hc : cells + 1 ≤ R.cells) (hs : slots + 2 ≤ R.slots) (d : decode cc pc = .ok (.new idx, 3)) (kk : ∀ (q : Nat) (H1 : Heap), q ∉ mL S → va_P D vwCl (pW cA (nw S q 6 0)) H1 → va_D A (pW cA (nw S q 6 0)) → va_S A s.heap H1 locs → W p l e R s m args below meth c H1 locs (cells + 1) (slots + 2) Q (F0 m (pc + 3) ls (.ref q :: rest))) : W p l e R s m args below meth c H locs cells slots Q (F0 m pc ls rest) := by
  refine va_new (D := D) (ci := 6) (fs := [.long 0, .long 0]) (C := RX7) (T := TX7) (N := 2) (cx_x C) (cx_b C) (cx_t C) inT_7 tyX7 tyX7_ok (cx_own C) (cx_t C _ hw) (cx_t C _ tm_192) (cx_t C _ tm_11) (cx_k C) hP hD hS (cx_a C) rfl (fun j hj => by rcases (show j = 0 ∨ j = 1 by omega) with rfl | rfl <;> rfl) hc hs d (fun q H1 h1 h2 h3 => ?_)
  have hq := pW_new (k := 6) (n := 0) h2 (by rw [pF_6 (by simp [nw, mK, va_up])]; simp [nw, mI, mJ, mR, mF, mE, va_rf])
  exact kk q H1 hq.2 (by rw [← hq.1]; exact h1) (by rw [← hq.1]; exact h2) h3
theorem rcv_8 (C : cx_C p l s m args meth c s0 D cA cc nL ret own A) (hP : va_P D vwCl (pW cA S) H) (hL : a ∈ mL S) (hK : mK S a = 7) : ∃ cell : Cell, H[a]? = some cell ∧ cell.vm.isStatics = false ∧ s.vm.findClass RX8 = some cell.cls := by
  obtain ⟨k, hk⟩ := pW_get (cA := cA) hL
  rw [pF_7 hK] at hk
  exact va_recv (cx_k C) hP (ci := 7) (q := (RX8, TX8, 6)) rfl hk
theorem gf_8_0 (C : cx_C p l s m args meth c s0 D cA cc nL ret own A) (hP : va_P D vwCl (pW cA S) H) (hL : a ∈ mL S) (hK : mK S a = 7) (hw : Cond.fieldLink own idx "RingPipeline" "ring" "LRingPipeline$Ring;" ∈ TB) (d : decode cc pc = .ok (.getfield idx, 3)) (kk : W p l e R s m args below meth c H locs cells slots Q (F0 m (pc + 3) ls (va_rf (mR S 0 a) :: rest))) : W p l e R s m args below meth c H locs cells slots Q (F0 m pc ls (.ref a :: rest)) := by
  obtain ⟨k, hk⟩ := pW_get (cA := cA) hL
  rw [pF_7 hK] at hk
  exact va_get (D := D) (ci := 7) (C := RX8) (T := TX8) (N := 6) (cx_x C) (cx_b C) (cx_t C) inT_8 (cx_own C) (cx_k C) hP k hk rfl 0 (by decide) (cx_t C _ hw) (fun _ h => h) rfl d kk
theorem gf_8_0s {b : Nat} (C : cx_C p l s m args meth c s0 D cA cc nL ret own A) (hP : va_P D vwCl (pW cA S) H) (hL : a ∈ mL S) (hK : mK S a = 7) (hv : mR S 0 a = some b) (hw : Cond.fieldLink own idx "RingPipeline" "ring" "LRingPipeline$Ring;" ∈ TB) (d : decode cc pc = .ok (.getfield idx, 3)) (kk : W p l e R s m args below meth c H locs cells slots Q (F0 m (pc + 3) ls (.ref b :: rest))) : W p l e R s m args below meth c H locs cells slots Q (F0 m pc ls (.ref a :: rest)) := gf_8_0 C hP hL hK hw d (by rw [hv]; exact kk)
theorem pf_8_0 {v : Option Nat} (C : cx_C p l s m args meth c s0 D cA cc nL ret RX8 A) (hin : meth.name = "<init>") (hP : va_P D vwCl (pW cA S) H) (hD : va_D A (pW cA S)) (hS : va_S A s.heap H locs) (hL : a ∈ mL S) (hK : mK S a = 7) (hw : Cond.fieldLink RX8 idx "RingPipeline" "ring" "LRingPipeline$Ring;" ∈ TB) (d : decode cc pc = .ok (.putfield idx, 3)) (kk : ∀ (H1 : Heap) (locs1 : List Loc), va_P D vwCl (pW cA (uR S 0 a v)) H1 → va_D A (pW cA (uR S 0 a v)) → va_S A s.heap H1 locs1 → W p l e R s m args below meth c H1 locs1 cells slots Q (F0 m (pc + 3) ls rest)) : W p l e R s m args below meth c H locs cells slots Q (F0 m pc ls (va_rf v :: .ref a :: rest)) := by
  obtain ⟨k, hk⟩ := pW_get (cA := cA) hL
  have hk2 := hk
  rw [pF_7 hK] at hk2
  have he : (pW cA S).set k (a, .inr (7, [va_rf v, va_rf (mR S 1 a), va_rf (mR S 2 a), .int (mI S 3 a), .int (mI S 4 a), .long (mJ S 5 a)])) = pW cA (uR S 0 a v) := by
    refine pW_set hD hL hk rfl ?_ (fun b hb => pF_eq rfl (fun _ => rfl) (fun _ => rfl) (fun _ => (up2_a hb).symm) (fun _ => rfl) (fun _ => rfl) rfl rfl rfl rfl)
    rw [pF_7 (S := uR S 0 a v) hK]
    simp [uR, mR, up2, mI, mJ, mF, mE]
  exact va_putF (D := D) (ci := 7) (v := va_rf v) (ty := .object "RingPipeline$Ring") (C := RX8) (T := TX8) (N := 6) (cx_x C) (cx_b C) (cx_t C) inT_8 tyX8 tyX8_ok nmX8 (cx_own C) (cx_k C) hP hD hS k hk2 rfl 0 (by decide) (cx_t C _ hw) (fun _ h => h) rfl hin rfl (by decide +kernel) (by cases v <;> rfl) (by cases v <;> rfl) (Nat.le_of_ble_eq_true rfl) d (fun H1 locs1 h1 h2 h3 => kk H1 locs1 (by rw [← he]; exact h1) (by rw [← he]; exact h2) h3)
theorem gf_8_1 (C : cx_C p l s m args meth c s0 D cA cc nL ret own A) (hP : va_P D vwCl (pW cA S) H) (hL : a ∈ mL S) (hK : mK S a = 7) (hw : Cond.fieldLink own idx "RingPipeline" "consumers" "[LRingPipeline$Consumer;" ∈ TB) (d : decode cc pc = .ok (.getfield idx, 3)) (kk : W p l e R s m args below meth c H locs cells slots Q (F0 m (pc + 3) ls (va_rf (mR S 1 a) :: rest))) : W p l e R s m args below meth c H locs cells slots Q (F0 m pc ls (.ref a :: rest)) := by
  obtain ⟨k, hk⟩ := pW_get (cA := cA) hL
  rw [pF_7 hK] at hk
  exact va_get (D := D) (ci := 7) (C := RX8) (T := TX8) (N := 6) (cx_x C) (cx_b C) (cx_t C) inT_8 (cx_own C) (cx_k C) hP k hk rfl 1 (by decide) (cx_t C _ hw) (fun _ h => h) rfl d kk
theorem gf_8_1s {b : Nat} (C : cx_C p l s m args meth c s0 D cA cc nL ret own A) (hP : va_P D vwCl (pW cA S) H) (hL : a ∈ mL S) (hK : mK S a = 7) (hv : mR S 1 a = some b) (hw : Cond.fieldLink own idx "RingPipeline" "consumers" "[LRingPipeline$Consumer;" ∈ TB) (d : decode cc pc = .ok (.getfield idx, 3)) (kk : W p l e R s m args below meth c H locs cells slots Q (F0 m (pc + 3) ls (.ref b :: rest))) : W p l e R s m args below meth c H locs cells slots Q (F0 m pc ls (.ref a :: rest)) := gf_8_1 C hP hL hK hw d (by rw [hv]; exact kk)
theorem pf_8_1 {v : Option Nat} (C : cx_C p l s m args meth c s0 D cA cc nL ret RX8 A) (hin : meth.name = "<init>") (hP : va_P D vwCl (pW cA S) H) (hD : va_D A (pW cA S)) (hS : va_S A s.heap H locs) (hL : a ∈ mL S) (hK : mK S a = 7) (hw : Cond.fieldLink RX8 idx "RingPipeline" "consumers" "[LRingPipeline$Consumer;" ∈ TB) (d : decode cc pc = .ok (.putfield idx, 3)) (kk : ∀ (H1 : Heap) (locs1 : List Loc), va_P D vwCl (pW cA (uR S 1 a v)) H1 → va_D A (pW cA (uR S 1 a v)) → va_S A s.heap H1 locs1 → W p l e R s m args below meth c H1 locs1 cells slots Q (F0 m (pc + 3) ls rest)) : W p l e R s m args below meth c H locs cells slots Q (F0 m pc ls (va_rf v :: .ref a :: rest)) := by
  obtain ⟨k, hk⟩ := pW_get (cA := cA) hL
  have hk2 := hk
  rw [pF_7 hK] at hk2
  have he : (pW cA S).set k (a, .inr (7, [va_rf (mR S 0 a), va_rf v, va_rf (mR S 2 a), .int (mI S 3 a), .int (mI S 4 a), .long (mJ S 5 a)])) = pW cA (uR S 1 a v) := by
    refine pW_set hD hL hk rfl ?_ (fun b hb => pF_eq rfl (fun _ => rfl) (fun _ => rfl) (fun _ => (up2_a hb).symm) (fun _ => rfl) (fun _ => rfl) rfl rfl rfl rfl)
    rw [pF_7 (S := uR S 1 a v) hK]
    simp [uR, mR, up2, mI, mJ, mF, mE]
  exact va_putF (D := D) (ci := 7) (v := va_rf v) (ty := .array (.object "RingPipeline$Consumer")) (C := RX8) (T := TX8) (N := 6) (cx_x C) (cx_b C) (cx_t C) inT_8 tyX8 tyX8_ok nmX8 (cx_own C) (cx_k C) hP hD hS k hk2 rfl 1 (by decide) (cx_t C _ hw) (fun _ h => h) rfl hin rfl (by decide +kernel) (by cases v <;> rfl) (by cases v <;> rfl) (Nat.le_of_ble_eq_true rfl) d (fun H1 locs1 h1 h2 h3 => kk H1 locs1 (by rw [← he]; exact h1) (by rw [← he]; exact h2) h3)
theorem gf_8_2 (C : cx_C p l s m args meth c s0 D cA cc nL ret own A) (hP : va_P D vwCl (pW cA S) H) (hL : a ∈ mL S) (hK : mK S a = 7) (hw : Cond.fieldLink own idx "RingPipeline" "pools" "[LRingPipeline$Pool;" ∈ TB) (d : decode cc pc = .ok (.getfield idx, 3)) (kk : W p l e R s m args below meth c H locs cells slots Q (F0 m (pc + 3) ls (va_rf (mR S 2 a) :: rest))) : W p l e R s m args below meth c H locs cells slots Q (F0 m pc ls (.ref a :: rest)) := by
  obtain ⟨k, hk⟩ := pW_get (cA := cA) hL
  rw [pF_7 hK] at hk
  exact va_get (D := D) (ci := 7) (C := RX8) (T := TX8) (N := 6) (cx_x C) (cx_b C) (cx_t C) inT_8 (cx_own C) (cx_k C) hP k hk rfl 2 (by decide) (cx_t C _ hw) (fun _ h => h) rfl d kk
theorem gf_8_2s {b : Nat} (C : cx_C p l s m args meth c s0 D cA cc nL ret own A) (hP : va_P D vwCl (pW cA S) H) (hL : a ∈ mL S) (hK : mK S a = 7) (hv : mR S 2 a = some b) (hw : Cond.fieldLink own idx "RingPipeline" "pools" "[LRingPipeline$Pool;" ∈ TB) (d : decode cc pc = .ok (.getfield idx, 3)) (kk : W p l e R s m args below meth c H locs cells slots Q (F0 m (pc + 3) ls (.ref b :: rest))) : W p l e R s m args below meth c H locs cells slots Q (F0 m pc ls (.ref a :: rest)) := gf_8_2 C hP hL hK hw d (by rw [hv]; exact kk)
theorem pf_8_2 {v : Option Nat} (C : cx_C p l s m args meth c s0 D cA cc nL ret RX8 A) (hin : meth.name = "<init>") (hP : va_P D vwCl (pW cA S) H) (hD : va_D A (pW cA S)) (hS : va_S A s.heap H locs) (hL : a ∈ mL S) (hK : mK S a = 7) (hw : Cond.fieldLink RX8 idx "RingPipeline" "pools" "[LRingPipeline$Pool;" ∈ TB) (d : decode cc pc = .ok (.putfield idx, 3)) (kk : ∀ (H1 : Heap) (locs1 : List Loc), va_P D vwCl (pW cA (uR S 2 a v)) H1 → va_D A (pW cA (uR S 2 a v)) → va_S A s.heap H1 locs1 → W p l e R s m args below meth c H1 locs1 cells slots Q (F0 m (pc + 3) ls rest)) : W p l e R s m args below meth c H locs cells slots Q (F0 m pc ls (va_rf v :: .ref a :: rest)) := by
  obtain ⟨k, hk⟩ := pW_get (cA := cA) hL
  have hk2 := hk
  rw [pF_7 hK] at hk2
  have he : (pW cA S).set k (a, .inr (7, [va_rf (mR S 0 a), va_rf (mR S 1 a), va_rf v, .int (mI S 3 a), .int (mI S 4 a), .long (mJ S 5 a)])) = pW cA (uR S 2 a v) := by
    refine pW_set hD hL hk rfl ?_ (fun b hb => pF_eq rfl (fun _ => rfl) (fun _ => rfl) (fun _ => (up2_a hb).symm) (fun _ => rfl) (fun _ => rfl) rfl rfl rfl rfl)
    rw [pF_7 (S := uR S 2 a v) hK]
    simp [uR, mR, up2, mI, mJ, mF, mE]
  exact va_putF (D := D) (ci := 7) (v := va_rf v) (ty := .array (.object "RingPipeline$Pool")) (C := RX8) (T := TX8) (N := 6) (cx_x C) (cx_b C) (cx_t C) inT_8 tyX8 tyX8_ok nmX8 (cx_own C) (cx_k C) hP hD hS k hk2 rfl 2 (by decide) (cx_t C _ hw) (fun _ h => h) rfl hin rfl (by decide +kernel) (by cases v <;> rfl) (by cases v <;> rfl) (Nat.le_of_ble_eq_true rfl) d (fun H1 locs1 h1 h2 h3 => kk H1 locs1 (by rw [← he]; exact h1) (by rw [← he]; exact h2) h3)
theorem gf_8_3 (C : cx_C p l s m args meth c s0 D cA cc nL ret own A) (hP : va_P D vwCl (pW cA S) H) (hL : a ∈ mL S) (hK : mK S a = 7) (hw : Cond.fieldLink own idx "RingPipeline" "made" "I" ∈ TB) (d : decode cc pc = .ok (.getfield idx, 3)) (kk : W p l e R s m args below meth c H locs cells slots Q (F0 m (pc + 3) ls (.int (mI S 3 a) :: rest))) : W p l e R s m args below meth c H locs cells slots Q (F0 m pc ls (.ref a :: rest)) := by
  obtain ⟨k, hk⟩ := pW_get (cA := cA) hL
  rw [pF_7 hK] at hk
  exact va_get (D := D) (ci := 7) (C := RX8) (T := TX8) (N := 6) (cx_x C) (cx_b C) (cx_t C) inT_8 (cx_own C) (cx_k C) hP k hk rfl 3 (by decide) (cx_t C _ hw) (fun _ h => h) rfl d kk
theorem pf_8_3 {v : Int32} (C : cx_C p l s m args meth c s0 D cA cc nL ret own A) (hP : va_P D vwCl (pW cA S) H) (hD : va_D A (pW cA S)) (hS : va_S A s.heap H locs) (hL : a ∈ mL S) (hK : mK S a = 7) (hw : Cond.fieldLink own idx "RingPipeline" "made" "I" ∈ TB) (d : decode cc pc = .ok (.putfield idx, 3)) (kk : ∀ (H1 : Heap) (locs1 : List Loc), va_P D vwCl (pW cA (uI S 3 a v)) H1 → va_D A (pW cA (uI S 3 a v)) → va_S A s.heap H1 locs1 → W p l e R s m args below meth c H1 locs1 cells slots Q (F0 m (pc + 3) ls rest)) : W p l e R s m args below meth c H locs cells slots Q (F0 m pc ls (.int v :: .ref a :: rest)) := by
  obtain ⟨k, hk⟩ := pW_get (cA := cA) hL
  have hk2 := hk
  rw [pF_7 hK] at hk2
  have he : (pW cA S).set k (a, .inr (7, [va_rf (mR S 0 a), va_rf (mR S 1 a), va_rf (mR S 2 a), .int v, .int (mI S 4 a), .long (mJ S 5 a)])) = pW cA (uI S 3 a v) := by
    refine pW_set hD hL hk rfl ?_ (fun b hb => pF_eq rfl (fun _ => (up2_a hb).symm) (fun _ => rfl) (fun _ => rfl) (fun _ => rfl) (fun _ => rfl) rfl rfl rfl rfl)
    rw [pF_7 (S := uI S 3 a v) hK]
    simp [uI, mI, up2, mJ, mR, mF, mE]
  exact va_put (D := D) (ci := 7) (v := .int v) (ty := .int) (C := RX8) (T := TX8) (N := 6) (cx_x C) (cx_b C) (cx_t C) inT_8 tyX8 tyX8_ok nmX8 (cx_own C) (cx_k C) hP hD hS k hk2 rfl 3 (by decide) (cx_t C _ hw) (fun _ h => h) rfl (by decide +kernel) rfl rfl (Nat.le_of_ble_eq_true rfl) d (fun H1 locs1 h1 h2 h3 => kk H1 locs1 (by rw [← he]; exact h1) (by rw [← he]; exact h2) h3)
theorem gf_8_4 (C : cx_C p l s m args meth c s0 D cA cc nL ret own A) (hP : va_P D vwCl (pW cA S) H) (hL : a ∈ mL S) (hK : mK S a = 7) (hw : Cond.fieldLink own idx "RingPipeline" "hungOn" "I" ∈ TB) (d : decode cc pc = .ok (.getfield idx, 3)) (kk : W p l e R s m args below meth c H locs cells slots Q (F0 m (pc + 3) ls (.int (mI S 4 a) :: rest))) : W p l e R s m args below meth c H locs cells slots Q (F0 m pc ls (.ref a :: rest)) := by
  obtain ⟨k, hk⟩ := pW_get (cA := cA) hL
  rw [pF_7 hK] at hk
  exact va_get (D := D) (ci := 7) (C := RX8) (T := TX8) (N := 6) (cx_x C) (cx_b C) (cx_t C) inT_8 (cx_own C) (cx_k C) hP k hk rfl 4 (by decide) (cx_t C _ hw) (fun _ h => h) rfl d kk
theorem pf_8_4 {v : Int32} (C : cx_C p l s m args meth c s0 D cA cc nL ret own A) (hP : va_P D vwCl (pW cA S) H) (hD : va_D A (pW cA S)) (hS : va_S A s.heap H locs) (hL : a ∈ mL S) (hK : mK S a = 7) (hw : Cond.fieldLink own idx "RingPipeline" "hungOn" "I" ∈ TB) (d : decode cc pc = .ok (.putfield idx, 3)) (kk : ∀ (H1 : Heap) (locs1 : List Loc), va_P D vwCl (pW cA (uI S 4 a v)) H1 → va_D A (pW cA (uI S 4 a v)) → va_S A s.heap H1 locs1 → W p l e R s m args below meth c H1 locs1 cells slots Q (F0 m (pc + 3) ls rest)) : W p l e R s m args below meth c H locs cells slots Q (F0 m pc ls (.int v :: .ref a :: rest)) := by
  obtain ⟨k, hk⟩ := pW_get (cA := cA) hL
  have hk2 := hk
  rw [pF_7 hK] at hk2
  have he : (pW cA S).set k (a, .inr (7, [va_rf (mR S 0 a), va_rf (mR S 1 a), va_rf (mR S 2 a), .int (mI S 3 a), .int v, .long (mJ S 5 a)])) = pW cA (uI S 4 a v) := by
    refine pW_set hD hL hk rfl ?_ (fun b hb => pF_eq rfl (fun _ => (up2_a hb).symm) (fun _ => rfl) (fun _ => rfl) (fun _ => rfl) (fun _ => rfl) rfl rfl rfl rfl)
    rw [pF_7 (S := uI S 4 a v) hK]
    simp [uI, mI, up2, mJ, mR, mF, mE]
  exact va_put (D := D) (ci := 7) (v := .int v) (ty := .int) (C := RX8) (T := TX8) (N := 6) (cx_x C) (cx_b C) (cx_t C) inT_8 tyX8 tyX8_ok nmX8 (cx_own C) (cx_k C) hP hD hS k hk2 rfl 4 (by decide) (cx_t C _ hw) (fun _ h => h) rfl (by decide +kernel) rfl rfl (Nat.le_of_ble_eq_true rfl) d (fun H1 locs1 h1 h2 h3 => kk H1 locs1 (by rw [← he]; exact h1) (by rw [← he]; exact h2) h3)
theorem gf_8_5 (C : cx_C p l s m args meth c s0 D cA cc nL ret own A) (hP : va_P D vwCl (pW cA S) H) (hL : a ∈ mL S) (hK : mK S a = 7) (hw : Cond.fieldLink own idx "RingPipeline" "replayedSum" "J" ∈ TB) (d : decode cc pc = .ok (.getfield idx, 3)) (kk : W p l e R s m args below meth c H locs cells slots Q (F0 m (pc + 3) ls (.long (mJ S 5 a) :: rest))) : W p l e R s m args below meth c H locs cells slots Q (F0 m pc ls (.ref a :: rest)) := by
  obtain ⟨k, hk⟩ := pW_get (cA := cA) hL
  rw [pF_7 hK] at hk
  exact va_get (D := D) (ci := 7) (C := RX8) (T := TX8) (N := 6) (cx_x C) (cx_b C) (cx_t C) inT_8 (cx_own C) (cx_k C) hP k hk rfl 5 (by decide) (cx_t C _ hw) (fun _ h => h) rfl d kk
theorem pf_8_5 {v : Int64} (C : cx_C p l s m args meth c s0 D cA cc nL ret own A) (hP : va_P D vwCl (pW cA S) H) (hD : va_D A (pW cA S)) (hS : va_S A s.heap H locs) (hL : a ∈ mL S) (hK : mK S a = 7) (hw : Cond.fieldLink own idx "RingPipeline" "replayedSum" "J" ∈ TB) (d : decode cc pc = .ok (.putfield idx, 3)) (kk : ∀ (H1 : Heap) (locs1 : List Loc), va_P D vwCl (pW cA (uJ S 5 a v)) H1 → va_D A (pW cA (uJ S 5 a v)) → va_S A s.heap H1 locs1 → W p l e R s m args below meth c H1 locs1 cells slots Q (F0 m (pc + 3) ls rest)) : W p l e R s m args below meth c H locs cells slots Q (F0 m pc ls (.long v :: .ref a :: rest)) := by
  obtain ⟨k, hk⟩ := pW_get (cA := cA) hL
  have hk2 := hk
  rw [pF_7 hK] at hk2
  have he : (pW cA S).set k (a, .inr (7, [va_rf (mR S 0 a), va_rf (mR S 1 a), va_rf (mR S 2 a), .int (mI S 3 a), .int (mI S 4 a), .long v])) = pW cA (uJ S 5 a v) := by
    refine pW_set hD hL hk rfl ?_ (fun b hb => pF_eq rfl (fun _ => rfl) (fun _ => (up2_a hb).symm) (fun _ => rfl) (fun _ => rfl) (fun _ => rfl) rfl rfl rfl rfl)
    rw [pF_7 (S := uJ S 5 a v) hK]
    simp [uJ, mJ, up2, mI, mR, mF, mE]
  exact va_put (D := D) (ci := 7) (v := .long v) (ty := .long) (C := RX8) (T := TX8) (N := 6) (cx_x C) (cx_b C) (cx_t C) inT_8 tyX8 tyX8_ok nmX8 (cx_own C) (cx_k C) hP hD hS k hk2 rfl 5 (by decide) (cx_t C _ hw) (fun _ h => h) rfl (by decide +kernel) rfl rfl (Nat.le_of_ble_eq_true rfl) d (fun H1 locs1 h1 h2 h3 => kk H1 locs1 (by rw [← he]; exact h1) (by rw [← he]; exact h2) h3)
theorem nwo_8 (C : cx_C p l s m args meth c s0 D cA cc nL ret own A) (hP : va_P D vwCl (pW cA S) H) (hD : va_D A (pW cA S)) (hS : va_S A s.heap H locs) (hw : Cond.classLink own idx "RingPipeline" ∈ TB) (hc : cells + 1 ≤ R.cells) (hs : slots + 6 ≤ R.slots) (d : decode cc pc = .ok (.new idx, 3)) (kk : ∀ (q : Nat) (H1 : Heap), q ∉ mL S → va_P D vwCl (pW cA (nw S q 7 0)) H1 → va_D A (pW cA (nw S q 7 0)) → va_S A s.heap H1 locs → W p l e R s m args below meth c H1 locs (cells + 1) (slots + 6) Q (F0 m (pc + 3) ls (.ref q :: rest))) : W p l e R s m args below meth c H locs cells slots Q (F0 m pc ls rest) := by
  refine va_new (D := D) (ci := 7) (fs := [.null, .null, .null, .int 0, .int 0, .long 0]) (C := RX8) (T := TX8) (N := 6) (cx_x C) (cx_b C) (cx_t C) inT_8 tyX8 tyX8_ok (cx_own C) (cx_t C _ hw) (cx_t C _ tm_20) (cx_t C _ tm_1) (cx_k C) hP hD hS (cx_a C) rfl (fun j hj => by rcases (show j = 0 ∨ j = 1 ∨ j = 2 ∨ j = 3 ∨ j = 4 ∨ j = 5 by omega) with rfl | rfl | rfl | rfl | rfl | rfl <;> rfl) hc hs d (fun q H1 h1 h2 h3 => ?_)
  have hq := pW_new (k := 7) (n := 0) h2 (by rw [pF_7 (by simp [nw, mK, va_up])]; simp [nw, mI, mJ, mR, mF, mE, va_rf])
  exact kk q H1 hq.2 (by rw [← hq.1]; exact h1) (by rw [← hq.1]; exact h2) h3
theorem al_B {i : Int32} {j : Nat} (C : cx_C p l s m args meth c s0 D cA cc nL ret own A) (hP : va_P D vwCl (pW cA S) H) (hL : a ∈ mL S) (hK : mK S a = 9) (hi : ix i (mN S a) j) (d : decode cc pc = .ok (.baload, 1)) (kk : W p l e R s m args below meth c H locs cells slots Q (F0 m (pc + 1) ls (.int (maI S a j) :: rest))) : W p l e R s m args below meth c H locs cells slots Q (F0 m pc ls (.int i :: .ref a :: rest)) := by
  obtain ⟨k, hk⟩ := pW_get (cA := cA) hL
  rw [pF_9 hK] at hk
  obtain ⟨h1, rfl⟩ := hi
  exact va_bald (cx_x C) (cx_b C) (cx_k C) hP k 0 hk rfl h1 d kk
theorem aln_B (C : cx_C p l s m args meth c s0 D cA cc nL ret own A) (hP : va_P D vwCl (pW cA S) H) (hL : a ∈ mL S) (hK : mK S a = 9) (d : decode cc pc = .ok (.arraylength, 1)) (kk : W p l e R s m args below meth c H locs cells slots Q (F0 m (pc + 1) ls (.int (nI (mN S a)) :: rest))) : W p l e R s m args below meth c H locs cells slots Q (F0 m pc ls (.ref a :: rest)) := by
  obtain ⟨k, hk⟩ := pW_get (cA := cA) hL
  rw [pF_9 hK] at hk
  exact va_alen (cx_x C) (cx_b C) (cx_k C) hP k 0 hk rfl rfl d kk
theorem as_B {i : Int32} {j : Nat} {x : Int32} (C : cx_C p l s m args meth c s0 D cA cc nL ret own A) (hP : va_P D vwCl (pW cA S) H) (hD : va_D A (pW cA S)) (hS : va_S A s.heap H locs) (hL : a ∈ mL S) (hK : mK S a = 9) (hi : ix i (mN S a) j) (d : decode cc pc = .ok (.bastore, 1)) (kk : ∀ (H1 : Heap) (locs1 : List Loc), va_P D vwCl (pW cA (uaI S a j (vp_nar .byte x))) H1 → va_D A (pW cA (uaI S a j (vp_nar .byte x))) → va_S A s.heap H1 locs1 → W p l e R s m args below meth c H1 locs1 cells slots Q (F0 m (pc + 1) ls rest)) : W p l e R s m args below meth c H locs cells slots Q (F0 m pc ls (.int x :: .int i :: .ref a :: rest)) := by
  obtain ⟨k, hk⟩ := pW_get (cA := cA) hL
  have hk2 := hk
  rw [pF_9 hK] at hk2
  obtain ⟨g1, rfl⟩ := hi
  have he : (pW cA S).set k (a, .inl (cA 0, mN S a, .inl (upd (maI S a) i.toNatClampNeg (vp_nar .byte x)))) = pW cA (uaI S a i.toNatClampNeg (vp_nar .byte x)) := by
    refine pW_set hD hL hk rfl ?_ (fun b hb => pF_eq rfl (fun _ => rfl) (fun _ => rfl) (fun _ => rfl) (fun _ => rfl) (fun _ => rfl) rfl (funext fun z => (up2_k hb).symm) rfl rfl)
    rw [pF_9 (S := uaI S a i.toNatClampNeg (vp_nar .byte x)) hK]
    have hf : upd (maI S a) i.toNatClampNeg (vp_nar .byte x) = maI (uaI S a i.toNatClampNeg (vp_nar .byte x)) a := by
      funext z
      simp [uaI, maI, up2, upd]
    rw [← hf]
    rfl
  exact va_bast (cx_x C) (cx_b C) (cx_k C) hP hD hS k 0 hk2 rfl g1 d (fun H1 locs1 h1 h2 h3 => kk H1 locs1 (by rw [← he]; exact h1) (by rw [← he]; exact h2) h3)
theorem al_I {i : Int32} {j : Nat} (C : cx_C p l s m args meth c s0 D cA cc nL ret own A) (hP : va_P D vwCl (pW cA S) H) (hL : a ∈ mL S) (hK : mK S a = 12) (hi : ix i (mN S a) j) (d : decode cc pc = .ok (.iaload, 1)) (kk : W p l e R s m args below meth c H locs cells slots Q (F0 m (pc + 1) ls (.int (maI S a j) :: rest))) : W p l e R s m args below meth c H locs cells slots Q (F0 m pc ls (.int i :: .ref a :: rest)) := by
  obtain ⟨k, hk⟩ := pW_get (cA := cA) hL
  rw [pF_12 hK] at hk
  obtain ⟨h1, rfl⟩ := hi
  exact va_iald (cx_x C) (cx_b C) (cx_k C) hP k 3 hk rfl h1 d kk
theorem aln_I (C : cx_C p l s m args meth c s0 D cA cc nL ret own A) (hP : va_P D vwCl (pW cA S) H) (hL : a ∈ mL S) (hK : mK S a = 12) (d : decode cc pc = .ok (.arraylength, 1)) (kk : W p l e R s m args below meth c H locs cells slots Q (F0 m (pc + 1) ls (.int (nI (mN S a)) :: rest))) : W p l e R s m args below meth c H locs cells slots Q (F0 m pc ls (.ref a :: rest)) := by
  obtain ⟨k, hk⟩ := pW_get (cA := cA) hL
  rw [pF_12 hK] at hk
  exact va_alen (cx_x C) (cx_b C) (cx_k C) hP k 3 hk rfl rfl d kk
theorem as_I {i : Int32} {j : Nat} {x : Int32} (C : cx_C p l s m args meth c s0 D cA cc nL ret own A) (hP : va_P D vwCl (pW cA S) H) (hD : va_D A (pW cA S)) (hS : va_S A s.heap H locs) (hL : a ∈ mL S) (hK : mK S a = 12) (hi : ix i (mN S a) j) (d : decode cc pc = .ok (.iastore, 1)) (kk : ∀ (H1 : Heap) (locs1 : List Loc), va_P D vwCl (pW cA (uaI S a j (x))) H1 → va_D A (pW cA (uaI S a j (x))) → va_S A s.heap H1 locs1 → W p l e R s m args below meth c H1 locs1 cells slots Q (F0 m (pc + 1) ls rest)) : W p l e R s m args below meth c H locs cells slots Q (F0 m pc ls (.int x :: .int i :: .ref a :: rest)) := by
  obtain ⟨k, hk⟩ := pW_get (cA := cA) hL
  have hk2 := hk
  rw [pF_12 hK] at hk2
  obtain ⟨g1, rfl⟩ := hi
  have he : (pW cA S).set k (a, .inl (cA 3, mN S a, .inl (upd (maI S a) i.toNatClampNeg (x)))) = pW cA (uaI S a i.toNatClampNeg (x)) := by
    refine pW_set hD hL hk rfl ?_ (fun b hb => pF_eq rfl (fun _ => rfl) (fun _ => rfl) (fun _ => rfl) (fun _ => rfl) (fun _ => rfl) rfl (funext fun z => (up2_k hb).symm) rfl rfl)
    rw [pF_12 (S := uaI S a i.toNatClampNeg (x)) hK]
    have hf : upd (maI S a) i.toNatClampNeg (x) = maI (uaI S a i.toNatClampNeg (x)) a := by
      funext z
      simp [uaI, maI, up2, upd]
    rw [← hf]
    rfl
  exact va_iast (cx_x C) (cx_b C) (cx_k C) hP hD hS k 3 hk2 rfl g1 d (fun H1 locs1 h1 h2 h3 => kk H1 locs1 (by rw [← he]; exact h1) (by rw [← he]; exact h2) h3)
theorem al_J {i : Int32} {j : Nat} (C : cx_C p l s m args meth c s0 D cA cc nL ret own A) (hP : va_P D vwCl (pW cA S) H) (hL : a ∈ mL S) (hK : mK S a = 13) (hi : ix i (mN S a) j) (d : decode cc pc = .ok (.laload, 1)) (kk : W p l e R s m args below meth c H locs cells slots Q (F0 m (pc + 1) ls (.long (maJ S a j) :: rest))) : W p l e R s m args below meth c H locs cells slots Q (F0 m pc ls (.int i :: .ref a :: rest)) := by
  obtain ⟨k, hk⟩ := pW_get (cA := cA) hL
  rw [pF_13 hK] at hk
  obtain ⟨h1, rfl⟩ := hi
  exact va_lald (cx_x C) (cx_b C) (cx_k C) hP k 4 hk rfl h1 d kk
theorem aln_J (C : cx_C p l s m args meth c s0 D cA cc nL ret own A) (hP : va_P D vwCl (pW cA S) H) (hL : a ∈ mL S) (hK : mK S a = 13) (d : decode cc pc = .ok (.arraylength, 1)) (kk : W p l e R s m args below meth c H locs cells slots Q (F0 m (pc + 1) ls (.int (nI (mN S a)) :: rest))) : W p l e R s m args below meth c H locs cells slots Q (F0 m pc ls (.ref a :: rest)) := by
  obtain ⟨k, hk⟩ := pW_get (cA := cA) hL
  rw [pF_13 hK] at hk
  exact va_alen (cx_x C) (cx_b C) (cx_k C) hP k 4 hk rfl rfl d kk
theorem as_J {i : Int32} {j : Nat} {x : Int64} (C : cx_C p l s m args meth c s0 D cA cc nL ret own A) (hP : va_P D vwCl (pW cA S) H) (hD : va_D A (pW cA S)) (hS : va_S A s.heap H locs) (hL : a ∈ mL S) (hK : mK S a = 13) (hi : ix i (mN S a) j) (d : decode cc pc = .ok (.lastore, 1)) (kk : ∀ (H1 : Heap) (locs1 : List Loc), va_P D vwCl (pW cA (uaJ S a j (x))) H1 → va_D A (pW cA (uaJ S a j (x))) → va_S A s.heap H1 locs1 → W p l e R s m args below meth c H1 locs1 cells slots Q (F0 m (pc + 1) ls rest)) : W p l e R s m args below meth c H locs cells slots Q (F0 m pc ls (.long x :: .int i :: .ref a :: rest)) := by
  obtain ⟨k, hk⟩ := pW_get (cA := cA) hL
  have hk2 := hk
  rw [pF_13 hK] at hk2
  obtain ⟨g1, rfl⟩ := hi
  have he : (pW cA S).set k (a, .inl (cA 4, mN S a, .inr (.inl (vp_updL (maJ S a) i.toNatClampNeg (x))))) = pW cA (uaJ S a i.toNatClampNeg (x)) := by
    refine pW_set hD hL hk rfl ?_ (fun b hb => pF_eq rfl (fun _ => rfl) (fun _ => rfl) (fun _ => rfl) (fun _ => rfl) (fun _ => rfl) rfl rfl (funext fun z => (up2_k hb).symm) rfl)
    rw [pF_13 (S := uaJ S a i.toNatClampNeg (x)) hK]
    have hf : vp_updL (maJ S a) i.toNatClampNeg (x) = maJ (uaJ S a i.toNatClampNeg (x)) a := by
      funext z
      simp [uaJ, maJ, up2, vp_updL]
    rw [← hf]
    rfl
  exact va_last (cx_x C) (cx_b C) (cx_k C) hP hD hS k 4 hk2 rfl g1 d (fun H1 locs1 h1 h2 h3 => kk H1 locs1 (by rw [← he]; exact h1) (by rw [← he]; exact h2) h3)
theorem al_C {i : Int32} {j : Nat} (C : cx_C p l s m args meth c s0 D cA cc nL ret own A) (hP : va_P D vwCl (pW cA S) H) (hL : a ∈ mL S) (hK : mK S a = 15) (hi : ix i (mN S a) j) (d : decode cc pc = .ok (.aaload, 1)) (kk : W p l e R s m args below meth c H locs cells slots Q (F0 m (pc + 1) ls (va_rf (maR S a j) :: rest))) : W p l e R s m args below meth c H locs cells slots Q (F0 m pc ls (.int i :: .ref a :: rest)) := by
  obtain ⟨k, hk⟩ := pW_get (cA := cA) hL
  rw [pF_15 hK] at hk
  obtain ⟨h1, rfl⟩ := hi
  exact va_aldq (cx_x C) (cx_b C) (cx_k C) hP k 6 hk rfl h1 d kk
theorem aln_C (C : cx_C p l s m args meth c s0 D cA cc nL ret own A) (hP : va_P D vwCl (pW cA S) H) (hL : a ∈ mL S) (hK : mK S a = 15) (d : decode cc pc = .ok (.arraylength, 1)) (kk : W p l e R s m args below meth c H locs cells slots Q (F0 m (pc + 1) ls (.int (nI (mN S a)) :: rest))) : W p l e R s m args below meth c H locs cells slots Q (F0 m pc ls (.ref a :: rest)) := by
  obtain ⟨k, hk⟩ := pW_get (cA := cA) hL
  rw [pF_15 hK] at hk
  exact va_alen (cx_x C) (cx_b C) (cx_k C) hP k 6 hk rfl rfl d kk
theorem as_C {i : Int32} {j b : Nat} (C : cx_C p l s m args meth c s0 D cA cc nL ret own A) (hP : va_P D vwCl (pW cA S) H) (hD : va_D A (pW cA S)) (hS : va_S A s.heap H locs) (hL : a ∈ mL S) (hK : mK S a = 15) (hLb : b ∈ mL S) (hKb : mK S b = 0) (hi : ix i (mN S a) j) (d : decode cc pc = .ok (.aastore, 1)) (kk : ∀ (H1 : Heap) (locs1 : List Loc), va_P D vwCl (pW cA (uaR S a j (some b))) H1 → va_D A (pW cA (uaR S a j (some b))) → va_S A s.heap H1 locs1 → W p l e R s m args below meth c H1 locs1 cells slots Q (F0 m (pc + 1) ls rest)) : W p l e R s m args below meth c H locs cells slots Q (F0 m pc ls (.ref b :: .int i :: .ref a :: rest)) := by
  obtain ⟨k, hk⟩ := pW_get (cA := cA) hL
  have hk2 := hk
  rw [pF_15 hK] at hk2
  obtain ⟨k9, hk9⟩ := pW_get (cA := cA) hLb
  rw [pF_0 hKb] at hk9
  obtain ⟨g1, rfl⟩ := hi
  have he : (pW cA S).set k (a, .inl (cA 6, mN S a, .inr (.inr (.inr (.inr (va_up (maR S a) i.toNatClampNeg (some b))))))) = pW cA (uaR S a i.toNatClampNeg (some b)) := by
    refine pW_set hD hL hk rfl ?_ (fun b hb => pF_eq rfl (fun _ => rfl) (fun _ => rfl) (fun _ => rfl) (fun _ => rfl) (fun _ => rfl) rfl rfl rfl (funext fun z => (up2_k hb).symm))
    rw [pF_15 (S := uaR S a i.toNatClampNeg (some b)) hK]
    have hf : va_up (maR S a) i.toNatClampNeg (some b) = maR (uaR S a i.toNatClampNeg (some b)) a := by
      funext z
      simp [uaR, maR, up2, va_up]
    rw [← hf]
    rfl
  exact va_astq (cx_x C) (cx_b C) (cx_k C) hP hD hS k 6 k9 0 (r := (RX0, TX0, 15)) hk2 rfl hk9 rfl g1 d (fun H1 locs1 h1 h2 h3 => kk H1 locs1 (by rw [← he]; exact h1) (by rw [← he]; exact h2) h3)
theorem al_P {i : Int32} {j : Nat} (C : cx_C p l s m args meth c s0 D cA cc nL ret own A) (hP : va_P D vwCl (pW cA S) H) (hL : a ∈ mL S) (hK : mK S a = 16) (hi : ix i (mN S a) j) (d : decode cc pc = .ok (.aaload, 1)) (kk : W p l e R s m args below meth c H locs cells slots Q (F0 m (pc + 1) ls (va_rf (maR S a j) :: rest))) : W p l e R s m args below meth c H locs cells slots Q (F0 m pc ls (.int i :: .ref a :: rest)) := by
  obtain ⟨k, hk⟩ := pW_get (cA := cA) hL
  rw [pF_16 hK] at hk
  obtain ⟨h1, rfl⟩ := hi
  exact va_aldq (cx_x C) (cx_b C) (cx_k C) hP k 7 hk rfl h1 d kk
theorem aln_P (C : cx_C p l s m args meth c s0 D cA cc nL ret own A) (hP : va_P D vwCl (pW cA S) H) (hL : a ∈ mL S) (hK : mK S a = 16) (d : decode cc pc = .ok (.arraylength, 1)) (kk : W p l e R s m args below meth c H locs cells slots Q (F0 m (pc + 1) ls (.int (nI (mN S a)) :: rest))) : W p l e R s m args below meth c H locs cells slots Q (F0 m pc ls (.ref a :: rest)) := by
  obtain ⟨k, hk⟩ := pW_get (cA := cA) hL
  rw [pF_16 hK] at hk
  exact va_alen (cx_x C) (cx_b C) (cx_k C) hP k 7 hk rfl rfl d kk
theorem as_P {i : Int32} {j b : Nat} (C : cx_C p l s m args meth c s0 D cA cc nL ret own A) (hP : va_P D vwCl (pW cA S) H) (hD : va_D A (pW cA S)) (hS : va_S A s.heap H locs) (hL : a ∈ mL S) (hK : mK S a = 16) (hLb : b ∈ mL S) (hKb : mK S b = 3) (hi : ix i (mN S a) j) (d : decode cc pc = .ok (.aastore, 1)) (kk : ∀ (H1 : Heap) (locs1 : List Loc), va_P D vwCl (pW cA (uaR S a j (some b))) H1 → va_D A (pW cA (uaR S a j (some b))) → va_S A s.heap H1 locs1 → W p l e R s m args below meth c H1 locs1 cells slots Q (F0 m (pc + 1) ls rest)) : W p l e R s m args below meth c H locs cells slots Q (F0 m pc ls (.ref b :: .int i :: .ref a :: rest)) := by
  obtain ⟨k, hk⟩ := pW_get (cA := cA) hL
  have hk2 := hk
  rw [pF_16 hK] at hk2
  obtain ⟨k9, hk9⟩ := pW_get (cA := cA) hLb
  rw [pF_3 hKb] at hk9
  obtain ⟨g1, rfl⟩ := hi
  have he : (pW cA S).set k (a, .inl (cA 7, mN S a, .inr (.inr (.inr (.inr (va_up (maR S a) i.toNatClampNeg (some b))))))) = pW cA (uaR S a i.toNatClampNeg (some b)) := by
    refine pW_set hD hL hk rfl ?_ (fun b hb => pF_eq rfl (fun _ => rfl) (fun _ => rfl) (fun _ => rfl) (fun _ => rfl) (fun _ => rfl) rfl rfl rfl (funext fun z => (up2_k hb).symm))
    rw [pF_16 (S := uaR S a i.toNatClampNeg (some b)) hK]
    have hf : va_up (maR S a) i.toNatClampNeg (some b) = maR (uaR S a i.toNatClampNeg (some b)) a := by
      funext z
      simp [uaR, maR, up2, va_up]
    rw [← hf]
    rfl
  exact va_astq (cx_x C) (cx_b C) (cx_k C) hP hD hS k 7 k9 3 (r := (RX4, TX4, 4)) hk2 rfl hk9 rfl g1 d (fun H1 locs1 h1 h2 h3 => kk H1 locs1 (by rw [← he]; exact h1) (by rw [← he]; exact h2) h3)
theorem nwa_B {n : Int32} {N : Nat} (C : cx_C p l s m args meth c s0 D cA cc nL ret own A) (hP : va_P D vwCl (pW cA S) H) (hD : va_D A (pW cA S)) (hS : va_S A s.heap H locs) (hn : ¬ n < 0) (hN : n.toNatClampNeg = N) (hb : N ≤ 100000) (hc : cells + 1 ≤ R.cells) (hs : slots + N ≤ R.slots) (d : decode cc pc = .ok (.newarray .byte, 2)) (kk : ∀ (q : Nat) (H1 : Heap), q ∉ mL S → va_P D vwCl (pW cA (nw S q 9 N)) H1 → va_D A (pW cA (nw S q 9 N)) → va_S A s.heap H1 locs → W p l e R s m args below meth c H1 locs (cells + 1) (slots + N) Q (F0 m (pc + 2) ls (.ref q :: rest))) : W p l e R s m args below meth c H locs cells slots Q (F0 m pc ls (.int n :: rest)) := by
  refine va_newa (D := D) (atype := .byte) (a0 := (N, .inl (fun _ => 0))) (cx_x C) (cx_b C) (cx_t C _ tm_164) (ty := .byte) rfl (cx_k C) hP hD hS (cx_a C) (fun _ => rfl) hn hN (by simp only [componentBytes]; omega) hc hs d (fun q cB H1 h0 h1 h2 h3 => ?_)
  have e1 : s.vm.findClass ("[" ++ (.byte : FieldType).toString) = some cB := (h0.2 8 (cB, .byte) rfl).2
  have e2 : s.vm.findClass ("[" ++ (.byte : FieldType).toString) = some (cA 0) := ((cx_k C).2 0 (cA 0, .byte) rfl).2
  cases Option.some.inj (e1.symm.trans e2)
  have hq := pW_new (k := 9) (n := N) h2 (by rw [pF_9 (by simp [nw, mK, va_up])]; simp [nw, mN, maI, va_up])
  exact kk q H1 hq.2 (by rw [← hq.1]; exact h1) (by rw [← hq.1]; exact h2) h3
theorem nwa_I {n : Int32} {N : Nat} (C : cx_C p l s m args meth c s0 D cA cc nL ret own A) (hP : va_P D vwCl (pW cA S) H) (hD : va_D A (pW cA S)) (hS : va_S A s.heap H locs) (hn : ¬ n < 0) (hN : n.toNatClampNeg = N) (hb : N ≤ 100000) (hc : cells + 1 ≤ R.cells) (hs : slots + N ≤ R.slots) (d : decode cc pc = .ok (.newarray .int, 2)) (kk : ∀ (q : Nat) (H1 : Heap), q ∉ mL S → va_P D vwCl (pW cA (nw S q 12 N)) H1 → va_D A (pW cA (nw S q 12 N)) → va_S A s.heap H1 locs → W p l e R s m args below meth c H1 locs (cells + 1) (slots + N) Q (F0 m (pc + 2) ls (.ref q :: rest))) : W p l e R s m args below meth c H locs cells slots Q (F0 m pc ls (.int n :: rest)) := by
  refine va_newa (D := D) (atype := .int) (a0 := (N, .inl (fun _ => 0))) (cx_x C) (cx_b C) (cx_t C _ tm_57) (ty := .int) rfl (cx_k C) hP hD hS (cx_a C) (fun _ => rfl) hn hN (by simp only [componentBytes]; omega) hc hs d (fun q cB H1 h0 h1 h2 h3 => ?_)
  have e1 : s.vm.findClass ("[" ++ (.int : FieldType).toString) = some cB := (h0.2 8 (cB, .int) rfl).2
  have e2 : s.vm.findClass ("[" ++ (.int : FieldType).toString) = some (cA 3) := ((cx_k C).2 3 (cA 3, .int) rfl).2
  cases Option.some.inj (e1.symm.trans e2)
  have hq := pW_new (k := 12) (n := N) h2 (by rw [pF_12 (by simp [nw, mK, va_up])]; simp [nw, mN, maI, va_up])
  exact kk q H1 hq.2 (by rw [← hq.1]; exact h1) (by rw [← hq.1]; exact h2) h3
theorem nwa_J {n : Int32} {N : Nat} (C : cx_C p l s m args meth c s0 D cA cc nL ret own A) (hP : va_P D vwCl (pW cA S) H) (hD : va_D A (pW cA S)) (hS : va_S A s.heap H locs) (hn : ¬ n < 0) (hN : n.toNatClampNeg = N) (hb : N ≤ 100000) (hc : cells + 1 ≤ R.cells) (hs : slots + N ≤ R.slots) (d : decode cc pc = .ok (.newarray .long, 2)) (kk : ∀ (q : Nat) (H1 : Heap), q ∉ mL S → va_P D vwCl (pW cA (nw S q 13 N)) H1 → va_D A (pW cA (nw S q 13 N)) → va_S A s.heap H1 locs → W p l e R s m args below meth c H1 locs (cells + 1) (slots + N) Q (F0 m (pc + 2) ls (.ref q :: rest))) : W p l e R s m args below meth c H locs cells slots Q (F0 m pc ls (.int n :: rest)) := by
  refine va_newa (D := D) (atype := .long) (a0 := (N, .inr (.inl (fun _ => 0)))) (cx_x C) (cx_b C) (cx_t C _ tm_56) (ty := .long) rfl (cx_k C) hP hD hS (cx_a C) (fun _ => rfl) hn hN (by simp only [componentBytes]; omega) hc hs d (fun q cB H1 h0 h1 h2 h3 => ?_)
  have e1 : s.vm.findClass ("[" ++ (.long : FieldType).toString) = some cB := (h0.2 8 (cB, .long) rfl).2
  have e2 : s.vm.findClass ("[" ++ (.long : FieldType).toString) = some (cA 4) := ((cx_k C).2 4 (cA 4, .long) rfl).2
  cases Option.some.inj (e1.symm.trans e2)
  have hq := pW_new (k := 13) (n := N) h2 (by rw [pF_13 (by simp [nw, mK, va_up])]; simp [nw, mN, maJ, va_up])
  exact kk q H1 hq.2 (by rw [← hq.1]; exact h1) (by rw [← hq.1]; exact h2) h3
theorem nwa_C {n : Int32} {N : Nat} (C : cx_C p l s m args meth c s0 D cA cc nL ret own A) (hP : va_P D vwCl (pW cA S) H) (hD : va_D A (pW cA S)) (hS : va_S A s.heap H locs) (hw : Cond.classLink own idx "RingPipeline$Consumer" ∈ TB) (hn : ¬ n < 0) (hN : n.toNatClampNeg = N) (hb : N ≤ 100000) (hc : cells + 1 ≤ R.cells) (hs : slots + N ≤ R.slots) (d : decode cc pc = .ok (.anewarray idx, 3)) (kk : ∀ (q : Nat) (H1 : Heap), q ∉ mL S → va_P D vwCl (pW cA (nw S q 15 N)) H1 → va_D A (pW cA (nw S q 15 N)) → va_S A s.heap H1 locs → W p l e R s m args below meth c H1 locs (cells + 1) (slots + N) Q (F0 m (pc + 3) ls (.ref q :: rest))) : W p l e R s m args below meth c H locs cells slots Q (F0 m pc ls (.int n :: rest)) := by
  refine va_newq (D := D) (cx_x C) (cx_b C) (cx_own C) (cx_t C _ hw) (cx_over C tn_28) (cx_k C) hP hD hS (cx_a C) hn hN (by omega) hc hs d (fun q cB H1 h0 h1 h2 h3 => ?_)
  obtain ⟨_, _, _, _, _, e1⟩ := (h0.2 8 (cB, .object "RingPipeline$Consumer") rfl).2
  obtain ⟨_, _, _, _, _, e2⟩ := ((cx_k C).2 6 (cA 6, .object "RingPipeline$Consumer") rfl).2
  cases Option.some.inj (e1.symm.trans e2)
  have hq := pW_new (k := 15) (n := N) h2 (by rw [pF_15 (by simp [nw, mK, va_up])]; simp [nw, mN, maR, va_up])
  exact kk q H1 hq.2 (by rw [← hq.1]; exact h1) (by rw [← hq.1]; exact h2) h3
theorem nwa_P {n : Int32} {N : Nat} (C : cx_C p l s m args meth c s0 D cA cc nL ret own A) (hP : va_P D vwCl (pW cA S) H) (hD : va_D A (pW cA S)) (hS : va_S A s.heap H locs) (hw : Cond.classLink own idx "RingPipeline$Pool" ∈ TB) (hn : ¬ n < 0) (hN : n.toNatClampNeg = N) (hb : N ≤ 100000) (hc : cells + 1 ≤ R.cells) (hs : slots + N ≤ R.slots) (d : decode cc pc = .ok (.anewarray idx, 3)) (kk : ∀ (q : Nat) (H1 : Heap), q ∉ mL S → va_P D vwCl (pW cA (nw S q 16 N)) H1 → va_D A (pW cA (nw S q 16 N)) → va_S A s.heap H1 locs → W p l e R s m args below meth c H1 locs (cells + 1) (slots + N) Q (F0 m (pc + 3) ls (.ref q :: rest))) : W p l e R s m args below meth c H locs cells slots Q (F0 m pc ls (.int n :: rest)) := by
  refine va_newq (D := D) (cx_x C) (cx_b C) (cx_own C) (cx_t C _ hw) (cx_over C tn_30) (cx_k C) hP hD hS (cx_a C) hn hN (by omega) hc hs d (fun q cB H1 h0 h1 h2 h3 => ?_)
  obtain ⟨_, _, _, _, _, e1⟩ := (h0.2 8 (cB, .object "RingPipeline$Pool") rfl).2
  obtain ⟨_, _, _, _, _, e2⟩ := ((cx_k C).2 7 (cA 7, .object "RingPipeline$Pool") rfl).2
  cases Option.some.inj (e1.symm.trans e2)
  have hq := pW_new (k := 16) (n := N) h2 (by rw [pF_16 (by simp [nw, mK, va_up])]; simp [nw, mN, maR, va_up])
  exact kk q H1 hq.2 (by rw [← hq.1]; exact h1) (by rw [← hq.1]; exact h2) h3
end MemRows
end
section
/-! ===== the reference object: what it holds, as functions; its world, a list of its own cell and its 22 arrays ===== -/
abbrev MS : Type := (Nat → Int32) × Int64 × (Nat → Nat → Int32) × (Nat → Nat → Int64) × (Nat → UInt32) × (Nat → UInt64)
def qS (P : MS) : Nat → Int32 := P.1
def qR (P : MS) : Int64 := P.2.1
def qI (P : MS) : Nat → Nat → Int32 := P.2.2.1
def qJ (P : MS) : Nat → Nat → Int64 := P.2.2.2.1
def qF (P : MS) : Nat → UInt32 := P.2.2.2.2.1
def qD (P : MS) : Nat → UInt64 := P.2.2.2.2.2
def sS (P : MS) (k : Nat) (v : Int32) : MS := (va_up (qS P) k v, qR P, qI P, qJ P, qF P, qD P)
def sR (P : MS) (v : Int64) : MS := (qS P, v, qI P, qJ P, qF P, qD P)
def sI (P : MS) (k j : Nat) (v : Int32) : MS := (qS P, qR P, va_up (qI P) k (upd (qI P k) j v), qJ P, qF P, qD P)
def sJ (P : MS) (k j : Nat) (v : Int64) : MS := (qS P, qR P, qI P, va_up (qJ P) k (vp_updL (qJ P k) j v), qF P, qD P)
def sF (P : MS) (j : Nat) (v : UInt32) : MS := (qS P, qR P, qI P, qJ P, vf_upd (qF P) j v, qD P)
def sD (P : MS) (j : Nat) (v : UInt64) : MS := (qS P, qR P, qI P, qJ P, qF P, vf_upd (qD P) j v)
def mW (cA : Nat → ClassId) (ad : Nat → Nat) (P : MS) : va_W := [(ad 0, .inr (8, [.int (qS P 0), .int (qS P 1), .ref (ad 2), .int (qS P 3), .int (qS P 4), .ref (ad 5), .ref (ad 6), .ref (ad 7), .int (qS P 8), .ref (ad 9), .ref (ad 10), .ref (ad 11), .ref (ad 12), .ref (ad 13), .ref (ad 14), .ref (ad 15), .ref (ad 16), .ref (ad 17), .ref (ad 18), .ref (ad 19), .ref (ad 20), .ref (ad 21), .ref (ad 22), .ref (ad 23), .ref (ad 24), .ref (ad 25), .ref (ad 26), .long (qR P)])), (ad 2, .inl (cA 0, 8208, .inl (qI P 2))), (ad 5, .inl (cA 4, 16, .inr (.inl (qJ P 5)))), (ad 6, .inl (cA 3, 16, .inl (qI P 6))), (ad 7, .inl (cA 3, 16, .inl (qI P 7))), (ad 9, .inl (cA 3, 8, .inl (qI P 9))), (ad 10, .inl (cA 3, 8, .inl (qI P 10))), (ad 11, .inl (cA 3, 8, .inl (qI P 11))), (ad 12, .inl (cA 3, 8, .inl (qI P 12))), (ad 13, .inl (cA 3, 8, .inl (qI P 13))), (ad 14, .inl (cA 5, 8, .inl (qI P 14))), (ad 15, .inl (cA 3, 8, .inl (qI P 15))), (ad 16, .inl (cA 3, 8, .inl (qI P 16))), (ad 17, .inl (cA 3, 8, .inl (qI P 17))), (ad 18, .inl (cA 3, 8, .inl (qI P 18))), (ad 19, .inl (cA 3, 8, .inl (qI P 19))), (ad 20, .inl (cA 3, 8, .inl (qI P 20))), (ad 21, .inl (cA 3, 2, .inl (qI P 21))), (ad 22, .inl (cA 4, 8, .inr (.inl (qJ P 22)))), (ad 23, .inl (cA 2, 8, .inr (.inr (.inl (qF P))))), (ad 24, .inl (cA 1, 8, .inr (.inr (.inr (.inl (qD P)))))), (ad 25, .inl (cA 3, 8, .inl (qI P 25))), (ad 26, .inl (cA 3, 3200, .inl (qI P 26)))]
theorem inT_9 : ∀ w ∈ wsX90, w ∈ TB := by
  have h : wsX90 = [(Cond.lays "RingPipelineModel" "RingPipelineModel" "thrown" "I"), (Cond.laysFinal "RingPipelineModel" "RingPipelineModel" "slots" "I"), (Cond.laysFinal "RingPipelineModel" "RingPipelineModel" "sequences" "[B"), (Cond.lays "RingPipelineModel" "RingPipelineModel" "cursor" "I"), (Cond.lays "RingPipelineModel" "RingPipelineModel" "available" "I"), (Cond.laysFinal "RingPipelineModel" "RingPipelineModel" "value" "[J"), (Cond.laysFinal "RingPipelineModel" "RingPipelineModel" "producers" "[I"), (Cond.laysFinal "RingPipelineModel" "RingPipelineModel" "latest" "[I"), (Cond.lays "RingPipelineModel" "RingPipelineModel" "consumers" "I"), (Cond.laysFinal "RingPipelineModel" "RingPipelineModel" "kind" "[I"), (Cond.laysFinal "RingPipelineModel" "RingPipelineModel" "on" "[I"), (Cond.laysFinal "RingPipelineModel" "RingPipelineModel" "policy" "[I"), (Cond.laysFinal "RingPipelineModel" "RingPipelineModel" "pool" "[I"), (Cond.laysFinal "RingPipelineModel" "RingPipelineModel" "place" "[I"), (Cond.laysFinal "RingPipelineModel" "RingPipelineModel" "halted" "[Z"), (Cond.laysFinal "RingPipelineModel" "RingPipelineModel" "handled" "[I"), (Cond.laysFinal "RingPipelineModel" "RingPipelineModel" "ignored" "[I"), (Cond.laysFinal "RingPipelineModel" "RingPipelineModel" "rewound" "[I"), (Cond.laysFinal "RingPipelineModel" "RingPipelineModel" "threwAt" "[I"), (Cond.laysFinal "RingPipelineModel" "RingPipelineModel" "times" "[I"), (Cond.laysFinal "RingPipelineModel" "RingPipelineModel" "has" "[I"), (Cond.laysFinal "RingPipelineModel" "RingPipelineModel" "taken" "[I"), (Cond.laysFinal "RingPipelineModel" "RingPipelineModel" "totals" "[J"), (Cond.laysFinal "RingPipelineModel" "RingPipelineModel" "levels" "[F"), (Cond.laysFinal "RingPipelineModel" "RingPipelineModel" "means" "[D"), (Cond.laysFinal "RingPipelineModel" "RingPipelineModel" "sizes" "[I"), (Cond.laysFinal "RingPipelineModel" "RingPipelineModel" "bytes" "[I"), (Cond.lays "RingPipelineModel" "RingPipelineModel" "replayed" "J")] := by decide +kernel
  rw [h]
  exact List.forall_mem_cons.mpr ⟨tm_694, List.forall_mem_cons.mpr ⟨tm_696, List.forall_mem_cons.mpr ⟨tm_698, List.forall_mem_cons.mpr ⟨tm_700, List.forall_mem_cons.mpr ⟨tm_702, List.forall_mem_cons.mpr ⟨tm_704, List.forall_mem_cons.mpr ⟨tm_706, List.forall_mem_cons.mpr ⟨tm_708, List.forall_mem_cons.mpr ⟨tm_710, List.forall_mem_cons.mpr ⟨tm_712, List.forall_mem_cons.mpr ⟨tm_714, List.forall_mem_cons.mpr ⟨tm_716, List.forall_mem_cons.mpr ⟨tm_718, List.forall_mem_cons.mpr ⟨tm_720, List.forall_mem_cons.mpr ⟨tm_722, List.forall_mem_cons.mpr ⟨tm_724, List.forall_mem_cons.mpr ⟨tm_726, List.forall_mem_cons.mpr ⟨tm_728, List.forall_mem_cons.mpr ⟨tm_730, List.forall_mem_cons.mpr ⟨tm_732, List.forall_mem_cons.mpr ⟨tm_734, List.forall_mem_cons.mpr ⟨tm_736, List.forall_mem_cons.mpr ⟨tm_738, List.forall_mem_cons.mpr ⟨tm_740, List.forall_mem_cons.mpr ⟨tm_742, List.forall_mem_cons.mpr ⟨tm_744, List.forall_mem_cons.mpr ⟨tm_746, List.forall_mem_cons.mpr ⟨tm_748, fun _ h => nomatch h⟩⟩⟩⟩⟩⟩⟩⟩⟩⟩⟩⟩⟩⟩⟩⟩⟩⟩⟩⟩⟩⟩⟩⟩⟩⟩⟩⟩
section MdlRows
variable {p : Program} {l : Launch} {e : Env} {R : Room} {s : State} {m : MethodId} {args : Array Value} {below : List Frame} {meth : Method} {c : Code} {H : Heap} {locs : List Loc} {cells slots : Nat} {Q : State → Prop}
variable {s0 : State} {D : va_G} {cA : Nat → ClassId} {cc : ByteArray} {nL : Nat} {ret : Option FieldType} {A : Nat → Prop}
variable {pc : Nat} {ls : Array Slot} {rest : List Value} {ad : Nat → Nat} {P : MS} {idx : Nat}
theorem rcv_9 {own : String} (C : cx_C p l s m args meth c s0 D cA cc nL ret own A) {wr wl : va_W} (hP : va_P D vwCl (wl ++ mW cA ad P ++ wr) H) : ∃ cell : Cell, H[ad 0]? = some cell ∧ cell.vm.isStatics = false ∧ s.vm.findClass RX9 = some cell.cls := by
  have hP2 : va_P D vwCl (mW cA ad P) H := fun k q hk => by
    obtain ⟨i, hi⟩ := List.getElem?_of_mem (List.mem_append_left wr (List.mem_append_right wl (List.mem_of_getElem? hk)))
    exact hP i q hi
  exact va_recv (cx_k C) hP2 (ci := 8) (q := (RX9, TX9, 28)) (q0 := 0) rfl rfl
theorem gm_0 {v : Int32} (C : cx_C p l s m args meth c s0 D cA cc nL ret RX9 A) (hP : va_P D vwCl (mW cA ad P) H) (hv : qS P 0 = v) (hw : Cond.fieldLink RX9 idx "RingPipelineModel" "thrown" "I" ∈ TB) (d : decode cc pc = .ok (.getfield idx, 3)) (kk : W p l e R s m args below meth c H locs cells slots Q (F0 m (pc + 3) ls (.int v :: rest))) : W p l e R s m args below meth c H locs cells slots Q (F0 m pc ls (.ref (ad 0) :: rest)) := by
  subst hv
  exact va_get (D := D) (ci := 8) (C := RX9) (T := TX9) (N := 28) (cx_x C) (cx_b C) (cx_t C) inT_9 (cx_own C) (cx_k C) hP 0 rfl rfl 0 (by decide) (cx_t C _ hw) (fun _ h => h) rfl d kk
theorem pm_0 {v : Int32} (C : cx_C p l s m args meth c s0 D cA cc nL ret RX9 A) (hP : va_P D vwCl (mW cA ad P) H) (hD : va_D A (mW cA ad P)) (hS : va_S A s.heap H locs) (hw : Cond.fieldLink RX9 idx "RingPipelineModel" "thrown" "I" ∈ TB) (d : decode cc pc = .ok (.putfield idx, 3)) (kk : ∀ (H1 : Heap) (locs1 : List Loc), va_P D vwCl (mW cA ad (sS P 0 v)) H1 → va_D A (mW cA ad (sS P 0 v)) → va_S A s.heap H1 locs1 → W p l e R s m args below meth c H1 locs1 cells slots Q (F0 m (pc + 3) ls rest)) : W p l e R s m args below meth c H locs cells slots Q (F0 m pc ls (.int v :: .ref (ad 0) :: rest)) :=
  va_put (D := D) (ci := 8) (v := .int v) (ty := .int) (C := RX9) (T := TX9) (N := 28) (cx_x C) (cx_b C) (cx_t C) inT_9 tyX9 tyX9_ok nmX9 (cx_own C) (cx_k C) hP hD hS 0 rfl rfl 0 (by decide) (cx_t C _ hw) (fun _ h => h) rfl (by decide +kernel) rfl rfl (Nat.le_of_ble_eq_true rfl) d kk
theorem gm_1 {v : Int32} (C : cx_C p l s m args meth c s0 D cA cc nL ret RX9 A) (hP : va_P D vwCl (mW cA ad P) H) (hv : qS P 1 = v) (hw : Cond.fieldLink RX9 idx "RingPipelineModel" "slots" "I" ∈ TB) (d : decode cc pc = .ok (.getfield idx, 3)) (kk : W p l e R s m args below meth c H locs cells slots Q (F0 m (pc + 3) ls (.int v :: rest))) : W p l e R s m args below meth c H locs cells slots Q (F0 m pc ls (.ref (ad 0) :: rest)) := by
  subst hv
  exact va_get (D := D) (ci := 8) (C := RX9) (T := TX9) (N := 28) (cx_x C) (cx_b C) (cx_t C) inT_9 (cx_own C) (cx_k C) hP 0 rfl rfl 1 (by decide) (cx_t C _ hw) (fun _ h => h) rfl d kk
theorem gm_2 (C : cx_C p l s m args meth c s0 D cA cc nL ret RX9 A) (hP : va_P D vwCl (mW cA ad P) H) (hw : Cond.fieldLink RX9 idx "RingPipelineModel" "sequences" "[B" ∈ TB) (d : decode cc pc = .ok (.getfield idx, 3)) (kk : W p l e R s m args below meth c H locs cells slots Q (F0 m (pc + 3) ls (.ref (ad 2) :: rest))) : W p l e R s m args below meth c H locs cells slots Q (F0 m pc ls (.ref (ad 0) :: rest)) := va_get (D := D) (ci := 8) (C := RX9) (T := TX9) (N := 28) (cx_x C) (cx_b C) (cx_t C) inT_9 (cx_own C) (cx_k C) hP 0 rfl rfl 2 (by decide) (cx_t C _ hw) (fun _ h => h) rfl d kk
theorem gm_3 {v : Int32} (C : cx_C p l s m args meth c s0 D cA cc nL ret RX9 A) (hP : va_P D vwCl (mW cA ad P) H) (hv : qS P 3 = v) (hw : Cond.fieldLink RX9 idx "RingPipelineModel" "cursor" "I" ∈ TB) (d : decode cc pc = .ok (.getfield idx, 3)) (kk : W p l e R s m args below meth c H locs cells slots Q (F0 m (pc + 3) ls (.int v :: rest))) : W p l e R s m args below meth c H locs cells slots Q (F0 m pc ls (.ref (ad 0) :: rest)) := by
  subst hv
  exact va_get (D := D) (ci := 8) (C := RX9) (T := TX9) (N := 28) (cx_x C) (cx_b C) (cx_t C) inT_9 (cx_own C) (cx_k C) hP 0 rfl rfl 3 (by decide) (cx_t C _ hw) (fun _ h => h) rfl d kk
theorem pm_3 {v : Int32} (C : cx_C p l s m args meth c s0 D cA cc nL ret RX9 A) (hP : va_P D vwCl (mW cA ad P) H) (hD : va_D A (mW cA ad P)) (hS : va_S A s.heap H locs) (hw : Cond.fieldLink RX9 idx "RingPipelineModel" "cursor" "I" ∈ TB) (d : decode cc pc = .ok (.putfield idx, 3)) (kk : ∀ (H1 : Heap) (locs1 : List Loc), va_P D vwCl (mW cA ad (sS P 3 v)) H1 → va_D A (mW cA ad (sS P 3 v)) → va_S A s.heap H1 locs1 → W p l e R s m args below meth c H1 locs1 cells slots Q (F0 m (pc + 3) ls rest)) : W p l e R s m args below meth c H locs cells slots Q (F0 m pc ls (.int v :: .ref (ad 0) :: rest)) :=
  va_put (D := D) (ci := 8) (v := .int v) (ty := .int) (C := RX9) (T := TX9) (N := 28) (cx_x C) (cx_b C) (cx_t C) inT_9 tyX9 tyX9_ok nmX9 (cx_own C) (cx_k C) hP hD hS 0 rfl rfl 3 (by decide) (cx_t C _ hw) (fun _ h => h) rfl (by decide +kernel) rfl rfl (Nat.le_of_ble_eq_true rfl) d kk
theorem gm_4 {v : Int32} (C : cx_C p l s m args meth c s0 D cA cc nL ret RX9 A) (hP : va_P D vwCl (mW cA ad P) H) (hv : qS P 4 = v) (hw : Cond.fieldLink RX9 idx "RingPipelineModel" "available" "I" ∈ TB) (d : decode cc pc = .ok (.getfield idx, 3)) (kk : W p l e R s m args below meth c H locs cells slots Q (F0 m (pc + 3) ls (.int v :: rest))) : W p l e R s m args below meth c H locs cells slots Q (F0 m pc ls (.ref (ad 0) :: rest)) := by
  subst hv
  exact va_get (D := D) (ci := 8) (C := RX9) (T := TX9) (N := 28) (cx_x C) (cx_b C) (cx_t C) inT_9 (cx_own C) (cx_k C) hP 0 rfl rfl 4 (by decide) (cx_t C _ hw) (fun _ h => h) rfl d kk
theorem pm_4 {v : Int32} (C : cx_C p l s m args meth c s0 D cA cc nL ret RX9 A) (hP : va_P D vwCl (mW cA ad P) H) (hD : va_D A (mW cA ad P)) (hS : va_S A s.heap H locs) (hw : Cond.fieldLink RX9 idx "RingPipelineModel" "available" "I" ∈ TB) (d : decode cc pc = .ok (.putfield idx, 3)) (kk : ∀ (H1 : Heap) (locs1 : List Loc), va_P D vwCl (mW cA ad (sS P 4 v)) H1 → va_D A (mW cA ad (sS P 4 v)) → va_S A s.heap H1 locs1 → W p l e R s m args below meth c H1 locs1 cells slots Q (F0 m (pc + 3) ls rest)) : W p l e R s m args below meth c H locs cells slots Q (F0 m pc ls (.int v :: .ref (ad 0) :: rest)) :=
  va_put (D := D) (ci := 8) (v := .int v) (ty := .int) (C := RX9) (T := TX9) (N := 28) (cx_x C) (cx_b C) (cx_t C) inT_9 tyX9 tyX9_ok nmX9 (cx_own C) (cx_k C) hP hD hS 0 rfl rfl 4 (by decide) (cx_t C _ hw) (fun _ h => h) rfl (by decide +kernel) rfl rfl (Nat.le_of_ble_eq_true rfl) d kk
theorem gm_5 (C : cx_C p l s m args meth c s0 D cA cc nL ret RX9 A) (hP : va_P D vwCl (mW cA ad P) H) (hw : Cond.fieldLink RX9 idx "RingPipelineModel" "value" "[J" ∈ TB) (d : decode cc pc = .ok (.getfield idx, 3)) (kk : W p l e R s m args below meth c H locs cells slots Q (F0 m (pc + 3) ls (.ref (ad 5) :: rest))) : W p l e R s m args below meth c H locs cells slots Q (F0 m pc ls (.ref (ad 0) :: rest)) := va_get (D := D) (ci := 8) (C := RX9) (T := TX9) (N := 28) (cx_x C) (cx_b C) (cx_t C) inT_9 (cx_own C) (cx_k C) hP 0 rfl rfl 5 (by decide) (cx_t C _ hw) (fun _ h => h) rfl d kk
theorem gm_6 (C : cx_C p l s m args meth c s0 D cA cc nL ret RX9 A) (hP : va_P D vwCl (mW cA ad P) H) (hw : Cond.fieldLink RX9 idx "RingPipelineModel" "producers" "[I" ∈ TB) (d : decode cc pc = .ok (.getfield idx, 3)) (kk : W p l e R s m args below meth c H locs cells slots Q (F0 m (pc + 3) ls (.ref (ad 6) :: rest))) : W p l e R s m args below meth c H locs cells slots Q (F0 m pc ls (.ref (ad 0) :: rest)) := va_get (D := D) (ci := 8) (C := RX9) (T := TX9) (N := 28) (cx_x C) (cx_b C) (cx_t C) inT_9 (cx_own C) (cx_k C) hP 0 rfl rfl 6 (by decide) (cx_t C _ hw) (fun _ h => h) rfl d kk
theorem gm_7 (C : cx_C p l s m args meth c s0 D cA cc nL ret RX9 A) (hP : va_P D vwCl (mW cA ad P) H) (hw : Cond.fieldLink RX9 idx "RingPipelineModel" "latest" "[I" ∈ TB) (d : decode cc pc = .ok (.getfield idx, 3)) (kk : W p l e R s m args below meth c H locs cells slots Q (F0 m (pc + 3) ls (.ref (ad 7) :: rest))) : W p l e R s m args below meth c H locs cells slots Q (F0 m pc ls (.ref (ad 0) :: rest)) := va_get (D := D) (ci := 8) (C := RX9) (T := TX9) (N := 28) (cx_x C) (cx_b C) (cx_t C) inT_9 (cx_own C) (cx_k C) hP 0 rfl rfl 7 (by decide) (cx_t C _ hw) (fun _ h => h) rfl d kk
theorem gm_8 {v : Int32} (C : cx_C p l s m args meth c s0 D cA cc nL ret RX9 A) (hP : va_P D vwCl (mW cA ad P) H) (hv : qS P 8 = v) (hw : Cond.fieldLink RX9 idx "RingPipelineModel" "consumers" "I" ∈ TB) (d : decode cc pc = .ok (.getfield idx, 3)) (kk : W p l e R s m args below meth c H locs cells slots Q (F0 m (pc + 3) ls (.int v :: rest))) : W p l e R s m args below meth c H locs cells slots Q (F0 m pc ls (.ref (ad 0) :: rest)) := by
  subst hv
  exact va_get (D := D) (ci := 8) (C := RX9) (T := TX9) (N := 28) (cx_x C) (cx_b C) (cx_t C) inT_9 (cx_own C) (cx_k C) hP 0 rfl rfl 8 (by decide) (cx_t C _ hw) (fun _ h => h) rfl d kk
theorem pm_8 {v : Int32} (C : cx_C p l s m args meth c s0 D cA cc nL ret RX9 A) (hP : va_P D vwCl (mW cA ad P) H) (hD : va_D A (mW cA ad P)) (hS : va_S A s.heap H locs) (hw : Cond.fieldLink RX9 idx "RingPipelineModel" "consumers" "I" ∈ TB) (d : decode cc pc = .ok (.putfield idx, 3)) (kk : ∀ (H1 : Heap) (locs1 : List Loc), va_P D vwCl (mW cA ad (sS P 8 v)) H1 → va_D A (mW cA ad (sS P 8 v)) → va_S A s.heap H1 locs1 → W p l e R s m args below meth c H1 locs1 cells slots Q (F0 m (pc + 3) ls rest)) : W p l e R s m args below meth c H locs cells slots Q (F0 m pc ls (.int v :: .ref (ad 0) :: rest)) :=
  va_put (D := D) (ci := 8) (v := .int v) (ty := .int) (C := RX9) (T := TX9) (N := 28) (cx_x C) (cx_b C) (cx_t C) inT_9 tyX9 tyX9_ok nmX9 (cx_own C) (cx_k C) hP hD hS 0 rfl rfl 8 (by decide) (cx_t C _ hw) (fun _ h => h) rfl (by decide +kernel) rfl rfl (Nat.le_of_ble_eq_true rfl) d kk
theorem gm_9 (C : cx_C p l s m args meth c s0 D cA cc nL ret RX9 A) (hP : va_P D vwCl (mW cA ad P) H) (hw : Cond.fieldLink RX9 idx "RingPipelineModel" "kind" "[I" ∈ TB) (d : decode cc pc = .ok (.getfield idx, 3)) (kk : W p l e R s m args below meth c H locs cells slots Q (F0 m (pc + 3) ls (.ref (ad 9) :: rest))) : W p l e R s m args below meth c H locs cells slots Q (F0 m pc ls (.ref (ad 0) :: rest)) := va_get (D := D) (ci := 8) (C := RX9) (T := TX9) (N := 28) (cx_x C) (cx_b C) (cx_t C) inT_9 (cx_own C) (cx_k C) hP 0 rfl rfl 9 (by decide) (cx_t C _ hw) (fun _ h => h) rfl d kk
theorem gm_10 (C : cx_C p l s m args meth c s0 D cA cc nL ret RX9 A) (hP : va_P D vwCl (mW cA ad P) H) (hw : Cond.fieldLink RX9 idx "RingPipelineModel" "on" "[I" ∈ TB) (d : decode cc pc = .ok (.getfield idx, 3)) (kk : W p l e R s m args below meth c H locs cells slots Q (F0 m (pc + 3) ls (.ref (ad 10) :: rest))) : W p l e R s m args below meth c H locs cells slots Q (F0 m pc ls (.ref (ad 0) :: rest)) := va_get (D := D) (ci := 8) (C := RX9) (T := TX9) (N := 28) (cx_x C) (cx_b C) (cx_t C) inT_9 (cx_own C) (cx_k C) hP 0 rfl rfl 10 (by decide) (cx_t C _ hw) (fun _ h => h) rfl d kk
theorem gm_11 (C : cx_C p l s m args meth c s0 D cA cc nL ret RX9 A) (hP : va_P D vwCl (mW cA ad P) H) (hw : Cond.fieldLink RX9 idx "RingPipelineModel" "policy" "[I" ∈ TB) (d : decode cc pc = .ok (.getfield idx, 3)) (kk : W p l e R s m args below meth c H locs cells slots Q (F0 m (pc + 3) ls (.ref (ad 11) :: rest))) : W p l e R s m args below meth c H locs cells slots Q (F0 m pc ls (.ref (ad 0) :: rest)) := va_get (D := D) (ci := 8) (C := RX9) (T := TX9) (N := 28) (cx_x C) (cx_b C) (cx_t C) inT_9 (cx_own C) (cx_k C) hP 0 rfl rfl 11 (by decide) (cx_t C _ hw) (fun _ h => h) rfl d kk
theorem gm_12 (C : cx_C p l s m args meth c s0 D cA cc nL ret RX9 A) (hP : va_P D vwCl (mW cA ad P) H) (hw : Cond.fieldLink RX9 idx "RingPipelineModel" "pool" "[I" ∈ TB) (d : decode cc pc = .ok (.getfield idx, 3)) (kk : W p l e R s m args below meth c H locs cells slots Q (F0 m (pc + 3) ls (.ref (ad 12) :: rest))) : W p l e R s m args below meth c H locs cells slots Q (F0 m pc ls (.ref (ad 0) :: rest)) := va_get (D := D) (ci := 8) (C := RX9) (T := TX9) (N := 28) (cx_x C) (cx_b C) (cx_t C) inT_9 (cx_own C) (cx_k C) hP 0 rfl rfl 12 (by decide) (cx_t C _ hw) (fun _ h => h) rfl d kk
theorem gm_13 (C : cx_C p l s m args meth c s0 D cA cc nL ret RX9 A) (hP : va_P D vwCl (mW cA ad P) H) (hw : Cond.fieldLink RX9 idx "RingPipelineModel" "place" "[I" ∈ TB) (d : decode cc pc = .ok (.getfield idx, 3)) (kk : W p l e R s m args below meth c H locs cells slots Q (F0 m (pc + 3) ls (.ref (ad 13) :: rest))) : W p l e R s m args below meth c H locs cells slots Q (F0 m pc ls (.ref (ad 0) :: rest)) := va_get (D := D) (ci := 8) (C := RX9) (T := TX9) (N := 28) (cx_x C) (cx_b C) (cx_t C) inT_9 (cx_own C) (cx_k C) hP 0 rfl rfl 13 (by decide) (cx_t C _ hw) (fun _ h => h) rfl d kk
theorem gm_14 (C : cx_C p l s m args meth c s0 D cA cc nL ret RX9 A) (hP : va_P D vwCl (mW cA ad P) H) (hw : Cond.fieldLink RX9 idx "RingPipelineModel" "halted" "[Z" ∈ TB) (d : decode cc pc = .ok (.getfield idx, 3)) (kk : W p l e R s m args below meth c H locs cells slots Q (F0 m (pc + 3) ls (.ref (ad 14) :: rest))) : W p l e R s m args below meth c H locs cells slots Q (F0 m pc ls (.ref (ad 0) :: rest)) := va_get (D := D) (ci := 8) (C := RX9) (T := TX9) (N := 28) (cx_x C) (cx_b C) (cx_t C) inT_9 (cx_own C) (cx_k C) hP 0 rfl rfl 14 (by decide) (cx_t C _ hw) (fun _ h => h) rfl d kk
theorem gm_15 (C : cx_C p l s m args meth c s0 D cA cc nL ret RX9 A) (hP : va_P D vwCl (mW cA ad P) H) (hw : Cond.fieldLink RX9 idx "RingPipelineModel" "handled" "[I" ∈ TB) (d : decode cc pc = .ok (.getfield idx, 3)) (kk : W p l e R s m args below meth c H locs cells slots Q (F0 m (pc + 3) ls (.ref (ad 15) :: rest))) : W p l e R s m args below meth c H locs cells slots Q (F0 m pc ls (.ref (ad 0) :: rest)) := va_get (D := D) (ci := 8) (C := RX9) (T := TX9) (N := 28) (cx_x C) (cx_b C) (cx_t C) inT_9 (cx_own C) (cx_k C) hP 0 rfl rfl 15 (by decide) (cx_t C _ hw) (fun _ h => h) rfl d kk
theorem gm_16 (C : cx_C p l s m args meth c s0 D cA cc nL ret RX9 A) (hP : va_P D vwCl (mW cA ad P) H) (hw : Cond.fieldLink RX9 idx "RingPipelineModel" "ignored" "[I" ∈ TB) (d : decode cc pc = .ok (.getfield idx, 3)) (kk : W p l e R s m args below meth c H locs cells slots Q (F0 m (pc + 3) ls (.ref (ad 16) :: rest))) : W p l e R s m args below meth c H locs cells slots Q (F0 m pc ls (.ref (ad 0) :: rest)) := va_get (D := D) (ci := 8) (C := RX9) (T := TX9) (N := 28) (cx_x C) (cx_b C) (cx_t C) inT_9 (cx_own C) (cx_k C) hP 0 rfl rfl 16 (by decide) (cx_t C _ hw) (fun _ h => h) rfl d kk
theorem gm_17 (C : cx_C p l s m args meth c s0 D cA cc nL ret RX9 A) (hP : va_P D vwCl (mW cA ad P) H) (hw : Cond.fieldLink RX9 idx "RingPipelineModel" "rewound" "[I" ∈ TB) (d : decode cc pc = .ok (.getfield idx, 3)) (kk : W p l e R s m args below meth c H locs cells slots Q (F0 m (pc + 3) ls (.ref (ad 17) :: rest))) : W p l e R s m args below meth c H locs cells slots Q (F0 m pc ls (.ref (ad 0) :: rest)) := va_get (D := D) (ci := 8) (C := RX9) (T := TX9) (N := 28) (cx_x C) (cx_b C) (cx_t C) inT_9 (cx_own C) (cx_k C) hP 0 rfl rfl 17 (by decide) (cx_t C _ hw) (fun _ h => h) rfl d kk
theorem gm_18 (C : cx_C p l s m args meth c s0 D cA cc nL ret RX9 A) (hP : va_P D vwCl (mW cA ad P) H) (hw : Cond.fieldLink RX9 idx "RingPipelineModel" "threwAt" "[I" ∈ TB) (d : decode cc pc = .ok (.getfield idx, 3)) (kk : W p l e R s m args below meth c H locs cells slots Q (F0 m (pc + 3) ls (.ref (ad 18) :: rest))) : W p l e R s m args below meth c H locs cells slots Q (F0 m pc ls (.ref (ad 0) :: rest)) := va_get (D := D) (ci := 8) (C := RX9) (T := TX9) (N := 28) (cx_x C) (cx_b C) (cx_t C) inT_9 (cx_own C) (cx_k C) hP 0 rfl rfl 18 (by decide) (cx_t C _ hw) (fun _ h => h) rfl d kk
theorem gm_19 (C : cx_C p l s m args meth c s0 D cA cc nL ret RX9 A) (hP : va_P D vwCl (mW cA ad P) H) (hw : Cond.fieldLink RX9 idx "RingPipelineModel" "times" "[I" ∈ TB) (d : decode cc pc = .ok (.getfield idx, 3)) (kk : W p l e R s m args below meth c H locs cells slots Q (F0 m (pc + 3) ls (.ref (ad 19) :: rest))) : W p l e R s m args below meth c H locs cells slots Q (F0 m pc ls (.ref (ad 0) :: rest)) := va_get (D := D) (ci := 8) (C := RX9) (T := TX9) (N := 28) (cx_x C) (cx_b C) (cx_t C) inT_9 (cx_own C) (cx_k C) hP 0 rfl rfl 19 (by decide) (cx_t C _ hw) (fun _ h => h) rfl d kk
theorem gm_20 (C : cx_C p l s m args meth c s0 D cA cc nL ret RX9 A) (hP : va_P D vwCl (mW cA ad P) H) (hw : Cond.fieldLink RX9 idx "RingPipelineModel" "has" "[I" ∈ TB) (d : decode cc pc = .ok (.getfield idx, 3)) (kk : W p l e R s m args below meth c H locs cells slots Q (F0 m (pc + 3) ls (.ref (ad 20) :: rest))) : W p l e R s m args below meth c H locs cells slots Q (F0 m pc ls (.ref (ad 0) :: rest)) := va_get (D := D) (ci := 8) (C := RX9) (T := TX9) (N := 28) (cx_x C) (cx_b C) (cx_t C) inT_9 (cx_own C) (cx_k C) hP 0 rfl rfl 20 (by decide) (cx_t C _ hw) (fun _ h => h) rfl d kk
theorem gm_21 (C : cx_C p l s m args meth c s0 D cA cc nL ret RX9 A) (hP : va_P D vwCl (mW cA ad P) H) (hw : Cond.fieldLink RX9 idx "RingPipelineModel" "taken" "[I" ∈ TB) (d : decode cc pc = .ok (.getfield idx, 3)) (kk : W p l e R s m args below meth c H locs cells slots Q (F0 m (pc + 3) ls (.ref (ad 21) :: rest))) : W p l e R s m args below meth c H locs cells slots Q (F0 m pc ls (.ref (ad 0) :: rest)) := va_get (D := D) (ci := 8) (C := RX9) (T := TX9) (N := 28) (cx_x C) (cx_b C) (cx_t C) inT_9 (cx_own C) (cx_k C) hP 0 rfl rfl 21 (by decide) (cx_t C _ hw) (fun _ h => h) rfl d kk
theorem gm_22 (C : cx_C p l s m args meth c s0 D cA cc nL ret RX9 A) (hP : va_P D vwCl (mW cA ad P) H) (hw : Cond.fieldLink RX9 idx "RingPipelineModel" "totals" "[J" ∈ TB) (d : decode cc pc = .ok (.getfield idx, 3)) (kk : W p l e R s m args below meth c H locs cells slots Q (F0 m (pc + 3) ls (.ref (ad 22) :: rest))) : W p l e R s m args below meth c H locs cells slots Q (F0 m pc ls (.ref (ad 0) :: rest)) := va_get (D := D) (ci := 8) (C := RX9) (T := TX9) (N := 28) (cx_x C) (cx_b C) (cx_t C) inT_9 (cx_own C) (cx_k C) hP 0 rfl rfl 22 (by decide) (cx_t C _ hw) (fun _ h => h) rfl d kk
theorem gm_23 (C : cx_C p l s m args meth c s0 D cA cc nL ret RX9 A) (hP : va_P D vwCl (mW cA ad P) H) (hw : Cond.fieldLink RX9 idx "RingPipelineModel" "levels" "[F" ∈ TB) (d : decode cc pc = .ok (.getfield idx, 3)) (kk : W p l e R s m args below meth c H locs cells slots Q (F0 m (pc + 3) ls (.ref (ad 23) :: rest))) : W p l e R s m args below meth c H locs cells slots Q (F0 m pc ls (.ref (ad 0) :: rest)) := va_get (D := D) (ci := 8) (C := RX9) (T := TX9) (N := 28) (cx_x C) (cx_b C) (cx_t C) inT_9 (cx_own C) (cx_k C) hP 0 rfl rfl 23 (by decide) (cx_t C _ hw) (fun _ h => h) rfl d kk
theorem gm_24 (C : cx_C p l s m args meth c s0 D cA cc nL ret RX9 A) (hP : va_P D vwCl (mW cA ad P) H) (hw : Cond.fieldLink RX9 idx "RingPipelineModel" "means" "[D" ∈ TB) (d : decode cc pc = .ok (.getfield idx, 3)) (kk : W p l e R s m args below meth c H locs cells slots Q (F0 m (pc + 3) ls (.ref (ad 24) :: rest))) : W p l e R s m args below meth c H locs cells slots Q (F0 m pc ls (.ref (ad 0) :: rest)) := va_get (D := D) (ci := 8) (C := RX9) (T := TX9) (N := 28) (cx_x C) (cx_b C) (cx_t C) inT_9 (cx_own C) (cx_k C) hP 0 rfl rfl 24 (by decide) (cx_t C _ hw) (fun _ h => h) rfl d kk
theorem gm_25 (C : cx_C p l s m args meth c s0 D cA cc nL ret RX9 A) (hP : va_P D vwCl (mW cA ad P) H) (hw : Cond.fieldLink RX9 idx "RingPipelineModel" "sizes" "[I" ∈ TB) (d : decode cc pc = .ok (.getfield idx, 3)) (kk : W p l e R s m args below meth c H locs cells slots Q (F0 m (pc + 3) ls (.ref (ad 25) :: rest))) : W p l e R s m args below meth c H locs cells slots Q (F0 m pc ls (.ref (ad 0) :: rest)) := va_get (D := D) (ci := 8) (C := RX9) (T := TX9) (N := 28) (cx_x C) (cx_b C) (cx_t C) inT_9 (cx_own C) (cx_k C) hP 0 rfl rfl 25 (by decide) (cx_t C _ hw) (fun _ h => h) rfl d kk
theorem gm_26 (C : cx_C p l s m args meth c s0 D cA cc nL ret RX9 A) (hP : va_P D vwCl (mW cA ad P) H) (hw : Cond.fieldLink RX9 idx "RingPipelineModel" "bytes" "[I" ∈ TB) (d : decode cc pc = .ok (.getfield idx, 3)) (kk : W p l e R s m args below meth c H locs cells slots Q (F0 m (pc + 3) ls (.ref (ad 26) :: rest))) : W p l e R s m args below meth c H locs cells slots Q (F0 m pc ls (.ref (ad 0) :: rest)) := va_get (D := D) (ci := 8) (C := RX9) (T := TX9) (N := 28) (cx_x C) (cx_b C) (cx_t C) inT_9 (cx_own C) (cx_k C) hP 0 rfl rfl 26 (by decide) (cx_t C _ hw) (fun _ h => h) rfl d kk
theorem gm_27 {v : Int64} (C : cx_C p l s m args meth c s0 D cA cc nL ret RX9 A) (hP : va_P D vwCl (mW cA ad P) H) (hv : qR P = v) (hw : Cond.fieldLink RX9 idx "RingPipelineModel" "replayed" "J" ∈ TB) (d : decode cc pc = .ok (.getfield idx, 3)) (kk : W p l e R s m args below meth c H locs cells slots Q (F0 m (pc + 3) ls (.long v :: rest))) : W p l e R s m args below meth c H locs cells slots Q (F0 m pc ls (.ref (ad 0) :: rest)) := by
  subst hv
  exact va_get (D := D) (ci := 8) (C := RX9) (T := TX9) (N := 28) (cx_x C) (cx_b C) (cx_t C) inT_9 (cx_own C) (cx_k C) hP 0 rfl rfl 27 (by decide) (cx_t C _ hw) (fun _ h => h) rfl d kk
theorem pm_27 {v : Int64} (C : cx_C p l s m args meth c s0 D cA cc nL ret RX9 A) (hP : va_P D vwCl (mW cA ad P) H) (hD : va_D A (mW cA ad P)) (hS : va_S A s.heap H locs) (hw : Cond.fieldLink RX9 idx "RingPipelineModel" "replayed" "J" ∈ TB) (d : decode cc pc = .ok (.putfield idx, 3)) (kk : ∀ (H1 : Heap) (locs1 : List Loc), va_P D vwCl (mW cA ad (sR P v)) H1 → va_D A (mW cA ad (sR P v)) → va_S A s.heap H1 locs1 → W p l e R s m args below meth c H1 locs1 cells slots Q (F0 m (pc + 3) ls rest)) : W p l e R s m args below meth c H locs cells slots Q (F0 m pc ls (.long v :: .ref (ad 0) :: rest)) :=
  va_put (D := D) (ci := 8) (v := .long v) (ty := .long) (C := RX9) (T := TX9) (N := 28) (cx_x C) (cx_b C) (cx_t C) inT_9 tyX9 tyX9_ok nmX9 (cx_own C) (cx_k C) hP hD hS 0 rfl rfl 27 (by decide) (cx_t C _ hw) (fun _ h => h) rfl (by decide +kernel) rfl rfl (Nat.le_of_ble_eq_true rfl) d kk
theorem xl_2 {i : Int32} {j : Nat} {v : Int32} (C : cx_C p l s m args meth c s0 D cA cc nL ret RX9 A) (hP : va_P D vwCl (mW cA ad P) H) (hi : ix i 8208 j) (hv : qI P 2 j = v) (d : decode cc pc = .ok (.baload, 1)) (kk : W p l e R s m args below meth c H locs cells slots Q (F0 m (pc + 1) ls (.int v :: rest))) : W p l e R s m args below meth c H locs cells slots Q (F0 m pc ls (.int i :: .ref (ad 2) :: rest)) := by
  obtain ⟨g1, rfl⟩ := hi
  subst hv
  exact va_bald (cx_x C) (cx_b C) (cx_k C) hP 1 0 rfl rfl g1 d kk
theorem xs_2 {i : Int32} {j : Nat} {x : Int32} (C : cx_C p l s m args meth c s0 D cA cc nL ret RX9 A) (hP : va_P D vwCl (mW cA ad P) H) (hD : va_D A (mW cA ad P)) (hS : va_S A s.heap H locs) (hi : ix i 8208 j) (d : decode cc pc = .ok (.bastore, 1)) (kk : ∀ (H1 : Heap) (locs1 : List Loc), va_P D vwCl (mW cA ad (sI P 2 j (vp_nar .byte x))) H1 → va_D A (mW cA ad (sI P 2 j (vp_nar .byte x))) → va_S A s.heap H1 locs1 → W p l e R s m args below meth c H1 locs1 cells slots Q (F0 m (pc + 1) ls rest)) : W p l e R s m args below meth c H locs cells slots Q (F0 m pc ls (.int x :: .int i :: .ref (ad 2) :: rest)) := by
  obtain ⟨g1, rfl⟩ := hi
  exact va_bast (cx_x C) (cx_b C) (cx_k C) hP hD hS 1 0 rfl rfl g1 d kk
theorem xl_5 {i : Int32} {j : Nat} {v : Int64} (C : cx_C p l s m args meth c s0 D cA cc nL ret RX9 A) (hP : va_P D vwCl (mW cA ad P) H) (hi : ix i 16 j) (hv : qJ P 5 j = v) (d : decode cc pc = .ok (.laload, 1)) (kk : W p l e R s m args below meth c H locs cells slots Q (F0 m (pc + 1) ls (.long v :: rest))) : W p l e R s m args below meth c H locs cells slots Q (F0 m pc ls (.int i :: .ref (ad 5) :: rest)) := by
  obtain ⟨g1, rfl⟩ := hi
  subst hv
  exact va_lald (cx_x C) (cx_b C) (cx_k C) hP 2 4 rfl rfl g1 d kk
theorem xs_5 {i : Int32} {j : Nat} {x : Int64} (C : cx_C p l s m args meth c s0 D cA cc nL ret RX9 A) (hP : va_P D vwCl (mW cA ad P) H) (hD : va_D A (mW cA ad P)) (hS : va_S A s.heap H locs) (hi : ix i 16 j) (d : decode cc pc = .ok (.lastore, 1)) (kk : ∀ (H1 : Heap) (locs1 : List Loc), va_P D vwCl (mW cA ad (sJ P 5 j (x))) H1 → va_D A (mW cA ad (sJ P 5 j (x))) → va_S A s.heap H1 locs1 → W p l e R s m args below meth c H1 locs1 cells slots Q (F0 m (pc + 1) ls rest)) : W p l e R s m args below meth c H locs cells slots Q (F0 m pc ls (.long x :: .int i :: .ref (ad 5) :: rest)) := by
  obtain ⟨g1, rfl⟩ := hi
  exact va_last (cx_x C) (cx_b C) (cx_k C) hP hD hS 2 4 rfl rfl g1 d kk
theorem xl_6 {i : Int32} {j : Nat} {v : Int32} (C : cx_C p l s m args meth c s0 D cA cc nL ret RX9 A) (hP : va_P D vwCl (mW cA ad P) H) (hi : ix i 16 j) (hv : qI P 6 j = v) (d : decode cc pc = .ok (.iaload, 1)) (kk : W p l e R s m args below meth c H locs cells slots Q (F0 m (pc + 1) ls (.int v :: rest))) : W p l e R s m args below meth c H locs cells slots Q (F0 m pc ls (.int i :: .ref (ad 6) :: rest)) := by
  obtain ⟨g1, rfl⟩ := hi
  subst hv
  exact va_iald (cx_x C) (cx_b C) (cx_k C) hP 3 3 rfl rfl g1 d kk
theorem xs_6 {i : Int32} {j : Nat} {x : Int32} (C : cx_C p l s m args meth c s0 D cA cc nL ret RX9 A) (hP : va_P D vwCl (mW cA ad P) H) (hD : va_D A (mW cA ad P)) (hS : va_S A s.heap H locs) (hi : ix i 16 j) (d : decode cc pc = .ok (.iastore, 1)) (kk : ∀ (H1 : Heap) (locs1 : List Loc), va_P D vwCl (mW cA ad (sI P 6 j (x))) H1 → va_D A (mW cA ad (sI P 6 j (x))) → va_S A s.heap H1 locs1 → W p l e R s m args below meth c H1 locs1 cells slots Q (F0 m (pc + 1) ls rest)) : W p l e R s m args below meth c H locs cells slots Q (F0 m pc ls (.int x :: .int i :: .ref (ad 6) :: rest)) := by
  obtain ⟨g1, rfl⟩ := hi
  exact va_iast (cx_x C) (cx_b C) (cx_k C) hP hD hS 3 3 rfl rfl g1 d kk
theorem xl_7 {i : Int32} {j : Nat} {v : Int32} (C : cx_C p l s m args meth c s0 D cA cc nL ret RX9 A) (hP : va_P D vwCl (mW cA ad P) H) (hi : ix i 16 j) (hv : qI P 7 j = v) (d : decode cc pc = .ok (.iaload, 1)) (kk : W p l e R s m args below meth c H locs cells slots Q (F0 m (pc + 1) ls (.int v :: rest))) : W p l e R s m args below meth c H locs cells slots Q (F0 m pc ls (.int i :: .ref (ad 7) :: rest)) := by
  obtain ⟨g1, rfl⟩ := hi
  subst hv
  exact va_iald (cx_x C) (cx_b C) (cx_k C) hP 4 3 rfl rfl g1 d kk
theorem xs_7 {i : Int32} {j : Nat} {x : Int32} (C : cx_C p l s m args meth c s0 D cA cc nL ret RX9 A) (hP : va_P D vwCl (mW cA ad P) H) (hD : va_D A (mW cA ad P)) (hS : va_S A s.heap H locs) (hi : ix i 16 j) (d : decode cc pc = .ok (.iastore, 1)) (kk : ∀ (H1 : Heap) (locs1 : List Loc), va_P D vwCl (mW cA ad (sI P 7 j (x))) H1 → va_D A (mW cA ad (sI P 7 j (x))) → va_S A s.heap H1 locs1 → W p l e R s m args below meth c H1 locs1 cells slots Q (F0 m (pc + 1) ls rest)) : W p l e R s m args below meth c H locs cells slots Q (F0 m pc ls (.int x :: .int i :: .ref (ad 7) :: rest)) := by
  obtain ⟨g1, rfl⟩ := hi
  exact va_iast (cx_x C) (cx_b C) (cx_k C) hP hD hS 4 3 rfl rfl g1 d kk
theorem xl_9 {i : Int32} {j : Nat} {v : Int32} (C : cx_C p l s m args meth c s0 D cA cc nL ret RX9 A) (hP : va_P D vwCl (mW cA ad P) H) (hi : ix i 8 j) (hv : qI P 9 j = v) (d : decode cc pc = .ok (.iaload, 1)) (kk : W p l e R s m args below meth c H locs cells slots Q (F0 m (pc + 1) ls (.int v :: rest))) : W p l e R s m args below meth c H locs cells slots Q (F0 m pc ls (.int i :: .ref (ad 9) :: rest)) := by
  obtain ⟨g1, rfl⟩ := hi
  subst hv
  exact va_iald (cx_x C) (cx_b C) (cx_k C) hP 5 3 rfl rfl g1 d kk
theorem xs_9 {i : Int32} {j : Nat} {x : Int32} (C : cx_C p l s m args meth c s0 D cA cc nL ret RX9 A) (hP : va_P D vwCl (mW cA ad P) H) (hD : va_D A (mW cA ad P)) (hS : va_S A s.heap H locs) (hi : ix i 8 j) (d : decode cc pc = .ok (.iastore, 1)) (kk : ∀ (H1 : Heap) (locs1 : List Loc), va_P D vwCl (mW cA ad (sI P 9 j (x))) H1 → va_D A (mW cA ad (sI P 9 j (x))) → va_S A s.heap H1 locs1 → W p l e R s m args below meth c H1 locs1 cells slots Q (F0 m (pc + 1) ls rest)) : W p l e R s m args below meth c H locs cells slots Q (F0 m pc ls (.int x :: .int i :: .ref (ad 9) :: rest)) := by
  obtain ⟨g1, rfl⟩ := hi
  exact va_iast (cx_x C) (cx_b C) (cx_k C) hP hD hS 5 3 rfl rfl g1 d kk
theorem xl_10 {i : Int32} {j : Nat} {v : Int32} (C : cx_C p l s m args meth c s0 D cA cc nL ret RX9 A) (hP : va_P D vwCl (mW cA ad P) H) (hi : ix i 8 j) (hv : qI P 10 j = v) (d : decode cc pc = .ok (.iaload, 1)) (kk : W p l e R s m args below meth c H locs cells slots Q (F0 m (pc + 1) ls (.int v :: rest))) : W p l e R s m args below meth c H locs cells slots Q (F0 m pc ls (.int i :: .ref (ad 10) :: rest)) := by
  obtain ⟨g1, rfl⟩ := hi
  subst hv
  exact va_iald (cx_x C) (cx_b C) (cx_k C) hP 6 3 rfl rfl g1 d kk
theorem xs_10 {i : Int32} {j : Nat} {x : Int32} (C : cx_C p l s m args meth c s0 D cA cc nL ret RX9 A) (hP : va_P D vwCl (mW cA ad P) H) (hD : va_D A (mW cA ad P)) (hS : va_S A s.heap H locs) (hi : ix i 8 j) (d : decode cc pc = .ok (.iastore, 1)) (kk : ∀ (H1 : Heap) (locs1 : List Loc), va_P D vwCl (mW cA ad (sI P 10 j (x))) H1 → va_D A (mW cA ad (sI P 10 j (x))) → va_S A s.heap H1 locs1 → W p l e R s m args below meth c H1 locs1 cells slots Q (F0 m (pc + 1) ls rest)) : W p l e R s m args below meth c H locs cells slots Q (F0 m pc ls (.int x :: .int i :: .ref (ad 10) :: rest)) := by
  obtain ⟨g1, rfl⟩ := hi
  exact va_iast (cx_x C) (cx_b C) (cx_k C) hP hD hS 6 3 rfl rfl g1 d kk
theorem xl_11 {i : Int32} {j : Nat} {v : Int32} (C : cx_C p l s m args meth c s0 D cA cc nL ret RX9 A) (hP : va_P D vwCl (mW cA ad P) H) (hi : ix i 8 j) (hv : qI P 11 j = v) (d : decode cc pc = .ok (.iaload, 1)) (kk : W p l e R s m args below meth c H locs cells slots Q (F0 m (pc + 1) ls (.int v :: rest))) : W p l e R s m args below meth c H locs cells slots Q (F0 m pc ls (.int i :: .ref (ad 11) :: rest)) := by
  obtain ⟨g1, rfl⟩ := hi
  subst hv
  exact va_iald (cx_x C) (cx_b C) (cx_k C) hP 7 3 rfl rfl g1 d kk
theorem xs_11 {i : Int32} {j : Nat} {x : Int32} (C : cx_C p l s m args meth c s0 D cA cc nL ret RX9 A) (hP : va_P D vwCl (mW cA ad P) H) (hD : va_D A (mW cA ad P)) (hS : va_S A s.heap H locs) (hi : ix i 8 j) (d : decode cc pc = .ok (.iastore, 1)) (kk : ∀ (H1 : Heap) (locs1 : List Loc), va_P D vwCl (mW cA ad (sI P 11 j (x))) H1 → va_D A (mW cA ad (sI P 11 j (x))) → va_S A s.heap H1 locs1 → W p l e R s m args below meth c H1 locs1 cells slots Q (F0 m (pc + 1) ls rest)) : W p l e R s m args below meth c H locs cells slots Q (F0 m pc ls (.int x :: .int i :: .ref (ad 11) :: rest)) := by
  obtain ⟨g1, rfl⟩ := hi
  exact va_iast (cx_x C) (cx_b C) (cx_k C) hP hD hS 7 3 rfl rfl g1 d kk
theorem xl_12 {i : Int32} {j : Nat} {v : Int32} (C : cx_C p l s m args meth c s0 D cA cc nL ret RX9 A) (hP : va_P D vwCl (mW cA ad P) H) (hi : ix i 8 j) (hv : qI P 12 j = v) (d : decode cc pc = .ok (.iaload, 1)) (kk : W p l e R s m args below meth c H locs cells slots Q (F0 m (pc + 1) ls (.int v :: rest))) : W p l e R s m args below meth c H locs cells slots Q (F0 m pc ls (.int i :: .ref (ad 12) :: rest)) := by
  obtain ⟨g1, rfl⟩ := hi
  subst hv
  exact va_iald (cx_x C) (cx_b C) (cx_k C) hP 8 3 rfl rfl g1 d kk
theorem xs_12 {i : Int32} {j : Nat} {x : Int32} (C : cx_C p l s m args meth c s0 D cA cc nL ret RX9 A) (hP : va_P D vwCl (mW cA ad P) H) (hD : va_D A (mW cA ad P)) (hS : va_S A s.heap H locs) (hi : ix i 8 j) (d : decode cc pc = .ok (.iastore, 1)) (kk : ∀ (H1 : Heap) (locs1 : List Loc), va_P D vwCl (mW cA ad (sI P 12 j (x))) H1 → va_D A (mW cA ad (sI P 12 j (x))) → va_S A s.heap H1 locs1 → W p l e R s m args below meth c H1 locs1 cells slots Q (F0 m (pc + 1) ls rest)) : W p l e R s m args below meth c H locs cells slots Q (F0 m pc ls (.int x :: .int i :: .ref (ad 12) :: rest)) := by
  obtain ⟨g1, rfl⟩ := hi
  exact va_iast (cx_x C) (cx_b C) (cx_k C) hP hD hS 8 3 rfl rfl g1 d kk
theorem xl_13 {i : Int32} {j : Nat} {v : Int32} (C : cx_C p l s m args meth c s0 D cA cc nL ret RX9 A) (hP : va_P D vwCl (mW cA ad P) H) (hi : ix i 8 j) (hv : qI P 13 j = v) (d : decode cc pc = .ok (.iaload, 1)) (kk : W p l e R s m args below meth c H locs cells slots Q (F0 m (pc + 1) ls (.int v :: rest))) : W p l e R s m args below meth c H locs cells slots Q (F0 m pc ls (.int i :: .ref (ad 13) :: rest)) := by
  obtain ⟨g1, rfl⟩ := hi
  subst hv
  exact va_iald (cx_x C) (cx_b C) (cx_k C) hP 9 3 rfl rfl g1 d kk
theorem xs_13 {i : Int32} {j : Nat} {x : Int32} (C : cx_C p l s m args meth c s0 D cA cc nL ret RX9 A) (hP : va_P D vwCl (mW cA ad P) H) (hD : va_D A (mW cA ad P)) (hS : va_S A s.heap H locs) (hi : ix i 8 j) (d : decode cc pc = .ok (.iastore, 1)) (kk : ∀ (H1 : Heap) (locs1 : List Loc), va_P D vwCl (mW cA ad (sI P 13 j (x))) H1 → va_D A (mW cA ad (sI P 13 j (x))) → va_S A s.heap H1 locs1 → W p l e R s m args below meth c H1 locs1 cells slots Q (F0 m (pc + 1) ls rest)) : W p l e R s m args below meth c H locs cells slots Q (F0 m pc ls (.int x :: .int i :: .ref (ad 13) :: rest)) := by
  obtain ⟨g1, rfl⟩ := hi
  exact va_iast (cx_x C) (cx_b C) (cx_k C) hP hD hS 9 3 rfl rfl g1 d kk
theorem xl_14 {i : Int32} {j : Nat} {v : Int32} (C : cx_C p l s m args meth c s0 D cA cc nL ret RX9 A) (hP : va_P D vwCl (mW cA ad P) H) (hi : ix i 8 j) (hv : qI P 14 j = v) (d : decode cc pc = .ok (.baload, 1)) (kk : W p l e R s m args below meth c H locs cells slots Q (F0 m (pc + 1) ls (.int v :: rest))) : W p l e R s m args below meth c H locs cells slots Q (F0 m pc ls (.int i :: .ref (ad 14) :: rest)) := by
  obtain ⟨g1, rfl⟩ := hi
  subst hv
  exact va_zald (cx_x C) (cx_b C) (cx_k C) hP 10 5 rfl rfl g1 d kk
theorem xs_14 {i : Int32} {j : Nat} {x : Int32} (C : cx_C p l s m args meth c s0 D cA cc nL ret RX9 A) (hP : va_P D vwCl (mW cA ad P) H) (hD : va_D A (mW cA ad P)) (hS : va_S A s.heap H locs) (hi : ix i 8 j) (d : decode cc pc = .ok (.bastore, 1)) (kk : ∀ (H1 : Heap) (locs1 : List Loc), va_P D vwCl (mW cA ad (sI P 14 j (vp_nar .boolean x))) H1 → va_D A (mW cA ad (sI P 14 j (vp_nar .boolean x))) → va_S A s.heap H1 locs1 → W p l e R s m args below meth c H1 locs1 cells slots Q (F0 m (pc + 1) ls rest)) : W p l e R s m args below meth c H locs cells slots Q (F0 m pc ls (.int x :: .int i :: .ref (ad 14) :: rest)) := by
  obtain ⟨g1, rfl⟩ := hi
  exact va_zast (cx_x C) (cx_b C) (cx_k C) hP hD hS 10 5 rfl rfl g1 d kk
theorem xl_15 {i : Int32} {j : Nat} {v : Int32} (C : cx_C p l s m args meth c s0 D cA cc nL ret RX9 A) (hP : va_P D vwCl (mW cA ad P) H) (hi : ix i 8 j) (hv : qI P 15 j = v) (d : decode cc pc = .ok (.iaload, 1)) (kk : W p l e R s m args below meth c H locs cells slots Q (F0 m (pc + 1) ls (.int v :: rest))) : W p l e R s m args below meth c H locs cells slots Q (F0 m pc ls (.int i :: .ref (ad 15) :: rest)) := by
  obtain ⟨g1, rfl⟩ := hi
  subst hv
  exact va_iald (cx_x C) (cx_b C) (cx_k C) hP 11 3 rfl rfl g1 d kk
theorem xs_15 {i : Int32} {j : Nat} {x : Int32} (C : cx_C p l s m args meth c s0 D cA cc nL ret RX9 A) (hP : va_P D vwCl (mW cA ad P) H) (hD : va_D A (mW cA ad P)) (hS : va_S A s.heap H locs) (hi : ix i 8 j) (d : decode cc pc = .ok (.iastore, 1)) (kk : ∀ (H1 : Heap) (locs1 : List Loc), va_P D vwCl (mW cA ad (sI P 15 j (x))) H1 → va_D A (mW cA ad (sI P 15 j (x))) → va_S A s.heap H1 locs1 → W p l e R s m args below meth c H1 locs1 cells slots Q (F0 m (pc + 1) ls rest)) : W p l e R s m args below meth c H locs cells slots Q (F0 m pc ls (.int x :: .int i :: .ref (ad 15) :: rest)) := by
  obtain ⟨g1, rfl⟩ := hi
  exact va_iast (cx_x C) (cx_b C) (cx_k C) hP hD hS 11 3 rfl rfl g1 d kk
theorem xl_16 {i : Int32} {j : Nat} {v : Int32} (C : cx_C p l s m args meth c s0 D cA cc nL ret RX9 A) (hP : va_P D vwCl (mW cA ad P) H) (hi : ix i 8 j) (hv : qI P 16 j = v) (d : decode cc pc = .ok (.iaload, 1)) (kk : W p l e R s m args below meth c H locs cells slots Q (F0 m (pc + 1) ls (.int v :: rest))) : W p l e R s m args below meth c H locs cells slots Q (F0 m pc ls (.int i :: .ref (ad 16) :: rest)) := by
  obtain ⟨g1, rfl⟩ := hi
  subst hv
  exact va_iald (cx_x C) (cx_b C) (cx_k C) hP 12 3 rfl rfl g1 d kk
theorem xs_16 {i : Int32} {j : Nat} {x : Int32} (C : cx_C p l s m args meth c s0 D cA cc nL ret RX9 A) (hP : va_P D vwCl (mW cA ad P) H) (hD : va_D A (mW cA ad P)) (hS : va_S A s.heap H locs) (hi : ix i 8 j) (d : decode cc pc = .ok (.iastore, 1)) (kk : ∀ (H1 : Heap) (locs1 : List Loc), va_P D vwCl (mW cA ad (sI P 16 j (x))) H1 → va_D A (mW cA ad (sI P 16 j (x))) → va_S A s.heap H1 locs1 → W p l e R s m args below meth c H1 locs1 cells slots Q (F0 m (pc + 1) ls rest)) : W p l e R s m args below meth c H locs cells slots Q (F0 m pc ls (.int x :: .int i :: .ref (ad 16) :: rest)) := by
  obtain ⟨g1, rfl⟩ := hi
  exact va_iast (cx_x C) (cx_b C) (cx_k C) hP hD hS 12 3 rfl rfl g1 d kk
theorem xl_17 {i : Int32} {j : Nat} {v : Int32} (C : cx_C p l s m args meth c s0 D cA cc nL ret RX9 A) (hP : va_P D vwCl (mW cA ad P) H) (hi : ix i 8 j) (hv : qI P 17 j = v) (d : decode cc pc = .ok (.iaload, 1)) (kk : W p l e R s m args below meth c H locs cells slots Q (F0 m (pc + 1) ls (.int v :: rest))) : W p l e R s m args below meth c H locs cells slots Q (F0 m pc ls (.int i :: .ref (ad 17) :: rest)) := by
  obtain ⟨g1, rfl⟩ := hi
  subst hv
  exact va_iald (cx_x C) (cx_b C) (cx_k C) hP 13 3 rfl rfl g1 d kk
theorem xs_17 {i : Int32} {j : Nat} {x : Int32} (C : cx_C p l s m args meth c s0 D cA cc nL ret RX9 A) (hP : va_P D vwCl (mW cA ad P) H) (hD : va_D A (mW cA ad P)) (hS : va_S A s.heap H locs) (hi : ix i 8 j) (d : decode cc pc = .ok (.iastore, 1)) (kk : ∀ (H1 : Heap) (locs1 : List Loc), va_P D vwCl (mW cA ad (sI P 17 j (x))) H1 → va_D A (mW cA ad (sI P 17 j (x))) → va_S A s.heap H1 locs1 → W p l e R s m args below meth c H1 locs1 cells slots Q (F0 m (pc + 1) ls rest)) : W p l e R s m args below meth c H locs cells slots Q (F0 m pc ls (.int x :: .int i :: .ref (ad 17) :: rest)) := by
  obtain ⟨g1, rfl⟩ := hi
  exact va_iast (cx_x C) (cx_b C) (cx_k C) hP hD hS 13 3 rfl rfl g1 d kk
theorem xl_18 {i : Int32} {j : Nat} {v : Int32} (C : cx_C p l s m args meth c s0 D cA cc nL ret RX9 A) (hP : va_P D vwCl (mW cA ad P) H) (hi : ix i 8 j) (hv : qI P 18 j = v) (d : decode cc pc = .ok (.iaload, 1)) (kk : W p l e R s m args below meth c H locs cells slots Q (F0 m (pc + 1) ls (.int v :: rest))) : W p l e R s m args below meth c H locs cells slots Q (F0 m pc ls (.int i :: .ref (ad 18) :: rest)) := by
  obtain ⟨g1, rfl⟩ := hi
  subst hv
  exact va_iald (cx_x C) (cx_b C) (cx_k C) hP 14 3 rfl rfl g1 d kk
theorem xs_18 {i : Int32} {j : Nat} {x : Int32} (C : cx_C p l s m args meth c s0 D cA cc nL ret RX9 A) (hP : va_P D vwCl (mW cA ad P) H) (hD : va_D A (mW cA ad P)) (hS : va_S A s.heap H locs) (hi : ix i 8 j) (d : decode cc pc = .ok (.iastore, 1)) (kk : ∀ (H1 : Heap) (locs1 : List Loc), va_P D vwCl (mW cA ad (sI P 18 j (x))) H1 → va_D A (mW cA ad (sI P 18 j (x))) → va_S A s.heap H1 locs1 → W p l e R s m args below meth c H1 locs1 cells slots Q (F0 m (pc + 1) ls rest)) : W p l e R s m args below meth c H locs cells slots Q (F0 m pc ls (.int x :: .int i :: .ref (ad 18) :: rest)) := by
  obtain ⟨g1, rfl⟩ := hi
  exact va_iast (cx_x C) (cx_b C) (cx_k C) hP hD hS 14 3 rfl rfl g1 d kk
theorem xl_19 {i : Int32} {j : Nat} {v : Int32} (C : cx_C p l s m args meth c s0 D cA cc nL ret RX9 A) (hP : va_P D vwCl (mW cA ad P) H) (hi : ix i 8 j) (hv : qI P 19 j = v) (d : decode cc pc = .ok (.iaload, 1)) (kk : W p l e R s m args below meth c H locs cells slots Q (F0 m (pc + 1) ls (.int v :: rest))) : W p l e R s m args below meth c H locs cells slots Q (F0 m pc ls (.int i :: .ref (ad 19) :: rest)) := by
  obtain ⟨g1, rfl⟩ := hi
  subst hv
  exact va_iald (cx_x C) (cx_b C) (cx_k C) hP 15 3 rfl rfl g1 d kk
theorem xs_19 {i : Int32} {j : Nat} {x : Int32} (C : cx_C p l s m args meth c s0 D cA cc nL ret RX9 A) (hP : va_P D vwCl (mW cA ad P) H) (hD : va_D A (mW cA ad P)) (hS : va_S A s.heap H locs) (hi : ix i 8 j) (d : decode cc pc = .ok (.iastore, 1)) (kk : ∀ (H1 : Heap) (locs1 : List Loc), va_P D vwCl (mW cA ad (sI P 19 j (x))) H1 → va_D A (mW cA ad (sI P 19 j (x))) → va_S A s.heap H1 locs1 → W p l e R s m args below meth c H1 locs1 cells slots Q (F0 m (pc + 1) ls rest)) : W p l e R s m args below meth c H locs cells slots Q (F0 m pc ls (.int x :: .int i :: .ref (ad 19) :: rest)) := by
  obtain ⟨g1, rfl⟩ := hi
  exact va_iast (cx_x C) (cx_b C) (cx_k C) hP hD hS 15 3 rfl rfl g1 d kk
theorem xl_20 {i : Int32} {j : Nat} {v : Int32} (C : cx_C p l s m args meth c s0 D cA cc nL ret RX9 A) (hP : va_P D vwCl (mW cA ad P) H) (hi : ix i 8 j) (hv : qI P 20 j = v) (d : decode cc pc = .ok (.iaload, 1)) (kk : W p l e R s m args below meth c H locs cells slots Q (F0 m (pc + 1) ls (.int v :: rest))) : W p l e R s m args below meth c H locs cells slots Q (F0 m pc ls (.int i :: .ref (ad 20) :: rest)) := by
  obtain ⟨g1, rfl⟩ := hi
  subst hv
  exact va_iald (cx_x C) (cx_b C) (cx_k C) hP 16 3 rfl rfl g1 d kk
theorem xs_20 {i : Int32} {j : Nat} {x : Int32} (C : cx_C p l s m args meth c s0 D cA cc nL ret RX9 A) (hP : va_P D vwCl (mW cA ad P) H) (hD : va_D A (mW cA ad P)) (hS : va_S A s.heap H locs) (hi : ix i 8 j) (d : decode cc pc = .ok (.iastore, 1)) (kk : ∀ (H1 : Heap) (locs1 : List Loc), va_P D vwCl (mW cA ad (sI P 20 j (x))) H1 → va_D A (mW cA ad (sI P 20 j (x))) → va_S A s.heap H1 locs1 → W p l e R s m args below meth c H1 locs1 cells slots Q (F0 m (pc + 1) ls rest)) : W p l e R s m args below meth c H locs cells slots Q (F0 m pc ls (.int x :: .int i :: .ref (ad 20) :: rest)) := by
  obtain ⟨g1, rfl⟩ := hi
  exact va_iast (cx_x C) (cx_b C) (cx_k C) hP hD hS 16 3 rfl rfl g1 d kk
theorem xl_21 {i : Int32} {j : Nat} {v : Int32} (C : cx_C p l s m args meth c s0 D cA cc nL ret RX9 A) (hP : va_P D vwCl (mW cA ad P) H) (hi : ix i 2 j) (hv : qI P 21 j = v) (d : decode cc pc = .ok (.iaload, 1)) (kk : W p l e R s m args below meth c H locs cells slots Q (F0 m (pc + 1) ls (.int v :: rest))) : W p l e R s m args below meth c H locs cells slots Q (F0 m pc ls (.int i :: .ref (ad 21) :: rest)) := by
  obtain ⟨g1, rfl⟩ := hi
  subst hv
  exact va_iald (cx_x C) (cx_b C) (cx_k C) hP 17 3 rfl rfl g1 d kk
theorem xs_21 {i : Int32} {j : Nat} {x : Int32} (C : cx_C p l s m args meth c s0 D cA cc nL ret RX9 A) (hP : va_P D vwCl (mW cA ad P) H) (hD : va_D A (mW cA ad P)) (hS : va_S A s.heap H locs) (hi : ix i 2 j) (d : decode cc pc = .ok (.iastore, 1)) (kk : ∀ (H1 : Heap) (locs1 : List Loc), va_P D vwCl (mW cA ad (sI P 21 j (x))) H1 → va_D A (mW cA ad (sI P 21 j (x))) → va_S A s.heap H1 locs1 → W p l e R s m args below meth c H1 locs1 cells slots Q (F0 m (pc + 1) ls rest)) : W p l e R s m args below meth c H locs cells slots Q (F0 m pc ls (.int x :: .int i :: .ref (ad 21) :: rest)) := by
  obtain ⟨g1, rfl⟩ := hi
  exact va_iast (cx_x C) (cx_b C) (cx_k C) hP hD hS 17 3 rfl rfl g1 d kk
theorem xl_22 {i : Int32} {j : Nat} {v : Int64} (C : cx_C p l s m args meth c s0 D cA cc nL ret RX9 A) (hP : va_P D vwCl (mW cA ad P) H) (hi : ix i 8 j) (hv : qJ P 22 j = v) (d : decode cc pc = .ok (.laload, 1)) (kk : W p l e R s m args below meth c H locs cells slots Q (F0 m (pc + 1) ls (.long v :: rest))) : W p l e R s m args below meth c H locs cells slots Q (F0 m pc ls (.int i :: .ref (ad 22) :: rest)) := by
  obtain ⟨g1, rfl⟩ := hi
  subst hv
  exact va_lald (cx_x C) (cx_b C) (cx_k C) hP 18 4 rfl rfl g1 d kk
theorem xs_22 {i : Int32} {j : Nat} {x : Int64} (C : cx_C p l s m args meth c s0 D cA cc nL ret RX9 A) (hP : va_P D vwCl (mW cA ad P) H) (hD : va_D A (mW cA ad P)) (hS : va_S A s.heap H locs) (hi : ix i 8 j) (d : decode cc pc = .ok (.lastore, 1)) (kk : ∀ (H1 : Heap) (locs1 : List Loc), va_P D vwCl (mW cA ad (sJ P 22 j (x))) H1 → va_D A (mW cA ad (sJ P 22 j (x))) → va_S A s.heap H1 locs1 → W p l e R s m args below meth c H1 locs1 cells slots Q (F0 m (pc + 1) ls rest)) : W p l e R s m args below meth c H locs cells slots Q (F0 m pc ls (.long x :: .int i :: .ref (ad 22) :: rest)) := by
  obtain ⟨g1, rfl⟩ := hi
  exact va_last (cx_x C) (cx_b C) (cx_k C) hP hD hS 18 4 rfl rfl g1 d kk
theorem xl_23 {i : Int32} {j : Nat} {v : UInt32} (C : cx_C p l s m args meth c s0 D cA cc nL ret RX9 A) (hP : va_P D vwCl (mW cA ad P) H) (hi : ix i 8 j) (hv : qF P j = v) (d : decode cc pc = .ok (.faload, 1)) (kk : W p l e R s m args below meth c H locs cells slots Q (F0 m (pc + 1) ls (.float v :: rest))) : W p l e R s m args below meth c H locs cells slots Q (F0 m pc ls (.int i :: .ref (ad 23) :: rest)) := by
  obtain ⟨g1, rfl⟩ := hi
  subst hv
  exact va_fald (cx_x C) (cx_b C) (cx_k C) hP 19 2 rfl rfl g1 d kk
theorem xs_23 {i : Int32} {j : Nat} {x : UInt32} (C : cx_C p l s m args meth c s0 D cA cc nL ret RX9 A) (hP : va_P D vwCl (mW cA ad P) H) (hD : va_D A (mW cA ad P)) (hS : va_S A s.heap H locs) (hi : ix i 8 j) (d : decode cc pc = .ok (.fastore, 1)) (kk : ∀ (H1 : Heap) (locs1 : List Loc), va_P D vwCl (mW cA ad (sF P j (x))) H1 → va_D A (mW cA ad (sF P j (x))) → va_S A s.heap H1 locs1 → W p l e R s m args below meth c H1 locs1 cells slots Q (F0 m (pc + 1) ls rest)) : W p l e R s m args below meth c H locs cells slots Q (F0 m pc ls (.float x :: .int i :: .ref (ad 23) :: rest)) := by
  obtain ⟨g1, rfl⟩ := hi
  exact va_fast (cx_x C) (cx_b C) (cx_k C) hP hD hS 19 2 rfl rfl g1 d kk
theorem xl_24 {i : Int32} {j : Nat} {v : UInt64} (C : cx_C p l s m args meth c s0 D cA cc nL ret RX9 A) (hP : va_P D vwCl (mW cA ad P) H) (hi : ix i 8 j) (hv : qD P j = v) (d : decode cc pc = .ok (.daload, 1)) (kk : W p l e R s m args below meth c H locs cells slots Q (F0 m (pc + 1) ls (.double v :: rest))) : W p l e R s m args below meth c H locs cells slots Q (F0 m pc ls (.int i :: .ref (ad 24) :: rest)) := by
  obtain ⟨g1, rfl⟩ := hi
  subst hv
  exact va_dald (cx_x C) (cx_b C) (cx_k C) hP 20 1 rfl rfl g1 d kk
theorem xs_24 {i : Int32} {j : Nat} {x : UInt64} (C : cx_C p l s m args meth c s0 D cA cc nL ret RX9 A) (hP : va_P D vwCl (mW cA ad P) H) (hD : va_D A (mW cA ad P)) (hS : va_S A s.heap H locs) (hi : ix i 8 j) (d : decode cc pc = .ok (.dastore, 1)) (kk : ∀ (H1 : Heap) (locs1 : List Loc), va_P D vwCl (mW cA ad (sD P j (x))) H1 → va_D A (mW cA ad (sD P j (x))) → va_S A s.heap H1 locs1 → W p l e R s m args below meth c H1 locs1 cells slots Q (F0 m (pc + 1) ls rest)) : W p l e R s m args below meth c H locs cells slots Q (F0 m pc ls (.double x :: .int i :: .ref (ad 24) :: rest)) := by
  obtain ⟨g1, rfl⟩ := hi
  exact va_dast (cx_x C) (cx_b C) (cx_k C) hP hD hS 20 1 rfl rfl g1 d kk
theorem xl_25 {i : Int32} {j : Nat} {v : Int32} (C : cx_C p l s m args meth c s0 D cA cc nL ret RX9 A) (hP : va_P D vwCl (mW cA ad P) H) (hi : ix i 8 j) (hv : qI P 25 j = v) (d : decode cc pc = .ok (.iaload, 1)) (kk : W p l e R s m args below meth c H locs cells slots Q (F0 m (pc + 1) ls (.int v :: rest))) : W p l e R s m args below meth c H locs cells slots Q (F0 m pc ls (.int i :: .ref (ad 25) :: rest)) := by
  obtain ⟨g1, rfl⟩ := hi
  subst hv
  exact va_iald (cx_x C) (cx_b C) (cx_k C) hP 21 3 rfl rfl g1 d kk
theorem xs_25 {i : Int32} {j : Nat} {x : Int32} (C : cx_C p l s m args meth c s0 D cA cc nL ret RX9 A) (hP : va_P D vwCl (mW cA ad P) H) (hD : va_D A (mW cA ad P)) (hS : va_S A s.heap H locs) (hi : ix i 8 j) (d : decode cc pc = .ok (.iastore, 1)) (kk : ∀ (H1 : Heap) (locs1 : List Loc), va_P D vwCl (mW cA ad (sI P 25 j (x))) H1 → va_D A (mW cA ad (sI P 25 j (x))) → va_S A s.heap H1 locs1 → W p l e R s m args below meth c H1 locs1 cells slots Q (F0 m (pc + 1) ls rest)) : W p l e R s m args below meth c H locs cells slots Q (F0 m pc ls (.int x :: .int i :: .ref (ad 25) :: rest)) := by
  obtain ⟨g1, rfl⟩ := hi
  exact va_iast (cx_x C) (cx_b C) (cx_k C) hP hD hS 21 3 rfl rfl g1 d kk
theorem xl_26 {i : Int32} {j : Nat} {v : Int32} (C : cx_C p l s m args meth c s0 D cA cc nL ret RX9 A) (hP : va_P D vwCl (mW cA ad P) H) (hi : ix i 3200 j) (hv : qI P 26 j = v) (d : decode cc pc = .ok (.iaload, 1)) (kk : W p l e R s m args below meth c H locs cells slots Q (F0 m (pc + 1) ls (.int v :: rest))) : W p l e R s m args below meth c H locs cells slots Q (F0 m pc ls (.int i :: .ref (ad 26) :: rest)) := by
  obtain ⟨g1, rfl⟩ := hi
  subst hv
  exact va_iald (cx_x C) (cx_b C) (cx_k C) hP 22 3 rfl rfl g1 d kk
theorem xs_26 {i : Int32} {j : Nat} {x : Int32} (C : cx_C p l s m args meth c s0 D cA cc nL ret RX9 A) (hP : va_P D vwCl (mW cA ad P) H) (hD : va_D A (mW cA ad P)) (hS : va_S A s.heap H locs) (hi : ix i 3200 j) (d : decode cc pc = .ok (.iastore, 1)) (kk : ∀ (H1 : Heap) (locs1 : List Loc), va_P D vwCl (mW cA ad (sI P 26 j (x))) H1 → va_D A (mW cA ad (sI P 26 j (x))) → va_S A s.heap H1 locs1 → W p l e R s m args below meth c H1 locs1 cells slots Q (F0 m (pc + 1) ls rest)) : W p l e R s m args below meth c H locs cells slots Q (F0 m pc ls (.int x :: .int i :: .ref (ad 26) :: rest)) := by
  obtain ⟨g1, rfl⟩ := hi
  exact va_iast (cx_x C) (cx_b C) (cx_k C) hP hD hS 22 3 rfl rfl g1 d kk
end MdlRows
/-! contracts of the reference's methods: it answers r and its contents become T -/
theorem pm_nil {ws : va_W} : ws.Perm (ws ++ []) := by rw [List.append_nil]
def MC (l : Launch) (s0 : State) (D : va_G) (cA : Nat → ClassId) (ad : Nat → Nat) (y : MethodName) (b : ByteArray) (mL : Nat) (rt : Option FieldType) (rm : Room) (As : List Value) (P : MS) (r : Option Value) (T : MS) : Prop := Ct l s0 D y (.code y b mL rt :: TB) rm (.ref (ad 0) :: As) (mW cA ad P) (fun v w => v = r ∧ w = mW cA ad T)
section MdlCalls
variable {p : Program} {l : Launch} {e : Env} {R : Room} {s : State} {m : MethodId} {args : Array Value} {below : List Frame} {meth : Method} {c : Code} {H : Heap} {locs : List Loc} {cells slots : Nat} {Q : State → Prop}
variable {s0 : State} {D : va_G} {cA : Nat → ClassId} {cc : ByteArray} {nL : Nat} {ret : Option FieldType} {A : Nat → Prop}
variable {pc : Nat} {ls : Array Slot} {rest : List Value} {ad : Nat → Nat} {P T : MS} {idx mL : Nat} {y : MethodName} {b : ByteArray} {rt : Option FieldType} {rm : Room} {As st : List Value} {r : Option Value}
theorem mc_V (C : cx_C p l s m args meth c s0 D cA cc nL ret RX9 A) (hM : MC l s0 D cA ad y b mL rt rm As P r T) (h1 : Cond.methodLink RX9 idx y ∈ TB) (h2 : Cond.instanceMethod y ∈ TB) (h3 : Cond.selects y.cls y y ∈ TB) (h4 : Cond.initialized y.cls ∈ TB) (h5 : Cond.code y b mL rt ∈ TB) (hy : y.cls = RX9)
    (hd : y.cls = y.cls ∧ y.cls ≠ "java/lang/invoke/MethodHandle" ∧ y.cls ≠ "java/lang/invoke/VarHandle" ∧ (parseMethodDescriptor y.desc).map (fun d => d.parameters.length) = some As.length) (hR : rm.frames + 1 ≤ R.frames ∧ 8 + (mL + 11) + rm.locals ≤ R.locals)
    (hz : ls.size = nL) (hst : st = As.reverse ++ .ref (ad 0) :: rest) (hw : (rest.map fun v => v.category).sum ≤ 8) (d : decode cc pc = .ok (.invokevirtual idx, 3)) (hc : cells + rm.cells ≤ R.cells ∧ slots + rm.slots ≤ R.slots)
    (hP : va_P D vwCl (mW cA ad P) H) (hD : va_D A (mW cA ad P)) (hS : va_S A s.heap H locs)
    (kk : ∀ (H1 : Heap) (locs1 : List Loc), va_P D vwCl (mW cA ad T) H1 → va_D A (mW cA ad T) → va_S A s.heap H1 locs1 → W p l e R s m args below meth c H1 locs1 (cells + rm.cells) (slots + rm.slots) Q (F0 m (pc + 3) ls (r.toList ++ rest))) :
    W p l e R s m args below meth c H locs cells slots Q (F0 m pc ls st) := by
  refine ct_V C hM h1 h2 h3 h4 h5 hd hR (by rw [hy]; exact rcv_9 C (wl := []) (wr := []) (by rw [List.append_nil]; exact hP)) hz hst hw d hc pm_nil hP hD hS (fun v w1 H1 locs1 hq hP1 hD1 hS1 => ?_)
  obtain ⟨rfl, rfl⟩ := hq
  rw [List.append_nil] at hP1 hD1
  exact kk H1 locs1 hP1 hD1 hS1
/-- a static method that looks at no cell -/
theorem ct_S0 {own : String} {ws : va_W} (C : cx_C p l s m args meth c s0 D cA cc nL ret own A) (hM : Ct l s0 D y (.code y b mL rt :: TB) rm As [] (fun v w => v = r ∧ w = [])) (h1 : Cond.methodLink own idx y ∈ TB) (h2 : Cond.static y ∈ TB) (h4 : Cond.initialized y.cls ∈ TB) (h5 : Cond.code y b mL rt ∈ TB)
    (hd : y.cls ≠ "java/lang/invoke/MethodHandle" ∧ y.cls ≠ "java/lang/invoke/VarHandle" ∧ (parseMethodDescriptor y.desc).map (fun d => d.parameters.length) = some As.length) (hR : rm.frames + 1 ≤ R.frames ∧ 8 + (mL + 11) + rm.locals ≤ R.locals)
    (hz : ls.size = nL) (hst : st = As.reverse ++ rest) (hw : (rest.map fun v => v.category).sum ≤ 8) (d : decode cc pc = .ok (.invokestatic idx, 3)) (hc : cells + rm.cells ≤ R.cells ∧ slots + rm.slots ≤ R.slots)
    (hP : va_P D vwCl ws H) (hD : va_D A ws) (hS : va_S A s.heap H locs)
    (kk : ∀ (H1 : Heap) (locs1 : List Loc), va_P D vwCl ws H1 → va_D A ws → va_S A s.heap H1 locs1 → W p l e R s m args below meth c H1 locs1 (cells + rm.cells) (slots + rm.slots) Q (F0 m (pc + 3) ls (r.toList ++ rest))) :
    W p l e R s m args below meth c H locs cells slots Q (F0 m pc ls st) := by
  refine ct_S C hM h1 h2 h4 h5 hd hR hz hst hw d hc (wr := ws) (List.Perm.refl _) hP hD hS (fun v w1 H1 locs1 hq hP1 hD1 hS1 => ?_)
  obtain ⟨rfl, rfl⟩ := hq
  exact kk H1 locs1 hP1 hD1 hS1
theorem qI_s {P : MS} {k j : Nat} {v : Int32} : qI (sI P k j v) k j = v := by simp [qI, sI, va_up, upd]
theorem qJ_s {P : MS} {k j : Nat} {v : Int64} : qJ (sJ P k j v) k j = v := by simp [qJ, sJ, va_up, vp_updL]
theorem qF_s {P : MS} {j : Nat} {v : UInt32} : qF (sF P j v) j = v := by simp [qF, sF, vf_upd]
theorem qD_s {P : MS} {j : Nat} {v : UInt64} : qD (sD P j v) j = v := by simp [qD, sD, vf_upd]
theorem qI_if {P : MS} {k j a b : Nat} {v : Int32} : qI (sI P k j v) a b = if a = k ∧ b = j then v else qI P a b := by
  simp only [qI, sI, va_up, upd]
  by_cases h : a = k
  · subst h; by_cases h2 : b = j <;> simp [h2, upd]
  · simp [h]
theorem qJ_if {P : MS} {k j a b : Nat} {v : Int64} : qJ (sJ P k j v) a b = if a = k ∧ b = j then v else qJ P a b := by
  simp only [qJ, sJ, va_up, vp_updL]
  by_cases h : a = k
  · subst h; by_cases h2 : b = j <;> simp [h2, vp_updL]
  · simp [h]
theorem qS_if {P : MS} {k a : Nat} {v : Int32} : qS (sS P k v) a = if a = k then v else qS P a := rfl
end MdlCalls
end
section
/-! ===== the reference: its small methods ===== -/
theorem hdX0_init : yX0_init.cls = yX0_init.cls ∧ yX0_init.cls ≠ "java/lang/invoke/MethodHandle" ∧ yX0_init.cls ≠ "java/lang/invoke/VarHandle" ∧ (parseMethodDescriptor yX0_init.desc).map (fun d => d.parameters.length) = some 4 := by decide +kernel
theorem hdX0_reached : yX0_reached.cls = yX0_reached.cls ∧ yX0_reached.cls ≠ "java/lang/invoke/MethodHandle" ∧ yX0_reached.cls ≠ "java/lang/invoke/VarHandle" ∧ (parseMethodDescriptor yX0_reached.desc).map (fun d => d.parameters.length) = some 0 := by decide +kernel
theorem hdX0_advance : yX0_advance.cls = yX0_advance.cls ∧ yX0_advance.cls ≠ "java/lang/invoke/MethodHandle" ∧ yX0_advance.cls ≠ "java/lang/invoke/VarHandle" ∧ (parseMethodDescriptor yX0_advance.desc).map (fun d => d.parameters.length) = some 3 := by decide +kernel
theorem hdX0_goThrough : yX0_goThrough.cls = yX0_goThrough.cls ∧ yX0_goThrough.cls ≠ "java/lang/invoke/MethodHandle" ∧ yX0_goThrough.cls ≠ "java/lang/invoke/VarHandle" ∧ (parseMethodDescriptor yX0_goThrough.desc).map (fun d => d.parameters.length) = some 3 := by decide +kernel
theorem hdX0_share : yX0_share.cls = yX0_share.cls ∧ yX0_share.cls ≠ "java/lang/invoke/MethodHandle" ∧ yX0_share.cls ≠ "java/lang/invoke/VarHandle" ∧ (parseMethodDescriptor yX0_share.desc).map (fun d => d.parameters.length) = some 4 := by decide +kernel
theorem hdX0_passes : yX0_passes.cls = yX0_passes.cls ∧ yX0_passes.cls ≠ "java/lang/invoke/MethodHandle" ∧ yX0_passes.cls ≠ "java/lang/invoke/VarHandle" ∧ (parseMethodDescriptor yX0_passes.desc).map (fun d => d.parameters.length) = some 2 := by decide +kernel
theorem hdX0_throwsAgain : yX0_throwsAgain.cls = yX0_throwsAgain.cls ∧ yX0_throwsAgain.cls ≠ "java/lang/invoke/MethodHandle" ∧ yX0_throwsAgain.cls ≠ "java/lang/invoke/VarHandle" ∧ (parseMethodDescriptor yX0_throwsAgain.desc).map (fun d => d.parameters.length) = some 1 := by decide +kernel
theorem hdX0_startBatch : yX0_startBatch.cls = yX0_startBatch.cls ∧ yX0_startBatch.cls ≠ "java/lang/invoke/MethodHandle" ∧ yX0_startBatch.cls ≠ "java/lang/invoke/VarHandle" ∧ (parseMethodDescriptor yX0_startBatch.desc).map (fun d => d.parameters.length) = some 0 := by decide +kernel
theorem hdX0_returnToStart : yX0_returnToStart.cls = yX0_returnToStart.cls ∧ yX0_returnToStart.cls ≠ "java/lang/invoke/MethodHandle" ∧ yX0_returnToStart.cls ≠ "java/lang/invoke/VarHandle" ∧ (parseMethodDescriptor yX0_returnToStart.desc).map (fun d => d.parameters.length) = some 0 := by decide +kernel
theorem hdX1_init : yX1_init.cls = yX1_init.cls ∧ yX1_init.cls ≠ "java/lang/invoke/MethodHandle" ∧ yX1_init.cls ≠ "java/lang/invoke/VarHandle" ∧ (parseMethodDescriptor yX1_init.desc).map (fun d => d.parameters.length) = some 0 := by decide +kernel
theorem hdX1_amount : yX1_amount.cls = yX1_amount.cls ∧ yX1_amount.cls ≠ "java/lang/invoke/MethodHandle" ∧ yX1_amount.cls ≠ "java/lang/invoke/VarHandle" ∧ (parseMethodDescriptor yX1_amount.desc).map (fun d => d.parameters.length) = some 0 := by decide +kernel
theorem hdX2_init : yX2_init.cls = yX2_init.cls ∧ yX2_init.cls ≠ "java/lang/invoke/MethodHandle" ∧ yX2_init.cls ≠ "java/lang/invoke/VarHandle" ∧ (parseMethodDescriptor yX2_init.desc).map (fun d => d.parameters.length) = some 0 := by decide +kernel
theorem hdX2_handles : yX2_handles.cls = yX2_handles.cls ∧ yX2_handles.cls ≠ "java/lang/invoke/MethodHandle" ∧ yX2_handles.cls ≠ "java/lang/invoke/VarHandle" ∧ (parseMethodDescriptor yX2_handles.desc).map (fun d => d.parameters.length) = some 3 := by decide +kernel
theorem hdX2_keep : yX2_keep.cls = yX2_keep.cls ∧ yX2_keep.cls ≠ "java/lang/invoke/MethodHandle" ∧ yX2_keep.cls ≠ "java/lang/invoke/VarHandle" ∧ (parseMethodDescriptor yX2_keep.desc).map (fun d => d.parameters.length) = some 0 := by decide +kernel
theorem hdX2_restore : yX2_restore.cls = yX2_restore.cls ∧ yX2_restore.cls ≠ "java/lang/invoke/MethodHandle" ∧ yX2_restore.cls ≠ "java/lang/invoke/VarHandle" ∧ (parseMethodDescriptor yX2_restore.desc).map (fun d => d.parameters.length) = some 0 := by decide +kernel
theorem hdX2_amount : yX2_amount.cls = yX2_amount.cls ∧ yX2_amount.cls ≠ "java/lang/invoke/MethodHandle" ∧ yX2_amount.cls ≠ "java/lang/invoke/VarHandle" ∧ (parseMethodDescriptor yX2_amount.desc).map (fun d => d.parameters.length) = some 0 := by decide +kernel
theorem hdX2_byteAt : yX2_byteAt.cls = yX2_byteAt.cls ∧ yX2_byteAt.cls ≠ "java/lang/invoke/MethodHandle" ∧ yX2_byteAt.cls ≠ "java/lang/invoke/VarHandle" ∧ (parseMethodDescriptor yX2_byteAt.desc).map (fun d => d.parameters.length) = some 1 := by decide +kernel
theorem hdX2_soundRecords : yX2_soundRecords.cls = yX2_soundRecords.cls ∧ yX2_soundRecords.cls ≠ "java/lang/invoke/MethodHandle" ∧ yX2_soundRecords.cls ≠ "java/lang/invoke/VarHandle" ∧ (parseMethodDescriptor yX2_soundRecords.desc).map (fun d => d.parameters.length) = some 0 := by decide +kernel
theorem hdX2_sumOfFirst : yX2_sumOfFirst.cls = yX2_sumOfFirst.cls ∧ yX2_sumOfFirst.cls ≠ "java/lang/invoke/MethodHandle" ∧ yX2_sumOfFirst.cls ≠ "java/lang/invoke/VarHandle" ∧ (parseMethodDescriptor yX2_sumOfFirst.desc).map (fun d => d.parameters.length) = some 1 := by decide +kernel
theorem hdX2_append : yX2_append.cls = yX2_append.cls ∧ yX2_append.cls ≠ "java/lang/invoke/MethodHandle" ∧ yX2_append.cls ≠ "java/lang/invoke/VarHandle" ∧ (parseMethodDescriptor yX2_append.desc).map (fun d => d.parameters.length) = some 1 := by decide +kernel
theorem hdX2_isSoundAt : yX2_isSoundAt.cls = yX2_isSoundAt.cls ∧ yX2_isSoundAt.cls ≠ "java/lang/invoke/MethodHandle" ∧ yX2_isSoundAt.cls ≠ "java/lang/invoke/VarHandle" ∧ (parseMethodDescriptor yX2_isSoundAt.desc).map (fun d => d.parameters.length) = some 1 := by decide +kernel
theorem hdX2_sumOfRecordAt : yX2_sumOfRecordAt.cls = yX2_sumOfRecordAt.cls ∧ yX2_sumOfRecordAt.cls ≠ "java/lang/invoke/MethodHandle" ∧ yX2_sumOfRecordAt.cls ≠ "java/lang/invoke/VarHandle" ∧ (parseMethodDescriptor yX2_sumOfRecordAt.desc).map (fun d => d.parameters.length) = some 1 := by decide +kernel
theorem hdX2_valueAt : yX2_valueAt.cls = yX2_valueAt.cls ∧ yX2_valueAt.cls ≠ "java/lang/invoke/MethodHandle" ∧ yX2_valueAt.cls ≠ "java/lang/invoke/VarHandle" ∧ (parseMethodDescriptor yX2_valueAt.desc).map (fun d => d.parameters.length) = some 1 := by decide +kernel
theorem hdX3_init : yX3_init.cls = yX3_init.cls ∧ yX3_init.cls ≠ "java/lang/invoke/MethodHandle" ∧ yX3_init.cls ≠ "java/lang/invoke/VarHandle" ∧ (parseMethodDescriptor yX3_init.desc).map (fun d => d.parameters.length) = some 0 := by decide +kernel
theorem hdX3_handles : yX3_handles.cls = yX3_handles.cls ∧ yX3_handles.cls ≠ "java/lang/invoke/MethodHandle" ∧ yX3_handles.cls ≠ "java/lang/invoke/VarHandle" ∧ (parseMethodDescriptor yX3_handles.desc).map (fun d => d.parameters.length) = some 3 := by decide +kernel
theorem hdX3_keep : yX3_keep.cls = yX3_keep.cls ∧ yX3_keep.cls ≠ "java/lang/invoke/MethodHandle" ∧ yX3_keep.cls ≠ "java/lang/invoke/VarHandle" ∧ (parseMethodDescriptor yX3_keep.desc).map (fun d => d.parameters.length) = some 0 := by decide +kernel
theorem hdX3_restore : yX3_restore.cls = yX3_restore.cls ∧ yX3_restore.cls ≠ "java/lang/invoke/MethodHandle" ∧ yX3_restore.cls ≠ "java/lang/invoke/VarHandle" ∧ (parseMethodDescriptor yX3_restore.desc).map (fun d => d.parameters.length) = some 0 := by decide +kernel
theorem hdX4_init : yX4_init.cls = yX4_init.cls ∧ yX4_init.cls ≠ "java/lang/invoke/MethodHandle" ∧ yX4_init.cls ≠ "java/lang/invoke/VarHandle" ∧ (parseMethodDescriptor yX4_init.desc).map (fun d => d.parameters.length) = some 1 := by decide +kernel
theorem hdX4_add : yX4_add.cls = yX4_add.cls ∧ yX4_add.cls ≠ "java/lang/invoke/MethodHandle" ∧ yX4_add.cls ≠ "java/lang/invoke/VarHandle" ∧ (parseMethodDescriptor yX4_add.desc).map (fun d => d.parameters.length) = some 1 := by decide +kernel
theorem hdX4_takeNext : yX4_takeNext.cls = yX4_takeNext.cls ∧ yX4_takeNext.cls ≠ "java/lang/invoke/MethodHandle" ∧ yX4_takeNext.cls ≠ "java/lang/invoke/VarHandle" ∧ (parseMethodDescriptor yX4_takeNext.desc).map (fun d => d.parameters.length) = some 0 := by decide +kernel
theorem hdX4_reached : yX4_reached.cls = yX4_reached.cls ∧ yX4_reached.cls ≠ "java/lang/invoke/MethodHandle" ∧ yX4_reached.cls ≠ "java/lang/invoke/VarHandle" ∧ (parseMethodDescriptor yX4_reached.desc).map (fun d => d.parameters.length) = some 0 := by decide +kernel
theorem hdX5_init : yX5_init.cls = yX5_init.cls ∧ yX5_init.cls ≠ "java/lang/invoke/MethodHandle" ∧ yX5_init.cls ≠ "java/lang/invoke/VarHandle" ∧ (parseMethodDescriptor yX5_init.desc).map (fun d => d.parameters.length) = some 1 := by decide +kernel
theorem hdX5_slots : yX5_slots.cls = yX5_slots.cls ∧ yX5_slots.cls ≠ "java/lang/invoke/MethodHandle" ∧ yX5_slots.cls ≠ "java/lang/invoke/VarHandle" ∧ (parseMethodDescriptor yX5_slots.desc).map (fun d => d.parameters.length) = some 0 := by decide +kernel
theorem hdX5_slotOf : yX5_slotOf.cls = yX5_slotOf.cls ∧ yX5_slotOf.cls ≠ "java/lang/invoke/MethodHandle" ∧ yX5_slotOf.cls ≠ "java/lang/invoke/VarHandle" ∧ (parseMethodDescriptor yX5_slotOf.desc).map (fun d => d.parameters.length) = some 1 := by decide +kernel
theorem hdX5_reserve : yX5_reserve.cls = yX5_reserve.cls ∧ yX5_reserve.cls ≠ "java/lang/invoke/MethodHandle" ∧ yX5_reserve.cls ≠ "java/lang/invoke/VarHandle" ∧ (parseMethodDescriptor yX5_reserve.desc).map (fun d => d.parameters.length) = some 2 := by decide +kernel
theorem hdX5_isOpen : yX5_isOpen.cls = yX5_isOpen.cls ∧ yX5_isOpen.cls ≠ "java/lang/invoke/MethodHandle" ∧ yX5_isOpen.cls ≠ "java/lang/invoke/VarHandle" ∧ (parseMethodDescriptor yX5_isOpen.desc).map (fun d => d.parameters.length) = some 2 := by decide +kernel
theorem hdX5_write : yX5_write.cls = yX5_write.cls ∧ yX5_write.cls ≠ "java/lang/invoke/MethodHandle" ∧ yX5_write.cls ≠ "java/lang/invoke/VarHandle" ∧ (parseMethodDescriptor yX5_write.desc).map (fun d => d.parameters.length) = some 2 := by decide +kernel
theorem hdX5_publishedInSlotOf : yX5_publishedInSlotOf.cls = yX5_publishedInSlotOf.cls ∧ yX5_publishedInSlotOf.cls ≠ "java/lang/invoke/MethodHandle" ∧ yX5_publishedInSlotOf.cls ≠ "java/lang/invoke/VarHandle" ∧ (parseMethodDescriptor yX5_publishedInSlotOf.desc).map (fun d => d.parameters.length) = some 1 := by decide +kernel
theorem hdX5_valueOf : yX5_valueOf.cls = yX5_valueOf.cls ∧ yX5_valueOf.cls ≠ "java/lang/invoke/MethodHandle" ∧ yX5_valueOf.cls ≠ "java/lang/invoke/VarHandle" ∧ (parseMethodDescriptor yX5_valueOf.desc).map (fun d => d.parameters.length) = some 1 := by decide +kernel
theorem hdX5_producerOf : yX5_producerOf.cls = yX5_producerOf.cls ∧ yX5_producerOf.cls ≠ "java/lang/invoke/MethodHandle" ∧ yX5_producerOf.cls ≠ "java/lang/invoke/VarHandle" ∧ (parseMethodDescriptor yX5_producerOf.desc).map (fun d => d.parameters.length) = some 1 := by decide +kernel
theorem hdX6_init : yX6_init.cls = yX6_init.cls ∧ yX6_init.cls ≠ "java/lang/invoke/MethodHandle" ∧ yX6_init.cls ≠ "java/lang/invoke/VarHandle" ∧ (parseMethodDescriptor yX6_init.desc).map (fun d => d.parameters.length) = some 0 := by decide +kernel
theorem hdX6_handles : yX6_handles.cls = yX6_handles.cls ∧ yX6_handles.cls ≠ "java/lang/invoke/MethodHandle" ∧ yX6_handles.cls ≠ "java/lang/invoke/VarHandle" ∧ (parseMethodDescriptor yX6_handles.desc).map (fun d => d.parameters.length) = some 3 := by decide +kernel
theorem hdX6_keep : yX6_keep.cls = yX6_keep.cls ∧ yX6_keep.cls ≠ "java/lang/invoke/MethodHandle" ∧ yX6_keep.cls ≠ "java/lang/invoke/VarHandle" ∧ (parseMethodDescriptor yX6_keep.desc).map (fun d => d.parameters.length) = some 0 := by decide +kernel
theorem hdX6_restore : yX6_restore.cls = yX6_restore.cls ∧ yX6_restore.cls ≠ "java/lang/invoke/MethodHandle" ∧ yX6_restore.cls ≠ "java/lang/invoke/VarHandle" ∧ (parseMethodDescriptor yX6_restore.desc).map (fun d => d.parameters.length) = some 0 := by decide +kernel
theorem hdX7_init : yX7_init.cls = yX7_init.cls ∧ yX7_init.cls ≠ "java/lang/invoke/MethodHandle" ∧ yX7_init.cls ≠ "java/lang/invoke/VarHandle" ∧ (parseMethodDescriptor yX7_init.desc).map (fun d => d.parameters.length) = some 0 := by decide +kernel
theorem hdX7_handles : yX7_handles.cls = yX7_handles.cls ∧ yX7_handles.cls ≠ "java/lang/invoke/MethodHandle" ∧ yX7_handles.cls ≠ "java/lang/invoke/VarHandle" ∧ (parseMethodDescriptor yX7_handles.desc).map (fun d => d.parameters.length) = some 3 := by decide +kernel
theorem hdX7_keep : yX7_keep.cls = yX7_keep.cls ∧ yX7_keep.cls ≠ "java/lang/invoke/MethodHandle" ∧ yX7_keep.cls ≠ "java/lang/invoke/VarHandle" ∧ (parseMethodDescriptor yX7_keep.desc).map (fun d => d.parameters.length) = some 0 := by decide +kernel
theorem hdX7_restore : yX7_restore.cls = yX7_restore.cls ∧ yX7_restore.cls ≠ "java/lang/invoke/MethodHandle" ∧ yX7_restore.cls ≠ "java/lang/invoke/VarHandle" ∧ (parseMethodDescriptor yX7_restore.desc).map (fun d => d.parameters.length) = some 0 := by decide +kernel
theorem hdX7_amount : yX7_amount.cls = yX7_amount.cls ∧ yX7_amount.cls ≠ "java/lang/invoke/MethodHandle" ∧ yX7_amount.cls ≠ "java/lang/invoke/VarHandle" ∧ (parseMethodDescriptor yX7_amount.desc).map (fun d => d.parameters.length) = some 0 := by decide +kernel
theorem hdX8_init : yX8_init.cls = yX8_init.cls ∧ yX8_init.cls ≠ "java/lang/invoke/MethodHandle" ∧ yX8_init.cls ≠ "java/lang/invoke/VarHandle" ∧ (parseMethodDescriptor yX8_init.desc).map (fun d => d.parameters.length) = some 1 := by decide +kernel
theorem hdX8_consumer : yX8_consumer.cls = yX8_consumer.cls ∧ yX8_consumer.cls ≠ "java/lang/invoke/MethodHandle" ∧ yX8_consumer.cls ≠ "java/lang/invoke/VarHandle" ∧ (parseMethodDescriptor yX8_consumer.desc).map (fun d => d.parameters.length) = some 4 := by decide +kernel
theorem hdX8_claim : yX8_claim.cls = yX8_claim.cls ∧ yX8_claim.cls ≠ "java/lang/invoke/MethodHandle" ∧ yX8_claim.cls ≠ "java/lang/invoke/VarHandle" ∧ (parseMethodDescriptor yX8_claim.desc).map (fun d => d.parameters.length) = some 2 := by decide +kernel
theorem hdX8_publish : yX8_publish.cls = yX8_publish.cls ∧ yX8_publish.cls ≠ "java/lang/invoke/MethodHandle" ∧ yX8_publish.cls ≠ "java/lang/invoke/VarHandle" ∧ (parseMethodDescriptor yX8_publish.desc).map (fun d => d.parameters.length) = some 3 := by decide +kernel
theorem hdX8_run : yX8_run.cls = yX8_run.cls ∧ yX8_run.cls ≠ "java/lang/invoke/MethodHandle" ∧ yX8_run.cls ≠ "java/lang/invoke/VarHandle" ∧ (parseMethodDescriptor yX8_run.desc).map (fun d => d.parameters.length) = some 2 := by decide +kernel
theorem hdX8_place : yX8_place.cls = yX8_place.cls ∧ yX8_place.cls ≠ "java/lang/invoke/MethodHandle" ∧ yX8_place.cls ≠ "java/lang/invoke/VarHandle" ∧ (parseMethodDescriptor yX8_place.desc).map (fun d => d.parameters.length) = some 1 := by decide +kernel
theorem hdX8_total : yX8_total.cls = yX8_total.cls ∧ yX8_total.cls ≠ "java/lang/invoke/MethodHandle" ∧ yX8_total.cls ≠ "java/lang/invoke/VarHandle" ∧ (parseMethodDescriptor yX8_total.desc).map (fun d => d.parameters.length) = some 1 := by decide +kernel
theorem hdX8_level : yX8_level.cls = yX8_level.cls ∧ yX8_level.cls ≠ "java/lang/invoke/MethodHandle" ∧ yX8_level.cls ≠ "java/lang/invoke/VarHandle" ∧ (parseMethodDescriptor yX8_level.desc).map (fun d => d.parameters.length) = some 1 := by decide +kernel
theorem hdX8_mean : yX8_mean.cls = yX8_mean.cls ∧ yX8_mean.cls ≠ "java/lang/invoke/MethodHandle" ∧ yX8_mean.cls ≠ "java/lang/invoke/VarHandle" ∧ (parseMethodDescriptor yX8_mean.desc).map (fun d => d.parameters.length) = some 1 := by decide +kernel
theorem hdX8_octet : yX8_octet.cls = yX8_octet.cls ∧ yX8_octet.cls ≠ "java/lang/invoke/MethodHandle" ∧ yX8_octet.cls ≠ "java/lang/invoke/VarHandle" ∧ (parseMethodDescriptor yX8_octet.desc).map (fun d => d.parameters.length) = some 2 := by decide +kernel
theorem hdX8_tear : yX8_tear.cls = yX8_tear.cls ∧ yX8_tear.cls ≠ "java/lang/invoke/MethodHandle" ∧ yX8_tear.cls ≠ "java/lang/invoke/VarHandle" ∧ (parseMethodDescriptor yX8_tear.desc).map (fun d => d.parameters.length) = some 2 := by decide +kernel
theorem hdX8_replay : yX8_replay.cls = yX8_replay.cls ∧ yX8_replay.cls ≠ "java/lang/invoke/MethodHandle" ∧ yX8_replay.cls ≠ "java/lang/invoke/VarHandle" ∧ (parseMethodDescriptor yX8_replay.desc).map (fun d => d.parameters.length) = some 1 := by decide +kernel
theorem hdX8_replayed : yX8_replayed.cls = yX8_replayed.cls ∧ yX8_replayed.cls ≠ "java/lang/invoke/MethodHandle" ∧ yX8_replayed.cls ≠ "java/lang/invoke/VarHandle" ∧ (parseMethodDescriptor yX8_replayed.desc).map (fun d => d.parameters.length) = some 0 := by decide +kernel
theorem hdX8_count : yX8_count.cls = yX8_count.cls ∧ yX8_count.cls ≠ "java/lang/invoke/MethodHandle" ∧ yX8_count.cls ≠ "java/lang/invoke/VarHandle" ∧ (parseMethodDescriptor yX8_count.desc).map (fun d => d.parameters.length) = some 2 := by decide +kernel
theorem hdX8_state : yX8_state.cls = yX8_state.cls ∧ yX8_state.cls ≠ "java/lang/invoke/MethodHandle" ∧ yX8_state.cls ≠ "java/lang/invoke/VarHandle" ∧ (parseMethodDescriptor yX8_state.desc).map (fun d => d.parameters.length) = some 2 := by decide +kernel
theorem hdX8_isWithin : yX8_isWithin.cls = yX8_isWithin.cls ∧ yX8_isWithin.cls ≠ "java/lang/invoke/MethodHandle" ∧ yX8_isWithin.cls ≠ "java/lang/invoke/VarHandle" ∧ (parseMethodDescriptor yX8_isWithin.desc).map (fun d => d.parameters.length) = some 3 := by decide +kernel
theorem hdX8_existing : yX8_existing.cls = yX8_existing.cls ∧ yX8_existing.cls ≠ "java/lang/invoke/MethodHandle" ∧ yX8_existing.cls ≠ "java/lang/invoke/VarHandle" ∧ (parseMethodDescriptor yX8_existing.desc).map (fun d => d.parameters.length) = some 1 := by decide +kernel
theorem hdX8_journalOf : yX8_journalOf.cls = yX8_journalOf.cls ∧ yX8_journalOf.cls ≠ "java/lang/invoke/MethodHandle" ∧ yX8_journalOf.cls ≠ "java/lang/invoke/VarHandle" ∧ (parseMethodDescriptor yX8_journalOf.desc).map (fun d => d.parameters.length) = some 1 := by decide +kernel
theorem hdX8_mayJoin : yX8_mayJoin.cls = yX8_mayJoin.cls ∧ yX8_mayJoin.cls ≠ "java/lang/invoke/MethodHandle" ∧ yX8_mayJoin.cls ≠ "java/lang/invoke/VarHandle" ∧ (parseMethodDescriptor yX8_mayJoin.desc).map (fun d => d.parameters.length) = some 3 := by decide +kernel
theorem hdX8_poolToJoin : yX8_poolToJoin.cls = yX8_poolToJoin.cls ∧ yX8_poolToJoin.cls ≠ "java/lang/invoke/MethodHandle" ∧ yX8_poolToJoin.cls ≠ "java/lang/invoke/VarHandle" ∧ (parseMethodDescriptor yX8_poolToJoin.desc).map (fun d => d.parameters.length) = some 2 := by decide +kernel
theorem hdX8_add : yX8_add.cls = yX8_add.cls ∧ yX8_add.cls ≠ "java/lang/invoke/MethodHandle" ∧ yX8_add.cls ≠ "java/lang/invoke/VarHandle" ∧ (parseMethodDescriptor yX8_add.desc).map (fun d => d.parameters.length) = some 1 := by decide +kernel
theorem hdX8_newHandler : yX8_newHandler.cls = yX8_newHandler.cls ∧ yX8_newHandler.cls ≠ "java/lang/invoke/MethodHandle" ∧ yX8_newHandler.cls ≠ "java/lang/invoke/VarHandle" ∧ (parseMethodDescriptor yX8_newHandler.desc).map (fun d => d.parameters.length) = some 1 := by decide +kernel
theorem hdX8_lastInLine : yX8_lastInLine.cls = yX8_lastInLine.cls ∧ yX8_lastInLine.cls ≠ "java/lang/invoke/MethodHandle" ∧ yX8_lastInLine.cls ≠ "java/lang/invoke/VarHandle" ∧ (parseMethodDescriptor yX8_lastInLine.desc).map (fun d => d.parameters.length) = some 0 := by decide +kernel
theorem hdX8_leastPlace : yX8_leastPlace.cls = yX8_leastPlace.cls ∧ yX8_leastPlace.cls ≠ "java/lang/invoke/MethodHandle" ∧ yX8_leastPlace.cls ≠ "java/lang/invoke/VarHandle" ∧ (parseMethodDescriptor yX8_leastPlace.desc).map (fun d => d.parameters.length) = some 1 := by decide +kernel
theorem hdX9_init : yX9_init.cls = yX9_init.cls ∧ yX9_init.cls ≠ "java/lang/invoke/MethodHandle" ∧ yX9_init.cls ≠ "java/lang/invoke/VarHandle" ∧ (parseMethodDescriptor yX9_init.desc).map (fun d => d.parameters.length) = some 1 := by decide +kernel
theorem hdX9_thrown : yX9_thrown.cls = yX9_thrown.cls ∧ yX9_thrown.cls ≠ "java/lang/invoke/MethodHandle" ∧ yX9_thrown.cls ≠ "java/lang/invoke/VarHandle" ∧ (parseMethodDescriptor yX9_thrown.desc).map (fun d => d.parameters.length) = some 0 := by decide +kernel
theorem hdX9_fail : yX9_fail.cls = yX9_fail.cls ∧ yX9_fail.cls ≠ "java/lang/invoke/MethodHandle" ∧ yX9_fail.cls ≠ "java/lang/invoke/VarHandle" ∧ (parseMethodDescriptor yX9_fail.desc).map (fun d => d.parameters.length) = some 1 := by decide +kernel
theorem hdX9_within : yX9_within.cls = yX9_within.cls ∧ yX9_within.cls ≠ "java/lang/invoke/MethodHandle" ∧ yX9_within.cls ≠ "java/lang/invoke/VarHandle" ∧ (parseMethodDescriptor yX9_within.desc).map (fun d => d.parameters.length) = some 3 := by decide +kernel
theorem hdX9_firstOf : yX9_firstOf.cls = yX9_firstOf.cls ∧ yX9_firstOf.cls ≠ "java/lang/invoke/MethodHandle" ∧ yX9_firstOf.cls ≠ "java/lang/invoke/VarHandle" ∧ (parseMethodDescriptor yX9_firstOf.desc).map (fun d => d.parameters.length) = some 1 := by decide +kernel
theorem hdX9_consumer : yX9_consumer.cls = yX9_consumer.cls ∧ yX9_consumer.cls ≠ "java/lang/invoke/MethodHandle" ∧ yX9_consumer.cls ≠ "java/lang/invoke/VarHandle" ∧ (parseMethodDescriptor yX9_consumer.desc).map (fun d => d.parameters.length) = some 4 := by decide +kernel
theorem hdX9_placeOf : yX9_placeOf.cls = yX9_placeOf.cls ∧ yX9_placeOf.cls ≠ "java/lang/invoke/MethodHandle" ∧ yX9_placeOf.cls ≠ "java/lang/invoke/VarHandle" ∧ (parseMethodDescriptor yX9_placeOf.desc).map (fun d => d.parameters.length) = some 1 := by decide +kernel
theorem hdX9_bound : yX9_bound.cls = yX9_bound.cls ∧ yX9_bound.cls ≠ "java/lang/invoke/MethodHandle" ∧ yX9_bound.cls ≠ "java/lang/invoke/VarHandle" ∧ (parseMethodDescriptor yX9_bound.desc).map (fun d => d.parameters.length) = some 1 := by decide +kernel
theorem hdX9_claim : yX9_claim.cls = yX9_claim.cls ∧ yX9_claim.cls ≠ "java/lang/invoke/MethodHandle" ∧ yX9_claim.cls ≠ "java/lang/invoke/VarHandle" ∧ (parseMethodDescriptor yX9_claim.desc).map (fun d => d.parameters.length) = some 2 := by decide +kernel
theorem hdX9_publish : yX9_publish.cls = yX9_publish.cls ∧ yX9_publish.cls ≠ "java/lang/invoke/MethodHandle" ∧ yX9_publish.cls ≠ "java/lang/invoke/VarHandle" ∧ (parseMethodDescriptor yX9_publish.desc).map (fun d => d.parameters.length) = some 3 := by decide +kernel
theorem hdX9_put : yX9_put.cls = yX9_put.cls ∧ yX9_put.cls ≠ "java/lang/invoke/MethodHandle" ∧ yX9_put.cls ≠ "java/lang/invoke/VarHandle" ∧ (parseMethodDescriptor yX9_put.desc).map (fun d => d.parameters.length) = some 2 := by decide +kernel
theorem hdX9_record : yX9_record.cls = yX9_record.cls ∧ yX9_record.cls ≠ "java/lang/invoke/MethodHandle" ∧ yX9_record.cls ≠ "java/lang/invoke/VarHandle" ∧ (parseMethodDescriptor yX9_record.desc).map (fun d => d.parameters.length) = some 2 := by decide +kernel
theorem hdX9_handles : yX9_handles.cls = yX9_handles.cls ∧ yX9_handles.cls ≠ "java/lang/invoke/MethodHandle" ∧ yX9_handles.cls ≠ "java/lang/invoke/VarHandle" ∧ (parseMethodDescriptor yX9_handles.desc).map (fun d => d.parameters.length) = some 2 := by decide +kernel
theorem hdX9_answer : yX9_answer.cls = yX9_answer.cls ∧ yX9_answer.cls ≠ "java/lang/invoke/MethodHandle" ∧ yX9_answer.cls ≠ "java/lang/invoke/VarHandle" ∧ (parseMethodDescriptor yX9_answer.desc).map (fun d => d.parameters.length) = some 2 := by decide +kernel
theorem hdX9_batch : yX9_batch.cls = yX9_batch.cls ∧ yX9_batch.cls ≠ "java/lang/invoke/MethodHandle" ∧ yX9_batch.cls ≠ "java/lang/invoke/VarHandle" ∧ (parseMethodDescriptor yX9_batch.desc).map (fun d => d.parameters.length) = some 2 := by decide +kernel
theorem hdX9_work : yX9_work.cls = yX9_work.cls ∧ yX9_work.cls ≠ "java/lang/invoke/MethodHandle" ∧ yX9_work.cls ≠ "java/lang/invoke/VarHandle" ∧ (parseMethodDescriptor yX9_work.desc).map (fun d => d.parameters.length) = some 2 := by decide +kernel
theorem hdX9_none : yX9_none.cls = yX9_none.cls ∧ yX9_none.cls ≠ "java/lang/invoke/MethodHandle" ∧ yX9_none.cls ≠ "java/lang/invoke/VarHandle" ∧ (parseMethodDescriptor yX9_none.desc).map (fun d => d.parameters.length) = some 1 := by decide +kernel
theorem hdX9_run : yX9_run.cls = yX9_run.cls ∧ yX9_run.cls ≠ "java/lang/invoke/MethodHandle" ∧ yX9_run.cls ≠ "java/lang/invoke/VarHandle" ∧ (parseMethodDescriptor yX9_run.desc).map (fun d => d.parameters.length) = some 2 := by decide +kernel
theorem hdX9_place : yX9_place.cls = yX9_place.cls ∧ yX9_place.cls ≠ "java/lang/invoke/MethodHandle" ∧ yX9_place.cls ≠ "java/lang/invoke/VarHandle" ∧ (parseMethodDescriptor yX9_place.desc).map (fun d => d.parameters.length) = some 1 := by decide +kernel
theorem hdX9_total : yX9_total.cls = yX9_total.cls ∧ yX9_total.cls ≠ "java/lang/invoke/MethodHandle" ∧ yX9_total.cls ≠ "java/lang/invoke/VarHandle" ∧ (parseMethodDescriptor yX9_total.desc).map (fun d => d.parameters.length) = some 1 := by decide +kernel
theorem hdX9_level : yX9_level.cls = yX9_level.cls ∧ yX9_level.cls ≠ "java/lang/invoke/MethodHandle" ∧ yX9_level.cls ≠ "java/lang/invoke/VarHandle" ∧ (parseMethodDescriptor yX9_level.desc).map (fun d => d.parameters.length) = some 1 := by decide +kernel
theorem hdX9_mean : yX9_mean.cls = yX9_mean.cls ∧ yX9_mean.cls ≠ "java/lang/invoke/MethodHandle" ∧ yX9_mean.cls ≠ "java/lang/invoke/VarHandle" ∧ (parseMethodDescriptor yX9_mean.desc).map (fun d => d.parameters.length) = some 1 := by decide +kernel
theorem hdX9_noJournal : yX9_noJournal.cls = yX9_noJournal.cls ∧ yX9_noJournal.cls ≠ "java/lang/invoke/MethodHandle" ∧ yX9_noJournal.cls ≠ "java/lang/invoke/VarHandle" ∧ (parseMethodDescriptor yX9_noJournal.desc).map (fun d => d.parameters.length) = some 1 := by decide +kernel
theorem hdX9_octet : yX9_octet.cls = yX9_octet.cls ∧ yX9_octet.cls ≠ "java/lang/invoke/MethodHandle" ∧ yX9_octet.cls ≠ "java/lang/invoke/VarHandle" ∧ (parseMethodDescriptor yX9_octet.desc).map (fun d => d.parameters.length) = some 2 := by decide +kernel
theorem hdX9_tear : yX9_tear.cls = yX9_tear.cls ∧ yX9_tear.cls ≠ "java/lang/invoke/MethodHandle" ∧ yX9_tear.cls ≠ "java/lang/invoke/VarHandle" ∧ (parseMethodDescriptor yX9_tear.desc).map (fun d => d.parameters.length) = some 2 := by decide +kernel
theorem hdX9_whole : yX9_whole.cls = yX9_whole.cls ∧ yX9_whole.cls ≠ "java/lang/invoke/MethodHandle" ∧ yX9_whole.cls ≠ "java/lang/invoke/VarHandle" ∧ (parseMethodDescriptor yX9_whole.desc).map (fun d => d.parameters.length) = some 1 := by decide +kernel
theorem hdX9_replay : yX9_replay.cls = yX9_replay.cls ∧ yX9_replay.cls ≠ "java/lang/invoke/MethodHandle" ∧ yX9_replay.cls ≠ "java/lang/invoke/VarHandle" ∧ (parseMethodDescriptor yX9_replay.desc).map (fun d => d.parameters.length) = some 1 := by decide +kernel
theorem hdX9_replayed : yX9_replayed.cls = yX9_replayed.cls ∧ yX9_replayed.cls ≠ "java/lang/invoke/MethodHandle" ∧ yX9_replayed.cls ≠ "java/lang/invoke/VarHandle" ∧ (parseMethodDescriptor yX9_replayed.desc).map (fun d => d.parameters.length) = some 0 := by decide +kernel
theorem hdX9_count : yX9_count.cls = yX9_count.cls ∧ yX9_count.cls ≠ "java/lang/invoke/MethodHandle" ∧ yX9_count.cls ≠ "java/lang/invoke/VarHandle" ∧ (parseMethodDescriptor yX9_count.desc).map (fun d => d.parameters.length) = some 2 := by decide +kernel
theorem hdX9_state : yX9_state.cls = yX9_state.cls ∧ yX9_state.cls ≠ "java/lang/invoke/MethodHandle" ∧ yX9_state.cls ≠ "java/lang/invoke/VarHandle" ∧ (parseMethodDescriptor yX9_state.desc).map (fun d => d.parameters.length) = some 2 := by decide +kernel
theorem hdL_cell : yL_cell.cls = yL_cell.cls ∧ yL_cell.cls ≠ "java/lang/invoke/MethodHandle" ∧ yL_cell.cls ≠ "java/lang/invoke/VarHandle" ∧ (parseMethodDescriptor yL_cell.desc).map (fun d => d.parameters.length) = some 2 := by decide +kernel
theorem hdL_consumer : yL_consumer.cls = yL_consumer.cls ∧ yL_consumer.cls ≠ "java/lang/invoke/MethodHandle" ∧ yL_consumer.cls ≠ "java/lang/invoke/VarHandle" ∧ (parseMethodDescriptor yL_consumer.desc).map (fun d => d.parameters.length) = some 6 := by decide +kernel
theorem hdL_claim : yL_claim.cls = yL_claim.cls ∧ yL_claim.cls ≠ "java/lang/invoke/MethodHandle" ∧ yL_claim.cls ≠ "java/lang/invoke/VarHandle" ∧ (parseMethodDescriptor yL_claim.desc).map (fun d => d.parameters.length) = some 4 := by decide +kernel
theorem hdL_publish : yL_publish.cls = yL_publish.cls ∧ yL_publish.cls ≠ "java/lang/invoke/MethodHandle" ∧ yL_publish.cls ≠ "java/lang/invoke/VarHandle" ∧ (parseMethodDescriptor yL_publish.desc).map (fun d => d.parameters.length) = some 5 := by decide +kernel
theorem hdL_run : yL_run.cls = yL_run.cls ∧ yL_run.cls ≠ "java/lang/invoke/MethodHandle" ∧ yL_run.cls ≠ "java/lang/invoke/VarHandle" ∧ (parseMethodDescriptor yL_run.desc).map (fun d => d.parameters.length) = some 4 := by decide +kernel
theorem hdL_place : yL_place.cls = yL_place.cls ∧ yL_place.cls ≠ "java/lang/invoke/MethodHandle" ∧ yL_place.cls ≠ "java/lang/invoke/VarHandle" ∧ (parseMethodDescriptor yL_place.desc).map (fun d => d.parameters.length) = some 3 := by decide +kernel
theorem hdL_total : yL_total.cls = yL_total.cls ∧ yL_total.cls ≠ "java/lang/invoke/MethodHandle" ∧ yL_total.cls ≠ "java/lang/invoke/VarHandle" ∧ (parseMethodDescriptor yL_total.desc).map (fun d => d.parameters.length) = some 3 := by decide +kernel
theorem hdL_level : yL_level.cls = yL_level.cls ∧ yL_level.cls ≠ "java/lang/invoke/MethodHandle" ∧ yL_level.cls ≠ "java/lang/invoke/VarHandle" ∧ (parseMethodDescriptor yL_level.desc).map (fun d => d.parameters.length) = some 3 := by decide +kernel
theorem hdL_mean : yL_mean.cls = yL_mean.cls ∧ yL_mean.cls ≠ "java/lang/invoke/MethodHandle" ∧ yL_mean.cls ≠ "java/lang/invoke/VarHandle" ∧ (parseMethodDescriptor yL_mean.desc).map (fun d => d.parameters.length) = some 3 := by decide +kernel
theorem hdL_octet : yL_octet.cls = yL_octet.cls ∧ yL_octet.cls ≠ "java/lang/invoke/MethodHandle" ∧ yL_octet.cls ≠ "java/lang/invoke/VarHandle" ∧ (parseMethodDescriptor yL_octet.desc).map (fun d => d.parameters.length) = some 4 := by decide +kernel
theorem hdL_tear : yL_tear.cls = yL_tear.cls ∧ yL_tear.cls ≠ "java/lang/invoke/MethodHandle" ∧ yL_tear.cls ≠ "java/lang/invoke/VarHandle" ∧ (parseMethodDescriptor yL_tear.desc).map (fun d => d.parameters.length) = some 4 := by decide +kernel
theorem hdL_replay : yL_replay.cls = yL_replay.cls ∧ yL_replay.cls ≠ "java/lang/invoke/MethodHandle" ∧ yL_replay.cls ≠ "java/lang/invoke/VarHandle" ∧ (parseMethodDescriptor yL_replay.desc).map (fun d => d.parameters.length) = some 3 := by decide +kernel
theorem hdL_count : yL_count.cls = yL_count.cls ∧ yL_count.cls ≠ "java/lang/invoke/MethodHandle" ∧ yL_count.cls ≠ "java/lang/invoke/VarHandle" ∧ (parseMethodDescriptor yL_count.desc).map (fun d => d.parameters.length) = some 4 := by decide +kernel
theorem hdL_state : yL_state.cls = yL_state.cls ∧ yL_state.cls ≠ "java/lang/invoke/MethodHandle" ∧ yL_state.cls ≠ "java/lang/invoke/VarHandle" ∧ (parseMethodDescriptor yL_state.desc).map (fun d => d.parameters.length) = some 4 := by decide +kernel
def bw (v lo hi : Int32) : Int32 := if lo ≤ v ∧ v ≤ hi then 1 else 0
theorem bw_1 {v lo hi : Int32} (h1 : ¬ v < lo) (h2 : ¬ hi < v) : bw v lo hi = 1 := if_pos ⟨Int32.not_lt.mp h1, Int32.not_lt.mp h2⟩
theorem bw_l {v lo hi : Int32} (h1 : v < lo) : bw v lo hi = 0 := if_neg fun h => Int32.not_lt.mpr h.1 h1
theorem bw_h {v lo hi : Int32} (h1 : hi < v) : bw v lo hi = 0 := if_neg fun h => Int32.not_lt.mpr h.2 h1
abbrev rmX9_thrown : Room := { frames := 0, cells := 0, slots := 0, locals := 0 }
abbrev rmX9_fail : Room := { frames := 0, cells := 0, slots := 0, locals := 0 }
abbrev rmX9_within : Room := { frames := 0, cells := 0, slots := 0, locals := 0 }
abbrev rmX8_isWithin : Room := { frames := 0, cells := 0, slots := 0, locals := 0 }
set_option maxRecDepth 100000 in
theorem k_thrown {l : Launch} {s0 : State} {D : va_G} {cA : Nat → ClassId} {ad : Nat → Nat} (hG : cx_G l s0 D cA) (P : MS) : MC l s0 D cA ad yX9_thrown cX9_thrown 1 (some .int) rmX9_thrown [] P (some (.int (qS P 0))) P := by
  refine Ct.of (cA := cA) hG (by decide +kernel) (Nat.le_of_ble_eq_true rfl) ?_
  intro p e s m below meth c A C hnm hP hD hS ls hl
  have hx := cx_x C
  have hb := cx_b C
  have hl : lv_has ls 1 [(0, .ref (ad 0))] := hl
  refine lv_aload_n hx hb dX9_thrown_0 rfl (lv_at hl 0 rfl) ?_
  refine gm_0 (v := qS P 0) C hP rfl tm_666 dX9_thrown_1 ?_
  exact ct_iret C hS hP hD (⟨rfl, rfl⟩) (Nat.le_of_ble_eq_true rfl) (Nat.le_of_ble_eq_true rfl) dX9_thrown_4
set_option maxRecDepth 100000 in
theorem k_fail {l : Launch} {s0 : State} {D : va_G} {cA : Nat → ClassId} {ad : Nat → Nat} (hG : cx_G l s0 D cA) (P : MS) (k : Int32) : MC l s0 D cA ad yX9_fail cX9_fail 2 (some .int) rmX9_fail [.int k] P (some (.int 0)) (sS P 0 k) := by
  refine Ct.of (cA := cA) hG (by decide +kernel) (Nat.le_of_ble_eq_true rfl) ?_
  intro p e s m below meth c A C hnm hP hD hS ls hl
  have hx := cx_x C
  have hb := cx_b C
  have hl : lv_has ls 2 [(0, .ref (ad 0)), (1, .int k)] := hl
  refine lv_aload_n hx hb dX9_fail_0 rfl (lv_at hl 0 rfl) ?_
  refine lv_iload_n hx hb dX9_fail_1 rfl (lv_at hl 1 rfl) ?_
  refine pm_0 (v := k) C hP hD hS tm_666 dX9_fail_2 (fun H locs hP hD hS => ?_)
  refine lv_iconst (v := 0) hx hb dX9_fail_5 (by decide) ?_
  exact ct_iret C hS hP hD (⟨rfl, rfl⟩) (Nat.le_of_ble_eq_true rfl) (Nat.le_of_ble_eq_true rfl) dX9_fail_6
set_option maxRecDepth 100000 in
theorem k_within {l : Launch} {s0 : State} {D : va_G} {cA : Nat → ClassId} {ad : Nat → Nat} (hG : cx_G l s0 D cA) (v lo hi : Int32) : Ct l s0 D yX9_within (.code yX9_within cX9_within 3 (some .boolean) :: TB) rmX9_within [.int v, .int lo, .int hi] [] (fun rv rw => rv = some (.int (bw v lo hi)) ∧ rw = []) := by
  refine Ct.of (cA := cA) hG (by decide +kernel) (Nat.le_of_ble_eq_true rfl) ?_
  intro p e s m below meth c A C hnm hP hD hS ls hl
  have hx := cx_x C
  have hb := cx_b C
  have hl : lv_has ls 3 [(0, .int v), (1, .int lo), (2, .int hi)] := hl
  refine lv_iload_n hx hb dX9_within_0 rfl (lv_at hl 0 rfl) ?_
  refine lv_iload_n hx hb dX9_within_1 rfl (lv_at hl 1 rfl) ?_
  refine lv_icmp_lt (tgt := 14) hx hb dX9_within_2 (by decide) (fun c1 => ?_) (fun c1 => ?_)
  · refine lv_iconst (v := 0) hx hb dX9_within_14 (by decide) ?_
    exact ct_zret C (by first | rfl | decide) hS hP hD (⟨by first | rw [bw_l c1] | rw [bw_h c2], rfl⟩) (Nat.le_of_ble_eq_true rfl) (Nat.le_of_ble_eq_true rfl) dX9_within_15
  refine lv_iload_n hx hb dX9_within_5 rfl (lv_at hl 0 rfl) ?_
  refine lv_iload_n hx hb dX9_within_6 rfl (lv_at hl 2 rfl) ?_
  refine lv_icmp_gt (tgt := 14) hx hb dX9_within_7 (by decide) (fun c2 => ?_) (fun c2 => ?_)
  · refine lv_iconst (v := 0) hx hb dX9_within_14 (by decide) ?_
    exact ct_zret C (by first | rfl | decide) hS hP hD (⟨by first | rw [bw_l c1] | rw [bw_h c2], rfl⟩) (Nat.le_of_ble_eq_true rfl) (Nat.le_of_ble_eq_true rfl) dX9_within_15
  refine lv_iconst (v := 1) hx hb dX9_within_10 (by decide) ?_
  refine lv_goto (tgt := 15) hx hb dX9_within_11 (by decide) ?_
  exact ct_zret C (by first | rfl | decide) hS hP hD (⟨by rw [bw_1 c1 c2], rfl⟩) (Nat.le_of_ble_eq_true rfl) (Nat.le_of_ble_eq_true rfl) dX9_within_15
set_option maxRecDepth 100000 in
theorem k_isWithin {l : Launch} {s0 : State} {D : va_G} {cA : Nat → ClassId} {ad : Nat → Nat} (hG : cx_G l s0 D cA) (v lo hi : Int32) : Ct l s0 D yX8_isWithin (.code yX8_isWithin cX8_isWithin 3 (some .boolean) :: TB) rmX8_isWithin [.int v, .int lo, .int hi] [] (fun rv rw => rv = some (.int (bw v lo hi)) ∧ rw = []) := by
  refine Ct.of (cA := cA) hG (by decide +kernel) (Nat.le_of_ble_eq_true rfl) ?_
  intro p e s m below meth c A C hnm hP hD hS ls hl
  have hx := cx_x C
  have hb := cx_b C
  have hl : lv_has ls 3 [(0, .int v), (1, .int lo), (2, .int hi)] := hl
  refine lv_iload_n hx hb dX8_isWithin_0 rfl (lv_at hl 1 rfl) ?_
  refine lv_iload_n hx hb dX8_isWithin_1 rfl (lv_at hl 0 rfl) ?_
  refine lv_icmp_gt (tgt := 14) hx hb dX8_isWithin_2 (by decide) (fun c1 => ?_) (fun c1 => ?_)
  · refine lv_iconst (v := 0) hx hb dX8_isWithin_14 (by decide) ?_
    exact ct_zret C (by first | rfl | decide) hS hP hD (⟨by first | rw [bw_l c1] | rw [bw_h c2], rfl⟩) (Nat.le_of_ble_eq_true rfl) (Nat.le_of_ble_eq_true rfl) dX8_isWithin_15
  refine lv_iload_n hx hb dX8_isWithin_5 rfl (lv_at hl 0 rfl) ?_
  refine lv_iload_n hx hb dX8_isWithin_6 rfl (lv_at hl 2 rfl) ?_
  refine lv_icmp_gt (tgt := 14) hx hb dX8_isWithin_7 (by decide) (fun c2 => ?_) (fun c2 => ?_)
  · refine lv_iconst (v := 0) hx hb dX8_isWithin_14 (by decide) ?_
    exact ct_zret C (by first | rfl | decide) hS hP hD (⟨by first | rw [bw_l c1] | rw [bw_h c2], rfl⟩) (Nat.le_of_ble_eq_true rfl) (Nat.le_of_ble_eq_true rfl) dX8_isWithin_15
  refine lv_iconst (v := 1) hx hb dX8_isWithin_10 (by decide) ?_
  refine lv_goto (tgt := 15) hx hb dX8_isWithin_11 (by decide) ?_
  exact ct_zret C (by first | rfl | decide) hS hP hD (⟨by rw [bw_1 c1 c2], rfl⟩) (Nat.le_of_ble_eq_true rfl) (Nat.le_of_ble_eq_true rfl) dX8_isWithin_15
end
section
/-! ===== the reference: methods with a consumer's number ===== -/
theorem wi_ok {j n : Nat} (h : j < n) (hn : n ≤ 8) : (0 : Int32) ≤ nI j ∧ nI j ≤ nI n - 1 := by
  obtain ⟨q, rfl⟩ : ∃ q, n = q + 1 := ⟨n - 1, by omega⟩
  rw [nI_pred]
  exact ⟨nI_pos' (by omega), nI_le (by omega) (by omega)⟩
theorem wi_of {cn : Int32} {n : Nat} (hn : n ≤ 8) (h : (0 : Int32) ≤ cn ∧ cn ≤ nI n - 1) : ∃ j, j < n ∧ cn = nI j := by
  obtain ⟨j, hj, rfl⟩ := nI_of (Int32.not_lt.mpr h.1)
  refine ⟨j, ?_, rfl⟩
  cases n with
  | zero =>
    have h2 := h.2
    rw [show nI 0 - 1 = (-1 : Int32) by decide +kernel] at h2
    exact absurd (Int32.le_trans h.1 h2) (by decide)
  | succ q =>
    have h2 := h.2
    rw [nI_pred, nI_leI (by omega) (by omega)] at h2
    omega
theorem bw_y {v lo hi : Int32} (h : lo ≤ v ∧ v ≤ hi) : bw v lo hi = 1 := if_pos h
theorem bw_n {v lo hi : Int32} (h : ¬ (lo ≤ v ∧ v ≤ hi)) : bw v lo hi = 0 := if_neg h
theorem k_within1 {l : Launch} {s0 : State} {D : va_G} {cA : Nat → ClassId} (hG : cx_G l s0 D cA) (v lo hi : Int32) (h : lo ≤ v ∧ v ≤ hi) : Ct l s0 D yX9_within (.code yX9_within cX9_within 3 (some .boolean) :: TB) rmX9_within [.int v, .int lo, .int hi] [] (fun rv rw => rv = some (.int 1) ∧ rw = []) := by
  have := k_within (ad := fun x => x) hG v lo hi
  rw [bw_y h] at this
  exact this
theorem k_within0 {l : Launch} {s0 : State} {D : va_G} {cA : Nat → ClassId} (hG : cx_G l s0 D cA) (v lo hi : Int32) (h : ¬ (lo ≤ v ∧ v ≤ hi)) : Ct l s0 D yX9_within (.code yX9_within cX9_within 3 (some .boolean) :: TB) rmX9_within [.int v, .int lo, .int hi] [] (fun rv rw => rv = some (.int 0) ∧ rw = []) := by
  have := k_within (ad := fun x => x) hG v lo hi
  rw [bw_n h] at this
  exact this
theorem ix8 {j : Nat} (h : j < 8) : ix (nI j) 8 j := ix_nI h (by decide)
abbrev rmX9_none : Room := { frames := 1, cells := 0, slots := 0, locals := 22 }
set_option maxRecDepth 100000 in
theorem k_none_ok {l : Launch} {s0 : State} {D : va_G} {cA : Nat → ClassId} {ad : Nat → Nat} (hG : cx_G l s0 D cA) {j n : Nat} (P : MS) (hn : qS P 8 = nI n) (hn8 : n ≤ 8) (hj : j < n) : MC l s0 D cA ad yX9_none cX9_none 2 (some .boolean) rmX9_none [.int (nI j)] P (some (.int 0)) P := by
  refine Ct.of (cA := cA) hG (by decide +kernel) (Nat.le_of_ble_eq_true rfl) ?_
  intro p e s m below meth c A C hnm hP hD hS ls hl
  have hx := cx_x C
  have hb := cx_b C
  have hl : lv_has ls 2 [(0, .ref (ad 0)), (1, .int (nI j))] := hl
  refine lv_iload_n hx hb dX9_none_0 rfl (lv_at hl 1 rfl) ?_
  refine lv_iconst (v := 0) hx hb dX9_none_1 (by decide) ?_
  refine lv_aload_n hx hb dX9_none_2 rfl (lv_at hl 0 rfl) ?_
  refine gm_8 (v := qS P 8) C hP rfl tm_674 dX9_none_3 ?_
  refine lv_iconst (v := 1) hx hb dX9_none_6 (by decide) ?_
  refine lv_isub hx hb dX9_none_7 ?_
  refine ct_S0 (As := [.int (nI j), .int 0, .int ((qS P 8) - 1)]) (rest := []) (r := some (.int 1)) C (k_within1 hG _ _ _ (by rw [hn]; exact wi_ok hj hn8)) tm_762 tm_763 tm_3 tm_764 hdX9_within.2 ⟨Nat.le_of_ble_eq_true rfl, Nat.le_of_ble_eq_true rfl⟩ hl.1 rfl (Nat.le_of_ble_eq_true rfl) dX9_none_8 ⟨Nat.le_of_ble_eq_true rfl, Nat.le_of_ble_eq_true rfl⟩ hP hD hS (fun H locs hP hD hS => ?_)
  refine lv_if_ne (tgt := 18) hx hb dX9_none_11 (by decide) (fun _ => ?_) (fun h9 => absurd h9 (by decide))
  refine lv_iconst (v := 0) hx hb dX9_none_18 (by decide) ?_
  exact ct_zret C (by first | rfl | decide) hS hP hD (⟨rfl, rfl⟩) (Nat.le_of_ble_eq_true rfl) (Nat.le_of_ble_eq_true rfl) dX9_none_19
set_option maxRecDepth 100000 in
theorem k_none_no {l : Launch} {s0 : State} {D : va_G} {cA : Nat → ClassId} {ad : Nat → Nat} (hG : cx_G l s0 D cA) {cn : Int32} (P : MS) (hc : ¬ ((0 : Int32) ≤ cn ∧ cn ≤ qS P 8 - 1)) : MC l s0 D cA ad yX9_none cX9_none 2 (some .boolean) rmX9_none [.int cn] P (some (.int 1)) P := by
  refine Ct.of (cA := cA) hG (by decide +kernel) (Nat.le_of_ble_eq_true rfl) ?_
  intro p e s m below meth c A C hnm hP hD hS ls hl
  have hx := cx_x C
  have hb := cx_b C
  have hl : lv_has ls 2 [(0, .ref (ad 0)), (1, .int cn)] := hl
  refine lv_iload_n hx hb dX9_none_0 rfl (lv_at hl 1 rfl) ?_
  refine lv_iconst (v := 0) hx hb dX9_none_1 (by decide) ?_
  refine lv_aload_n hx hb dX9_none_2 rfl (lv_at hl 0 rfl) ?_
  refine gm_8 (v := qS P 8) C hP rfl tm_674 dX9_none_3 ?_
  refine lv_iconst (v := 1) hx hb dX9_none_6 (by decide) ?_
  refine lv_isub hx hb dX9_none_7 ?_
  refine ct_S0 (As := [.int cn, .int 0, .int ((qS P 8) - 1)]) (rest := []) (r := some (.int 0)) C (k_within0 hG _ _ _ (hc)) tm_762 tm_763 tm_3 tm_764 hdX9_within.2 ⟨Nat.le_of_ble_eq_true rfl, Nat.le_of_ble_eq_true rfl⟩ hl.1 rfl (Nat.le_of_ble_eq_true rfl) dX9_none_8 ⟨Nat.le_of_ble_eq_true rfl, Nat.le_of_ble_eq_true rfl⟩ hP hD hS (fun H locs hP hD hS => ?_)
  refine lv_if_ne (tgt := 18) hx hb dX9_none_11 (by decide) (fun h9 => absurd rfl h9) (fun _ => ?_)
  refine lv_iconst (v := 1) hx hb dX9_none_14 (by decide) ?_
  refine lv_goto (tgt := 19) hx hb dX9_none_15 (by decide) ?_
  exact ct_zret C (by first | rfl | decide) hS hP hD (⟨rfl, rfl⟩) (Nat.le_of_ble_eq_true rfl) (Nat.le_of_ble_eq_true rfl) dX9_none_19
abbrev rmX9_noJournal : Room := { frames := 2, cells := 0, slots := 0, locals := 43 }
set_option maxRecDepth 100000 in
theorem k_noJ_ok {l : Launch} {s0 : State} {D : va_G} {cA : Nat → ClassId} {ad : Nat → Nat} (hG : cx_G l s0 D cA) {j n : Nat} (P : MS) (hn : qS P 8 = nI n) (hn8 : n ≤ 8) (hj : j < n) (hk : qI P 9 j = 3) : MC l s0 D cA ad yX9_noJournal cX9_noJournal 2 (some .boolean) rmX9_noJournal [.int (nI j)] P (some (.int 0)) P := by
  refine Ct.of (cA := cA) hG (by decide +kernel) (Nat.le_of_ble_eq_true rfl) ?_
  intro p e s m below meth c A C hnm hP hD hS ls hl
  have hx := cx_x C
  have hb := cx_b C
  have hl : lv_has ls 2 [(0, .ref (ad 0)), (1, .int (nI j))] := hl
  refine lv_aload_n hx hb dX9_noJournal_0 rfl (lv_at hl 0 rfl) ?_
  refine lv_iload_n hx hb dX9_noJournal_1 rfl (lv_at hl 1 rfl) ?_
  refine mc_V (As := [.int (nI j)]) (rest := []) (r := some (.int 0)) (T := P) C (k_none_ok (n := n) hG P hn hn8 hj) tm_789 tm_791 tm_897 tm_3 tm_792 rfl hdX9_none ⟨Nat.le_of_ble_eq_true rfl, Nat.le_of_ble_eq_true rfl⟩ hl.1 rfl (Nat.le_of_ble_eq_true rfl) dX9_noJournal_2 ⟨Nat.le_of_ble_eq_true rfl, Nat.le_of_ble_eq_true rfl⟩ hP hD hS (fun H locs hP hD hS => ?_)
  refine lv_if_ne (tgt := 18) hx hb dX9_noJournal_5 (by decide) (fun h9 => absurd rfl h9) (fun _ => ?_)
  refine lv_aload_n hx hb dX9_noJournal_8 rfl (lv_at hl 0 rfl) ?_
  refine gm_9 C hP tm_675 dX9_noJournal_9 ?_
  refine lv_iload_n hx hb dX9_noJournal_12 rfl (lv_at hl 1 rfl) ?_
  refine xl_9 (v := qI P 9 j) (j := j) C hP (ix8 (Nat.lt_of_lt_of_le hj hn8)) (rfl) dX9_noJournal_13 ?_
  refine lv_iconst (v := 3) hx hb dX9_noJournal_14 (by decide) ?_
  refine lv_icmp_eq (tgt := 22) hx hb dX9_noJournal_15 (by decide) (fun _ => ?_) (fun h9 => absurd (hk) h9)
  refine lv_iconst (v := 0) hx hb dX9_noJournal_22 (by decide) ?_
  exact ct_zret C (by first | rfl | decide) hS hP hD (⟨rfl, rfl⟩) (Nat.le_of_ble_eq_true rfl) (Nat.le_of_ble_eq_true rfl) dX9_noJournal_23
set_option maxRecDepth 100000 in
theorem k_noJ_k {l : Launch} {s0 : State} {D : va_G} {cA : Nat → ClassId} {ad : Nat → Nat} (hG : cx_G l s0 D cA) {j n : Nat} (P : MS) (hn : qS P 8 = nI n) (hn8 : n ≤ 8) (hj : j < n) (hk : ¬ qI P 9 j = 3) : MC l s0 D cA ad yX9_noJournal cX9_noJournal 2 (some .boolean) rmX9_noJournal [.int (nI j)] P (some (.int 1)) P := by
  refine Ct.of (cA := cA) hG (by decide +kernel) (Nat.le_of_ble_eq_true rfl) ?_
  intro p e s m below meth c A C hnm hP hD hS ls hl
  have hx := cx_x C
  have hb := cx_b C
  have hl : lv_has ls 2 [(0, .ref (ad 0)), (1, .int (nI j))] := hl
  refine lv_aload_n hx hb dX9_noJournal_0 rfl (lv_at hl 0 rfl) ?_
  refine lv_iload_n hx hb dX9_noJournal_1 rfl (lv_at hl 1 rfl) ?_
  refine mc_V (As := [.int (nI j)]) (rest := []) (r := some (.int 0)) (T := P) C (k_none_ok (n := n) hG P hn hn8 hj) tm_789 tm_791 tm_897 tm_3 tm_792 rfl hdX9_none ⟨Nat.le_of_ble_eq_true rfl, Nat.le_of_ble_eq_true rfl⟩ hl.1 rfl (Nat.le_of_ble_eq_true rfl) dX9_noJournal_2 ⟨Nat.le_of_ble_eq_true rfl, Nat.le_of_ble_eq_true rfl⟩ hP hD hS (fun H locs hP hD hS => ?_)
  refine lv_if_ne (tgt := 18) hx hb dX9_noJournal_5 (by decide) (fun h9 => absurd rfl h9) (fun _ => ?_)
  refine lv_aload_n hx hb dX9_noJournal_8 rfl (lv_at hl 0 rfl) ?_
  refine gm_9 C hP tm_675 dX9_noJournal_9 ?_
  refine lv_iload_n hx hb dX9_noJournal_12 rfl (lv_at hl 1 rfl) ?_
  refine xl_9 (v := qI P 9 j) (j := j) C hP (ix8 (Nat.lt_of_lt_of_le hj hn8)) (rfl) dX9_noJournal_13 ?_
  refine lv_iconst (v := 3) hx hb dX9_noJournal_14 (by decide) ?_
  refine lv_icmp_eq (tgt := 22) hx hb dX9_noJournal_15 (by decide) (fun h9 => absurd h9 (hk)) (fun _ => ?_)
  refine lv_iconst (v := 1) hx hb dX9_noJournal_18 (by decide) ?_
  refine lv_goto (tgt := 23) hx hb dX9_noJournal_19 (by decide) ?_
  exact ct_zret C (by first | rfl | decide) hS hP hD (⟨rfl, rfl⟩) (Nat.le_of_ble_eq_true rfl) (Nat.le_of_ble_eq_true rfl) dX9_noJournal_23
set_option maxRecDepth 100000 in
theorem k_noJ_no {l : Launch} {s0 : State} {D : va_G} {cA : Nat → ClassId} {ad : Nat → Nat} (hG : cx_G l s0 D cA) {cn : Int32} (P : MS) (hc : ¬ ((0 : Int32) ≤ cn ∧ cn ≤ qS P 8 - 1)) : MC l s0 D cA ad yX9_noJournal cX9_noJournal 2 (some .boolean) rmX9_noJournal [.int cn] P (some (.int 1)) P := by
  refine Ct.of (cA := cA) hG (by decide +kernel) (Nat.le_of_ble_eq_true rfl) ?_
  intro p e s m below meth c A C hnm hP hD hS ls hl
  have hx := cx_x C
  have hb := cx_b C
  have hl : lv_has ls 2 [(0, .ref (ad 0)), (1, .int cn)] := hl
  refine lv_aload_n hx hb dX9_noJournal_0 rfl (lv_at hl 0 rfl) ?_
  refine lv_iload_n hx hb dX9_noJournal_1 rfl (lv_at hl 1 rfl) ?_
  refine mc_V (As := [.int cn]) (rest := []) (r := some (.int 1)) (T := P) C (k_none_no hG P hc) tm_789 tm_791 tm_897 tm_3 tm_792 rfl hdX9_none ⟨Nat.le_of_ble_eq_true rfl, Nat.le_of_ble_eq_true rfl⟩ hl.1 rfl (Nat.le_of_ble_eq_true rfl) dX9_noJournal_2 ⟨Nat.le_of_ble_eq_true rfl, Nat.le_of_ble_eq_true rfl⟩ hP hD hS (fun H locs hP hD hS => ?_)
  refine lv_if_ne (tgt := 18) hx hb dX9_noJournal_5 (by decide) (fun _ => ?_) (fun h9 => absurd h9 (by decide))
  refine lv_iconst (v := 1) hx hb dX9_noJournal_18 (by decide) ?_
  refine lv_goto (tgt := 23) hx hb dX9_noJournal_19 (by decide) ?_
  exact ct_zret C (by first | rfl | decide) hS hP hD (⟨rfl, rfl⟩) (Nat.le_of_ble_eq_true rfl) (Nat.le_of_ble_eq_true rfl) dX9_noJournal_23
abbrev rmX9_replayed : Room := { frames := 0, cells := 0, slots := 0, locals := 0 }
set_option maxRecDepth 100000 in
theorem k_replayed {l : Launch} {s0 : State} {D : va_G} {cA : Nat → ClassId} {ad : Nat → Nat} (hG : cx_G l s0 D cA) (P : MS) : MC l s0 D cA ad yX9_replayed cX9_replayed 1 (some .long) rmX9_replayed [] P (some (.long (qR P))) (sS P 0 0) := by
  refine Ct.of (cA := cA) hG (by decide +kernel) (Nat.le_of_ble_eq_true rfl) ?_
  intro p e s m below meth c A C hnm hP hD hS ls hl
  have hx := cx_x C
  have hb := cx_b C
  have hl : lv_has ls 1 [(0, .ref (ad 0))] := hl
  refine lv_aload_n hx hb dX9_replayed_0 rfl (lv_at hl 0 rfl) ?_
  refine lv_iconst (v := 0) hx hb dX9_replayed_1 (by decide) ?_
  refine pm_0 (v := 0) C hP hD hS tm_666 dX9_replayed_2 (fun H locs hP hD hS => ?_)
  refine lv_aload_n hx hb dX9_replayed_5 rfl (lv_at hl 0 rfl) ?_
  refine gm_27 (v := qR P) C hP rfl tm_693 dX9_replayed_6 ?_
  exact ct_lret C hS hP hD (⟨rfl, rfl⟩) (Nat.le_of_ble_eq_true rfl) (Nat.le_of_ble_eq_true rfl) dX9_replayed_9
abbrev rmX9_total : Room := { frames := 2, cells := 0, slots := 0, locals := 43 }
abbrev rmX9_level : Room := { frames := 2, cells := 0, slots := 0, locals := 43 }
abbrev rmX9_mean : Room := { frames := 2, cells := 0, slots := 0, locals := 43 }
abbrev rmX9_octet : Room := { frames := 3, cells := 0, slots := 0, locals := 64 }
abbrev rmX9_tear : Room := { frames := 3, cells := 0, slots := 0, locals := 64 }
abbrev rmX9_count : Room := { frames := 2, cells := 0, slots := 0, locals := 43 }
abbrev rmX9_state : Room := { frames := 1, cells := 0, slots := 0, locals := 22 }
set_option maxRecDepth 100000 in
theorem k_total_no {l : Launch} {s0 : State} {D : va_G} {cA : Nat → ClassId} {ad : Nat → Nat} (hG : cx_G l s0 D cA) {cn : Int32} (P : MS) (hc : ¬ ((0 : Int32) ≤ cn ∧ cn ≤ qS P 8 - 1)) : MC l s0 D cA ad yX9_total cX9_total 2 (some .long) rmX9_total [.int cn] P (some (.long ((0 : Int32).toInt64))) (sS (sS P 0 0) 0 1) := by
  refine Ct.of (cA := cA) hG (by decide +kernel) (Nat.le_of_ble_eq_true rfl) ?_
  intro p e s m below meth c A C hnm hP hD hS ls hl
  have hx := cx_x C
  have hb := cx_b C
  have hl : lv_has ls 2 [(0, .ref (ad 0)), (1, .int cn)] := hl
  refine lv_aload_n hx hb dX9_total_0 rfl (lv_at hl 0 rfl) ?_
  refine lv_iconst (v := 0) hx hb dX9_total_1 (by decide) ?_
  refine pm_0 (v := 0) C hP hD hS tm_666 dX9_total_2 (fun H locs hP hD hS => ?_)
  refine lv_aload_n hx hb dX9_total_5 rfl (lv_at hl 0 rfl) ?_
  refine lv_iload_n hx hb dX9_total_6 rfl (lv_at hl 1 rfl) ?_
  refine mc_V (As := [.int cn]) (rest := []) (r := some (.int 1)) (T := sS P 0 0) C (k_none_no hG (sS P 0 0) hc) tm_789 tm_791 tm_897 tm_3 tm_792 rfl hdX9_none ⟨Nat.le_of_ble_eq_true rfl, Nat.le_of_ble_eq_true rfl⟩ hl.1 rfl (Nat.le_of_ble_eq_true rfl) dX9_total_7 ⟨Nat.le_of_ble_eq_true rfl, Nat.le_of_ble_eq_true rfl⟩ hP hD hS (fun H locs hP hD hS => ?_)
  refine lv_if_eq (tgt := 20) hx hb dX9_total_10 (by decide) (fun h9 => absurd h9 (by decide)) (fun _ => ?_)
  refine lv_aload_n hx hb dX9_total_13 rfl (lv_at hl 0 rfl) ?_
  refine lv_iconst (v := 1) hx hb dX9_total_14 (by decide) ?_
  refine mc_V (As := [.int 1]) (rest := []) (r := some (.int 0)) (T := sS (sS P 0 0) 0 1) C (k_fail hG _ _) tm_769 tm_771 tm_895 tm_3 tm_772 rfl hdX9_fail ⟨Nat.le_of_ble_eq_true rfl, Nat.le_of_ble_eq_true rfl⟩ hl.1 rfl (Nat.le_of_ble_eq_true rfl) dX9_total_15 ⟨Nat.le_of_ble_eq_true rfl, Nat.le_of_ble_eq_true rfl⟩ hP hD hS (fun H locs hP hD hS => ?_)
  refine lv_i2l (v := (0 : Int32).toInt64) hx hb dX9_total_18 rfl ?_
  exact ct_lret C hS hP hD (⟨rfl, rfl⟩) (Nat.le_of_ble_eq_true rfl) (Nat.le_of_ble_eq_true rfl) dX9_total_19
set_option maxRecDepth 100000 in
theorem k_level_no {l : Launch} {s0 : State} {D : va_G} {cA : Nat → ClassId} {ad : Nat → Nat} (hG : cx_G l s0 D cA) {cn : Int32} (P : MS) (hc : ¬ ((0 : Int32) ≤ cn ∧ cn ≤ qS P 8 - 1)) : MC l s0 D cA ad yX9_level cX9_level 2 (some .float) rmX9_level [.int cn] P (some (.float (FP.i2f (0 : Int32)))) (sS (sS P 0 0) 0 1) := by
  refine Ct.of (cA := cA) hG (by decide +kernel) (Nat.le_of_ble_eq_true rfl) ?_
  intro p e s m below meth c A C hnm hP hD hS ls hl
  have hx := cx_x C
  have hb := cx_b C
  have hl : lv_has ls 2 [(0, .ref (ad 0)), (1, .int cn)] := hl
  refine lv_aload_n hx hb dX9_level_0 rfl (lv_at hl 0 rfl) ?_
  refine lv_iconst (v := 0) hx hb dX9_level_1 (by decide) ?_
  refine pm_0 (v := 0) C hP hD hS tm_666 dX9_level_2 (fun H locs hP hD hS => ?_)
  refine lv_aload_n hx hb dX9_level_5 rfl (lv_at hl 0 rfl) ?_
  refine lv_iload_n hx hb dX9_level_6 rfl (lv_at hl 1 rfl) ?_
  refine mc_V (As := [.int cn]) (rest := []) (r := some (.int 1)) (T := sS P 0 0) C (k_none_no hG (sS P 0 0) hc) tm_789 tm_791 tm_897 tm_3 tm_792 rfl hdX9_none ⟨Nat.le_of_ble_eq_true rfl, Nat.le_of_ble_eq_true rfl⟩ hl.1 rfl (Nat.le_of_ble_eq_true rfl) dX9_level_7 ⟨Nat.le_of_ble_eq_true rfl, Nat.le_of_ble_eq_true rfl⟩ hP hD hS (fun H locs hP hD hS => ?_)
  refine lv_if_ne (tgt := 23) hx hb dX9_level_10 (by decide) (fun _ => ?_) (fun h9 => absurd h9 (by decide))
  refine lv_aload_n hx hb dX9_level_23 rfl (lv_at hl 0 rfl) ?_
  refine lv_iconst (v := 1) hx hb dX9_level_24 (by decide) ?_
  refine mc_V (As := [.int 1]) (rest := []) (r := some (.int 0)) (T := sS (sS P 0 0) 0 1) C (k_fail hG _ _) tm_769 tm_771 tm_895 tm_3 tm_772 rfl hdX9_fail ⟨Nat.le_of_ble_eq_true rfl, Nat.le_of_ble_eq_true rfl⟩ hl.1 rfl (Nat.le_of_ble_eq_true rfl) dX9_level_25 ⟨Nat.le_of_ble_eq_true rfl, Nat.le_of_ble_eq_true rfl⟩ hP hD hS (fun H locs hP hD hS => ?_)
  refine lv_i2f hx hb dX9_level_28 ?_
  refine lv_goto (tgt := 38) hx hb dX9_level_29 (by decide) ?_
  exact ct_fret C hS hP hD (⟨rfl, rfl⟩) (Nat.le_of_ble_eq_true rfl) (Nat.le_of_ble_eq_true rfl) dX9_level_38
set_option maxRecDepth 100000 in
theorem k_level_k {l : Launch} {s0 : State} {D : va_G} {cA : Nat → ClassId} {ad : Nat → Nat} (hG : cx_G l s0 D cA) {j n : Nat} (P : MS) (hn : qS P 8 = nI n) (hn8 : n ≤ 8) (hj : j < n) (hk : ¬ qI P 9 j = 1) : MC l s0 D cA ad yX9_level cX9_level 2 (some .float) rmX9_level [.int (nI j)] P (some (.float (FP.i2f (0 : Int32)))) (sS (sS P 0 0) 0 1) := by
  refine Ct.of (cA := cA) hG (by decide +kernel) (Nat.le_of_ble_eq_true rfl) ?_
  intro p e s m below meth c A C hnm hP hD hS ls hl
  have hx := cx_x C
  have hb := cx_b C
  have hl : lv_has ls 2 [(0, .ref (ad 0)), (1, .int (nI j))] := hl
  refine lv_aload_n hx hb dX9_level_0 rfl (lv_at hl 0 rfl) ?_
  refine lv_iconst (v := 0) hx hb dX9_level_1 (by decide) ?_
  refine pm_0 (v := 0) C hP hD hS tm_666 dX9_level_2 (fun H locs hP hD hS => ?_)
  refine lv_aload_n hx hb dX9_level_5 rfl (lv_at hl 0 rfl) ?_
  refine lv_iload_n hx hb dX9_level_6 rfl (lv_at hl 1 rfl) ?_
  refine mc_V (As := [.int (nI j)]) (rest := []) (r := some (.int 0)) (T := sS P 0 0) C (k_none_ok (n := n) hG (sS P 0 0) hn hn8 hj) tm_789 tm_791 tm_897 tm_3 tm_792 rfl hdX9_none ⟨Nat.le_of_ble_eq_true rfl, Nat.le_of_ble_eq_true rfl⟩ hl.1 rfl (Nat.le_of_ble_eq_true rfl) dX9_level_7 ⟨Nat.le_of_ble_eq_true rfl, Nat.le_of_ble_eq_true rfl⟩ hP hD hS (fun H locs hP hD hS => ?_)
  refine lv_if_ne (tgt := 23) hx hb dX9_level_10 (by decide) (fun h9 => absurd rfl h9) (fun _ => ?_)
  refine lv_aload_n hx hb dX9_level_13 rfl (lv_at hl 0 rfl) ?_
  refine gm_9 C hP tm_675 dX9_level_14 ?_
  refine lv_iload_n hx hb dX9_level_17 rfl (lv_at hl 1 rfl) ?_
  refine xl_9 (v := qI P 9 j) (j := j) C hP (ix8 (Nat.lt_of_lt_of_le hj hn8)) (rfl) dX9_level_18 ?_
  refine lv_iconst (v := 1) hx hb dX9_level_19 (by decide) ?_
  refine lv_icmp_eq (tgt := 32) hx hb dX9_level_20 (by decide) (fun h9 => absurd h9 (hk)) (fun _ => ?_)
  refine lv_aload_n hx hb dX9_level_23 rfl (lv_at hl 0 rfl) ?_
  refine lv_iconst (v := 1) hx hb dX9_level_24 (by decide) ?_
  refine mc_V (As := [.int 1]) (rest := []) (r := some (.int 0)) (T := sS (sS P 0 0) 0 1) C (k_fail hG _ _) tm_769 tm_771 tm_895 tm_3 tm_772 rfl hdX9_fail ⟨Nat.le_of_ble_eq_true rfl, Nat.le_of_ble_eq_true rfl⟩ hl.1 rfl (Nat.le_of_ble_eq_true rfl) dX9_level_25 ⟨Nat.le_of_ble_eq_true rfl, Nat.le_of_ble_eq_true rfl⟩ hP hD hS (fun H locs hP hD hS => ?_)
  refine lv_i2f hx hb dX9_level_28 ?_
  refine lv_goto (tgt := 38) hx hb dX9_level_29 (by decide) ?_
  exact ct_fret C hS hP hD (⟨rfl, rfl⟩) (Nat.le_of_ble_eq_true rfl) (Nat.le_of_ble_eq_true rfl) dX9_level_38
set_option maxRecDepth 100000 in
theorem k_mean_no {l : Launch} {s0 : State} {D : va_G} {cA : Nat → ClassId} {ad : Nat → Nat} (hG : cx_G l s0 D cA) {cn : Int32} (P : MS) (hc : ¬ ((0 : Int32) ≤ cn ∧ cn ≤ qS P 8 - 1)) : MC l s0 D cA ad yX9_mean cX9_mean 2 (some .double) rmX9_mean [.int cn] P (some (.double (FP.i2d (0 : Int32)))) (sS (sS P 0 0) 0 1) := by
  refine Ct.of (cA := cA) hG (by decide +kernel) (Nat.le_of_ble_eq_true rfl) ?_
  intro p e s m below meth c A C hnm hP hD hS ls hl
  have hx := cx_x C
  have hb := cx_b C
  have hl : lv_has ls 2 [(0, .ref (ad 0)), (1, .int cn)] := hl
  refine lv_aload_n hx hb dX9_mean_0 rfl (lv_at hl 0 rfl) ?_
  refine lv_iconst (v := 0) hx hb dX9_mean_1 (by decide) ?_
  refine pm_0 (v := 0) C hP hD hS tm_666 dX9_mean_2 (fun H locs hP hD hS => ?_)
  refine lv_aload_n hx hb dX9_mean_5 rfl (lv_at hl 0 rfl) ?_
  refine lv_iload_n hx hb dX9_mean_6 rfl (lv_at hl 1 rfl) ?_
  refine mc_V (As := [.int cn]) (rest := []) (r := some (.int 1)) (T := sS P 0 0) C (k_none_no hG (sS P 0 0) hc) tm_789 tm_791 tm_897 tm_3 tm_792 rfl hdX9_none ⟨Nat.le_of_ble_eq_true rfl, Nat.le_of_ble_eq_true rfl⟩ hl.1 rfl (Nat.le_of_ble_eq_true rfl) dX9_mean_7 ⟨Nat.le_of_ble_eq_true rfl, Nat.le_of_ble_eq_true rfl⟩ hP hD hS (fun H locs hP hD hS => ?_)
  refine lv_if_ne (tgt := 23) hx hb dX9_mean_10 (by decide) (fun _ => ?_) (fun h9 => absurd h9 (by decide))
  refine lv_aload_n hx hb dX9_mean_23 rfl (lv_at hl 0 rfl) ?_
  refine lv_iconst (v := 1) hx hb dX9_mean_24 (by decide) ?_
  refine mc_V (As := [.int 1]) (rest := []) (r := some (.int 0)) (T := sS (sS P 0 0) 0 1) C (k_fail hG _ _) tm_769 tm_771 tm_895 tm_3 tm_772 rfl hdX9_fail ⟨Nat.le_of_ble_eq_true rfl, Nat.le_of_ble_eq_true rfl⟩ hl.1 rfl (Nat.le_of_ble_eq_true rfl) dX9_mean_25 ⟨Nat.le_of_ble_eq_true rfl, Nat.le_of_ble_eq_true rfl⟩ hP hD hS (fun H locs hP hD hS => ?_)
  refine lv_i2d hx hb dX9_mean_28 ?_
  refine lv_goto (tgt := 38) hx hb dX9_mean_29 (by decide) ?_
  exact ct_dret C hS hP hD (⟨rfl, rfl⟩) (Nat.le_of_ble_eq_true rfl) (Nat.le_of_ble_eq_true rfl) dX9_mean_38
set_option maxRecDepth 100000 in
theorem k_mean_k {l : Launch} {s0 : State} {D : va_G} {cA : Nat → ClassId} {ad : Nat → Nat} (hG : cx_G l s0 D cA) {j n : Nat} (P : MS) (hn : qS P 8 = nI n) (hn8 : n ≤ 8) (hj : j < n) (hk : ¬ qI P 9 j = 2) : MC l s0 D cA ad yX9_mean cX9_mean 2 (some .double) rmX9_mean [.int (nI j)] P (some (.double (FP.i2d (0 : Int32)))) (sS (sS P 0 0) 0 1) := by
  refine Ct.of (cA := cA) hG (by decide +kernel) (Nat.le_of_ble_eq_true rfl) ?_
  intro p e s m below meth c A C hnm hP hD hS ls hl
  have hx := cx_x C
  have hb := cx_b C
  have hl : lv_has ls 2 [(0, .ref (ad 0)), (1, .int (nI j))] := hl
  refine lv_aload_n hx hb dX9_mean_0 rfl (lv_at hl 0 rfl) ?_
  refine lv_iconst (v := 0) hx hb dX9_mean_1 (by decide) ?_
  refine pm_0 (v := 0) C hP hD hS tm_666 dX9_mean_2 (fun H locs hP hD hS => ?_)
  refine lv_aload_n hx hb dX9_mean_5 rfl (lv_at hl 0 rfl) ?_
  refine lv_iload_n hx hb dX9_mean_6 rfl (lv_at hl 1 rfl) ?_
  refine mc_V (As := [.int (nI j)]) (rest := []) (r := some (.int 0)) (T := sS P 0 0) C (k_none_ok (n := n) hG (sS P 0 0) hn hn8 hj) tm_789 tm_791 tm_897 tm_3 tm_792 rfl hdX9_none ⟨Nat.le_of_ble_eq_true rfl, Nat.le_of_ble_eq_true rfl⟩ hl.1 rfl (Nat.le_of_ble_eq_true rfl) dX9_mean_7 ⟨Nat.le_of_ble_eq_true rfl, Nat.le_of_ble_eq_true rfl⟩ hP hD hS (fun H locs hP hD hS => ?_)
  refine lv_if_ne (tgt := 23) hx hb dX9_mean_10 (by decide) (fun h9 => absurd rfl h9) (fun _ => ?_)
  refine lv_aload_n hx hb dX9_mean_13 rfl (lv_at hl 0 rfl) ?_
  refine gm_9 C hP tm_675 dX9_mean_14 ?_
  refine lv_iload_n hx hb dX9_mean_17 rfl (lv_at hl 1 rfl) ?_
  refine xl_9 (v := qI P 9 j) (j := j) C hP (ix8 (Nat.lt_of_lt_of_le hj hn8)) (rfl) dX9_mean_18 ?_
  refine lv_iconst (v := 2) hx hb dX9_mean_19 (by decide) ?_
  refine lv_icmp_eq (tgt := 32) hx hb dX9_mean_20 (by decide) (fun h9 => absurd h9 (hk)) (fun _ => ?_)
  refine lv_aload_n hx hb dX9_mean_23 rfl (lv_at hl 0 rfl) ?_
  refine lv_iconst (v := 1) hx hb dX9_mean_24 (by decide) ?_
  refine mc_V (As := [.int 1]) (rest := []) (r := some (.int 0)) (T := sS (sS P 0 0) 0 1) C (k_fail hG _ _) tm_769 tm_771 tm_895 tm_3 tm_772 rfl hdX9_fail ⟨Nat.le_of_ble_eq_true rfl, Nat.le_of_ble_eq_true rfl⟩ hl.1 rfl (Nat.le_of_ble_eq_true rfl) dX9_mean_25 ⟨Nat.le_of_ble_eq_true rfl, Nat.le_of_ble_eq_true rfl⟩ hP hD hS (fun H locs hP hD hS => ?_)
  refine lv_i2d hx hb dX9_mean_28 ?_
  refine lv_goto (tgt := 38) hx hb dX9_mean_29 (by decide) ?_
  exact ct_dret C hS hP hD (⟨rfl, rfl⟩) (Nat.le_of_ble_eq_true rfl) (Nat.le_of_ble_eq_true rfl) dX9_mean_38
set_option maxRecDepth 100000 in
theorem k_octet_no {l : Launch} {s0 : State} {D : va_G} {cA : Nat → ClassId} {ad : Nat → Nat} (hG : cx_G l s0 D cA) {cn : Int32} (i : Int32) (P : MS) (hc : ¬ ((0 : Int32) ≤ cn ∧ cn ≤ qS P 8 - 1)) : MC l s0 D cA ad yX9_octet cX9_octet 3 (some .int) rmX9_octet [.int cn, .int i] P (some (.int 0)) (sS (sS P 0 0) 0 1) := by
  refine Ct.of (cA := cA) hG (by decide +kernel) (Nat.le_of_ble_eq_true rfl) ?_
  intro p e s m below meth c A C hnm hP hD hS ls hl
  have hx := cx_x C
  have hb := cx_b C
  have hl : lv_has ls 3 [(0, .ref (ad 0)), (1, .int cn), (2, .int i)] := hl
  refine lv_aload_n hx hb dX9_octet_0 rfl (lv_at hl 0 rfl) ?_
  refine lv_iconst (v := 0) hx hb dX9_octet_1 (by decide) ?_
  refine pm_0 (v := 0) C hP hD hS tm_666 dX9_octet_2 (fun H locs hP hD hS => ?_)
  refine lv_aload_n hx hb dX9_octet_5 rfl (lv_at hl 0 rfl) ?_
  refine lv_iload_n hx hb dX9_octet_6 rfl (lv_at hl 1 rfl) ?_
  refine mc_V (As := [.int cn]) (rest := []) (r := some (.int 1)) (T := sS P 0 0) C (k_noJ_no hG (sS P 0 0) hc) tm_843 tm_845 tm_905 tm_3 tm_846 rfl hdX9_noJournal ⟨Nat.le_of_ble_eq_true rfl, Nat.le_of_ble_eq_true rfl⟩ hl.1 rfl (Nat.le_of_ble_eq_true rfl) dX9_octet_7 ⟨Nat.le_of_ble_eq_true rfl, Nat.le_of_ble_eq_true rfl⟩ hP hD hS (fun H locs hP hD hS => ?_)
  refine lv_if_eq (tgt := 19) hx hb dX9_octet_10 (by decide) (fun h9 => absurd h9 (by decide)) (fun _ => ?_)
  refine lv_aload_n hx hb dX9_octet_13 rfl (lv_at hl 0 rfl) ?_
  refine lv_iconst (v := 1) hx hb dX9_octet_14 (by decide) ?_
  refine mc_V (As := [.int 1]) (rest := []) (r := some (.int 0)) (T := sS (sS P 0 0) 0 1) C (k_fail hG _ _) tm_769 tm_771 tm_895 tm_3 tm_772 rfl hdX9_fail ⟨Nat.le_of_ble_eq_true rfl, Nat.le_of_ble_eq_true rfl⟩ hl.1 rfl (Nat.le_of_ble_eq_true rfl) dX9_octet_15 ⟨Nat.le_of_ble_eq_true rfl, Nat.le_of_ble_eq_true rfl⟩ hP hD hS (fun H locs hP hD hS => ?_)
  exact ct_iret C hS hP hD (⟨rfl, rfl⟩) (Nat.le_of_ble_eq_true rfl) (Nat.le_of_ble_eq_true rfl) dX9_octet_18
set_option maxRecDepth 100000 in
theorem k_octet_k {l : Launch} {s0 : State} {D : va_G} {cA : Nat → ClassId} {ad : Nat → Nat} (hG : cx_G l s0 D cA) {j n : Nat} (i : Int32) (P : MS) (hn : qS P 8 = nI n) (hn8 : n ≤ 8) (hj : j < n) (hk : ¬ qI P 9 j = 3) : MC l s0 D cA ad yX9_octet cX9_octet 3 (some .int) rmX9_octet [.int (nI j), .int i] P (some (.int 0)) (sS (sS P 0 0) 0 1) := by
  refine Ct.of (cA := cA) hG (by decide +kernel) (Nat.le_of_ble_eq_true rfl) ?_
  intro p e s m below meth c A C hnm hP hD hS ls hl
  have hx := cx_x C
  have hb := cx_b C
  have hl : lv_has ls 3 [(0, .ref (ad 0)), (1, .int (nI j)), (2, .int i)] := hl
  refine lv_aload_n hx hb dX9_octet_0 rfl (lv_at hl 0 rfl) ?_
  refine lv_iconst (v := 0) hx hb dX9_octet_1 (by decide) ?_
  refine pm_0 (v := 0) C hP hD hS tm_666 dX9_octet_2 (fun H locs hP hD hS => ?_)
  refine lv_aload_n hx hb dX9_octet_5 rfl (lv_at hl 0 rfl) ?_
  refine lv_iload_n hx hb dX9_octet_6 rfl (lv_at hl 1 rfl) ?_
  refine mc_V (As := [.int (nI j)]) (rest := []) (r := some (.int 1)) (T := sS P 0 0) C (k_noJ_k (n := n) hG (sS P 0 0) hn hn8 hj hk) tm_843 tm_845 tm_905 tm_3 tm_846 rfl hdX9_noJournal ⟨Nat.le_of_ble_eq_true rfl, Nat.le_of_ble_eq_true rfl⟩ hl.1 rfl (Nat.le_of_ble_eq_true rfl) dX9_octet_7 ⟨Nat.le_of_ble_eq_true rfl, Nat.le_of_ble_eq_true rfl⟩ hP hD hS (fun H locs hP hD hS => ?_)
  refine lv_if_eq (tgt := 19) hx hb dX9_octet_10 (by decide) (fun h9 => absurd h9 (by decide)) (fun _ => ?_)
  refine lv_aload_n hx hb dX9_octet_13 rfl (lv_at hl 0 rfl) ?_
  refine lv_iconst (v := 1) hx hb dX9_octet_14 (by decide) ?_
  refine mc_V (As := [.int 1]) (rest := []) (r := some (.int 0)) (T := sS (sS P 0 0) 0 1) C (k_fail hG _ _) tm_769 tm_771 tm_895 tm_3 tm_772 rfl hdX9_fail ⟨Nat.le_of_ble_eq_true rfl, Nat.le_of_ble_eq_true rfl⟩ hl.1 rfl (Nat.le_of_ble_eq_true rfl) dX9_octet_15 ⟨Nat.le_of_ble_eq_true rfl, Nat.le_of_ble_eq_true rfl⟩ hP hD hS (fun H locs hP hD hS => ?_)
  exact ct_iret C hS hP hD (⟨rfl, rfl⟩) (Nat.le_of_ble_eq_true rfl) (Nat.le_of_ble_eq_true rfl) dX9_octet_18
set_option maxRecDepth 100000 in
theorem k_tear_no {l : Launch} {s0 : State} {D : va_G} {cA : Nat → ClassId} {ad : Nat → Nat} (hG : cx_G l s0 D cA) {cn : Int32} (i : Int32) (P : MS) (hc : ¬ ((0 : Int32) ≤ cn ∧ cn ≤ qS P 8 - 1)) : MC l s0 D cA ad yX9_tear cX9_tear 3 (some .int) rmX9_tear [.int cn, .int i] P (some (.int 0)) (sS (sS P 0 0) 0 1) := by
  refine Ct.of (cA := cA) hG (by decide +kernel) (Nat.le_of_ble_eq_true rfl) ?_
  intro p e s m below meth c A C hnm hP hD hS ls hl
  have hx := cx_x C
  have hb := cx_b C
  have hl : lv_has ls 3 [(0, .ref (ad 0)), (1, .int cn), (2, .int i)] := hl
  refine lv_aload_n hx hb dX9_tear_0 rfl (lv_at hl 0 rfl) ?_
  refine lv_iconst (v := 0) hx hb dX9_tear_1 (by decide) ?_
  refine pm_0 (v := 0) C hP hD hS tm_666 dX9_tear_2 (fun H locs hP hD hS => ?_)
  refine lv_aload_n hx hb dX9_tear_5 rfl (lv_at hl 0 rfl) ?_
  refine lv_iload_n hx hb dX9_tear_6 rfl (lv_at hl 1 rfl) ?_
  refine mc_V (As := [.int cn]) (rest := []) (r := some (.int 1)) (T := sS P 0 0) C (k_noJ_no hG (sS P 0 0) hc) tm_843 tm_845 tm_905 tm_3 tm_846 rfl hdX9_noJournal ⟨Nat.le_of_ble_eq_true rfl, Nat.le_of_ble_eq_true rfl⟩ hl.1 rfl (Nat.le_of_ble_eq_true rfl) dX9_tear_7 ⟨Nat.le_of_ble_eq_true rfl, Nat.le_of_ble_eq_true rfl⟩ hP hD hS (fun H locs hP hD hS => ?_)
  refine lv_if_ne (tgt := 27) hx hb dX9_tear_10 (by decide) (fun _ => ?_) (fun h9 => absurd h9 (by decide))
  refine lv_aload_n hx hb dX9_tear_27 rfl (lv_at hl 0 rfl) ?_
  refine lv_iconst (v := 1) hx hb dX9_tear_28 (by decide) ?_
  refine mc_V (As := [.int 1]) (rest := []) (r := some (.int 0)) (T := sS (sS P 0 0) 0 1) C (k_fail hG _ _) tm_769 tm_771 tm_895 tm_3 tm_772 rfl hdX9_fail ⟨Nat.le_of_ble_eq_true rfl, Nat.le_of_ble_eq_true rfl⟩ hl.1 rfl (Nat.le_of_ble_eq_true rfl) dX9_tear_29 ⟨Nat.le_of_ble_eq_true rfl, Nat.le_of_ble_eq_true rfl⟩ hP hD hS (fun H locs hP hD hS => ?_)
  exact ct_iret C hS hP hD (⟨rfl, rfl⟩) (Nat.le_of_ble_eq_true rfl) (Nat.le_of_ble_eq_true rfl) dX9_tear_32
set_option maxRecDepth 100000 in
theorem k_tear_k {l : Launch} {s0 : State} {D : va_G} {cA : Nat → ClassId} {ad : Nat → Nat} (hG : cx_G l s0 D cA) {j n : Nat} (i : Int32) (P : MS) (hn : qS P 8 = nI n) (hn8 : n ≤ 8) (hj : j < n) (hk : ¬ qI P 9 j = 3) : MC l s0 D cA ad yX9_tear cX9_tear 3 (some .int) rmX9_tear [.int (nI j), .int i] P (some (.int 0)) (sS (sS P 0 0) 0 1) := by
  refine Ct.of (cA := cA) hG (by decide +kernel) (Nat.le_of_ble_eq_true rfl) ?_
  intro p e s m below meth c A C hnm hP hD hS ls hl
  have hx := cx_x C
  have hb := cx_b C
  have hl : lv_has ls 3 [(0, .ref (ad 0)), (1, .int (nI j)), (2, .int i)] := hl
  refine lv_aload_n hx hb dX9_tear_0 rfl (lv_at hl 0 rfl) ?_
  refine lv_iconst (v := 0) hx hb dX9_tear_1 (by decide) ?_
  refine pm_0 (v := 0) C hP hD hS tm_666 dX9_tear_2 (fun H locs hP hD hS => ?_)
  refine lv_aload_n hx hb dX9_tear_5 rfl (lv_at hl 0 rfl) ?_
  refine lv_iload_n hx hb dX9_tear_6 rfl (lv_at hl 1 rfl) ?_
  refine mc_V (As := [.int (nI j)]) (rest := []) (r := some (.int 1)) (T := sS P 0 0) C (k_noJ_k (n := n) hG (sS P 0 0) hn hn8 hj hk) tm_843 tm_845 tm_905 tm_3 tm_846 rfl hdX9_noJournal ⟨Nat.le_of_ble_eq_true rfl, Nat.le_of_ble_eq_true rfl⟩ hl.1 rfl (Nat.le_of_ble_eq_true rfl) dX9_tear_7 ⟨Nat.le_of_ble_eq_true rfl, Nat.le_of_ble_eq_true rfl⟩ hP hD hS (fun H locs hP hD hS => ?_)
  refine lv_if_ne (tgt := 27) hx hb dX9_tear_10 (by decide) (fun _ => ?_) (fun h9 => absurd h9 (by decide))
  refine lv_aload_n hx hb dX9_tear_27 rfl (lv_at hl 0 rfl) ?_
  refine lv_iconst (v := 1) hx hb dX9_tear_28 (by decide) ?_
  refine mc_V (As := [.int 1]) (rest := []) (r := some (.int 0)) (T := sS (sS P 0 0) 0 1) C (k_fail hG _ _) tm_769 tm_771 tm_895 tm_3 tm_772 rfl hdX9_fail ⟨Nat.le_of_ble_eq_true rfl, Nat.le_of_ble_eq_true rfl⟩ hl.1 rfl (Nat.le_of_ble_eq_true rfl) dX9_tear_29 ⟨Nat.le_of_ble_eq_true rfl, Nat.le_of_ble_eq_true rfl⟩ hP hD hS (fun H locs hP hD hS => ?_)
  exact ct_iret C hS hP hD (⟨rfl, rfl⟩) (Nat.le_of_ble_eq_true rfl) (Nat.le_of_ble_eq_true rfl) dX9_tear_32
set_option maxRecDepth 100000 in
theorem k_tear_i {l : Launch} {s0 : State} {D : va_G} {cA : Nat → ClassId} {ad : Nat → Nat} (hG : cx_G l s0 D cA) {j n : Nat} {i : Int32} (P : MS) (hn : qS P 8 = nI n) (hn8 : n ≤ 8) (hj : j < n) (hk : qI P 9 j = 3) (hi : ¬ ((0 : Int32) ≤ i ∧ i ≤ qI P 25 j)) : MC l s0 D cA ad yX9_tear cX9_tear 3 (some .int) rmX9_tear [.int (nI j), .int i] P (some (.int 0)) (sS (sS P 0 0) 0 1) := by
  refine Ct.of (cA := cA) hG (by decide +kernel) (Nat.le_of_ble_eq_true rfl) ?_
  intro p e s m below meth c A C hnm hP hD hS ls hl
  have hx := cx_x C
  have hb := cx_b C
  have hl : lv_has ls 3 [(0, .ref (ad 0)), (1, .int (nI j)), (2, .int i)] := hl
  refine lv_aload_n hx hb dX9_tear_0 rfl (lv_at hl 0 rfl) ?_
  refine lv_iconst (v := 0) hx hb dX9_tear_1 (by decide) ?_
  refine pm_0 (v := 0) C hP hD hS tm_666 dX9_tear_2 (fun H locs hP hD hS => ?_)
  refine lv_aload_n hx hb dX9_tear_5 rfl (lv_at hl 0 rfl) ?_
  refine lv_iload_n hx hb dX9_tear_6 rfl (lv_at hl 1 rfl) ?_
  refine mc_V (As := [.int (nI j)]) (rest := []) (r := some (.int 0)) (T := sS P 0 0) C (k_noJ_ok (n := n) hG (sS P 0 0) hn hn8 hj hk) tm_843 tm_845 tm_905 tm_3 tm_846 rfl hdX9_noJournal ⟨Nat.le_of_ble_eq_true rfl, Nat.le_of_ble_eq_true rfl⟩ hl.1 rfl (Nat.le_of_ble_eq_true rfl) dX9_tear_7 ⟨Nat.le_of_ble_eq_true rfl, Nat.le_of_ble_eq_true rfl⟩ hP hD hS (fun H locs hP hD hS => ?_)
  refine lv_if_ne (tgt := 27) hx hb dX9_tear_10 (by decide) (fun h9 => absurd rfl h9) (fun _ => ?_)
  refine lv_iload_n hx hb dX9_tear_13 rfl (lv_at hl 2 rfl) ?_
  refine lv_iconst (v := 0) hx hb dX9_tear_14 (by decide) ?_
  refine lv_aload_n hx hb dX9_tear_15 rfl (lv_at hl 0 rfl) ?_
  refine gm_25 C hP tm_691 dX9_tear_16 ?_
  refine lv_iload_n hx hb dX9_tear_19 rfl (lv_at hl 1 rfl) ?_
  refine xl_25 (v := qI P 25 j) (j := j) C hP (ix8 (Nat.lt_of_lt_of_le hj hn8)) (rfl) dX9_tear_20 ?_
  refine ct_S0 (As := [.int i, .int 0, .int (qI P 25 j)]) (rest := []) (r := some (.int 0)) C (k_within0 hG _ _ _ (hi)) tm_762 tm_763 tm_3 tm_764 hdX9_within.2 ⟨Nat.le_of_ble_eq_true rfl, Nat.le_of_ble_eq_true rfl⟩ hl.1 rfl (Nat.le_of_ble_eq_true rfl) dX9_tear_21 ⟨Nat.le_of_ble_eq_true rfl, Nat.le_of_ble_eq_true rfl⟩ hP hD hS (fun H locs hP hD hS => ?_)
  refine lv_if_ne (tgt := 33) hx hb dX9_tear_24 (by decide) (fun h9 => absurd rfl h9) (fun _ => ?_)
  refine lv_aload_n hx hb dX9_tear_27 rfl (lv_at hl 0 rfl) ?_
  refine lv_iconst (v := 1) hx hb dX9_tear_28 (by decide) ?_
  refine mc_V (As := [.int 1]) (rest := []) (r := some (.int 0)) (T := sS (sS P 0 0) 0 1) C (k_fail hG _ _) tm_769 tm_771 tm_895 tm_3 tm_772 rfl hdX9_fail ⟨Nat.le_of_ble_eq_true rfl, Nat.le_of_ble_eq_true rfl⟩ hl.1 rfl (Nat.le_of_ble_eq_true rfl) dX9_tear_29 ⟨Nat.le_of_ble_eq_true rfl, Nat.le_of_ble_eq_true rfl⟩ hP hD hS (fun H locs hP hD hS => ?_)
  exact ct_iret C hS hP hD (⟨rfl, rfl⟩) (Nat.le_of_ble_eq_true rfl) (Nat.le_of_ble_eq_true rfl) dX9_tear_32
set_option maxRecDepth 100000 in
theorem k_count_no {l : Launch} {s0 : State} {D : va_G} {cA : Nat → ClassId} {ad : Nat → Nat} (hG : cx_G l s0 D cA) {cn : Int32} (i : Int32) (P : MS) (hc : ¬ ((0 : Int32) ≤ cn ∧ cn ≤ qS P 8 - 1)) : MC l s0 D cA ad yX9_count cX9_count 3 (some .int) rmX9_count [.int cn, .int i] P (some (.int 0)) (sS (sS P 0 0) 0 1) := by
  refine Ct.of (cA := cA) hG (by decide +kernel) (Nat.le_of_ble_eq_true rfl) ?_
  intro p e s m below meth c A C hnm hP hD hS ls hl
  have hx := cx_x C
  have hb := cx_b C
  have hl : lv_has ls 3 [(0, .ref (ad 0)), (1, .int cn), (2, .int i)] := hl
  refine lv_aload_n hx hb dX9_count_0 rfl (lv_at hl 0 rfl) ?_
  refine lv_iconst (v := 0) hx hb dX9_count_1 (by decide) ?_
  refine pm_0 (v := 0) C hP hD hS tm_666 dX9_count_2 (fun H locs hP hD hS => ?_)
  refine lv_aload_n hx hb dX9_count_5 rfl (lv_at hl 0 rfl) ?_
  refine lv_iload_n hx hb dX9_count_6 rfl (lv_at hl 1 rfl) ?_
  refine mc_V (As := [.int cn]) (rest := []) (r := some (.int 1)) (T := sS P 0 0) C (k_none_no hG (sS P 0 0) hc) tm_789 tm_791 tm_897 tm_3 tm_792 rfl hdX9_none ⟨Nat.le_of_ble_eq_true rfl, Nat.le_of_ble_eq_true rfl⟩ hl.1 rfl (Nat.le_of_ble_eq_true rfl) dX9_count_7 ⟨Nat.le_of_ble_eq_true rfl, Nat.le_of_ble_eq_true rfl⟩ hP hD hS (fun H locs hP hD hS => ?_)
  refine lv_if_ne (tgt := 22) hx hb dX9_count_10 (by decide) (fun _ => ?_) (fun h9 => absurd h9 (by decide))
  refine lv_aload_n hx hb dX9_count_22 rfl (lv_at hl 0 rfl) ?_
  refine lv_iconst (v := 1) hx hb dX9_count_23 (by decide) ?_
  refine mc_V (As := [.int 1]) (rest := []) (r := some (.int 0)) (T := sS (sS P 0 0) 0 1) C (k_fail hG _ _) tm_769 tm_771 tm_895 tm_3 tm_772 rfl hdX9_fail ⟨Nat.le_of_ble_eq_true rfl, Nat.le_of_ble_eq_true rfl⟩ hl.1 rfl (Nat.le_of_ble_eq_true rfl) dX9_count_24 ⟨Nat.le_of_ble_eq_true rfl, Nat.le_of_ble_eq_true rfl⟩ hP hD hS (fun H locs hP hD hS => ?_)
  exact ct_iret C hS hP hD (⟨rfl, rfl⟩) (Nat.le_of_ble_eq_true rfl) (Nat.le_of_ble_eq_true rfl) dX9_count_27
set_option maxRecDepth 100000 in
theorem k_count_i {l : Launch} {s0 : State} {D : va_G} {cA : Nat → ClassId} {ad : Nat → Nat} (hG : cx_G l s0 D cA) {j n : Nat} {i : Int32} (P : MS) (hn : qS P 8 = nI n) (hn8 : n ≤ 8) (hj : j < n) (hi : ¬ ((0 : Int32) ≤ i ∧ i ≤ 3)) : MC l s0 D cA ad yX9_count cX9_count 3 (some .int) rmX9_count [.int (nI j), .int i] P (some (.int 0)) (sS (sS P 0 0) 0 1) := by
  refine Ct.of (cA := cA) hG (by decide +kernel) (Nat.le_of_ble_eq_true rfl) ?_
  intro p e s m below meth c A C hnm hP hD hS ls hl
  have hx := cx_x C
  have hb := cx_b C
  have hl : lv_has ls 3 [(0, .ref (ad 0)), (1, .int (nI j)), (2, .int i)] := hl
  refine lv_aload_n hx hb dX9_count_0 rfl (lv_at hl 0 rfl) ?_
  refine lv_iconst (v := 0) hx hb dX9_count_1 (by decide) ?_
  refine pm_0 (v := 0) C hP hD hS tm_666 dX9_count_2 (fun H locs hP hD hS => ?_)
  refine lv_aload_n hx hb dX9_count_5 rfl (lv_at hl 0 rfl) ?_
  refine lv_iload_n hx hb dX9_count_6 rfl (lv_at hl 1 rfl) ?_
  refine mc_V (As := [.int (nI j)]) (rest := []) (r := some (.int 0)) (T := sS P 0 0) C (k_none_ok (n := n) hG (sS P 0 0) hn hn8 hj) tm_789 tm_791 tm_897 tm_3 tm_792 rfl hdX9_none ⟨Nat.le_of_ble_eq_true rfl, Nat.le_of_ble_eq_true rfl⟩ hl.1 rfl (Nat.le_of_ble_eq_true rfl) dX9_count_7 ⟨Nat.le_of_ble_eq_true rfl, Nat.le_of_ble_eq_true rfl⟩ hP hD hS (fun H locs hP hD hS => ?_)
  refine lv_if_ne (tgt := 22) hx hb dX9_count_10 (by decide) (fun h9 => absurd rfl h9) (fun _ => ?_)
  refine lv_iload_n hx hb dX9_count_13 rfl (lv_at hl 2 rfl) ?_
  refine lv_iconst (v := 0) hx hb dX9_count_14 (by decide) ?_
  refine lv_iconst (v := 3) hx hb dX9_count_15 (by decide) ?_
  refine ct_S0 (As := [.int i, .int 0, .int 3]) (rest := []) (r := some (.int 0)) C (k_within0 hG _ _ _ (hi)) tm_762 tm_763 tm_3 tm_764 hdX9_within.2 ⟨Nat.le_of_ble_eq_true rfl, Nat.le_of_ble_eq_true rfl⟩ hl.1 rfl (Nat.le_of_ble_eq_true rfl) dX9_count_16 ⟨Nat.le_of_ble_eq_true rfl, Nat.le_of_ble_eq_true rfl⟩ hP hD hS (fun H locs hP hD hS => ?_)
  refine lv_if_ne (tgt := 28) hx hb dX9_count_19 (by decide) (fun h9 => absurd rfl h9) (fun _ => ?_)
  refine lv_aload_n hx hb dX9_count_22 rfl (lv_at hl 0 rfl) ?_
  refine lv_iconst (v := 1) hx hb dX9_count_23 (by decide) ?_
  refine mc_V (As := [.int 1]) (rest := []) (r := some (.int 0)) (T := sS (sS P 0 0) 0 1) C (k_fail hG _ _) tm_769 tm_771 tm_895 tm_3 tm_772 rfl hdX9_fail ⟨Nat.le_of_ble_eq_true rfl, Nat.le_of_ble_eq_true rfl⟩ hl.1 rfl (Nat.le_of_ble_eq_true rfl) dX9_count_24 ⟨Nat.le_of_ble_eq_true rfl, Nat.le_of_ble_eq_true rfl⟩ hP hD hS (fun H locs hP hD hS => ?_)
  exact ct_iret C hS hP hD (⟨rfl, rfl⟩) (Nat.le_of_ble_eq_true rfl) (Nat.le_of_ble_eq_true rfl) dX9_count_27
set_option maxRecDepth 100000 in
theorem k_state_no {l : Launch} {s0 : State} {D : va_G} {cA : Nat → ClassId} {ad : Nat → Nat} (hG : cx_G l s0 D cA) {i : Int32} (z : Int64) (P : MS) (hi : ¬ ((0 : Int32) ≤ i ∧ i ≤ 2)) : MC l s0 D cA ad yX9_state cX9_state 4 (some .long) rmX9_state [.int i, .long z] P (some (.long ((0 : Int32).toInt64))) (sS (sS P 0 0) 0 1) := by
  refine Ct.of (cA := cA) hG (by decide +kernel) (Nat.le_of_ble_eq_true rfl) ?_
  intro p e s m below meth c A C hnm hP hD hS ls hl
  have hx := cx_x C
  have hb := cx_b C
  have hl : lv_has ls 4 [(0, .ref (ad 0)), (1, .int i), (2, .long z)] := hl
  refine lv_aload_n hx hb dX9_state_0 rfl (lv_at hl 0 rfl) ?_
  refine lv_iconst (v := 0) hx hb dX9_state_1 (by decide) ?_
  refine pm_0 (v := 0) C hP hD hS tm_666 dX9_state_2 (fun H locs hP hD hS => ?_)
  refine lv_iload_n hx hb dX9_state_5 rfl (lv_at hl 1 rfl) ?_
  refine lv_iconst (v := 0) hx hb dX9_state_6 (by decide) ?_
  refine lv_iconst (v := 2) hx hb dX9_state_7 (by decide) ?_
  refine ct_S0 (As := [.int i, .int 0, .int 2]) (rest := []) (r := some (.int 0)) C (k_within0 hG _ _ _ (hi)) tm_762 tm_763 tm_3 tm_764 hdX9_within.2 ⟨Nat.le_of_ble_eq_true rfl, Nat.le_of_ble_eq_true rfl⟩ hl.1 rfl (Nat.le_of_ble_eq_true rfl) dX9_state_8 ⟨Nat.le_of_ble_eq_true rfl, Nat.le_of_ble_eq_true rfl⟩ hP hD hS (fun H locs hP hD hS => ?_)
  refine lv_if_eq (tgt := 25) hx hb dX9_state_11 (by decide) (fun _ => ?_) (fun h9 => absurd (by decide) h9)
  refine lv_aload_n hx hb dX9_state_25 rfl (lv_at hl 0 rfl) ?_
  refine lv_iconst (v := 1) hx hb dX9_state_26 (by decide) ?_
  refine mc_V (As := [.int 1]) (rest := []) (r := some (.int 0)) (T := sS (sS P 0 0) 0 1) C (k_fail hG _ _) tm_769 tm_771 tm_895 tm_3 tm_772 rfl hdX9_fail ⟨Nat.le_of_ble_eq_true rfl, Nat.le_of_ble_eq_true rfl⟩ hl.1 rfl (Nat.le_of_ble_eq_true rfl) dX9_state_27 ⟨Nat.le_of_ble_eq_true rfl, Nat.le_of_ble_eq_true rfl⟩ hP hD hS (fun H locs hP hD hS => ?_)
  refine lv_i2l (v := (0 : Int32).toInt64) hx hb dX9_state_30 rfl ?_
  exact ct_lret C hS hP hD (⟨rfl, rfl⟩) (Nat.le_of_ble_eq_true rfl) (Nat.le_of_ble_eq_true rfl) dX9_state_31
set_option maxRecDepth 100000 in
theorem k_state_z {l : Launch} {s0 : State} {D : va_G} {cA : Nat → ClassId} {ad : Nat → Nat} (hG : cx_G l s0 D cA) {z : Int64} (P : MS) (hz : ¬ (0 : Int64) ≤ z) : MC l s0 D cA ad yX9_state cX9_state 4 (some .long) rmX9_state [.int 2, .long z] P (some (.long ((0 : Int32).toInt64))) (sS (sS P 0 0) 0 1) := by
  refine Ct.of (cA := cA) hG (by decide +kernel) (Nat.le_of_ble_eq_true rfl) ?_
  intro p e s m below meth c A C hnm hP hD hS ls hl
  have hx := cx_x C
  have hb := cx_b C
  have hl : lv_has ls 4 [(0, .ref (ad 0)), (1, .int 2), (2, .long z)] := hl
  refine lv_aload_n hx hb dX9_state_0 rfl (lv_at hl 0 rfl) ?_
  refine lv_iconst (v := 0) hx hb dX9_state_1 (by decide) ?_
  refine pm_0 (v := 0) C hP hD hS tm_666 dX9_state_2 (fun H locs hP hD hS => ?_)
  refine lv_iload_n hx hb dX9_state_5 rfl (lv_at hl 1 rfl) ?_
  refine lv_iconst (v := 0) hx hb dX9_state_6 (by decide) ?_
  refine lv_iconst (v := 2) hx hb dX9_state_7 (by decide) ?_
  refine ct_S0 (As := [.int 2, .int 0, .int 2]) (rest := []) (r := some (.int 1)) C (k_within1 hG _ _ _ (by decide)) tm_762 tm_763 tm_3 tm_764 hdX9_within.2 ⟨Nat.le_of_ble_eq_true rfl, Nat.le_of_ble_eq_true rfl⟩ hl.1 rfl (Nat.le_of_ble_eq_true rfl) dX9_state_8 ⟨Nat.le_of_ble_eq_true rfl, Nat.le_of_ble_eq_true rfl⟩ hP hD hS (fun H locs hP hD hS => ?_)
  refine lv_if_eq (tgt := 25) hx hb dX9_state_11 (by decide) (fun h9 => absurd h9 (by decide)) (fun _ => ?_)
  refine lv_iload_n hx hb dX9_state_14 rfl (lv_at hl 1 rfl) ?_
  refine lv_iconst (v := 2) hx hb dX9_state_15 (by decide) ?_
  refine lv_icmp_ne (tgt := 32) hx hb dX9_state_16 (by decide) (fun h9 => absurd rfl h9) (fun _ => ?_)
  refine lv_lload_n hx hb dX9_state_19 rfl (lv_at hl 2 rfl) ?_
  refine lv_lconst (v := 0) hx hb dX9_state_20 (by decide) ?_
  refine W.lcmp hx hb dX9_state_21 ?_
  refine lv_if_ge (tgt := 32) hx hb dX9_state_22 (by decide) (fun h9 => absurd h9 (fun h => hz ((lg_cmp_ge _ _).mp h))) (fun _ => ?_)
  refine lv_aload_n hx hb dX9_state_25 rfl (lv_at hl 0 rfl) ?_
  refine lv_iconst (v := 1) hx hb dX9_state_26 (by decide) ?_
  refine mc_V (As := [.int 1]) (rest := []) (r := some (.int 0)) (T := sS (sS P 0 0) 0 1) C (k_fail hG _ _) tm_769 tm_771 tm_895 tm_3 tm_772 rfl hdX9_fail ⟨Nat.le_of_ble_eq_true rfl, Nat.le_of_ble_eq_true rfl⟩ hl.1 rfl (Nat.le_of_ble_eq_true rfl) dX9_state_27 ⟨Nat.le_of_ble_eq_true rfl, Nat.le_of_ble_eq_true rfl⟩ hP hD hS (fun H locs hP hD hS => ?_)
  refine lv_i2l (v := (0 : Int32).toInt64) hx hb dX9_state_30 rfl ?_
  exact ct_lret C hS hP hD (⟨rfl, rfl⟩) (Nat.le_of_ble_eq_true rfl) (Nat.le_of_ble_eq_true rfl) dX9_state_31
set_option maxRecDepth 100000 in
theorem k_total_0 {l : Launch} {s0 : State} {D : va_G} {cA : Nat → ClassId} {ad : Nat → Nat} (hG : cx_G l s0 D cA) {j n : Nat} (P : MS) (hn : qS P 8 = nI n) (hn8 : n ≤ 8) (hj : j < n) (hk : qI P 9 j = 0) : MC l s0 D cA ad yX9_total cX9_total 2 (some .long) rmX9_total [.int (nI j)] P (some (.long (qJ P 22 j))) (sS P 0 0) := by
  refine Ct.of (cA := cA) hG (by decide +kernel) (Nat.le_of_ble_eq_true rfl) ?_
  intro p e s m below meth c A C hnm hP hD hS ls hl
  have hx := cx_x C
  have hb := cx_b C
  have hl : lv_has ls 2 [(0, .ref (ad 0)), (1, .int (nI j))] := hl
  refine lv_aload_n hx hb dX9_total_0 rfl (lv_at hl 0 rfl) ?_
  refine lv_iconst (v := 0) hx hb dX9_total_1 (by decide) ?_
  refine pm_0 (v := 0) C hP hD hS tm_666 dX9_total_2 (fun H locs hP hD hS => ?_)
  refine lv_aload_n hx hb dX9_total_5 rfl (lv_at hl 0 rfl) ?_
  refine lv_iload_n hx hb dX9_total_6 rfl (lv_at hl 1 rfl) ?_
  refine mc_V (As := [.int (nI j)]) (rest := []) (r := some (.int 0)) (T := sS P 0 0) C (k_none_ok (n := n) hG (sS P 0 0) hn hn8 hj) tm_789 tm_791 tm_897 tm_3 tm_792 rfl hdX9_none ⟨Nat.le_of_ble_eq_true rfl, Nat.le_of_ble_eq_true rfl⟩ hl.1 rfl (Nat.le_of_ble_eq_true rfl) dX9_total_7 ⟨Nat.le_of_ble_eq_true rfl, Nat.le_of_ble_eq_true rfl⟩ hP hD hS (fun H locs hP hD hS => ?_)
  refine lv_if_eq (tgt := 20) hx hb dX9_total_10 (by decide) (fun _ => ?_) (fun h9 => absurd (by decide) h9)
  refine lv_aload_n hx hb dX9_total_20 rfl (lv_at hl 0 rfl) ?_
  refine gm_9 C hP tm_675 dX9_total_21 ?_
  refine lv_iload_n hx hb dX9_total_24 rfl (lv_at hl 1 rfl) ?_
  refine xl_9 (v := qI P 9 j) (j := j) C hP (ix8 (Nat.lt_of_lt_of_le hj hn8)) (rfl) dX9_total_25 ?_
  refine lv_if_ne (tgt := 38) hx hb dX9_total_26 (by decide) (fun h9 => absurd (hk) h9) (fun _ => ?_)
  refine lv_aload_n hx hb dX9_total_29 rfl (lv_at hl 0 rfl) ?_
  refine gm_22 C hP tm_688 dX9_total_30 ?_
  refine lv_iload_n hx hb dX9_total_33 rfl (lv_at hl 1 rfl) ?_
  refine xl_22 (v := qJ P 22 j) (j := j) C hP (ix8 (Nat.lt_of_lt_of_le hj hn8)) (rfl) dX9_total_34 ?_
  refine lv_goto (tgt := 59) hx hb dX9_total_35 (by decide) ?_
  exact ct_lret C hS hP hD (⟨rfl, rfl⟩) (Nat.le_of_ble_eq_true rfl) (Nat.le_of_ble_eq_true rfl) dX9_total_59
set_option maxRecDepth 100000 in
theorem k_total_3 {l : Launch} {s0 : State} {D : va_G} {cA : Nat → ClassId} {ad : Nat → Nat} (hG : cx_G l s0 D cA) {j n : Nat} (P : MS) (hn : qS P 8 = nI n) (hn8 : n ≤ 8) (hj : j < n) (hk : qI P 9 j = 3) : MC l s0 D cA ad yX9_total cX9_total 2 (some .long) rmX9_total [.int (nI j)] P (some (.long (qI P 25 j).toInt64)) (sS P 0 0) := by
  refine Ct.of (cA := cA) hG (by decide +kernel) (Nat.le_of_ble_eq_true rfl) ?_
  intro p e s m below meth c A C hnm hP hD hS ls hl
  have hx := cx_x C
  have hb := cx_b C
  have hl : lv_has ls 2 [(0, .ref (ad 0)), (1, .int (nI j))] := hl
  refine lv_aload_n hx hb dX9_total_0 rfl (lv_at hl 0 rfl) ?_
  refine lv_iconst (v := 0) hx hb dX9_total_1 (by decide) ?_
  refine pm_0 (v := 0) C hP hD hS tm_666 dX9_total_2 (fun H locs hP hD hS => ?_)
  refine lv_aload_n hx hb dX9_total_5 rfl (lv_at hl 0 rfl) ?_
  refine lv_iload_n hx hb dX9_total_6 rfl (lv_at hl 1 rfl) ?_
  refine mc_V (As := [.int (nI j)]) (rest := []) (r := some (.int 0)) (T := sS P 0 0) C (k_none_ok (n := n) hG (sS P 0 0) hn hn8 hj) tm_789 tm_791 tm_897 tm_3 tm_792 rfl hdX9_none ⟨Nat.le_of_ble_eq_true rfl, Nat.le_of_ble_eq_true rfl⟩ hl.1 rfl (Nat.le_of_ble_eq_true rfl) dX9_total_7 ⟨Nat.le_of_ble_eq_true rfl, Nat.le_of_ble_eq_true rfl⟩ hP hD hS (fun H locs hP hD hS => ?_)
  refine lv_if_eq (tgt := 20) hx hb dX9_total_10 (by decide) (fun _ => ?_) (fun h9 => absurd (by decide) h9)
  refine lv_aload_n hx hb dX9_total_20 rfl (lv_at hl 0 rfl) ?_
  refine gm_9 C hP tm_675 dX9_total_21 ?_
  refine lv_iload_n hx hb dX9_total_24 rfl (lv_at hl 1 rfl) ?_
  refine xl_9 (v := qI P 9 j) (j := j) C hP (ix8 (Nat.lt_of_lt_of_le hj hn8)) (rfl) dX9_total_25 ?_
  refine lv_if_ne (tgt := 38) hx hb dX9_total_26 (by decide) (fun _ => ?_) (fun h9 => absurd h9 (by rw [hk]; decide))
  refine lv_aload_n hx hb dX9_total_38 rfl (lv_at hl 0 rfl) ?_
  refine gm_9 C hP tm_675 dX9_total_39 ?_
  refine lv_iload_n hx hb dX9_total_42 rfl (lv_at hl 1 rfl) ?_
  refine xl_9 (v := qI P 9 j) (j := j) C hP (ix8 (Nat.lt_of_lt_of_le hj hn8)) (rfl) dX9_total_43 ?_
  refine lv_iconst (v := 3) hx hb dX9_total_44 (by decide) ?_
  refine lv_icmp_ne (tgt := 58) hx hb dX9_total_45 (by decide) (fun h9 => absurd (hk) h9) (fun _ => ?_)
  refine lv_aload_n hx hb dX9_total_48 rfl (lv_at hl 0 rfl) ?_
  refine gm_25 C hP tm_691 dX9_total_49 ?_
  refine lv_iload_n hx hb dX9_total_52 rfl (lv_at hl 1 rfl) ?_
  refine xl_25 (v := qI P 25 j) (j := j) C hP (ix8 (Nat.lt_of_lt_of_le hj hn8)) (rfl) dX9_total_53 ?_
  refine lv_i2l (v := (qI P 25 j).toInt64) hx hb dX9_total_54 rfl ?_
  refine lv_goto (tgt := 59) hx hb dX9_total_55 (by decide) ?_
  exact ct_lret C hS hP hD (⟨rfl, rfl⟩) (Nat.le_of_ble_eq_true rfl) (Nat.le_of_ble_eq_true rfl) dX9_total_59
set_option maxRecDepth 100000 in
theorem k_total_x {l : Launch} {s0 : State} {D : va_G} {cA : Nat → ClassId} {ad : Nat → Nat} (hG : cx_G l s0 D cA) {j n : Nat} (P : MS) (hn : qS P 8 = nI n) (hn8 : n ≤ 8) (hj : j < n) (hk : ¬ qI P 9 j = 0) (hk3 : ¬ qI P 9 j = 3) : MC l s0 D cA ad yX9_total cX9_total 2 (some .long) rmX9_total [.int (nI j)] P (some (.long 0)) (sS P 0 0) := by
  refine Ct.of (cA := cA) hG (by decide +kernel) (Nat.le_of_ble_eq_true rfl) ?_
  intro p e s m below meth c A C hnm hP hD hS ls hl
  have hx := cx_x C
  have hb := cx_b C
  have hl : lv_has ls 2 [(0, .ref (ad 0)), (1, .int (nI j))] := hl
  refine lv_aload_n hx hb dX9_total_0 rfl (lv_at hl 0 rfl) ?_
  refine lv_iconst (v := 0) hx hb dX9_total_1 (by decide) ?_
  refine pm_0 (v := 0) C hP hD hS tm_666 dX9_total_2 (fun H locs hP hD hS => ?_)
  refine lv_aload_n hx hb dX9_total_5 rfl (lv_at hl 0 rfl) ?_
  refine lv_iload_n hx hb dX9_total_6 rfl (lv_at hl 1 rfl) ?_
  refine mc_V (As := [.int (nI j)]) (rest := []) (r := some (.int 0)) (T := sS P 0 0) C (k_none_ok (n := n) hG (sS P 0 0) hn hn8 hj) tm_789 tm_791 tm_897 tm_3 tm_792 rfl hdX9_none ⟨Nat.le_of_ble_eq_true rfl, Nat.le_of_ble_eq_true rfl⟩ hl.1 rfl (Nat.le_of_ble_eq_true rfl) dX9_total_7 ⟨Nat.le_of_ble_eq_true rfl, Nat.le_of_ble_eq_true rfl⟩ hP hD hS (fun H locs hP hD hS => ?_)
  refine lv_if_eq (tgt := 20) hx hb dX9_total_10 (by decide) (fun _ => ?_) (fun h9 => absurd (by decide) h9)
  refine lv_aload_n hx hb dX9_total_20 rfl (lv_at hl 0 rfl) ?_
  refine gm_9 C hP tm_675 dX9_total_21 ?_
  refine lv_iload_n hx hb dX9_total_24 rfl (lv_at hl 1 rfl) ?_
  refine xl_9 (v := qI P 9 j) (j := j) C hP (ix8 (Nat.lt_of_lt_of_le hj hn8)) (rfl) dX9_total_25 ?_
  refine lv_if_ne (tgt := 38) hx hb dX9_total_26 (by decide) (fun _ => ?_) (fun h9 => absurd h9 (hk))
  refine lv_aload_n hx hb dX9_total_38 rfl (lv_at hl 0 rfl) ?_
  refine gm_9 C hP tm_675 dX9_total_39 ?_
  refine lv_iload_n hx hb dX9_total_42 rfl (lv_at hl 1 rfl) ?_
  refine xl_9 (v := qI P 9 j) (j := j) C hP (ix8 (Nat.lt_of_lt_of_le hj hn8)) (rfl) dX9_total_43 ?_
  refine lv_iconst (v := 3) hx hb dX9_total_44 (by decide) ?_
  refine lv_icmp_ne (tgt := 58) hx hb dX9_total_45 (by decide) (fun _ => ?_) (fun h9 => absurd h9 (hk3))
  refine lv_lconst (v := 0) hx hb dX9_total_58 (by decide) ?_
  exact ct_lret C hS hP hD (⟨rfl, rfl⟩) (Nat.le_of_ble_eq_true rfl) (Nat.le_of_ble_eq_true rfl) dX9_total_59
set_option maxRecDepth 100000 in
theorem k_level {l : Launch} {s0 : State} {D : va_G} {cA : Nat → ClassId} {ad : Nat → Nat} (hG : cx_G l s0 D cA) {j n : Nat} (P : MS) (hn : qS P 8 = nI n) (hn8 : n ≤ 8) (hj : j < n) (hk : qI P 9 j = 1) : MC l s0 D cA ad yX9_level cX9_level 2 (some .float) rmX9_level [.int (nI j)] P (some (.float (qF P j))) (sS P 0 0) := by
  refine Ct.of (cA := cA) hG (by decide +kernel) (Nat.le_of_ble_eq_true rfl) ?_
  intro p e s m below meth c A C hnm hP hD hS ls hl
  have hx := cx_x C
  have hb := cx_b C
  have hl : lv_has ls 2 [(0, .ref (ad 0)), (1, .int (nI j))] := hl
  refine lv_aload_n hx hb dX9_level_0 rfl (lv_at hl 0 rfl) ?_
  refine lv_iconst (v := 0) hx hb dX9_level_1 (by decide) ?_
  refine pm_0 (v := 0) C hP hD hS tm_666 dX9_level_2 (fun H locs hP hD hS => ?_)
  refine lv_aload_n hx hb dX9_level_5 rfl (lv_at hl 0 rfl) ?_
  refine lv_iload_n hx hb dX9_level_6 rfl (lv_at hl 1 rfl) ?_
  refine mc_V (As := [.int (nI j)]) (rest := []) (r := some (.int 0)) (T := sS P 0 0) C (k_none_ok (n := n) hG (sS P 0 0) hn hn8 hj) tm_789 tm_791 tm_897 tm_3 tm_792 rfl hdX9_none ⟨Nat.le_of_ble_eq_true rfl, Nat.le_of_ble_eq_true rfl⟩ hl.1 rfl (Nat.le_of_ble_eq_true rfl) dX9_level_7 ⟨Nat.le_of_ble_eq_true rfl, Nat.le_of_ble_eq_true rfl⟩ hP hD hS (fun H locs hP hD hS => ?_)
  refine lv_if_ne (tgt := 23) hx hb dX9_level_10 (by decide) (fun h9 => absurd rfl h9) (fun _ => ?_)
  refine lv_aload_n hx hb dX9_level_13 rfl (lv_at hl 0 rfl) ?_
  refine gm_9 C hP tm_675 dX9_level_14 ?_
  refine lv_iload_n hx hb dX9_level_17 rfl (lv_at hl 1 rfl) ?_
  refine xl_9 (v := qI P 9 j) (j := j) C hP (ix8 (Nat.lt_of_lt_of_le hj hn8)) (rfl) dX9_level_18 ?_
  refine lv_iconst (v := 1) hx hb dX9_level_19 (by decide) ?_
  refine lv_icmp_eq (tgt := 32) hx hb dX9_level_20 (by decide) (fun _ => ?_) (fun h9 => absurd (hk) h9)
  refine lv_aload_n hx hb dX9_level_32 rfl (lv_at hl 0 rfl) ?_
  refine gm_23 C hP tm_689 dX9_level_33 ?_
  refine lv_iload_n hx hb dX9_level_36 rfl (lv_at hl 1 rfl) ?_
  refine xl_23 (v := qF P j) (j := j) C hP (ix8 (Nat.lt_of_lt_of_le hj hn8)) (rfl) dX9_level_37 ?_
  exact ct_fret C hS hP hD (⟨rfl, rfl⟩) (Nat.le_of_ble_eq_true rfl) (Nat.le_of_ble_eq_true rfl) dX9_level_38
set_option maxRecDepth 100000 in
theorem k_mean {l : Launch} {s0 : State} {D : va_G} {cA : Nat → ClassId} {ad : Nat → Nat} (hG : cx_G l s0 D cA) {j n : Nat} (P : MS) (hn : qS P 8 = nI n) (hn8 : n ≤ 8) (hj : j < n) (hk : qI P 9 j = 2) : MC l s0 D cA ad yX9_mean cX9_mean 2 (some .double) rmX9_mean [.int (nI j)] P (some (.double (qD P j))) (sS P 0 0) := by
  refine Ct.of (cA := cA) hG (by decide +kernel) (Nat.le_of_ble_eq_true rfl) ?_
  intro p e s m below meth c A C hnm hP hD hS ls hl
  have hx := cx_x C
  have hb := cx_b C
  have hl : lv_has ls 2 [(0, .ref (ad 0)), (1, .int (nI j))] := hl
  refine lv_aload_n hx hb dX9_mean_0 rfl (lv_at hl 0 rfl) ?_
  refine lv_iconst (v := 0) hx hb dX9_mean_1 (by decide) ?_
  refine pm_0 (v := 0) C hP hD hS tm_666 dX9_mean_2 (fun H locs hP hD hS => ?_)
  refine lv_aload_n hx hb dX9_mean_5 rfl (lv_at hl 0 rfl) ?_
  refine lv_iload_n hx hb dX9_mean_6 rfl (lv_at hl 1 rfl) ?_
  refine mc_V (As := [.int (nI j)]) (rest := []) (r := some (.int 0)) (T := sS P 0 0) C (k_none_ok (n := n) hG (sS P 0 0) hn hn8 hj) tm_789 tm_791 tm_897 tm_3 tm_792 rfl hdX9_none ⟨Nat.le_of_ble_eq_true rfl, Nat.le_of_ble_eq_true rfl⟩ hl.1 rfl (Nat.le_of_ble_eq_true rfl) dX9_mean_7 ⟨Nat.le_of_ble_eq_true rfl, Nat.le_of_ble_eq_true rfl⟩ hP hD hS (fun H locs hP hD hS => ?_)
  refine lv_if_ne (tgt := 23) hx hb dX9_mean_10 (by decide) (fun h9 => absurd rfl h9) (fun _ => ?_)
  refine lv_aload_n hx hb dX9_mean_13 rfl (lv_at hl 0 rfl) ?_
  refine gm_9 C hP tm_675 dX9_mean_14 ?_
  refine lv_iload_n hx hb dX9_mean_17 rfl (lv_at hl 1 rfl) ?_
  refine xl_9 (v := qI P 9 j) (j := j) C hP (ix8 (Nat.lt_of_lt_of_le hj hn8)) (rfl) dX9_mean_18 ?_
  refine lv_iconst (v := 2) hx hb dX9_mean_19 (by decide) ?_
  refine lv_icmp_eq (tgt := 32) hx hb dX9_mean_20 (by decide) (fun _ => ?_) (fun h9 => absurd (hk) h9)
  refine lv_aload_n hx hb dX9_mean_32 rfl (lv_at hl 0 rfl) ?_
  refine gm_24 C hP tm_690 dX9_mean_33 ?_
  refine lv_iload_n hx hb dX9_mean_36 rfl (lv_at hl 1 rfl) ?_
  refine xl_24 (v := qD P j) (j := j) C hP (ix8 (Nat.lt_of_lt_of_le hj hn8)) (rfl) dX9_mean_37 ?_
  exact ct_dret C hS hP hD (⟨rfl, rfl⟩) (Nat.le_of_ble_eq_true rfl) (Nat.le_of_ble_eq_true rfl) dX9_mean_38
theorem nI_400 {j i : Nat} : (400 : Int32) * nI j + nI i = nI (400 * j + i) := by rw [← nI_add, ← pk_mul]; rfl
set_option maxRecDepth 100000 in
theorem k_octet {l : Launch} {s0 : State} {D : va_G} {cA : Nat → ClassId} {ad : Nat → Nat} (hG : cx_G l s0 D cA) {j n i : Nat} (P : MS) (hn : qS P 8 = nI n) (hn8 : n ≤ 8) (hj : j < n) (hk : qI P 9 j = 3) (hi : (0 : Int32) ≤ nI i ∧ nI i ≤ qI P 25 j - 1) (hi4 : i < 400) : MC l s0 D cA ad yX9_octet cX9_octet 3 (some .int) rmX9_octet [.int (nI j), .int (nI i)] P (some (.int (qI P 26 (400 * j + i)))) (sS P 0 0) := by
  refine Ct.of (cA := cA) hG (by decide +kernel) (Nat.le_of_ble_eq_true rfl) ?_
  intro p e s m below meth c A C hnm hP hD hS ls hl
  have hx := cx_x C
  have hb := cx_b C
  have hl : lv_has ls 3 [(0, .ref (ad 0)), (1, .int (nI j)), (2, .int (nI i))] := hl
  refine lv_aload_n hx hb dX9_octet_0 rfl (lv_at hl 0 rfl) ?_
  refine lv_iconst (v := 0) hx hb dX9_octet_1 (by decide) ?_
  refine pm_0 (v := 0) C hP hD hS tm_666 dX9_octet_2 (fun H locs hP hD hS => ?_)
  refine lv_aload_n hx hb dX9_octet_5 rfl (lv_at hl 0 rfl) ?_
  refine lv_iload_n hx hb dX9_octet_6 rfl (lv_at hl 1 rfl) ?_
  refine mc_V (As := [.int (nI j)]) (rest := []) (r := some (.int 0)) (T := sS P 0 0) C (k_noJ_ok (n := n) hG (sS P 0 0) hn hn8 hj hk) tm_843 tm_845 tm_905 tm_3 tm_846 rfl hdX9_noJournal ⟨Nat.le_of_ble_eq_true rfl, Nat.le_of_ble_eq_true rfl⟩ hl.1 rfl (Nat.le_of_ble_eq_true rfl) dX9_octet_7 ⟨Nat.le_of_ble_eq_true rfl, Nat.le_of_ble_eq_true rfl⟩ hP hD hS (fun H locs hP hD hS => ?_)
  refine lv_if_eq (tgt := 19) hx hb dX9_octet_10 (by decide) (fun _ => ?_) (fun h9 => absurd (by decide) h9)
  refine lv_iload_n hx hb dX9_octet_19 rfl (lv_at hl 2 rfl) ?_
  refine lv_iconst (v := 0) hx hb dX9_octet_20 (by decide) ?_
  refine lv_aload_n hx hb dX9_octet_21 rfl (lv_at hl 0 rfl) ?_
  refine gm_25 C hP tm_691 dX9_octet_22 ?_
  refine lv_iload_n hx hb dX9_octet_25 rfl (lv_at hl 1 rfl) ?_
  refine xl_25 (v := qI P 25 j) (j := j) C hP (ix8 (Nat.lt_of_lt_of_le hj hn8)) (rfl) dX9_octet_26 ?_
  refine lv_iconst (v := 1) hx hb dX9_octet_27 (by decide) ?_
  refine lv_isub hx hb dX9_octet_28 ?_
  refine ct_S0 (As := [.int (nI i), .int 0, .int ((qI P 25 j) - 1)]) (rest := []) (r := some (.int 1)) C (k_within1 hG _ _ _ (hi)) tm_762 tm_763 tm_3 tm_764 hdX9_within.2 ⟨Nat.le_of_ble_eq_true rfl, Nat.le_of_ble_eq_true rfl⟩ hl.1 rfl (Nat.le_of_ble_eq_true rfl) dX9_octet_29 ⟨Nat.le_of_ble_eq_true rfl, Nat.le_of_ble_eq_true rfl⟩ hP hD hS (fun H locs hP hD hS => ?_)
  refine lv_if_eq (tgt := 50) hx hb dX9_octet_32 (by decide) (fun h9 => absurd h9 (by decide)) (fun _ => ?_)
  refine lv_aload_n hx hb dX9_octet_35 rfl (lv_at hl 0 rfl) ?_
  refine gm_26 C hP tm_692 dX9_octet_36 ?_
  refine lv_sipush (v := 400) hx hb dX9_octet_39 (by decide) ?_
  refine lv_iload_n hx hb dX9_octet_42 rfl (lv_at hl 1 rfl) ?_
  refine lv_imul hx hb dX9_octet_43 ?_
  refine lv_iload_n hx hb dX9_octet_44 rfl (lv_at hl 2 rfl) ?_
  refine lv_iadd hx hb dX9_octet_45 ?_
  refine xl_26 (v := qI P 26 (400 * j + i)) (j := 400 * j + i) C hP (ix_eq nI_400 (by omega) (by decide)) (rfl) dX9_octet_46 ?_
  refine lv_goto (tgt := 55) hx hb dX9_octet_47 (by decide) ?_
  exact ct_iret C hS hP hD (⟨rfl, rfl⟩) (Nat.le_of_ble_eq_true rfl) (Nat.le_of_ble_eq_true rfl) dX9_octet_55
set_option maxRecDepth 100000 in
theorem k_octet_i {l : Launch} {s0 : State} {D : va_G} {cA : Nat → ClassId} {ad : Nat → Nat} (hG : cx_G l s0 D cA) {j n : Nat} {i : Int32} (P : MS) (hn : qS P 8 = nI n) (hn8 : n ≤ 8) (hj : j < n) (hk : qI P 9 j = 3) (hi : ¬ ((0 : Int32) ≤ i ∧ i ≤ qI P 25 j - 1)) : MC l s0 D cA ad yX9_octet cX9_octet 3 (some .int) rmX9_octet [.int (nI j), .int i] P (some (.int 0)) (sS (sS P 0 0) 0 2) := by
  refine Ct.of (cA := cA) hG (by decide +kernel) (Nat.le_of_ble_eq_true rfl) ?_
  intro p e s m below meth c A C hnm hP hD hS ls hl
  have hx := cx_x C
  have hb := cx_b C
  have hl : lv_has ls 3 [(0, .ref (ad 0)), (1, .int (nI j)), (2, .int i)] := hl
  refine lv_aload_n hx hb dX9_octet_0 rfl (lv_at hl 0 rfl) ?_
  refine lv_iconst (v := 0) hx hb dX9_octet_1 (by decide) ?_
  refine pm_0 (v := 0) C hP hD hS tm_666 dX9_octet_2 (fun H locs hP hD hS => ?_)
  refine lv_aload_n hx hb dX9_octet_5 rfl (lv_at hl 0 rfl) ?_
  refine lv_iload_n hx hb dX9_octet_6 rfl (lv_at hl 1 rfl) ?_
  refine mc_V (As := [.int (nI j)]) (rest := []) (r := some (.int 0)) (T := sS P 0 0) C (k_noJ_ok (n := n) hG (sS P 0 0) hn hn8 hj hk) tm_843 tm_845 tm_905 tm_3 tm_846 rfl hdX9_noJournal ⟨Nat.le_of_ble_eq_true rfl, Nat.le_of_ble_eq_true rfl⟩ hl.1 rfl (Nat.le_of_ble_eq_true rfl) dX9_octet_7 ⟨Nat.le_of_ble_eq_true rfl, Nat.le_of_ble_eq_true rfl⟩ hP hD hS (fun H locs hP hD hS => ?_)
  refine lv_if_eq (tgt := 19) hx hb dX9_octet_10 (by decide) (fun _ => ?_) (fun h9 => absurd (by decide) h9)
  refine lv_iload_n hx hb dX9_octet_19 rfl (lv_at hl 2 rfl) ?_
  refine lv_iconst (v := 0) hx hb dX9_octet_20 (by decide) ?_
  refine lv_aload_n hx hb dX9_octet_21 rfl (lv_at hl 0 rfl) ?_
  refine gm_25 C hP tm_691 dX9_octet_22 ?_
  refine lv_iload_n hx hb dX9_octet_25 rfl (lv_at hl 1 rfl) ?_
  refine xl_25 (v := qI P 25 j) (j := j) C hP (ix8 (Nat.lt_of_lt_of_le hj hn8)) (rfl) dX9_octet_26 ?_
  refine lv_iconst (v := 1) hx hb dX9_octet_27 (by decide) ?_
  refine lv_isub hx hb dX9_octet_28 ?_
  refine ct_S0 (As := [.int i, .int 0, .int ((qI P 25 j) - 1)]) (rest := []) (r := some (.int 0)) C (k_within0 hG _ _ _ (hi)) tm_762 tm_763 tm_3 tm_764 hdX9_within.2 ⟨Nat.le_of_ble_eq_true rfl, Nat.le_of_ble_eq_true rfl⟩ hl.1 rfl (Nat.le_of_ble_eq_true rfl) dX9_octet_29 ⟨Nat.le_of_ble_eq_true rfl, Nat.le_of_ble_eq_true rfl⟩ hP hD hS (fun H locs hP hD hS => ?_)
  refine lv_if_eq (tgt := 50) hx hb dX9_octet_32 (by decide) (fun _ => ?_) (fun h9 => absurd (by decide) h9)
  refine lv_aload_n hx hb dX9_octet_50 rfl (lv_at hl 0 rfl) ?_
  refine lv_iconst (v := 2) hx hb dX9_octet_51 (by decide) ?_
  refine mc_V (As := [.int 2]) (rest := []) (r := some (.int 0)) (T := sS (sS P 0 0) 0 2) C (k_fail hG _ _) tm_769 tm_771 tm_895 tm_3 tm_772 rfl hdX9_fail ⟨Nat.le_of_ble_eq_true rfl, Nat.le_of_ble_eq_true rfl⟩ hl.1 rfl (Nat.le_of_ble_eq_true rfl) dX9_octet_52 ⟨Nat.le_of_ble_eq_true rfl, Nat.le_of_ble_eq_true rfl⟩ hP hD hS (fun H locs hP hD hS => ?_)
  exact ct_iret C hS hP hD (⟨rfl, rfl⟩) (Nat.le_of_ble_eq_true rfl) (Nat.le_of_ble_eq_true rfl) dX9_octet_55
set_option maxRecDepth 100000 in
theorem k_tear {l : Launch} {s0 : State} {D : va_G} {cA : Nat → ClassId} {ad : Nat → Nat} (hG : cx_G l s0 D cA) {j n : Nat} {i : Int32} (P : MS) (hn : qS P 8 = nI n) (hn8 : n ≤ 8) (hj : j < n) (hk : qI P 9 j = 3) (hi : (0 : Int32) ≤ i ∧ i ≤ qI P 25 j) : MC l s0 D cA ad yX9_tear cX9_tear 3 (some .int) rmX9_tear [.int (nI j), .int i] P (some (.int (qI P 25 j - i))) (sI (sS P 0 0) 25 j (qI P 25 j - i)) := by
  refine Ct.of (cA := cA) hG (by decide +kernel) (Nat.le_of_ble_eq_true rfl) ?_
  intro p e s m below meth c A C hnm hP hD hS ls hl
  have hx := cx_x C
  have hb := cx_b C
  have hl : lv_has ls 3 [(0, .ref (ad 0)), (1, .int (nI j)), (2, .int i)] := hl
  refine lv_aload_n hx hb dX9_tear_0 rfl (lv_at hl 0 rfl) ?_
  refine lv_iconst (v := 0) hx hb dX9_tear_1 (by decide) ?_
  refine pm_0 (v := 0) C hP hD hS tm_666 dX9_tear_2 (fun H locs hP hD hS => ?_)
  refine lv_aload_n hx hb dX9_tear_5 rfl (lv_at hl 0 rfl) ?_
  refine lv_iload_n hx hb dX9_tear_6 rfl (lv_at hl 1 rfl) ?_
  refine mc_V (As := [.int (nI j)]) (rest := []) (r := some (.int 0)) (T := sS P 0 0) C (k_noJ_ok (n := n) hG (sS P 0 0) hn hn8 hj hk) tm_843 tm_845 tm_905 tm_3 tm_846 rfl hdX9_noJournal ⟨Nat.le_of_ble_eq_true rfl, Nat.le_of_ble_eq_true rfl⟩ hl.1 rfl (Nat.le_of_ble_eq_true rfl) dX9_tear_7 ⟨Nat.le_of_ble_eq_true rfl, Nat.le_of_ble_eq_true rfl⟩ hP hD hS (fun H locs hP hD hS => ?_)
  refine lv_if_ne (tgt := 27) hx hb dX9_tear_10 (by decide) (fun h9 => absurd rfl h9) (fun _ => ?_)
  refine lv_iload_n hx hb dX9_tear_13 rfl (lv_at hl 2 rfl) ?_
  refine lv_iconst (v := 0) hx hb dX9_tear_14 (by decide) ?_
  refine lv_aload_n hx hb dX9_tear_15 rfl (lv_at hl 0 rfl) ?_
  refine gm_25 C hP tm_691 dX9_tear_16 ?_
  refine lv_iload_n hx hb dX9_tear_19 rfl (lv_at hl 1 rfl) ?_
  refine xl_25 (v := qI P 25 j) (j := j) C hP (ix8 (Nat.lt_of_lt_of_le hj hn8)) (rfl) dX9_tear_20 ?_
  refine ct_S0 (As := [.int i, .int 0, .int (qI P 25 j)]) (rest := []) (r := some (.int 1)) C (k_within1 hG _ _ _ (hi)) tm_762 tm_763 tm_3 tm_764 hdX9_within.2 ⟨Nat.le_of_ble_eq_true rfl, Nat.le_of_ble_eq_true rfl⟩ hl.1 rfl (Nat.le_of_ble_eq_true rfl) dX9_tear_21 ⟨Nat.le_of_ble_eq_true rfl, Nat.le_of_ble_eq_true rfl⟩ hP hD hS (fun H locs hP hD hS => ?_)
  refine lv_if_ne (tgt := 33) hx hb dX9_tear_24 (by decide) (fun _ => ?_) (fun h9 => absurd h9 (by decide))
  refine lv_aload_n hx hb dX9_tear_33 rfl (lv_at hl 0 rfl) ?_
  refine gm_25 C hP tm_691 dX9_tear_34 ?_
  refine lv_iload_n hx hb dX9_tear_37 rfl (lv_at hl 1 rfl) ?_
  refine lv_dup2_11 hx hb dX9_tear_38 rfl rfl ?_
  refine xl_25 (v := qI P 25 j) (j := j) C hP (ix8 (Nat.lt_of_lt_of_le hj hn8)) (rfl) dX9_tear_39 ?_
  refine lv_iload_n hx hb dX9_tear_40 rfl (lv_at hl 2 rfl) ?_
  refine lv_isub hx hb dX9_tear_41 ?_
  refine xs_25 (x := (qI P 25 j) - i) (j := j) C hP hD hS (ix8 (Nat.lt_of_lt_of_le hj hn8)) dX9_tear_42 (fun H locs hP hD hS => ?_)
  refine lv_aload_n hx hb dX9_tear_43 rfl (lv_at hl 0 rfl) ?_
  refine gm_25 C hP tm_691 dX9_tear_44 ?_
  refine lv_iload_n hx hb dX9_tear_47 rfl (lv_at hl 1 rfl) ?_
  refine xl_25 (v := (qI P 25 j) - i) (j := j) C hP (ix8 (Nat.lt_of_lt_of_le hj hn8)) (qI_s (P := (sS P 0 0)) (k := 25) (j := j) (v := (qI P 25 j) - i)) dX9_tear_48 ?_
  exact ct_iret C hS hP hD (⟨rfl, rfl⟩) (Nat.le_of_ble_eq_true rfl) (Nat.le_of_ble_eq_true rfl) dX9_tear_49
set_option maxRecDepth 100000 in
theorem k_count_0 {l : Launch} {s0 : State} {D : va_G} {cA : Nat → ClassId} {ad : Nat → Nat} (hG : cx_G l s0 D cA) {j n : Nat} (P : MS) (hn : qS P 8 = nI n) (hn8 : n ≤ 8) (hj : j < n) : MC l s0 D cA ad yX9_count cX9_count 3 (some .int) rmX9_count [.int (nI j), .int 0] P (some (.int (qI P 15 j))) (sS P 0 0) := by
  refine Ct.of (cA := cA) hG (by decide +kernel) (Nat.le_of_ble_eq_true rfl) ?_
  intro p e s m below meth c A C hnm hP hD hS ls hl
  have hx := cx_x C
  have hb := cx_b C
  have hl : lv_has ls 3 [(0, .ref (ad 0)), (1, .int (nI j)), (2, .int 0)] := hl
  refine lv_aload_n hx hb dX9_count_0 rfl (lv_at hl 0 rfl) ?_
  refine lv_iconst (v := 0) hx hb dX9_count_1 (by decide) ?_
  refine pm_0 (v := 0) C hP hD hS tm_666 dX9_count_2 (fun H locs hP hD hS => ?_)
  refine lv_aload_n hx hb dX9_count_5 rfl (lv_at hl 0 rfl) ?_
  refine lv_iload_n hx hb dX9_count_6 rfl (lv_at hl 1 rfl) ?_
  refine mc_V (As := [.int (nI j)]) (rest := []) (r := some (.int 0)) (T := sS P 0 0) C (k_none_ok (n := n) hG (sS P 0 0) hn hn8 hj) tm_789 tm_791 tm_897 tm_3 tm_792 rfl hdX9_none ⟨Nat.le_of_ble_eq_true rfl, Nat.le_of_ble_eq_true rfl⟩ hl.1 rfl (Nat.le_of_ble_eq_true rfl) dX9_count_7 ⟨Nat.le_of_ble_eq_true rfl, Nat.le_of_ble_eq_true rfl⟩ hP hD hS (fun H locs hP hD hS => ?_)
  refine lv_if_ne (tgt := 22) hx hb dX9_count_10 (by decide) (fun h9 => absurd rfl h9) (fun _ => ?_)
  refine lv_iload_n hx hb dX9_count_13 rfl (lv_at hl 2 rfl) ?_
  refine lv_iconst (v := 0) hx hb dX9_count_14 (by decide) ?_
  refine lv_iconst (v := 3) hx hb dX9_count_15 (by decide) ?_
  refine ct_S0 (As := [.int 0, .int 0, .int 3]) (rest := []) (r := some (.int 1)) C (k_within1 hG _ _ _ (by decide)) tm_762 tm_763 tm_3 tm_764 hdX9_within.2 ⟨Nat.le_of_ble_eq_true rfl, Nat.le_of_ble_eq_true rfl⟩ hl.1 rfl (Nat.le_of_ble_eq_true rfl) dX9_count_16 ⟨Nat.le_of_ble_eq_true rfl, Nat.le_of_ble_eq_true rfl⟩ hP hD hS (fun H locs hP hD hS => ?_)
  refine lv_if_ne (tgt := 28) hx hb dX9_count_19 (by decide) (fun _ => ?_) (fun h9 => absurd h9 (by decide))
  refine lv_iload_n hx hb dX9_count_28 rfl (lv_at hl 2 rfl) ?_
  refine lv_if_ne (tgt := 41) hx hb dX9_count_29 (by decide) (fun h9 => absurd rfl h9) (fun _ => ?_)
  refine lv_aload_n hx hb dX9_count_32 rfl (lv_at hl 0 rfl) ?_
  refine gm_15 C hP tm_681 dX9_count_33 ?_
  refine lv_iload_n hx hb dX9_count_36 rfl (lv_at hl 1 rfl) ?_
  refine xl_15 (v := qI P 15 j) (j := j) C hP (ix8 (Nat.lt_of_lt_of_le hj hn8)) (rfl) dX9_count_37 ?_
  refine lv_goto (tgt := 83) hx hb dX9_count_38 (by decide) ?_
  exact ct_iret C hS hP hD (⟨rfl, rfl⟩) (Nat.le_of_ble_eq_true rfl) (Nat.le_of_ble_eq_true rfl) dX9_count_83
set_option maxRecDepth 100000 in
theorem k_count_1 {l : Launch} {s0 : State} {D : va_G} {cA : Nat → ClassId} {ad : Nat → Nat} (hG : cx_G l s0 D cA) {j n : Nat} (P : MS) (hn : qS P 8 = nI n) (hn8 : n ≤ 8) (hj : j < n) : MC l s0 D cA ad yX9_count cX9_count 3 (some .int) rmX9_count [.int (nI j), .int 1] P (some (.int (qI P 16 j))) (sS P 0 0) := by
  refine Ct.of (cA := cA) hG (by decide +kernel) (Nat.le_of_ble_eq_true rfl) ?_
  intro p e s m below meth c A C hnm hP hD hS ls hl
  have hx := cx_x C
  have hb := cx_b C
  have hl : lv_has ls 3 [(0, .ref (ad 0)), (1, .int (nI j)), (2, .int 1)] := hl
  refine lv_aload_n hx hb dX9_count_0 rfl (lv_at hl 0 rfl) ?_
  refine lv_iconst (v := 0) hx hb dX9_count_1 (by decide) ?_
  refine pm_0 (v := 0) C hP hD hS tm_666 dX9_count_2 (fun H locs hP hD hS => ?_)
  refine lv_aload_n hx hb dX9_count_5 rfl (lv_at hl 0 rfl) ?_
  refine lv_iload_n hx hb dX9_count_6 rfl (lv_at hl 1 rfl) ?_
  refine mc_V (As := [.int (nI j)]) (rest := []) (r := some (.int 0)) (T := sS P 0 0) C (k_none_ok (n := n) hG (sS P 0 0) hn hn8 hj) tm_789 tm_791 tm_897 tm_3 tm_792 rfl hdX9_none ⟨Nat.le_of_ble_eq_true rfl, Nat.le_of_ble_eq_true rfl⟩ hl.1 rfl (Nat.le_of_ble_eq_true rfl) dX9_count_7 ⟨Nat.le_of_ble_eq_true rfl, Nat.le_of_ble_eq_true rfl⟩ hP hD hS (fun H locs hP hD hS => ?_)
  refine lv_if_ne (tgt := 22) hx hb dX9_count_10 (by decide) (fun h9 => absurd rfl h9) (fun _ => ?_)
  refine lv_iload_n hx hb dX9_count_13 rfl (lv_at hl 2 rfl) ?_
  refine lv_iconst (v := 0) hx hb dX9_count_14 (by decide) ?_
  refine lv_iconst (v := 3) hx hb dX9_count_15 (by decide) ?_
  refine ct_S0 (As := [.int 1, .int 0, .int 3]) (rest := []) (r := some (.int 1)) C (k_within1 hG _ _ _ (by decide)) tm_762 tm_763 tm_3 tm_764 hdX9_within.2 ⟨Nat.le_of_ble_eq_true rfl, Nat.le_of_ble_eq_true rfl⟩ hl.1 rfl (Nat.le_of_ble_eq_true rfl) dX9_count_16 ⟨Nat.le_of_ble_eq_true rfl, Nat.le_of_ble_eq_true rfl⟩ hP hD hS (fun H locs hP hD hS => ?_)
  refine lv_if_ne (tgt := 28) hx hb dX9_count_19 (by decide) (fun _ => ?_) (fun h9 => absurd h9 (by decide))
  refine lv_iload_n hx hb dX9_count_28 rfl (lv_at hl 2 rfl) ?_
  refine lv_if_ne (tgt := 41) hx hb dX9_count_29 (by decide) (fun _ => ?_) (fun h9 => absurd h9 (by decide))
  refine lv_iload_n hx hb dX9_count_41 rfl (lv_at hl 2 rfl) ?_
  refine lv_iconst (v := 1) hx hb dX9_count_42 (by decide) ?_
  refine lv_icmp_ne (tgt := 55) hx hb dX9_count_43 (by decide) (fun h9 => absurd rfl h9) (fun _ => ?_)
  refine lv_aload_n hx hb dX9_count_46 rfl (lv_at hl 0 rfl) ?_
  refine gm_16 C hP tm_682 dX9_count_47 ?_
  refine lv_iload_n hx hb dX9_count_50 rfl (lv_at hl 1 rfl) ?_
  refine xl_16 (v := qI P 16 j) (j := j) C hP (ix8 (Nat.lt_of_lt_of_le hj hn8)) (rfl) dX9_count_51 ?_
  refine lv_goto (tgt := 83) hx hb dX9_count_52 (by decide) ?_
  exact ct_iret C hS hP hD (⟨rfl, rfl⟩) (Nat.le_of_ble_eq_true rfl) (Nat.le_of_ble_eq_true rfl) dX9_count_83
set_option maxRecDepth 100000 in
theorem k_count_2 {l : Launch} {s0 : State} {D : va_G} {cA : Nat → ClassId} {ad : Nat → Nat} (hG : cx_G l s0 D cA) {j n : Nat} (P : MS) (hn : qS P 8 = nI n) (hn8 : n ≤ 8) (hj : j < n) : MC l s0 D cA ad yX9_count cX9_count 3 (some .int) rmX9_count [.int (nI j), .int 2] P (some (.int (qI P 17 j))) (sS P 0 0) := by
  refine Ct.of (cA := cA) hG (by decide +kernel) (Nat.le_of_ble_eq_true rfl) ?_
  intro p e s m below meth c A C hnm hP hD hS ls hl
  have hx := cx_x C
  have hb := cx_b C
  have hl : lv_has ls 3 [(0, .ref (ad 0)), (1, .int (nI j)), (2, .int 2)] := hl
  refine lv_aload_n hx hb dX9_count_0 rfl (lv_at hl 0 rfl) ?_
  refine lv_iconst (v := 0) hx hb dX9_count_1 (by decide) ?_
  refine pm_0 (v := 0) C hP hD hS tm_666 dX9_count_2 (fun H locs hP hD hS => ?_)
  refine lv_aload_n hx hb dX9_count_5 rfl (lv_at hl 0 rfl) ?_
  refine lv_iload_n hx hb dX9_count_6 rfl (lv_at hl 1 rfl) ?_
  refine mc_V (As := [.int (nI j)]) (rest := []) (r := some (.int 0)) (T := sS P 0 0) C (k_none_ok (n := n) hG (sS P 0 0) hn hn8 hj) tm_789 tm_791 tm_897 tm_3 tm_792 rfl hdX9_none ⟨Nat.le_of_ble_eq_true rfl, Nat.le_of_ble_eq_true rfl⟩ hl.1 rfl (Nat.le_of_ble_eq_true rfl) dX9_count_7 ⟨Nat.le_of_ble_eq_true rfl, Nat.le_of_ble_eq_true rfl⟩ hP hD hS (fun H locs hP hD hS => ?_)
  refine lv_if_ne (tgt := 22) hx hb dX9_count_10 (by decide) (fun h9 => absurd rfl h9) (fun _ => ?_)
  refine lv_iload_n hx hb dX9_count_13 rfl (lv_at hl 2 rfl) ?_
  refine lv_iconst (v := 0) hx hb dX9_count_14 (by decide) ?_
  refine lv_iconst (v := 3) hx hb dX9_count_15 (by decide) ?_
  refine ct_S0 (As := [.int 2, .int 0, .int 3]) (rest := []) (r := some (.int 1)) C (k_within1 hG _ _ _ (by decide)) tm_762 tm_763 tm_3 tm_764 hdX9_within.2 ⟨Nat.le_of_ble_eq_true rfl, Nat.le_of_ble_eq_true rfl⟩ hl.1 rfl (Nat.le_of_ble_eq_true rfl) dX9_count_16 ⟨Nat.le_of_ble_eq_true rfl, Nat.le_of_ble_eq_true rfl⟩ hP hD hS (fun H locs hP hD hS => ?_)
  refine lv_if_ne (tgt := 28) hx hb dX9_count_19 (by decide) (fun _ => ?_) (fun h9 => absurd h9 (by decide))
  refine lv_iload_n hx hb dX9_count_28 rfl (lv_at hl 2 rfl) ?_
  refine lv_if_ne (tgt := 41) hx hb dX9_count_29 (by decide) (fun _ => ?_) (fun h9 => absurd h9 (by decide))
  refine lv_iload_n hx hb dX9_count_41 rfl (lv_at hl 2 rfl) ?_
  refine lv_iconst (v := 1) hx hb dX9_count_42 (by decide) ?_
  refine lv_icmp_ne (tgt := 55) hx hb dX9_count_43 (by decide) (fun _ => ?_) (fun h9 => absurd h9 (by decide))
  refine lv_iload_n hx hb dX9_count_55 rfl (lv_at hl 2 rfl) ?_
  refine lv_iconst (v := 2) hx hb dX9_count_56 (by decide) ?_
  refine lv_icmp_ne (tgt := 69) hx hb dX9_count_57 (by decide) (fun h9 => absurd rfl h9) (fun _ => ?_)
  refine lv_aload_n hx hb dX9_count_60 rfl (lv_at hl 0 rfl) ?_
  refine gm_17 C hP tm_683 dX9_count_61 ?_
  refine lv_iload_n hx hb dX9_count_64 rfl (lv_at hl 1 rfl) ?_
  refine xl_17 (v := qI P 17 j) (j := j) C hP (ix8 (Nat.lt_of_lt_of_le hj hn8)) (rfl) dX9_count_65 ?_
  refine lv_goto (tgt := 83) hx hb dX9_count_66 (by decide) ?_
  exact ct_iret C hS hP hD (⟨rfl, rfl⟩) (Nat.le_of_ble_eq_true rfl) (Nat.le_of_ble_eq_true rfl) dX9_count_83
set_option maxRecDepth 100000 in
theorem k_count_3 {l : Launch} {s0 : State} {D : va_G} {cA : Nat → ClassId} {ad : Nat → Nat} (hG : cx_G l s0 D cA) {j n : Nat} (P : MS) (hn : qS P 8 = nI n) (hn8 : n ≤ 8) (hj : j < n) : MC l s0 D cA ad yX9_count cX9_count 3 (some .int) rmX9_count [.int (nI j), .int 3] P (some (.int (if qI P 14 j = 0 then 0 else 1))) (sS P 0 0) := by
  refine Ct.of (cA := cA) hG (by decide +kernel) (Nat.le_of_ble_eq_true rfl) ?_
  intro p e s m below meth c A C hnm hP hD hS ls hl
  have hx := cx_x C
  have hb := cx_b C
  have hl : lv_has ls 3 [(0, .ref (ad 0)), (1, .int (nI j)), (2, .int 3)] := hl
  refine lv_aload_n hx hb dX9_count_0 rfl (lv_at hl 0 rfl) ?_
  refine lv_iconst (v := 0) hx hb dX9_count_1 (by decide) ?_
  refine pm_0 (v := 0) C hP hD hS tm_666 dX9_count_2 (fun H locs hP hD hS => ?_)
  refine lv_aload_n hx hb dX9_count_5 rfl (lv_at hl 0 rfl) ?_
  refine lv_iload_n hx hb dX9_count_6 rfl (lv_at hl 1 rfl) ?_
  refine mc_V (As := [.int (nI j)]) (rest := []) (r := some (.int 0)) (T := sS P 0 0) C (k_none_ok (n := n) hG (sS P 0 0) hn hn8 hj) tm_789 tm_791 tm_897 tm_3 tm_792 rfl hdX9_none ⟨Nat.le_of_ble_eq_true rfl, Nat.le_of_ble_eq_true rfl⟩ hl.1 rfl (Nat.le_of_ble_eq_true rfl) dX9_count_7 ⟨Nat.le_of_ble_eq_true rfl, Nat.le_of_ble_eq_true rfl⟩ hP hD hS (fun H locs hP hD hS => ?_)
  refine lv_if_ne (tgt := 22) hx hb dX9_count_10 (by decide) (fun h9 => absurd rfl h9) (fun _ => ?_)
  refine lv_iload_n hx hb dX9_count_13 rfl (lv_at hl 2 rfl) ?_
  refine lv_iconst (v := 0) hx hb dX9_count_14 (by decide) ?_
  refine lv_iconst (v := 3) hx hb dX9_count_15 (by decide) ?_
  refine ct_S0 (As := [.int 3, .int 0, .int 3]) (rest := []) (r := some (.int 1)) C (k_within1 hG _ _ _ (by decide)) tm_762 tm_763 tm_3 tm_764 hdX9_within.2 ⟨Nat.le_of_ble_eq_true rfl, Nat.le_of_ble_eq_true rfl⟩ hl.1 rfl (Nat.le_of_ble_eq_true rfl) dX9_count_16 ⟨Nat.le_of_ble_eq_true rfl, Nat.le_of_ble_eq_true rfl⟩ hP hD hS (fun H locs hP hD hS => ?_)
  refine lv_if_ne (tgt := 28) hx hb dX9_count_19 (by decide) (fun _ => ?_) (fun h9 => absurd h9 (by decide))
  refine lv_iload_n hx hb dX9_count_28 rfl (lv_at hl 2 rfl) ?_
  refine lv_if_ne (tgt := 41) hx hb dX9_count_29 (by decide) (fun _ => ?_) (fun h9 => absurd h9 (by decide))
  refine lv_iload_n hx hb dX9_count_41 rfl (lv_at hl 2 rfl) ?_
  refine lv_iconst (v := 1) hx hb dX9_count_42 (by decide) ?_
  refine lv_icmp_ne (tgt := 55) hx hb dX9_count_43 (by decide) (fun _ => ?_) (fun h9 => absurd h9 (by decide))
  refine lv_iload_n hx hb dX9_count_55 rfl (lv_at hl 2 rfl) ?_
  refine lv_iconst (v := 2) hx hb dX9_count_56 (by decide) ?_
  refine lv_icmp_ne (tgt := 69) hx hb dX9_count_57 (by decide) (fun _ => ?_) (fun h9 => absurd h9 (by decide))
  refine lv_aload_n hx hb dX9_count_69 rfl (lv_at hl 0 rfl) ?_
  refine gm_14 C hP tm_680 dX9_count_70 ?_
  refine lv_iload_n hx hb dX9_count_73 rfl (lv_at hl 1 rfl) ?_
  refine xl_14 (v := qI P 14 j) (j := j) C hP (ix8 (Nat.lt_of_lt_of_le hj hn8)) (rfl) dX9_count_74 ?_
  refine lv_if_eq (tgt := 82) hx hb dX9_count_75 (by decide) (fun ch => ?_) (fun ch => ?_)
  · refine lv_iconst (v := 0) hx hb dX9_count_82 (by decide) ?_
    exact ct_iret C hS hP hD (⟨by rw [if_pos ch], rfl⟩) (Nat.le_of_ble_eq_true rfl) (Nat.le_of_ble_eq_true rfl) dX9_count_83
  refine lv_iconst (v := 1) hx hb dX9_count_78 (by decide) ?_
  refine lv_goto (tgt := 83) hx hb dX9_count_79 (by decide) ?_
  exact ct_iret C hS hP hD (⟨by rw [if_neg ch], rfl⟩) (Nat.le_of_ble_eq_true rfl) (Nat.le_of_ble_eq_true rfl) dX9_count_83
set_option maxRecDepth 100000 in
theorem k_state_0 {l : Launch} {s0 : State} {D : va_G} {cA : Nat → ClassId} {ad : Nat → Nat} (hG : cx_G l s0 D cA) (z : Int64) (P : MS) : MC l s0 D cA ad yX9_state cX9_state 4 (some .long) rmX9_state [.int 0, .long z] P (some (.long (qS P 3).toInt64)) (sS P 0 0) := by
  refine Ct.of (cA := cA) hG (by decide +kernel) (Nat.le_of_ble_eq_true rfl) ?_
  intro p e s m below meth c A C hnm hP hD hS ls hl
  have hx := cx_x C
  have hb := cx_b C
  have hl : lv_has ls 4 [(0, .ref (ad 0)), (1, .int 0), (2, .long z)] := hl
  refine lv_aload_n hx hb dX9_state_0 rfl (lv_at hl 0 rfl) ?_
  refine lv_iconst (v := 0) hx hb dX9_state_1 (by decide) ?_
  refine pm_0 (v := 0) C hP hD hS tm_666 dX9_state_2 (fun H locs hP hD hS => ?_)
  refine lv_iload_n hx hb dX9_state_5 rfl (lv_at hl 1 rfl) ?_
  refine lv_iconst (v := 0) hx hb dX9_state_6 (by decide) ?_
  refine lv_iconst (v := 2) hx hb dX9_state_7 (by decide) ?_
  refine ct_S0 (As := [.int 0, .int 0, .int 2]) (rest := []) (r := some (.int 1)) C (k_within1 hG _ _ _ (by decide)) tm_762 tm_763 tm_3 tm_764 hdX9_within.2 ⟨Nat.le_of_ble_eq_true rfl, Nat.le_of_ble_eq_true rfl⟩ hl.1 rfl (Nat.le_of_ble_eq_true rfl) dX9_state_8 ⟨Nat.le_of_ble_eq_true rfl, Nat.le_of_ble_eq_true rfl⟩ hP hD hS (fun H locs hP hD hS => ?_)
  refine lv_if_eq (tgt := 25) hx hb dX9_state_11 (by decide) (fun h9 => absurd h9 (by decide)) (fun _ => ?_)
  refine lv_iload_n hx hb dX9_state_14 rfl (lv_at hl 1 rfl) ?_
  refine lv_iconst (v := 2) hx hb dX9_state_15 (by decide) ?_
  refine lv_icmp_ne (tgt := 32) hx hb dX9_state_16 (by decide) (fun _ => ?_) (fun h9 => absurd h9 (by decide))
  refine lv_iload_n hx hb dX9_state_32 rfl (lv_at hl 1 rfl) ?_
  refine lv_if_ne (tgt := 44) hx hb dX9_state_33 (by decide) (fun h9 => absurd rfl h9) (fun _ => ?_)
  refine lv_aload_n hx hb dX9_state_36 rfl (lv_at hl 0 rfl) ?_
  refine gm_3 (v := qS P 3) C hP rfl tm_669 dX9_state_37 ?_
  refine lv_i2l (v := (qS P 3).toInt64) hx hb dX9_state_40 rfl ?_
  refine lv_goto (tgt := 71) hx hb dX9_state_41 (by decide) ?_
  exact ct_lret C hS hP hD (⟨rfl, rfl⟩) (Nat.le_of_ble_eq_true rfl) (Nat.le_of_ble_eq_true rfl) dX9_state_71
set_option maxRecDepth 100000 in
theorem k_state_1 {l : Launch} {s0 : State} {D : va_G} {cA : Nat → ClassId} {ad : Nat → Nat} (hG : cx_G l s0 D cA) (z : Int64) (P : MS) : MC l s0 D cA ad yX9_state cX9_state 4 (some .long) rmX9_state [.int 1, .long z] P (some (.long (qS P 4).toInt64)) (sS P 0 0) := by
  refine Ct.of (cA := cA) hG (by decide +kernel) (Nat.le_of_ble_eq_true rfl) ?_
  intro p e s m below meth c A C hnm hP hD hS ls hl
  have hx := cx_x C
  have hb := cx_b C
  have hl : lv_has ls 4 [(0, .ref (ad 0)), (1, .int 1), (2, .long z)] := hl
  refine lv_aload_n hx hb dX9_state_0 rfl (lv_at hl 0 rfl) ?_
  refine lv_iconst (v := 0) hx hb dX9_state_1 (by decide) ?_
  refine pm_0 (v := 0) C hP hD hS tm_666 dX9_state_2 (fun H locs hP hD hS => ?_)
  refine lv_iload_n hx hb dX9_state_5 rfl (lv_at hl 1 rfl) ?_
  refine lv_iconst (v := 0) hx hb dX9_state_6 (by decide) ?_
  refine lv_iconst (v := 2) hx hb dX9_state_7 (by decide) ?_
  refine ct_S0 (As := [.int 1, .int 0, .int 2]) (rest := []) (r := some (.int 1)) C (k_within1 hG _ _ _ (by decide)) tm_762 tm_763 tm_3 tm_764 hdX9_within.2 ⟨Nat.le_of_ble_eq_true rfl, Nat.le_of_ble_eq_true rfl⟩ hl.1 rfl (Nat.le_of_ble_eq_true rfl) dX9_state_8 ⟨Nat.le_of_ble_eq_true rfl, Nat.le_of_ble_eq_true rfl⟩ hP hD hS (fun H locs hP hD hS => ?_)
  refine lv_if_eq (tgt := 25) hx hb dX9_state_11 (by decide) (fun h9 => absurd h9 (by decide)) (fun _ => ?_)
  refine lv_iload_n hx hb dX9_state_14 rfl (lv_at hl 1 rfl) ?_
  refine lv_iconst (v := 2) hx hb dX9_state_15 (by decide) ?_
  refine lv_icmp_ne (tgt := 32) hx hb dX9_state_16 (by decide) (fun _ => ?_) (fun h9 => absurd h9 (by decide))
  refine lv_iload_n hx hb dX9_state_32 rfl (lv_at hl 1 rfl) ?_
  refine lv_if_ne (tgt := 44) hx hb dX9_state_33 (by decide) (fun _ => ?_) (fun h9 => absurd h9 (by decide))
  refine lv_iload_n hx hb dX9_state_44 rfl (lv_at hl 1 rfl) ?_
  refine lv_iconst (v := 1) hx hb dX9_state_45 (by decide) ?_
  refine lv_icmp_ne (tgt := 57) hx hb dX9_state_46 (by decide) (fun h9 => absurd rfl h9) (fun _ => ?_)
  refine lv_aload_n hx hb dX9_state_49 rfl (lv_at hl 0 rfl) ?_
  refine gm_4 (v := qS P 4) C hP rfl tm_670 dX9_state_50 ?_
  refine lv_i2l (v := (qS P 4).toInt64) hx hb dX9_state_53 rfl ?_
  refine lv_goto (tgt := 71) hx hb dX9_state_54 (by decide) ?_
  exact ct_lret C hS hP hD (⟨rfl, rfl⟩) (Nat.le_of_ble_eq_true rfl) (Nat.le_of_ble_eq_true rfl) dX9_state_71
set_option maxRecDepth 100000 in
theorem k_state_2 {l : Launch} {s0 : State} {D : va_G} {cA : Nat → ClassId} {ad : Nat → Nat} (hG : cx_G l s0 D cA) {z : Int64} {i : Nat} (P : MS) (hz : (0 : Int64) ≤ z) (hne : ¬ (qS P 1).toInt64 = 0) (hi : ix (z - z / (qS P 1).toInt64 * (qS P 1).toInt64).toInt32 16 i) : MC l s0 D cA ad yX9_state cX9_state 4 (some .long) rmX9_state [.int 2, .long z] P (some (.long (qI P 7 i).toInt64)) (sS P 0 0) := by
  refine Ct.of (cA := cA) hG (by decide +kernel) (Nat.le_of_ble_eq_true rfl) ?_
  intro p e s m below meth c A C hnm hP hD hS ls hl
  have hx := cx_x C
  have hb := cx_b C
  have hl : lv_has ls 4 [(0, .ref (ad 0)), (1, .int 2), (2, .long z)] := hl
  refine lv_aload_n hx hb dX9_state_0 rfl (lv_at hl 0 rfl) ?_
  refine lv_iconst (v := 0) hx hb dX9_state_1 (by decide) ?_
  refine pm_0 (v := 0) C hP hD hS tm_666 dX9_state_2 (fun H locs hP hD hS => ?_)
  refine lv_iload_n hx hb dX9_state_5 rfl (lv_at hl 1 rfl) ?_
  refine lv_iconst (v := 0) hx hb dX9_state_6 (by decide) ?_
  refine lv_iconst (v := 2) hx hb dX9_state_7 (by decide) ?_
  refine ct_S0 (As := [.int 2, .int 0, .int 2]) (rest := []) (r := some (.int 1)) C (k_within1 hG _ _ _ (by decide)) tm_762 tm_763 tm_3 tm_764 hdX9_within.2 ⟨Nat.le_of_ble_eq_true rfl, Nat.le_of_ble_eq_true rfl⟩ hl.1 rfl (Nat.le_of_ble_eq_true rfl) dX9_state_8 ⟨Nat.le_of_ble_eq_true rfl, Nat.le_of_ble_eq_true rfl⟩ hP hD hS (fun H locs hP hD hS => ?_)
  refine lv_if_eq (tgt := 25) hx hb dX9_state_11 (by decide) (fun h9 => absurd h9 (by decide)) (fun _ => ?_)
  refine lv_iload_n hx hb dX9_state_14 rfl (lv_at hl 1 rfl) ?_
  refine lv_iconst (v := 2) hx hb dX9_state_15 (by decide) ?_
  refine lv_icmp_ne (tgt := 32) hx hb dX9_state_16 (by decide) (fun h9 => absurd rfl h9) (fun _ => ?_)
  refine lv_lload_n hx hb dX9_state_19 rfl (lv_at hl 2 rfl) ?_
  refine lv_lconst (v := 0) hx hb dX9_state_20 (by decide) ?_
  refine W.lcmp hx hb dX9_state_21 ?_
  refine lv_if_ge (tgt := 32) hx hb dX9_state_22 (by decide) (fun _ => ?_) (fun h9 => absurd ((lg_cmp_ge _ _).mpr hz) h9)
  refine lv_iload_n hx hb dX9_state_32 rfl (lv_at hl 1 rfl) ?_
  refine lv_if_ne (tgt := 44) hx hb dX9_state_33 (by decide) (fun _ => ?_) (fun h9 => absurd h9 (by decide))
  refine lv_iload_n hx hb dX9_state_44 rfl (lv_at hl 1 rfl) ?_
  refine lv_iconst (v := 1) hx hb dX9_state_45 (by decide) ?_
  refine lv_icmp_ne (tgt := 57) hx hb dX9_state_46 (by decide) (fun _ => ?_) (fun h9 => absurd h9 (by decide))
  refine lv_aload_n hx hb dX9_state_57 rfl (lv_at hl 0 rfl) ?_
  refine gm_7 C hP tm_673 dX9_state_58 ?_
  refine lv_lload_n hx hb dX9_state_61 rfl (lv_at hl 2 rfl) ?_
  refine lv_aload_n hx hb dX9_state_62 rfl (lv_at hl 0 rfl) ?_
  refine gm_1 (v := qS P 1) C hP rfl tm_667 dX9_state_63 ?_
  refine lv_i2l (v := (qS P 1).toInt64) hx hb dX9_state_66 rfl ?_
  refine lv_lrem hx hb dX9_state_67 (hne) ?_
  refine lv_l2i (v := (z - z / ((qS P 1).toInt64) * ((qS P 1).toInt64)).toInt32) hx hb dX9_state_68 rfl ?_
  refine xl_7 (v := qI P 7 i) (j := i) C hP (hi) (rfl) dX9_state_69 ?_
  refine lv_i2l (v := (qI P 7 i).toInt64) hx hb dX9_state_70 rfl ?_
  exact ct_lret C hS hP hD (⟨rfl, rfl⟩) (Nat.le_of_ble_eq_true rfl) (Nat.le_of_ble_eq_true rfl) dX9_state_71
end
section
/-! ===== the reference: places and bounds ===== -/
def fo (pl : Nat → Int32) (q : Int32) : Nat → Int32 → Int32
  | 0, f => f
  | k + 1, f => fo pl q k (if 0 ≤ q ∧ pl k = q then nI k else f)
def lsR (pl hs : Nat → Int32) (q t : Int32) : Nat → Int32
  | 0 => t
  | k + 1 => if pl k = q ∧ 0 ≤ hs k ∧ hs k < lsR pl hs q t k then hs k else lsR pl hs q t k
def nC (P : MS) : Nat := (qS P 8).toNatClampNeg
theorem nC_eq {P : MS} {n : Nat} (h : qS P 8 = nI n) (hn : n ≤ 8) : nC P = n := by unfold nC; rw [h]; exact nI_clamp (by omega)
/-- where a consumer is; of one in a pool, where the pool is -/
def plO (P : MS) (j : Nat) : Int32 := if 0 ≤ qI P 12 j then lsR (qI P 12) (qI P 20) (qI P 12 j) (qI P 21 (qI P 12 j).toNatClampNeg) (nC P) - 1 else qI P 13 j
def bdR (P : MS) (j : Nat) : Nat → Int32
  | 0 => qS P 4
  | k + 1 => if (if ((qI P 10 j >>> (nI k &&& 31)) &&& 1) = 1 then plO P k else bdR P j k) < bdR P j k then (if ((qI P 10 j >>> (nI k &&& 31)) &&& 1) = 1 then plO P k else bdR P j k) else bdR P j k
theorem not_ge {a b : Int32} (h : ¬ b ≤ a) : a < b := Int32.not_le.mp h
section Loops1
variable {p : Program} {l : Launch} {e : Env} {R : Room} {s : State} {m : MethodId} {args : Array Value} {below : List Frame} {meth : Method} {c : Code} {H : Heap} {locs : List Loc} {cells slots : Nat} {Q : State → Prop}
variable {s0 : State} {D : va_G} {cA : Nat → ClassId} {A : Nat → Prop} {ad : Nat → Nat}
set_option maxRecDepth 100000 in
theorem lp_firstOf (C : cx_C p l s m args meth c s0 D cA cX9_firstOf 4 (some .int) RX9 A) {P : MS} {q g : Int32} (hP : va_P D vwCl (mW cA ad P) H)
    (kk : ∀ ls : Array Slot, lv_has ls 4 [(2, .int g), (0, .ref (ad 0)), (1, .int q)] → W p l e R s m args below meth c H locs cells slots Q (F0 m 39 ls [])) :
    ∀ k : Nat, k ≤ 8 → ∀ f : Int32, fo (qI P 12) q k f = g → ∀ ls : Array Slot, lv_has ls 4 [(3, .int (nI k - 1)), (2, .int f), (0, .ref (ad 0)), (1, .int q)] → W p l e R s m args below meth c H locs cells slots Q (F0 m 9 ls []) := by
  have hx := cx_x C
  have hb := cx_b C
  intro k
  induction k with
  | zero =>
    intro _ f hf ls hl
    have hf : f = g := hf
    subst hf
    refine lv_iload_n hx hb dX9_firstOf_9 rfl (lv_at hl 0 rfl) ?_
    refine lv_if_lt (tgt := 39) hx hb dX9_firstOf_10 (by decide) (fun _ => ?_) (fun h9 => absurd (by decide +kernel) h9)
    exact kk ls (lv_sub hl [1, 2, 3] rfl)
  | succ k ih =>
    intro h8 f hf ls hl
    rw [nI_pred] at hl
    refine lv_iload_n hx hb dX9_firstOf_9 rfl (lv_at hl 0 rfl) ?_
    refine lv_if_lt (tgt := 39) hx hb dX9_firstOf_10 (by decide) (fun h9 => absurd h9 (nI_pos (by omega))) (fun _ => ?_)
    refine lv_iload_n hx hb dX9_firstOf_13 rfl (lv_at hl 3 rfl) ?_
    refine lv_if_lt (tgt := 31) hx hb dX9_firstOf_14 (by decide) (fun cq => ?_) (fun cq => ?_)
    · have c1 := cq
      refine lv_iload_n hx hb dX9_firstOf_31 rfl (lv_at hl 1 rfl) ?_
      refine lv_istore_n (lv' := [(2, .int f), (3, .int (nI k)), (0, .ref (ad 0)), (1, .int q)]) hx hb dX9_firstOf_32 rfl hl (by decide) rfl (fun ls hl => ?_)
      refine lv_iinc (v := nI k + (-1)) (lv' := [(3, .int (nI k + (-1))), (2, .int f), (0, .ref (ad 0)), (1, .int q)]) hx hb dX9_firstOf_33 hl (k := 1) rfl (by first | rfl | decide) (by decide) rfl (fun ls hl => ?_)
      refine lv_goto (tgt := 9) hx hb dX9_firstOf_36 (by decide) ?_
      rw [show nI k + (-1) = nI k - 1 from (Int32.sub_eq_add_neg ..).symm] at hl
      exact ih (by omega) _ (by rw [fo, if_neg (fun h => by first | exact c1 h.2 | exact absurd c1 (Int32.not_lt.mpr h.1))] at hf; exact hf) ls (lv_sub hl [0, 1, 2, 3] rfl)
    refine lv_aload_n hx hb dX9_firstOf_17 rfl (lv_at hl 2 rfl) ?_
    refine gm_12 C hP tm_678 dX9_firstOf_18 ?_
    refine lv_iload_n hx hb dX9_firstOf_21 rfl (lv_at hl 0 rfl) ?_
    refine xl_12 (v := qI P 12 k) (j := k) C hP (ix8 (by omega)) (rfl) dX9_firstOf_22 ?_
    refine lv_iload_n hx hb dX9_firstOf_23 rfl (lv_at hl 3 rfl) ?_
    refine lv_icmp_ne (tgt := 31) hx hb dX9_firstOf_24 (by decide) (fun c1 => ?_) (fun c1 => ?_)
    · refine lv_iload_n hx hb dX9_firstOf_31 rfl (lv_at hl 1 rfl) ?_
      refine lv_istore_n (lv' := [(2, .int f), (3, .int (nI k)), (0, .ref (ad 0)), (1, .int q)]) hx hb dX9_firstOf_32 rfl hl (by decide) rfl (fun ls hl => ?_)
      refine lv_iinc (v := nI k + (-1)) (lv' := [(3, .int (nI k + (-1))), (2, .int f), (0, .ref (ad 0)), (1, .int q)]) hx hb dX9_firstOf_33 hl (k := 1) rfl (by first | rfl | decide) (by decide) rfl (fun ls hl => ?_)
      refine lv_goto (tgt := 9) hx hb dX9_firstOf_36 (by decide) ?_
      rw [show nI k + (-1) = nI k - 1 from (Int32.sub_eq_add_neg ..).symm] at hl
      exact ih (by omega) _ (by rw [fo, if_neg (fun h => by first | exact c1 h.2 | exact absurd c1 (Int32.not_lt.mpr h.1))] at hf; exact hf) ls (lv_sub hl [0, 1, 2, 3] rfl)
    refine lv_iload_n hx hb dX9_firstOf_27 rfl (lv_at hl 0 rfl) ?_
    refine lv_goto (tgt := 32) hx hb dX9_firstOf_28 (by decide) ?_
    refine lv_istore_n (lv' := [(2, .int (nI k)), (3, .int (nI k)), (0, .ref (ad 0)), (1, .int q)]) hx hb dX9_firstOf_32 rfl hl (by decide) rfl (fun ls hl => ?_)
    refine lv_iinc (v := nI k + (-1)) (lv' := [(3, .int (nI k + (-1))), (2, .int (nI k)), (0, .ref (ad 0)), (1, .int q)]) hx hb dX9_firstOf_33 hl (k := 1) rfl (by first | rfl | decide) (by decide) rfl (fun ls hl => ?_)
    refine lv_goto (tgt := 9) hx hb dX9_firstOf_36 (by decide) ?_
    rw [show nI k + (-1) = nI k - 1 from (Int32.sub_eq_add_neg ..).symm] at hl
    exact ih (by omega) _ (by rw [fo, if_pos ⟨Int32.not_lt.mp cq, c1⟩] at hf; exact hf) ls (lv_sub hl [0, 1, 2, 3] rfl)
set_option maxRecDepth 100000 in
theorem lp_placeOf (C : cx_C p l s m args meth c s0 D cA cX9_placeOf 4 (some .int) RX9 A) {P : MS} {j n : Nat} (hn : qS P 8 = nI n) (hn8 : n ≤ 8) (hj : j < n) {t : Int32} (hP : va_P D vwCl (mW cA ad P) H)
    (kk : ∀ ls : Array Slot, lv_has ls 4 [(2, .int (lsR (qI P 12) (qI P 20) (qI P 12 j) t n))] → W p l e R s m args below meth c H locs cells slots Q (F0 m 89 ls [])) :
    ∀ d k : Nat, k + d = n → ∀ x : Int32, x = lsR (qI P 12) (qI P 20) (qI P 12 j) t k → ∀ ls : Array Slot, lv_has ls 4 [(3, .int (nI k)), (2, .int x), (0, .ref (ad 0)), (1, .int (nI j))] → W p l e R s m args below meth c H locs cells slots Q (F0 m 30 ls []) := by
  have hx := cx_x C
  have hb := cx_b C
  intro d
  induction d with
  | zero =>
    intro k hk x hx2 ls hl
    have hk : k = n := hk
    subst hk
    subst hx2
    refine lv_iload_n hx hb dX9_placeOf_30 rfl (lv_at hl 0 rfl) ?_
    refine lv_aload_n hx hb dX9_placeOf_31 rfl (lv_at hl 2 rfl) ?_
    refine gm_8 (v := qS P 8) C hP rfl tm_674 dX9_placeOf_32 ?_
    refine lv_icmp_ge (tgt := 89) hx hb dX9_placeOf_35 (by decide) (fun _ => ?_) (fun h9 => absurd (by rw [hn]; exact Int32.le_refl _) h9)
    exact kk ls (lv_sub hl [1] rfl)
  | succ d ih =>
    intro k hk x hx2 ls hl
    refine lv_iload_n hx hb dX9_placeOf_30 rfl (lv_at hl 0 rfl) ?_
    refine lv_aload_n hx hb dX9_placeOf_31 rfl (lv_at hl 2 rfl) ?_
    refine gm_8 (v := qS P 8) C hP rfl tm_674 dX9_placeOf_32 ?_
    refine lv_icmp_ge (tgt := 89) hx hb dX9_placeOf_35 (by decide) (fun h9 => absurd h9 (by rw [hn]; exact nI_ge (by omega) (by omega))) (fun _ => ?_)
    refine lv_aload_n hx hb dX9_placeOf_38 rfl (lv_at hl 2 rfl) ?_
    refine gm_12 C hP tm_678 dX9_placeOf_39 ?_
    refine lv_iload_n hx hb dX9_placeOf_42 rfl (lv_at hl 0 rfl) ?_
    refine xl_12 (v := qI P 12 k) (j := k) C hP (ix8 (by omega)) (rfl) dX9_placeOf_43 ?_
    refine lv_aload_n hx hb dX9_placeOf_44 rfl (lv_at hl 2 rfl) ?_
    refine gm_12 C hP tm_678 dX9_placeOf_45 ?_
    refine lv_iload_n hx hb dX9_placeOf_48 rfl (lv_at hl 3 rfl) ?_
    refine xl_12 (v := qI P 12 j) (j := j) C hP (ix8 (by omega)) (rfl) dX9_placeOf_49 ?_
    refine lv_icmp_ne (tgt := 81) hx hb dX9_placeOf_50 (by decide) (fun cp => ?_) (fun cp => ?_)
    · refine lv_iload_n hx hb dX9_placeOf_81 rfl (lv_at hl 1 rfl) ?_
      refine lv_istore_n (lv' := [(2, .int x), (3, .int (nI k)), (0, .ref (ad 0)), (1, .int (nI j))]) hx hb dX9_placeOf_82 rfl hl (by decide) rfl (fun ls hl => ?_)
      refine lv_iinc (v := nI k + 1) (lv' := [(3, .int (nI k + 1)), (2, .int x), (0, .ref (ad 0)), (1, .int (nI j))]) hx hb dX9_placeOf_83 hl (k := 1) rfl (by first | rfl | decide) (by decide) rfl (fun ls hl => ?_)
      refine lv_goto (tgt := 30) hx hb dX9_placeOf_86 (by decide) ?_
      rw [nI_1] at hl
      exact ih (k + 1) (by omega) _ (by rw [lsR, ← hx2]; exact (if_neg (fun h => by first | exact cp h.1 | exact absurd h.2.1 (Int32.not_le.mpr ch) | exact absurd h.2.2 (Int32.not_lt.mpr cl))).symm) ls (lv_sub hl [0, 1, 2, 3] rfl)
    refine lv_aload_n hx hb dX9_placeOf_53 rfl (lv_at hl 2 rfl) ?_
    refine gm_20 C hP tm_686 dX9_placeOf_54 ?_
    refine lv_iload_n hx hb dX9_placeOf_57 rfl (lv_at hl 0 rfl) ?_
    refine xl_20 (v := qI P 20 k) (j := k) C hP (ix8 (by omega)) (rfl) dX9_placeOf_58 ?_
    refine lv_if_lt (tgt := 81) hx hb dX9_placeOf_59 (by decide) (fun ch => ?_) (fun ch => ?_)
    · refine lv_iload_n hx hb dX9_placeOf_81 rfl (lv_at hl 1 rfl) ?_
      refine lv_istore_n (lv' := [(2, .int x), (3, .int (nI k)), (0, .ref (ad 0)), (1, .int (nI j))]) hx hb dX9_placeOf_82 rfl hl (by decide) rfl (fun ls hl => ?_)
      refine lv_iinc (v := nI k + 1) (lv' := [(3, .int (nI k + 1)), (2, .int x), (0, .ref (ad 0)), (1, .int (nI j))]) hx hb dX9_placeOf_83 hl (k := 1) rfl (by first | rfl | decide) (by decide) rfl (fun ls hl => ?_)
      refine lv_goto (tgt := 30) hx hb dX9_placeOf_86 (by decide) ?_
      rw [nI_1] at hl
      exact ih (k + 1) (by omega) _ (by rw [lsR, ← hx2]; exact (if_neg (fun h => by first | exact cp h.1 | exact absurd h.2.1 (Int32.not_le.mpr ch) | exact absurd h.2.2 (Int32.not_lt.mpr cl))).symm) ls (lv_sub hl [0, 1, 2, 3] rfl)
    refine lv_aload_n hx hb dX9_placeOf_62 rfl (lv_at hl 2 rfl) ?_
    refine gm_20 C hP tm_686 dX9_placeOf_63 ?_
    refine lv_iload_n hx hb dX9_placeOf_66 rfl (lv_at hl 0 rfl) ?_
    refine xl_20 (v := qI P 20 k) (j := k) C hP (ix8 (by omega)) (rfl) dX9_placeOf_67 ?_
    refine lv_iload_n hx hb dX9_placeOf_68 rfl (lv_at hl 1 rfl) ?_
    refine lv_icmp_ge (tgt := 81) hx hb dX9_placeOf_69 (by decide) (fun cl => ?_) (fun cl => ?_)
    · refine lv_iload_n hx hb dX9_placeOf_81 rfl (lv_at hl 1 rfl) ?_
      refine lv_istore_n (lv' := [(2, .int x), (3, .int (nI k)), (0, .ref (ad 0)), (1, .int (nI j))]) hx hb dX9_placeOf_82 rfl hl (by decide) rfl (fun ls hl => ?_)
      refine lv_iinc (v := nI k + 1) (lv' := [(3, .int (nI k + 1)), (2, .int x), (0, .ref (ad 0)), (1, .int (nI j))]) hx hb dX9_placeOf_83 hl (k := 1) rfl (by first | rfl | decide) (by decide) rfl (fun ls hl => ?_)
      refine lv_goto (tgt := 30) hx hb dX9_placeOf_86 (by decide) ?_
      rw [nI_1] at hl
      exact ih (k + 1) (by omega) _ (by rw [lsR, ← hx2]; exact (if_neg (fun h => by first | exact cp h.1 | exact absurd h.2.1 (Int32.not_le.mpr ch) | exact absurd h.2.2 (Int32.not_lt.mpr cl))).symm) ls (lv_sub hl [0, 1, 2, 3] rfl)
    refine lv_aload_n hx hb dX9_placeOf_72 rfl (lv_at hl 2 rfl) ?_
    refine gm_20 C hP tm_686 dX9_placeOf_73 ?_
    refine lv_iload_n hx hb dX9_placeOf_76 rfl (lv_at hl 0 rfl) ?_
    refine xl_20 (v := qI P 20 k) (j := k) C hP (ix8 (by omega)) (rfl) dX9_placeOf_77 ?_
    refine lv_goto (tgt := 82) hx hb dX9_placeOf_78 (by decide) ?_
    refine lv_istore_n (lv' := [(2, .int (qI P 20 k)), (3, .int (nI k)), (0, .ref (ad 0)), (1, .int (nI j))]) hx hb dX9_placeOf_82 rfl hl (by decide) rfl (fun ls hl => ?_)
    refine lv_iinc (v := nI k + 1) (lv' := [(3, .int (nI k + 1)), (2, .int (qI P 20 k)), (0, .ref (ad 0)), (1, .int (nI j))]) hx hb dX9_placeOf_83 hl (k := 1) rfl (by first | rfl | decide) (by decide) rfl (fun ls hl => ?_)
    refine lv_goto (tgt := 30) hx hb dX9_placeOf_86 (by decide) ?_
    rw [nI_1] at hl
    exact ih (k + 1) (by omega) _ (by rw [lsR, ← hx2]; exact (if_pos ⟨cp, Int32.not_lt.mp ch, Int32.not_le.mp cl⟩).symm) ls (lv_sub hl [0, 1, 2, 3] rfl)
end Loops1
abbrev rmX9_firstOf : Room := { frames := 0, cells := 0, slots := 0, locals := 0 }
abbrev rmX9_placeOf : Room := { frames := 0, cells := 0, slots := 0, locals := 0 }
set_option maxRecDepth 100000 in
theorem k_firstOf {l : Launch} {s0 : State} {D : va_G} {cA : Nat → ClassId} {ad : Nat → Nat} (hG : cx_G l s0 D cA) {n : Nat} (q : Int32) (P : MS) (hn : qS P 8 = nI n) (hn8 : n ≤ 8) : MC l s0 D cA ad yX9_firstOf cX9_firstOf 4 (some .int) rmX9_firstOf [.int q] P (some (.int (fo (qI P 12) q n (-1)))) P := by
  refine Ct.of (cA := cA) hG (by decide +kernel) (Nat.le_of_ble_eq_true rfl) ?_
  intro p e s m below meth c A C hnm hP hD hS ls hl
  have hx := cx_x C
  have hb := cx_b C
  have hl : lv_has ls 4 [(0, .ref (ad 0)), (1, .int q)] := hl
  refine lv_iconst (v := (-1)) hx hb dX9_firstOf_0 (by decide) ?_
  refine lv_istore_n (lv' := [(2, .int (-1)), (0, .ref (ad 0)), (1, .int q)]) hx hb dX9_firstOf_1 rfl hl (by decide) rfl (fun ls hl => ?_)
  refine lv_aload_n hx hb dX9_firstOf_2 rfl (lv_at hl 1 rfl) ?_
  refine gm_8 (v := qS P 8) C hP rfl tm_674 dX9_firstOf_3 ?_
  refine lv_iconst (v := 1) hx hb dX9_firstOf_6 (by decide) ?_
  refine lv_isub hx hb dX9_firstOf_7 ?_
  refine lv_istore_n (lv' := [(3, .int ((qS P 8) - 1)), (2, .int (-1)), (0, .ref (ad 0)), (1, .int q)]) hx hb dX9_firstOf_8 rfl hl (by decide) rfl (fun ls hl => ?_)
  rw [hn] at hl
  refine lp_firstOf C hP (fun ls hl => ?_) n hn8 (-1) rfl ls (lv_sub hl [0, 1, 2, 3] rfl)
  refine lv_iload_n hx hb dX9_firstOf_39 rfl (lv_at hl 0 rfl) ?_
  exact ct_iret C hS hP hD (⟨rfl, rfl⟩) (Nat.le_of_ble_eq_true rfl) (Nat.le_of_ble_eq_true rfl) dX9_firstOf_40
set_option maxRecDepth 100000 in
theorem k_place_n {l : Launch} {s0 : State} {D : va_G} {cA : Nat → ClassId} {ad : Nat → Nat} (hG : cx_G l s0 D cA) {j n : Nat} (P : MS) (hn : qS P 8 = nI n) (hn8 : n ≤ 8) (hj : j < n) (hq : ¬ (0 : Int32) ≤ qI P 12 j) : MC l s0 D cA ad yX9_placeOf cX9_placeOf 4 (some .int) rmX9_placeOf [.int (nI j)] P (some (.int (plO P j))) P := by
  refine Ct.of (cA := cA) hG (by decide +kernel) (Nat.le_of_ble_eq_true rfl) ?_
  intro p e s m below meth c A C hnm hP hD hS ls hl
  have hx := cx_x C
  have hb := cx_b C
  have hl : lv_has ls 4 [(0, .ref (ad 0)), (1, .int (nI j))] := hl
  refine lv_aload_n hx hb dX9_placeOf_0 rfl (lv_at hl 0 rfl) ?_
  refine gm_12 C hP tm_678 dX9_placeOf_1 ?_
  refine lv_iload_n hx hb dX9_placeOf_4 rfl (lv_at hl 1 rfl) ?_
  refine xl_12 (v := qI P 12 j) (j := j) C hP (ix8 (Nat.lt_of_lt_of_le hj hn8)) (rfl) dX9_placeOf_5 ?_
  refine lv_if_ge (tgt := 16) hx hb dX9_placeOf_6 (by decide) (fun h9 => absurd h9 (hq)) (fun _ => ?_)
  refine lv_aload_n hx hb dX9_placeOf_9 rfl (lv_at hl 0 rfl) ?_
  refine gm_13 C hP tm_679 dX9_placeOf_10 ?_
  refine lv_iload_n hx hb dX9_placeOf_13 rfl (lv_at hl 1 rfl) ?_
  refine xl_13 (v := qI P 13 j) (j := j) C hP (ix8 (Nat.lt_of_lt_of_le hj hn8)) (rfl) dX9_placeOf_14 ?_
  exact ct_iret C hS hP hD (⟨by rw [plO, if_neg hq], rfl⟩) (Nat.le_of_ble_eq_true rfl) (Nat.le_of_ble_eq_true rfl) dX9_placeOf_15
set_option maxRecDepth 100000 in
theorem k_place_p {l : Launch} {s0 : State} {D : va_G} {cA : Nat → ClassId} {ad : Nat → Nat} (hG : cx_G l s0 D cA) {j n t : Nat} (P : MS) (hn : qS P 8 = nI n) (hn8 : n ≤ 8) (hj : j < n) (hq : qI P 12 j = nI t) (ht : t < 2) : MC l s0 D cA ad yX9_placeOf cX9_placeOf 4 (some .int) rmX9_placeOf [.int (nI j)] P (some (.int (plO P j))) P := by
  refine Ct.of (cA := cA) hG (by decide +kernel) (Nat.le_of_ble_eq_true rfl) ?_
  intro p e s m below meth c A C hnm hP hD hS ls hl
  have hx := cx_x C
  have hb := cx_b C
  have hl : lv_has ls 4 [(0, .ref (ad 0)), (1, .int (nI j))] := hl
  refine lv_aload_n hx hb dX9_placeOf_0 rfl (lv_at hl 0 rfl) ?_
  refine gm_12 C hP tm_678 dX9_placeOf_1 ?_
  refine lv_iload_n hx hb dX9_placeOf_4 rfl (lv_at hl 1 rfl) ?_
  refine xl_12 (v := qI P 12 j) (j := j) C hP (ix8 (Nat.lt_of_lt_of_le hj hn8)) (rfl) dX9_placeOf_5 ?_
  refine lv_if_ge (tgt := 16) hx hb dX9_placeOf_6 (by decide) (fun _ => ?_) (fun h9 => absurd (by rw [hq]; exact nI_pos' (by omega)) h9)
  refine lv_aload_n hx hb dX9_placeOf_16 rfl (lv_at hl 0 rfl) ?_
  refine gm_21 C hP tm_687 dX9_placeOf_17 ?_
  refine lv_aload_n hx hb dX9_placeOf_20 rfl (lv_at hl 0 rfl) ?_
  refine gm_12 C hP tm_678 dX9_placeOf_21 ?_
  refine lv_iload_n hx hb dX9_placeOf_24 rfl (lv_at hl 1 rfl) ?_
  refine xl_12 (v := qI P 12 j) (j := j) C hP (ix8 (Nat.lt_of_lt_of_le hj hn8)) (rfl) dX9_placeOf_25 ?_
  refine xl_21 (v := qI P 21 t) (j := t) C hP (ix_eq hq ht (by decide)) (rfl) dX9_placeOf_26 ?_
  refine lv_istore_n (lv' := [(2, .int (qI P 21 t)), (0, .ref (ad 0)), (1, .int (nI j))]) hx hb dX9_placeOf_27 rfl hl (by decide) rfl (fun ls hl => ?_)
  refine lv_iconst (v := 0) hx hb dX9_placeOf_28 (by decide) ?_
  refine lv_istore_n (lv' := [(3, .int 0), (2, .int (qI P 21 t)), (0, .ref (ad 0)), (1, .int (nI j))]) hx hb dX9_placeOf_29 rfl hl (by decide) rfl (fun ls hl => ?_)
  refine lp_placeOf (n := n) (t := qI P 21 t) C hn hn8 hj hP (fun ls hl => ?_) n 0 (by omega) _ rfl ls (lv_sub hl [0, 1, 2, 3] rfl)
  refine lv_iload_n hx hb dX9_placeOf_89 rfl (lv_at hl 0 rfl) ?_
  refine lv_iconst (v := 1) hx hb dX9_placeOf_90 (by decide) ?_
  refine lv_isub hx hb dX9_placeOf_91 ?_
  exact ct_iret C hS hP hD (⟨by rw [plO, if_pos (by rw [hq]; exact nI_pos' (by omega)), nC_eq hn hn8, hq, nI_clamp (by omega)], rfl⟩) (Nat.le_of_ble_eq_true rfl) (Nat.le_of_ble_eq_true rfl) dX9_placeOf_92
theorem k_placeOf {l : Launch} {s0 : State} {D : va_G} {cA : Nat → ClassId} {ad : Nat → Nat} (hG : cx_G l s0 D cA) {j n : Nat} (P : MS) (hn : qS P 8 = nI n) (hn8 : n ≤ 8) (hj : j < n) (hq : qI P 12 j = -1 ∨ ∃ t, t < 2 ∧ qI P 12 j = nI t) : MC l s0 D cA ad yX9_placeOf cX9_placeOf 4 (some .int) rmX9_placeOf [.int (nI j)] P (some (.int (plO P j))) P := by
  rcases hq with h | ⟨t, ht, h⟩
  · exact k_place_n hG P hn hn8 hj (by rw [h]; decide)
  · exact k_place_p hG P hn hn8 hj h ht
abbrev rmX9_place : Room := { frames := 2, cells := 0, slots := 0, locals := 43 }
set_option maxRecDepth 100000 in
theorem k_Place_no {l : Launch} {s0 : State} {D : va_G} {cA : Nat → ClassId} {ad : Nat → Nat} (hG : cx_G l s0 D cA) {cn : Int32} (P : MS) (hc : ¬ ((0 : Int32) ≤ cn ∧ cn ≤ qS P 8 - 1)) : MC l s0 D cA ad yX9_place cX9_place 2 (some .long) rmX9_place [.int cn] P (some (.long ((0 : Int32).toInt64))) (sS (sS P 0 0) 0 1) := by
  refine Ct.of (cA := cA) hG (by decide +kernel) (Nat.le_of_ble_eq_true rfl) ?_
  intro p e s m below meth c A C hnm hP hD hS ls hl
  have hx := cx_x C
  have hb := cx_b C
  have hl : lv_has ls 2 [(0, .ref (ad 0)), (1, .int cn)] := hl
  refine lv_aload_n hx hb dX9_place_0 rfl (lv_at hl 0 rfl) ?_
  refine lv_iconst (v := 0) hx hb dX9_place_1 (by decide) ?_
  refine pm_0 (v := 0) C hP hD hS tm_666 dX9_place_2 (fun H locs hP hD hS => ?_)
  refine lv_aload_n hx hb dX9_place_5 rfl (lv_at hl 0 rfl) ?_
  refine lv_iload_n hx hb dX9_place_6 rfl (lv_at hl 1 rfl) ?_
  refine mc_V (As := [.int cn]) (rest := []) (r := some (.int 1)) (T := sS P 0 0) C (k_none_no hG (sS P 0 0) hc) tm_789 tm_791 tm_897 tm_3 tm_792 rfl hdX9_none ⟨Nat.le_of_ble_eq_true rfl, Nat.le_of_ble_eq_true rfl⟩ hl.1 rfl (Nat.le_of_ble_eq_true rfl) dX9_place_7 ⟨Nat.le_of_ble_eq_true rfl, Nat.le_of_ble_eq_true rfl⟩ hP hD hS (fun H locs hP hD hS => ?_)
  refine lv_if_eq (tgt := 22) hx hb dX9_place_10 (by decide) (fun h9 => absurd h9 (by decide)) (fun _ => ?_)
  refine lv_aload_n hx hb dX9_place_13 rfl (lv_at hl 0 rfl) ?_
  refine lv_iconst (v := 1) hx hb dX9_place_14 (by decide) ?_
  refine mc_V (As := [.int 1]) (rest := []) (r := some (.int 0)) (T := sS (sS P 0 0) 0 1) C (k_fail hG _ _) tm_769 tm_771 tm_895 tm_3 tm_772 rfl hdX9_fail ⟨Nat.le_of_ble_eq_true rfl, Nat.le_of_ble_eq_true rfl⟩ hl.1 rfl (Nat.le_of_ble_eq_true rfl) dX9_place_15 ⟨Nat.le_of_ble_eq_true rfl, Nat.le_of_ble_eq_true rfl⟩ hP hD hS (fun H locs hP hD hS => ?_)
  refine lv_i2l (v := (0 : Int32).toInt64) hx hb dX9_place_18 rfl ?_
  refine lv_goto (tgt := 28) hx hb dX9_place_19 (by decide) ?_
  exact ct_lret C hS hP hD (⟨rfl, rfl⟩) (Nat.le_of_ble_eq_true rfl) (Nat.le_of_ble_eq_true rfl) dX9_place_28
set_option maxRecDepth 100000 in
theorem k_Place {l : Launch} {s0 : State} {D : va_G} {cA : Nat → ClassId} {ad : Nat → Nat} (hG : cx_G l s0 D cA) {j n : Nat} (P : MS) (hn : qS P 8 = nI n) (hn8 : n ≤ 8) (hj : j < n) (hq : ∀ k, k < n → qI P 12 k = -1 ∨ ∃ t, t < 2 ∧ qI P 12 k = nI t) : MC l s0 D cA ad yX9_place cX9_place 2 (some .long) rmX9_place [.int (nI j)] P (some (.long (plO P j).toInt64)) (sS P 0 0) := by
  refine Ct.of (cA := cA) hG (by decide +kernel) (Nat.le_of_ble_eq_true rfl) ?_
  intro p e s m below meth c A C hnm hP hD hS ls hl
  have hx := cx_x C
  have hb := cx_b C
  have hl : lv_has ls 2 [(0, .ref (ad 0)), (1, .int (nI j))] := hl
  refine lv_aload_n hx hb dX9_place_0 rfl (lv_at hl 0 rfl) ?_
  refine lv_iconst (v := 0) hx hb dX9_place_1 (by decide) ?_
  refine pm_0 (v := 0) C hP hD hS tm_666 dX9_place_2 (fun H locs hP hD hS => ?_)
  refine lv_aload_n hx hb dX9_place_5 rfl (lv_at hl 0 rfl) ?_
  refine lv_iload_n hx hb dX9_place_6 rfl (lv_at hl 1 rfl) ?_
  refine mc_V (As := [.int (nI j)]) (rest := []) (r := some (.int 0)) (T := sS P 0 0) C (k_none_ok (n := n) hG (sS P 0 0) hn hn8 hj) tm_789 tm_791 tm_897 tm_3 tm_792 rfl hdX9_none ⟨Nat.le_of_ble_eq_true rfl, Nat.le_of_ble_eq_true rfl⟩ hl.1 rfl (Nat.le_of_ble_eq_true rfl) dX9_place_7 ⟨Nat.le_of_ble_eq_true rfl, Nat.le_of_ble_eq_true rfl⟩ hP hD hS (fun H locs hP hD hS => ?_)
  refine lv_if_eq (tgt := 22) hx hb dX9_place_10 (by decide) (fun _ => ?_) (fun h9 => absurd (by decide) h9)
  refine lv_aload_n hx hb dX9_place_22 rfl (lv_at hl 0 rfl) ?_
  refine lv_iload_n hx hb dX9_place_23 rfl (lv_at hl 1 rfl) ?_
  refine mc_V (As := [.int (nI j)]) (rest := []) (r := some (.int (plO P j))) (T := sS P 0 0) C (k_placeOf (n := n) hG (sS P 0 0) hn hn8 (by omega) (hq j (by omega))) tm_777 tm_779 tm_896 tm_3 tm_780 rfl hdX9_placeOf ⟨Nat.le_of_ble_eq_true rfl, Nat.le_of_ble_eq_true rfl⟩ hl.1 rfl (Nat.le_of_ble_eq_true rfl) dX9_place_24 ⟨Nat.le_of_ble_eq_true rfl, Nat.le_of_ble_eq_true rfl⟩ hP hD hS (fun H locs hP hD hS => ?_)
  refine lv_i2l (v := (plO P j).toInt64) hx hb dX9_place_27 rfl ?_
  exact ct_lret C hS hP hD (⟨rfl, rfl⟩) (Nat.le_of_ble_eq_true rfl) (Nat.le_of_ble_eq_true rfl) dX9_place_28
section Loops2
variable {p : Program} {l : Launch} {e : Env} {R : Room} {s : State} {m : MethodId} {args : Array Value} {below : List Frame} {meth : Method} {c : Code} {H : Heap} {locs : List Loc} {cells slots : Nat} {Q : State → Prop}
variable {s0 : State} {D : va_G} {cA : Nat → ClassId} {A : Nat → Prop} {ad : Nat → Nat}
set_option maxRecDepth 100000 in
theorem lp_bound (C : cx_C p l s m args meth c s0 D cA cX9_bound 5 (some .int) RX9 A) (hG : cx_G l s0 D cA) {P : MS} {j n : Nat} (hn : qS P 8 = nI n) (hn8 : n ≤ 8) (hj : j < n) (hq : ∀ k, k < n → qI P 12 k = -1 ∨ ∃ t, t < 2 ∧ qI P 12 k = nI t) (hR0 : rmX9_placeOf.frames + 1 ≤ R.frames ∧ 8 + (4 + 11) + rmX9_placeOf.locals ≤ R.locals) (hC0 : cells + rmX9_placeOf.cells ≤ R.cells ∧ slots + rmX9_placeOf.slots ≤ R.slots) 
    (kk : ∀ (H : Heap) (locs : List Loc) (ls : Array Slot), va_P D vwCl (mW cA ad P) H → va_D A (mW cA ad P) → va_S A s.heap H locs → lv_has ls 5 [(2, .int (bdR P j j))] → W p l e R s m args below meth c H locs cells slots Q (F0 m 56 ls [])) :
    ∀ d k : Nat, k + d = j → ∀ x : Int32, x = bdR P j k → ∀ (H : Heap) (locs : List Loc) (ls : Array Slot), va_P D vwCl (mW cA ad P) H → va_D A (mW cA ad P) → va_S A s.heap H locs → lv_has ls 5 [(3, .int (nI k)), (2, .int x), (0, .ref (ad 0)), (1, .int (nI j))] → W p l e R s m args below meth c H locs cells slots Q (F0 m 7 ls []) := by
  have hx := cx_x C
  have hb := cx_b C
  intro d
  induction d with
  | zero =>
    intro k hk x hx2 H locs ls hP hD hS hl
    have hk : k = j := hk
    subst hk
    subst hx2
    refine lv_iload_n hx hb dX9_bound_7 rfl (lv_at hl 0 rfl) ?_
    refine lv_iload_n hx hb dX9_bound_8 rfl (lv_at hl 3 rfl) ?_
    refine lv_icmp_ge (tgt := 56) hx hb dX9_bound_9 (by decide) (fun _ => ?_) (fun h9 => absurd (Int32.le_refl _) h9)
    exact kk H locs ls hP hD hS (lv_sub hl [1] rfl)
  | succ d ih =>
    intro k hk x hx2 H locs ls hP hD hS hl
    refine lv_iload_n hx hb dX9_bound_7 rfl (lv_at hl 0 rfl) ?_
    refine lv_iload_n hx hb dX9_bound_8 rfl (lv_at hl 3 rfl) ?_
    refine lv_icmp_ge (tgt := 56) hx hb dX9_bound_9 (by decide) (fun h9 => absurd h9 (nI_ge (by omega) (by omega))) (fun _ => ?_)
    refine lv_aload_n hx hb dX9_bound_12 rfl (lv_at hl 2 rfl) ?_
    refine gm_10 C hP tm_676 dX9_bound_13 ?_
    refine lv_iload_n hx hb dX9_bound_16 rfl (lv_at hl 3 rfl) ?_
    refine xl_10 (v := qI P 10 j) (j := j) C hP (ix8 (by omega)) (rfl) dX9_bound_17 ?_
    refine lv_iload_n hx hb dX9_bound_18 rfl (lv_at hl 0 rfl) ?_
    refine lv_ishr hx hb dX9_bound_19 ?_
    refine lv_iconst (v := 1) hx hb dX9_bound_20 (by decide) ?_
    refine lv_iand hx hb dX9_bound_21 ?_
    refine lv_iconst (v := 1) hx hb dX9_bound_22 (by decide) ?_
    refine lv_icmp_ne (tgt := 34) hx hb dX9_bound_23 (by decide) (fun cb => ?_) (fun cb => ?_)
    · refine lv_iload_n hx hb dX9_bound_34 rfl (lv_at hl 1 rfl) ?_
      refine lv_istore (lv' := [(4, .int x), (3, .int (nI k)), (2, .int x), (0, .ref (ad 0)), (1, .int (nI j))]) hx hb dX9_bound_35 hl (by decide) rfl (fun ls hl => ?_)
      refine lv_iload hx hb dX9_bound_37 (lv_at hl 0 rfl) ?_
      refine lv_iload_n hx hb dX9_bound_39 rfl (lv_at hl 2 rfl) ?_
      refine lv_icmp_ge (tgt := 48) hx hb dX9_bound_40 (by decide) (fun cl => ?_) (fun cl => ?_)
      · refine lv_iload_n hx hb dX9_bound_48 rfl (lv_at hl 2 rfl) ?_
        refine lv_istore_n (lv' := [(2, .int x), (4, .int x), (3, .int (nI k)), (0, .ref (ad 0)), (1, .int (nI j))]) hx hb dX9_bound_49 rfl hl (by decide) rfl (fun ls hl => ?_)
        refine lv_iinc (v := nI k + 1) (lv' := [(3, .int (nI k + 1)), (2, .int x), (4, .int x), (0, .ref (ad 0)), (1, .int (nI j))]) hx hb dX9_bound_50 hl (k := 2) rfl (by first | rfl | decide) (by decide) rfl (fun ls hl => ?_)
        refine lv_goto (tgt := 7) hx hb dX9_bound_53 (by decide) ?_
        rw [nI_1] at hl
        exact ih (k + 1) (by omega) _ (by rw [bdR, ← hx2]; simp only [if_neg cb]; split <;> rfl) H locs ls hP hD hS (lv_sub hl [0, 1, 3, 4] rfl)
      refine lv_iload hx hb dX9_bound_43 (lv_at hl 0 rfl) ?_
      refine lv_goto (tgt := 49) hx hb dX9_bound_45 (by decide) ?_
      refine lv_istore_n (lv' := [(2, .int x), (4, .int x), (3, .int (nI k)), (0, .ref (ad 0)), (1, .int (nI j))]) hx hb dX9_bound_49 rfl hl (by decide) rfl (fun ls hl => ?_)
      refine lv_iinc (v := nI k + 1) (lv' := [(3, .int (nI k + 1)), (2, .int x), (4, .int x), (0, .ref (ad 0)), (1, .int (nI j))]) hx hb dX9_bound_50 hl (k := 2) rfl (by first | rfl | decide) (by decide) rfl (fun ls hl => ?_)
      refine lv_goto (tgt := 7) hx hb dX9_bound_53 (by decide) ?_
      rw [nI_1] at hl
      exact ih (k + 1) (by omega) _ (by rw [bdR, ← hx2]; simp only [if_neg cb]; split <;> rfl) H locs ls hP hD hS (lv_sub hl [0, 1, 3, 4] rfl)
    refine lv_aload_n hx hb dX9_bound_26 rfl (lv_at hl 2 rfl) ?_
    refine lv_iload_n hx hb dX9_bound_27 rfl (lv_at hl 0 rfl) ?_
    refine mc_V (As := [.int (nI k)]) (rest := []) (r := some (.int (plO P k))) (T := P) C (k_placeOf (n := n) hG P hn hn8 (by omega) (hq k (by omega))) tm_777 tm_779 tm_896 tm_3 tm_780 rfl hdX9_placeOf hR0 hl.1 rfl (Nat.le_of_ble_eq_true rfl) dX9_bound_28 hC0 hP hD hS (fun H locs hP hD hS => ?_)
    refine lv_goto (tgt := 35) hx hb dX9_bound_31 (by decide) ?_
    refine lv_istore (lv' := [(4, .int (plO P k)), (3, .int (nI k)), (2, .int x), (0, .ref (ad 0)), (1, .int (nI j))]) hx hb dX9_bound_35 hl (by decide) rfl (fun ls hl => ?_)
    refine lv_iload hx hb dX9_bound_37 (lv_at hl 0 rfl) ?_
    refine lv_iload_n hx hb dX9_bound_39 rfl (lv_at hl 2 rfl) ?_
    refine lv_icmp_ge (tgt := 48) hx hb dX9_bound_40 (by decide) (fun cl => ?_) (fun cl => ?_)
    · refine lv_iload_n hx hb dX9_bound_48 rfl (lv_at hl 2 rfl) ?_
      refine lv_istore_n (lv' := [(2, .int x), (4, .int (plO P k)), (3, .int (nI k)), (0, .ref (ad 0)), (1, .int (nI j))]) hx hb dX9_bound_49 rfl hl (by decide) rfl (fun ls hl => ?_)
      refine lv_iinc (v := nI k + 1) (lv' := [(3, .int (nI k + 1)), (2, .int x), (4, .int (plO P k)), (0, .ref (ad 0)), (1, .int (nI j))]) hx hb dX9_bound_50 hl (k := 2) rfl (by first | rfl | decide) (by decide) rfl (fun ls hl => ?_)
      refine lv_goto (tgt := 7) hx hb dX9_bound_53 (by decide) ?_
      rw [nI_1] at hl
      exact ih (k + 1) (by omega) _ (by rw [bdR, ← hx2]; simp only [if_pos cb]; exact (if_neg (Int32.not_lt.mpr cl)).symm) H locs ls hP hD hS (lv_sub hl [0, 1, 3, 4] rfl)
    refine lv_iload hx hb dX9_bound_43 (lv_at hl 0 rfl) ?_
    refine lv_goto (tgt := 49) hx hb dX9_bound_45 (by decide) ?_
    refine lv_istore_n (lv' := [(2, .int (plO P k)), (4, .int (plO P k)), (3, .int (nI k)), (0, .ref (ad 0)), (1, .int (nI j))]) hx hb dX9_bound_49 rfl hl (by decide) rfl (fun ls hl => ?_)
    refine lv_iinc (v := nI k + 1) (lv' := [(3, .int (nI k + 1)), (2, .int (plO P k)), (4, .int (plO P k)), (0, .ref (ad 0)), (1, .int (nI j))]) hx hb dX9_bound_50 hl (k := 2) rfl (by first | rfl | decide) (by decide) rfl (fun ls hl => ?_)
    refine lv_goto (tgt := 7) hx hb dX9_bound_53 (by decide) ?_
    rw [nI_1] at hl
    exact ih (k + 1) (by omega) _ (by rw [bdR, ← hx2]; simp only [if_pos cb]; exact (if_pos (Int32.not_le.mp cl)).symm) H locs ls hP hD hS (lv_sub hl [0, 1, 3, 4] rfl)
end Loops2
abbrev rmX9_bound : Room := { frames := 1, cells := 0, slots := 0, locals := 23 }
set_option maxRecDepth 100000 in
theorem k_bound {l : Launch} {s0 : State} {D : va_G} {cA : Nat → ClassId} {ad : Nat → Nat} (hG : cx_G l s0 D cA) {j n : Nat} (P : MS) (hn : qS P 8 = nI n) (hn8 : n ≤ 8) (hj : j < n) (hq : ∀ k, k < n → qI P 12 k = -1 ∨ ∃ t, t < 2 ∧ qI P 12 k = nI t) : MC l s0 D cA ad yX9_bound cX9_bound 5 (some .int) rmX9_bound [.int (nI j)] P (some (.int (bdR P j j))) P := by
  refine Ct.of (cA := cA) hG (by decide +kernel) (Nat.le_of_ble_eq_true rfl) ?_
  intro p e s m below meth c A C hnm hP hD hS ls hl
  have hx := cx_x C
  have hb := cx_b C
  have hl : lv_has ls 5 [(0, .ref (ad 0)), (1, .int (nI j))] := hl
  refine lv_aload_n hx hb dX9_bound_0 rfl (lv_at hl 0 rfl) ?_
  refine gm_4 (v := qS P 4) C hP rfl tm_670 dX9_bound_1 ?_
  refine lv_istore_n (lv' := [(2, .int (qS P 4)), (0, .ref (ad 0)), (1, .int (nI j))]) hx hb dX9_bound_4 rfl hl (by decide) rfl (fun ls hl => ?_)
  refine lv_iconst (v := 0) hx hb dX9_bound_5 (by decide) ?_
  refine lv_istore_n (lv' := [(3, .int 0), (2, .int (qS P 4)), (0, .ref (ad 0)), (1, .int (nI j))]) hx hb dX9_bound_6 rfl hl (by decide) rfl (fun ls hl => ?_)
  refine lp_bound (n := n) C hG hn hn8 hj hq ⟨Nat.le_of_ble_eq_true rfl, Nat.le_of_ble_eq_true rfl⟩ ⟨Nat.le_of_ble_eq_true rfl, Nat.le_of_ble_eq_true rfl⟩ (fun H locs ls hP hD hS hl => ?_) j 0 (by omega) _ rfl _ _ ls hP hD hS (lv_sub hl [0, 1, 2, 3] rfl)
  refine lv_iload_n hx hb dX9_bound_56 rfl (lv_at hl 0 rfl) ?_
  exact ct_iret C hS hP hD (⟨rfl, rfl⟩) (Nat.le_of_ble_eq_true rfl) (Nat.le_of_ble_eq_true rfl) dX9_bound_57
end
