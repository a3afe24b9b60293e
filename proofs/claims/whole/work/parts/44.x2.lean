def isDc : Cond → Bool
  | .declares _ => true
  | _ => false
theorem isDc_of {w : Cond} (h : isDc w = true) : ∃ z, w = .declares z := by
  cases w <;> first | exact ⟨_, rfl⟩ | cases h
section Thr2
variable {p : Program} {l : Launch} {e : Env} {R : Room} {s : State} {m : MethodId} {args : Array Value} {below : List Frame} {meth : Method} {c : Code} {H : Heap} {locs : List Loc} {cells slots : Nat}
variable {s0 : State} {D : va_G} {cA : Nat → ClassId} {cc : ByteArray} {nL : Nat} {ret : Option FieldType} {A : Nat → Prop} {pc : Nat} {ls : Array Slot} {rest : List Value} {wc : va_W} {post : Option Value → va_W → Prop} {PX : String → Prop}
/-- new, dup, ldc, invokespecial, athrow: this method ends so, and nothing of its own has changed -/
theorem cx_throw {cls text : String} {names : List String} {ik is ic mc ms : Nat} (C : cx_C p l s m args meth c s0 D cA cc nL ret RX8 A) (hE : ∀ z ∈ c.exceptionTable.toList, False) (hcls : Bundle.fit cls = true) (hnames : ∀ n ∈ names, Bundle.fit n = true) (hk : Cond.classLink RX8 ik cls ∈ TB) (hini : Cond.initialized cls ∈ TB) (hstr : Cond.stringRef RX8 is text ∈ lw_tbl) (hcast : Cond.castable cls cls ∈ lw_tbl) (hat : ∀ w ∈ vx_atS RX8 ic cls names, w ∈ TB ∨ (w ∈ lw_tbl ∧ isDc w = true) ∨ w = .castable cls cls) (hX : PX cls) (hP : va_P D vwCl wc H) (hS : va_S A s.heap H locs) (hsize : ls.size = nL)
    (d0 : decode cc pc = .ok (.new ik, 3)) (d3 : decode cc (pc + 3) = .ok (.dup, 1)) (d4 : decode cc (pc + 4) = .ok (.ldc is, 2)) (d6 : decode cc (pc + 6) = .ok (.invokespecial ic, 3)) (d9 : decode cc (pc + 9) = .ok (.athrow, 1))
    (hRf : names.length + 3 < R.frames) (hRl : (rest.map fun v => v.category).sum + (13 * (names.length + 1) + 43) ≤ R.locals) (hRc : cells + 1 ≤ R.cells) (hRs : slots + 6 ≤ R.slots) (hc : cells + 1 ≤ mc) (hs : slots + 6 ≤ ms) :
    W p l e R s m args below meth c H locs cells slots (vx_MQ below (cx_post D A post) (cx_X D A wc PX) args s mc ms A) (F0 m pc ls rest) := by
  obtain ⟨sa, hsa⟩ := cx_str C hstr tm_1
  refine vx_throwS (cx_x C) (cx_b C) (cx_g C).1 (cx_own C) hcls hnames (cx_t C _ hk) (cx_t C _ hini) hsa (fun w hw => ?_) (fun w hw => ?_) (cx_U C) (cx_V C) hS (by rw [cx_ml C]; exact hsize) d0 d3 d4 d6 d9 (fun x hx => (hE x hx).elim) hRf hRl hRc hRs (cx_lk C) (fun t _ h1 h2 => ⟨hX, fun k q hq => (hP k q hq).kept (h2 q.1 (hP k q hq).lt), Nat.le_trans hS.1 h1, fun q hq hn => (h2 q (Nat.lt_of_lt_of_le hq hS.1)).trans (hS.2.1 q hq hn)⟩) hS.2.2 hc hs
  · rcases hat w hw with h | ⟨h, hd⟩ | rfl
    · exact cx_t C _ h
    · obtain ⟨z, rfl⟩ := isDc_of hd
      exact va_Nw.use (A := args) rfl (cx_decl C h)
    · exact va_Nw.use (A := args) rfl (cx_cast C hcast)
  · have hg : ∀ w, w ∈ TB → vx_ot w = true := fun w h => by unfold vx_ot; rw [(List.mem_filter.mp h).2, Bool.or_true]
    rcases List.mem_cons.mp hw with rfl | hw
    · exact hg _ hk
    rcases List.mem_cons.mp hw with rfl | hw
    · exact hg _ hini
    rcases hat w hw with h | ⟨h, hd⟩ | rfl
    · exact hg _ h
    · obtain ⟨z, rfl⟩ := isDc_of hd
      rfl
    · rfl
end Thr2
theorem at_iae : ∀ w ∈ vx_atS RX8 38 "java/lang/IllegalArgumentException" ["java/lang/RuntimeException", "java/lang/Exception"], w ∈ TB ∨ (w ∈ lw_tbl ∧ isDc w = true) ∨ w = .castable "java/lang/IllegalArgumentException" "java/lang/IllegalArgumentException" := by decide +kernel
theorem at_ise : ∀ w ∈ vx_atS RX8 60 "java/lang/IllegalStateException" ["java/lang/RuntimeException", "java/lang/Exception"], w ∈ TB ∨ (w ∈ lw_tbl ∧ isDc w = true) ∨ w = .castable "java/lang/IllegalStateException" "java/lang/IllegalStateException" := by decide +kernel
theorem at_ioo : ∀ w ∈ vx_atS RX8 172 "java/lang/IndexOutOfBoundsException" ["java/lang/RuntimeException", "java/lang/Exception"], w ∈ TB ∨ (w ∈ lw_tbl ∧ isDc w = true) ∨ w = .castable "java/lang/IndexOutOfBoundsException" "java/lang/IndexOutOfBoundsException" := by decide +kernel
