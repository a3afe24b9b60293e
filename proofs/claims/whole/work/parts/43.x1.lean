/-! ===== throwing: what every throw needs ===== -/
section Thr1
variable {p : Program} {l : Launch} {s : State} {m : MethodId} {args : Array Value} {meth : Method} {c : Code} {s0 : State} {D : va_G} {cA : Nat → ClassId} {cc : ByteArray} {nL : Nat} {ret : Option FieldType} {own : String} {A : Nat → Prop}
theorem cx_st {C0 n d : String} (C : cx_C p l s m args meth c s0 D cA cc nL ret own A) (h1 : Cond.laysStatic C0 n d ∈ lw_tbl) (h2 : Cond.initialized C0 ∈ TB) (h3 : Cond.isRef (.static C0 n d) ∈ flatC (Jvm.Cond.and given_1 narrow_1)) : vx_Zq C0 n d A s s.heap := by
  obtain ⟨-, ⟨a0, h, hn⟩, -⟩ := cx_g C
  have z : vx_Zq C0 n d (fun q => s0.heap.size ≤ q) s0 s0.heap := vx_Zqof (h _ h1) (h _ (List.mem_filter.mp h2).1) (flat_of_before _ hn _ h3) (fun a ha => Nat.not_le.mpr ha)
  exact ((z.moved (cx_w C).alike).kept (fun a ha _ => (cx_o C).2 a ha)).narrow (cx_n C)
theorem cx_U (C : cx_C p l s m args meth c s0 D cA cc nL ret own A) : vx_Zq Bundle.tN "UNASSIGNED_STACK" Bundle.steD A s s.heap := cx_st C tn_123 tm_4 (by decide +kernel)
theorem cx_V (C : cx_C p l s m args meth c s0 D cA cc nL ret own A) : vx_Zq Bundle.tN "SUPPRESSED_SENTINEL" Bundle.listD A s s.heap := cx_st C tn_125 tm_4 (by decide +kernel)
/-- a string constant of the class -/
theorem cx_str {k : Nat} {tx : String} (C : cx_C p l s m args meth c s0 D cA cc nL ret RX8 A) (h : Cond.stringRef RX8 k tx ∈ lw_tbl) (hi : Cond.initialized RX8 ∈ TB) : ∃ sa, vk_R RX8 k tx sa s := by
  obtain ⟨-, ⟨a0, h0, -⟩, -⟩ := cx_g C
  have h1 := h0 _ h
  obtain ⟨cur, hcur⟩ : ∃ cur, s0.vm.findClass RX8 = some cur := by
    have := h0 _ (List.mem_filter.mp hi).1
    cases hf : s0.vm.findClass RX8 with
    | some cur => exact ⟨cur, rfl⟩
    | none => simp [Cond.before, Cond.holds, Cond.value, hf] at this
  obtain ⟨kk, cf, i, a, -, -, -, -, -, hev⟩ := Cond.stringRef_spec hcur h1
  exact ⟨a, vk_R.warm (cx_w C) (vk_R.of h1 hev)⟩
end Thr1
