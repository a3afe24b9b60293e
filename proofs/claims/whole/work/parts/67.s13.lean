/-! ===== the beginning, side by side ===== -/
theorem Rep_new {S S1 : Mem} {a N : Nat} {x0 : Int32} (h1 : a ∈ mL S) (h2 : mK S a = 7) (i3 : mI S 3 a = 0) (i4 : mI S 4 a = 0) (j5 : mJ S 5 a = 0) (hN : slK x0 = N)
    (hphi : ∃ q0 q1 q2 M0 M1 M2 M3, q0 ∉ mL S ∧ q1 ∉ mL (uR M0 1 a (some q0)) ∧ q2 ∉ mL (uR M1 2 a (some q1)) ∧ M0 = nw S q0 15 8 ∧ M1 = nw (uR M0 1 a (some q0)) q1 16 2 ∧ M2 = nw (uR M1 2 a (some q1)) q2 4 0 ∧ RI M2 M3 q2 N ∧ S1 = uR M3 0 a (some q2)) : Rep 0 S1 (iniP x0) a := by
  obtain ⟨hW, en, ec, ea, eN, eR, eJ, el⟩ := WF_ini x0
  have hs := (slK_ok x0).1
  have hb := slN_b hs
  rw [hN] at eN hs hb
  obtain ⟨q0, q1, q2, M0, M1, M2, M3, n0, n1, n2, e0, e1, e2, hRI, eS⟩ := hphi
  have x0 : ex (fun _ => False) S M0 := by rw [e0]; exact ex_nw n0
  have x1 : ex (fun z => z = a) M0 M1 := by rw [e1]; exact ex_tr (ex_uR rfl) (ex_nw n1)
  have x2 : ex (fun z => z = a) M1 M2 := by rw [e2]; exact ex_tr (ex_uR rfl) (ex_nw n2)
  have x3 := RI_ex hRI
  have x4 : ex (fun z => z = a) M3 S1 := by rw [eS]; exact ex_uR rfl
  obtain ⟨a01, a02, -, a04⟩ := x0 a h1
  obtain ⟨a05, a06, -⟩ := a04 id
  have na0 : a ≠ q0 := fun e => n0 (e ▸ h1)
  have na1 : a ≠ q1 := fun e => n1 (e ▸ a01)
  have la1 := (x1 a a01).1
  have na2 : a ≠ q2 := fun e => n2 (e ▸ la1)
  have la2 := (x2 a la1).1
  obtain ⟨a31, a32, -, a34⟩ := x3 a la2
  obtain ⟨a3i, a3j, a3r, -⟩ := a34 na2
  have l0 : q0 ∈ mL M0 := by rw [e0]; exact nw_q
  have k0 : mK M0 q0 = 15 := by rw [e0]; exact nw_Kq
  have m0 : mN M0 q0 = 8 := by rw [e0]; exact nw_Nq
  have l1 : q1 ∈ mL M1 := by rw [e1]; exact nw_q
  have k1 : mK M1 q1 = 16 := by rw [e1]; exact nw_Kq
  have m1 : mN M1 q1 = 2 := by rw [e1]; exact nw_Nq
  have r1 : maR M1 q1 = fun _ => none := by rw [e1]; exact va_up_self _ _ _
  have l2 : q2 ∈ mL M2 := by rw [e2]; exact nw_q
  have k2 : mK M2 q2 = 4 := by rw [e2]; exact nw_Kq
  -- q0 up to S1
  obtain ⟨b1, b2, b3, -⟩ := x1 q0 l0
  obtain ⟨b4, b5, b6, -⟩ := x2 q0 b1
  obtain ⟨b7, b8, b9, -⟩ := x3 q0 b4
  obtain ⟨c1, c2, c3, -⟩ := x4 q0 b7
  -- q1
  have n1a : q1 ≠ a := fun e => na1 e.symm
  obtain ⟨d1, d2, d3, d3'⟩ := x2 q1 l1
  have n12 : q1 ≠ q2 := fun e => n2 (e ▸ l1)
  obtain ⟨d4, d5, d6, d6'⟩ := x3 q1 d1
  obtain ⟨d7, d8, d9, d9'⟩ := x4 q1 d4
  have r1' : maR S1 q1 = fun _ => none := (d9' n1a).2.2.2.2.2.2.2.trans ((d6' n12).2.2.2.2.2.2.2.trans ((d3' n1a).2.2.2.2.2.2.2.trans r1))
  obtain ⟨v, g, u, hg, g3, g4, gv, gg, gu, -, -, -⟩ := RI_rg l2 k2 hs hRI
  have x4' : ex (fun z => z = a) M3 S1 := x4
  have n2a : q2 ≠ a := fun e => na2 e.symm
  have kk : ∀ z, mK M3 z = 13 → z ≠ a := fun z hz e => by rw [e, a32, (x2 a la1).2.1, (x1 a a01).2.1, a02, h2] at hz; exact absurd hz (by decide)
  have kv := kk v hg.2.2.1.2.1
  have ku := kk u hg.2.2.2.2.1.2.1
  have R1 : mR M2 1 a = some q0 := by
    rw [e2]
    refine (if_neg na2).trans ((mR_k (S := M1) (k := 2) (a := a) (i := 1) (b := a) (v := some q1) (by decide)).trans ?_)
    rw [e1]
    exact (if_neg na1).trans (mR_s (S := M0))
  have R2 : mR M2 2 a = some q1 := by
    rw [e2]
    exact (if_neg na2).trans (mR_s (S := M1))
  have I : ∀ i, mI S1 i a = mI S i a := fun i => by
    rw [eS]
    show mI M3 i a = _
    rw [a3i i, e2]
    refine (if_neg na2).trans ?_
    show mI M1 i a = _
    rw [e1]
    exact (if_neg na1).trans (a05 i)
  have J : ∀ i, mJ S1 i a = mJ S i a := fun i => by
    rw [eS]
    show mJ M3 i a = _
    rw [a3j i, e2]
    refine (if_neg na2).trans ?_
    show mJ M1 i a = _
    rw [e1]
    exact (if_neg na1).trans (a06 i)
  refine ⟨hW, q2, q0, q1, v, g, u, fun _ => 0, fun _ => 0, fun _ => 0, fun _ => 0, fun _ => 0, fun _ => 0, fun _ _ => 0, ?_, ?_, ⟨?_, ?_⟩, ⟨⟨?_, ?_⟩, ?_, ?_⟩, ?_, ?_, ?_, ?_, ?_⟩
  · rw [en]
    refine ⟨⟨(x4 a a31).1, (x4 a a31).2.1.trans (a32.trans ((x2 a la1).2.1.trans ((x1 a a01).2.1.trans (a02.trans h2))))⟩, ⟨?_, ?_, ?_⟩, ⟨c1, c2.trans (b8.trans (b5.trans (b2.trans k0))), c3.trans (b9.trans (b6.trans (b3.trans m0)))⟩, ⟨d7, d8.trans (d5.trans (d2.trans k1)), d9.trans (d6.trans (d3.trans m1))⟩, (I 3).trans i3, by decide, fun j hj => absurd hj (Nat.not_lt_zero _)⟩
    · rw [eS]; exact mR_s
    · rw [eS]; exact (mR_k (S := M3) (k := 0) (a := a) (i := 1) (b := a) (v := some q2) (by decide)).trans ((a3r 1).trans R1)
    · rw [eS]; exact (mR_k (S := M3) (k := 0) (a := a) (i := 2) (b := a) (v := some q2) (by decide)).trans ((a3r 2).trans R2)
  · rw [eN]; exact rgA_ex x4 n2a hg
  · rw [en]; exact (I 4).trans i4
  · rw [eR]; exact (J 5).trans j5
  · rw [ec]; exact (((x4 q2 hg.1.1).2.2.2 n2a).2.1 3).trans (g3.trans eL_0.symm)
  · rw [ea]; exact (((x4 q2 hg.1.1).2.2.2 n2a).2.1 4).trans (g4.trans eL_0.symm)
  · intro i hi
    rw [eN] at hi
    rw [eJ, el i (by omega), eL_0, ((x4 v hg.2.2.1.1).2.2.2 kv).2.2.2.2.2.2.1, ((x4 u hg.2.2.2.2.1.1).2.2.2 ku).2.2.2.2.2.2.1]
    exact ⟨gv i, gu i hi⟩
  · intro s hs1; rw [ec] at hs1; exact absurd hs1 (Nat.not_lt_zero _)
  · intro j hj; rw [en] at hj; exact absurd hj (Nat.not_lt_zero _)
  · intro i j hi; rw [en] at hi; exact absurd hi (Nat.not_lt_zero _)
  · intro t _
    exact Or.inl ⟨fun j hj => by rw [en] at hj; exact absurd hj (Nat.not_lt_zero _), by rw [r1']⟩
  · intro t _ e; rw [r1'] at e; cases e
  · intro e; rw [r1'] at e; cases e
theorem c_new {l : Launch} {s0 : State} {D : va_G} {cA : Nat → ClassId} (hG : cx_G l s0 D cA) {S : Mem} {a : Nat} (x0 : Int32) (h1 : a ∈ mL S) (h2 : mK S a = 7) (i3 : mI S 3 a = 0) (i4 : mI S 4 a = 0) (j5 : mJ S 5 a = 0) : PC l s0 D cA yX8_init cX8_init 2 none rmX8_init [.ref a, .int x0] S none (fun S1 => Rep 0 S1 (iniP x0) a) := by
  by_cases c4 : x0 = 4
  · subst c4
    exact (c_new4 hG h1 h2).mono (fun S1 e => Rep_new h1 h2 i3 i4 j5 (by decide) e)
  · by_cases c6 : x0 = 16
    · subst c6
      exact (c_new16 hG h1 h2).mono (fun S1 e => Rep_new h1 h2 i3 i4 j5 (by decide) e)
    · exact (c_new8 hG x0 h1 h2 c4 c6).mono (fun S1 e => Rep_new h1 h2 i3 i4 j5 (by unfold slK; rw [if_neg c4, if_neg c6]) e)
