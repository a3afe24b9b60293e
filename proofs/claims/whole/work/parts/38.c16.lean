/-! ===== the class: the new object ===== -/
theorem ag_pu {X : Nat → Prop} {S : Mem} {u : Nat} (h : X u) : ∀ n, ag X S (puL S u n)
  | 0 => ag_rf
  | n + 1 => ag_tr (ag_pu h n) (ag_uaJ h)
theorem puL_u {S : Mem} {u : Nat} : ∀ (n i : Nat), i < n → maJ (puL S u n) u i = -1
  | 0, _, h => absurd h (by omega)
  | n + 1, i, h => by
    show maJ (uaJ (puL S u n) u n (-1)) u i = -1
    by_cases e : i = n
    · subst e; exact maJ_s
    · rw [maJ_a e]; exact puL_u n i (by omega)
/-- what the ring's constructor leaves -/
def RI (S S1 : Mem) (a N : Nat) : Prop := ∃ q0 q1 q2 M0 M1 M2, q0 ∉ mL (uJ (uJ S 3 a (-1)) 4 a (-1)) ∧ q1 ∉ mL (uR M0 0 a (some q0)) ∧ q2 ∉ mL (uR M1 1 a (some q1)) ∧ M0 = nw (uJ (uJ S 3 a (-1)) 4 a (-1)) q0 13 N ∧ M1 = nw (uR M0 0 a (some q0)) q1 12 N ∧ M2 = nw (uR M1 1 a (some q1)) q2 13 N ∧ S1 = puL (uR M2 2 a (some q2)) q2 N
theorem ex_L {X : Nat → Prop} {S T : Mem} (h : ex X S T) {b : Nat} (hb : b ∈ mL S) : b ∈ mL T := (h b hb).1
theorem RI_ex {S S1 : Mem} {a N : Nat} (h : RI S S1 a N) : ex (fun q => q = a) S S1 := by
  obtain ⟨q0, q1, q2, M0, M1, M2, h0, h1, h2, e0, e1, e2, e⟩ := h
  have x0 : ex (fun q => q = a ∨ q = q2) S M0 := by rw [e0]; exact ex_tr (ex_ag (ag_tr (ag_uJ (Or.inl rfl)) (ag_uJ (Or.inl rfl)))) (ex_nw h0)
  have x1 : ex (fun q => q = a ∨ q = q2) S M1 := by rw [e1]; exact ex_tr x0 (ex_tr (ex_uR (Or.inl rfl)) (ex_nw h1))
  have x1' : ex (fun q => q = a ∨ q = q2) S (uR M1 1 a (some q1)) := ex_tr x1 (ex_uR (Or.inl rfl))
  have x2 : ex (fun q => q = a ∨ q = q2) S S1 := by
    rw [e]
    refine ex_tr (ex_tr x1' ?_) (ex_tr (ex_uR (Or.inl rfl)) (ex_ag (ag_pu (Or.inr rfl) N)))
    rw [e2]
    exact ex_nw h2
  exact ex_mo x2 (fun b hb q => q.elim id (fun q => absurd (ex_L x1' hb) (q ▸ h2)))
theorem RI_rg {S S1 : Mem} {a N : Nat} (ha : a ∈ mL S) (hk : mK S a = 4) (hN : slN N) (h : RI S S1 a N) : ∃ v g u, rgA S1 a v g u N ∧ mJ S1 3 a = -1 ∧ mJ S1 4 a = -1 ∧ (∀ i, maJ S1 v i = 0) ∧ (∀ i, maI S1 g i = 0) ∧ (∀ i, i < N → maJ S1 u i = -1) ∧ v ∉ mL S ∧ g ∉ mL S ∧ u ∉ mL S := by
  obtain ⟨q0, q1, q2, M0, M1, M2, h0, h1, h2, e0, e1, e2, e⟩ := h
  have a0 : a ≠ q0 := fun q => h0 (q ▸ ha)
  have la0 : a ∈ mL M0 := by rw [e0]; exact nw_L ha
  have ka0 : mK M0 a = 4 := by rw [e0]; exact (nw_K (S := uJ (uJ S 3 a (-1)) 4 a (-1)) (q := q0) (k := 13) (n := N) ha h0).trans hk
  have l00 : q0 ∈ mL M0 := by rw [e0]; exact nw_q
  have k00 : mK M0 q0 = 13 := by rw [e0]; exact nw_Kq
  have n00 : mN M0 q0 = N := by rw [e0]; exact nw_Nq
  have a1 : a ≠ q1 := fun q => h1 (q ▸ la0)
  have n01 : q0 ≠ q1 := fun q => h1 (q ▸ l00)
  have x1 : ex (fun q => q = a) M0 M1 := by rw [e1]; exact ex_tr (ex_uR rfl) (ex_nw h1)
  have la1 := ex_L x1 la0
  have l01 := ex_L x1 l00
  have l11 : q1 ∈ mL M1 := by rw [e1]; exact nw_q
  have k11 : mK M1 q1 = 12 := by rw [e1]; exact nw_Kq
  have n11 : mN M1 q1 = N := by rw [e1]; exact nw_Nq
  have a2 : a ≠ q2 := fun q => h2 (q ▸ la1)
  have n02 : q0 ≠ q2 := fun q => h2 (q ▸ l01)
  have n12 : q1 ≠ q2 := fun q => h2 (q ▸ l11)
  have x2 : ex (fun q => q = a) M1 M2 := by rw [e2]; exact ex_tr (ex_uR rfl) (ex_nw h2)
  have l22 : q2 ∈ mL M2 := by rw [e2]; exact nw_q
  have k22 : mK M2 q2 = 13 := by rw [e2]; exact nw_Kq
  have n22 : mN M2 q2 = N := by rw [e2]; exact nw_Nq
  have x3 : ex (fun q => q = a ∨ q = q2) M2 S1 := by rw [e]; exact ex_tr (ex_uR (Or.inl rfl)) (ex_ag (ag_pu (Or.inr rfl) N))
  have p3 := ag_pu (X := fun q => q = q2) (S := uR M2 2 a (some q2)) (u := q2) rfl N
  rw [← e] at p3
  obtain ⟨_, b2, _, _, _, _⟩ := p3.2.2.2.2.2 a a2
  have z0 : q0 ≠ a := fun q => a0 q.symm
  have z1 : q1 ≠ a := fun q => a1 q.symm
  obtain ⟨c1, c2, c3, c4⟩ := x1 q0 l00
  obtain ⟨d1, d2, d3, d4⟩ := x2 q0 l01
  obtain ⟨f1, f2, f3, f4⟩ := x3 q0 d1
  obtain ⟨g1, g2, g3, g4⟩ := x2 q1 l11
  obtain ⟨i1, i2, i3, i4⟩ := x3 q1 g1
  obtain ⟨j1, j2, j3, -⟩ := x3 q2 l22
  obtain ⟨m1, m2, m3, -⟩ := x1 a la0
  obtain ⟨o1, o2, o3, -⟩ := x2 a la1
  obtain ⟨r1, r2, r3, -⟩ := x3 a o1
  have c5 := c4 z0
  have d5 := d4 z0
  have f5 := f4 (fun q => q.elim z0 n02)
  have g5 := g4 z1
  have i5 := i4 (fun q => q.elim z1 n12)
  have nS : ∀ q, q ∈ mL S → q ∈ mL (uR M1 1 a (some q1)) := fun q hq => ex_L x1 (by rw [e0]; exact nw_L hq)
  have R0 : mR M1 0 a = some q0 := by rw [e1]; exact (if_neg a1).trans (mR_s (S := M0))
  have R1 : mR M2 1 a = some q1 := by rw [e2]; exact (if_neg a2).trans (mR_s (S := M1))
  have R0' : mR M2 0 a = some q0 := by rw [e2]; exact (if_neg a2).trans ((mR_k (S := M1) (by decide)).trans R0)
  have J3 : mJ M0 3 a = -1 := by rw [e0]; exact (if_neg a0).trans ((mJ_k (S := uJ S 3 a (-1)) (by decide)).trans mJ_s)
  have J4 : mJ M0 4 a = -1 := by rw [e0]; exact (if_neg a0).trans (mJ_s (S := uJ S 3 a (-1)))
  have JJ : ∀ k, mJ S1 k a = mJ M0 k a := fun k => (b2 k).trans (show mJ M2 k a = mJ M0 k a by rw [e2]; exact (if_neg a2).trans (show mJ M1 k a = mJ M0 k a by rw [e1]; exact if_neg a1))
  refine ⟨q0, q1, q2, ⟨⟨r1, r2.trans (o2.trans (m2.trans ka0))⟩, ⟨?_, ?_, ?_⟩, ⟨f1, f2.trans (d2.trans (c2.trans k00)), f3.trans (d3.trans (c3.trans n00))⟩, ⟨i1, i2.trans (g2.trans k11), i3.trans (g3.trans n11)⟩, ⟨j1, j2.trans k22, j3.trans n22⟩, n02, hN⟩, (JJ 3).trans J3, (JJ 4).trans J4, fun i => ?_, fun i => ?_, fun i hi => ?_, fun q => h0 q, fun q => h1 (show q1 ∈ mL M0 by rw [e0]; exact nw_L q), fun q => h2 (nS _ q)⟩
  · rw [p3.2.2.2.1]; exact (mR_k (S := M2) (by decide)).trans R0'
  · rw [p3.2.2.2.1]; exact (mR_k (S := M2) (by decide)).trans R1
  · rw [p3.2.2.2.1]; exact mR_s (S := M2)
  · rw [f5.2.2.2.2.2.2.1, d5.2.2.2.2.2.2.1, c5.2.2.2.2.2.2.1, e0]; exact congrFun (va_up_self _ _ _) i
  · rw [i5.2.2.2.2.2.1, g5.2.2.2.2.2.1, e1]; exact congrFun (va_up_self _ _ _) i
  · rw [e]; exact puL_u N i hi
