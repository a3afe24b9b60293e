/-! ===== what the making of a consumer leaves ===== -/
section S10
variable {S M0 M1 M2 M3 M4 U : Mem} {x ca pa n a h t q w z : Nat} {k on po hu : Int32} {pp : Option Nat} {Y Z : Nat → Prop}
theorem CK_of (hq0 : a ∉ mL S) (e0 : M0 = nw S a 0 0) (hN : NHp k M0 h M1) (x2 : ex Y M1 M2) (e3 : M3 = ciS M2 a h on po pp) (x4 : ex Z M3 M4) (eU : U = uI (uI (uaR M4 ca n (some a)) 4 x (hu ||| on)) 3 x (nI (n + 1))) (hx : x ∈ mL S) (hca : ca ∈ mL S) (hxc : x ≠ ca)
    (ya : ¬ Y a ∧ ¬ Z a) (yh : ¬ Y h ∧ ¬ Z h) (yx : ¬ Y x ∧ ¬ Z x) (yc : ¬ Y ca ∧ ¬ Z ca) (yb : ∀ b, b ∉ mL M0 → mK M1 b = 9 → b ∈ mL M1 → ¬ Y b ∧ ¬ Z b) : ∃ b, CK S U x ca n a h b k on po hu pp (fun z => Y z ∨ Z z) := by
  have x0 : ex (fun _ => False) S M0 := by rw [e0]; exact ex_nw hq0
  have la0 : a ∈ mL M0 := by rw [e0]; exact nw_q
  have ka0 : mK M0 a = 0 := by rw [e0]; exact nw_Kq
  have ia0 : ∀ i, mI M0 i a = 0 := fun i => by rw [e0]; exact if_pos rfl
  obtain ⟨n1, x1, l1, alt⟩ := hN
  have x3 : ex (fun z => z = a) M2 M3 := by rw [e3]; exact ciS_ex
  have f3 := ciS_f (S := M2) (a := a) (h := h) (on := on) (po := po) (pt := pp)
  rw [← e3] at f3
  have x5 : ex (fun z => z = ca ∨ z = x) M4 U := by rw [eU]; exact ex_tr (ex_uaR (Or.inl rfl)) (ex_ag (ag_tr (ag_uI (Or.inr rfl)) (ag_uI (Or.inr rfl))))
  have nax : a ≠ x := fun e => hq0 (e ▸ hx)
  have nac : a ≠ ca := fun e => hq0 (e ▸ hca)
  have nha : h ≠ a := fun e => n1 (e ▸ la0)
  have nhx : h ≠ x := fun e => n1 (e ▸ (x0 x hx).1)
  have nhc : h ≠ ca := fun e => n1 (e ▸ (x0 ca hca).1)
  -- a
  have la1 := (x1 a la0).1
  have la2 := (x2 a la1).1
  have la3 := (x3 a la2).1
  have la4 := (x4 a la3).1
  have ka : mK U a = 0 := (x5 a la4).2.1.trans ((x4 a la3).2.1.trans ((x3 a la2).2.1.trans ((x2 a la1).2.1.trans ((x1 a la0).2.1.trans ka0))))
  obtain ⟨i4, j4, r4, -⟩ := (x4 a la3).2.2.2 ya.2
  obtain ⟨i5, j5, r5, -⟩ := (x5 a la4).2.2.2 (fun e => e.elim nac nax)
  have i2 : ∀ i, mI M2 i a = 0 := fun i => (((x2 a la1).2.2.2 ya.1).1 i).trans ((((x1 a la0).2.2.2 id).1 i).trans (ia0 i))
  have I : ∀ i, i ≠ 1 → i ≠ 3 → mI U i a = 0 := fun i h1 h3 => (i5 i).trans ((i4 i).trans ((f3.2.2.2.2.2.2.2 i h1 h3).trans (i2 i)))
  -- any other object of M1 that isn't touched
  have far : ∀ q, q ∈ mL M1 → q ≠ a → q ≠ x → q ≠ ca → ¬ Y q → ¬ Z q → q ∈ mL U ∧ mK U q = mK M1 q ∧ mN U q = mN M1 q ∧ (∀ i, mI U i q = mI M1 i q) ∧ (∀ i, mJ U i q = mJ M1 i q) ∧ (∀ i, mR U i q = mR M1 i q) ∧ (∀ i, mF U i q = mF M1 i q) ∧ (∀ i, mE U i q = mE M1 i q) := fun q lq na nx nc ny nz => by
    obtain ⟨b1, b2, b3, b4⟩ := x2 q lq
    obtain ⟨c1, c2, c3, c4⟩ := x3 q b1
    obtain ⟨d1, d2, d3, d4⟩ := x4 q c1
    obtain ⟨f1, f2, f3, f4⟩ := x5 q d1
    obtain ⟨b5, b6, b7, b8, b9, -⟩ := b4 ny
    obtain ⟨c5, c6, c7, c8, c9, -⟩ := c4 na
    obtain ⟨d5, d6, d7, d8, d9, -⟩ := d4 nz
    obtain ⟨f5, f6, f7, f8, f9, -⟩ := f4 (fun e => e.elim nc nx)
    exact ⟨f1, f2.trans (d2.trans (c2.trans b2)), f3.trans (d3.trans (c3.trans b3)), fun i => (f5 i).trans ((d5 i).trans ((c5 i).trans (b5 i))), fun i => (f6 i).trans ((d6 i).trans ((c6 i).trans (b6 i))), fun i => (f7 i).trans ((d7 i).trans ((c7 i).trans (b7 i))), fun i => (f8 i).trans ((d8 i).trans ((c8 i).trans (b8 i))), fun i => (f9 i).trans ((d9 i).trans ((c9 i).trans (b9 i)))⟩
  obtain ⟨g1, g2, g3, g4, g5, g6, g7, g8⟩ := far h l1 nha nhx nhc yh.1 yh.2
  -- x and ca, up to M4
  have up : ∀ q, q ∈ mL S → ¬ Y q → ¬ Z q → q ∈ mL M4 ∧ (∀ i, mR M4 i q = mR S i q) ∧ (∀ i, mJ M4 i q = mJ S i q) ∧ maR M4 q = maR S q := fun q lq ny nz => by
    have na : q ≠ a := fun e => hq0 (e ▸ lq)
    obtain ⟨a1, a2, a3, a4⟩ := x0 q lq
    obtain ⟨b1, b2, b3, b4⟩ := x1 q a1
    obtain ⟨c1, c2, c3, c4⟩ := x2 q b1
    obtain ⟨d1, d2, d3, d4⟩ := x3 q c1
    obtain ⟨f1, f2, f3, f4⟩ := x4 q d1
    obtain ⟨-, a6, a7, -, -, -, -, a8⟩ := a4 id
    obtain ⟨-, b6, b7, -, -, -, -, b8⟩ := b4 id
    obtain ⟨-, c6, c7, -, -, -, -, c8⟩ := c4 ny
    obtain ⟨-, d6, d7, -, -, -, -, d8⟩ := d4 na
    obtain ⟨-, f6, f7, -, -, -, -, f8⟩ := f4 nz
    exact ⟨f1, fun i => (f7 i).trans ((d7 i).trans ((c7 i).trans ((b7 i).trans (a7 i)))), fun i => (f6 i).trans ((d6 i).trans ((c6 i).trans ((b6 i).trans (a6 i)))), f8.trans (d8.trans (c8.trans (b8.trans a8)))⟩
  obtain ⟨-, xr, xj, -⟩ := up x hx yx.1 yx.2
  obtain ⟨-, -, -, cm⟩ := up ca hca yc.1 yc.2
  have hE : ex (fun z => z = x ∨ z = ca ∨ (Y z ∨ Z z)) S U := by
    have e1 : ex (fun z => z = a ∨ z = x ∨ z = ca ∨ (Y z ∨ Z z)) S U := ex_tr (ex_mo x0 (fun _ _ => False.elim)) (ex_tr (ex_mo x1 (fun _ _ => False.elim)) (ex_tr (ex_mo x2 (fun _ _ e => Or.inr (Or.inr (Or.inr (Or.inl e))))) (ex_tr (ex_mo x3 (fun _ _ e => Or.inl e)) (ex_tr (ex_mo x4 (fun _ _ e => Or.inr (Or.inr (Or.inr (Or.inr e))))) (ex_mo x5 (fun _ _ e => e.elim (fun e => Or.inr (Or.inr (Or.inl e))) (fun e => Or.inr (Or.inl e))))))))
    exact ex_mo e1 (fun b hb e => e.elim (fun e => absurd hb (e ▸ hq0)) id)
  have head : (∀ i, mR U i x = mR S i x) ∧ mI U 3 x = nI (n + 1) ∧ mI U 4 x = hu ||| on ∧ mJ U 5 x = mJ S 5 x := by
    rw [eU]
    exact ⟨xr, mI_s, (mI_k (S := uI (uaR M4 ca n (some a)) 4 x (hu ||| on)) (k := 3) (a := x) (i := 4) (b := x) (v := nI (n + 1)) (by decide)).trans mI_s, xj 5⟩
  have arr : maR U ca n = some a ∧ ∀ i, i ≠ n → maR U ca i = maR S ca i := by
    rw [eU]
    exact ⟨maR_s (S := M4), fun i hi => (maR_a (S := M4) (k := ca) (a := n) (i := ca) (b := i) (v := some a) hi).trans (congrFun cm i)⟩
  have nS : ∀ q, q ∉ mL M0 → q ∉ mL S := fun q hq e => hq (x0 q e).1
  have rowA : (a ∈ mL U ∧ mK U a = 0) ∧ mR U 0 a = some h ∧ mI U 1 a = on ∧ mR U 2 a = pp ∧ mI U 3 a = po ∧ mJ U 4 a = -1 ∧ mJ U 5 a = -1 ∧ mJ U 10 a = -1 ∧ mI U 6 a = 0 ∧ mI U 7 a = 0 ∧ mI U 8 a = 0 ∧ mI U 9 a = 0 ∧ mI U 11 a = 0 := by
    obtain ⟨s1, s2, s3, s4, s5, s6, s7, -⟩ := f3
    exact ⟨⟨(x5 a la4).1, ka⟩, (r5 0).trans ((r4 0).trans s1), (i5 1).trans ((i4 1).trans s3), (r5 2).trans ((r4 2).trans s2), (i5 3).trans ((i4 3).trans s4), (j5 4).trans ((j4 4).trans s5), (j5 5).trans ((j4 5).trans s6), (j5 10).trans ((j4 10).trans s7), I 6 (by decide) (by decide), I 7 (by decide) (by decide), I 8 (by decide) (by decide), I 9 (by decide) (by decide), I 11 (by decide) (by decide)⟩
  rcases alt with ⟨e, m, z⟩ | ⟨e, m, z⟩ | ⟨e, m, z, z2⟩ | ⟨e, b, hb, hbh, ⟨⟨b1, b2⟩, b3, ⟨b4, b5, b6⟩, b7⟩⟩
  · exact ⟨0, ⟨hq0, nS h n1, fun q => by rw [e] at q; exact absurd q (by decide)⟩, rowA, ⟨g1, Or.inl ⟨e, g2.trans m, (g5 0).trans z⟩⟩, head, arr, hE⟩
  · exact ⟨0, ⟨hq0, nS h n1, fun q => by rw [e] at q; exact absurd q (by decide)⟩, rowA, ⟨g1, Or.inr (Or.inl ⟨e, g2.trans m, (g7 0).trans z⟩)⟩, head, arr, hE⟩
  · exact ⟨0, ⟨hq0, nS h n1, fun q => by rw [e] at q; exact absurd q (by decide)⟩, rowA, ⟨g1, Or.inr (Or.inr (Or.inl ⟨e, g2.trans m, (g8 0).trans z, (g4 1).trans z2⟩))⟩, head, arr, hE⟩
  · have yb' := yb b hb b5 b4
    obtain ⟨p1, p2, p3, -⟩ := far b b4 (fun e => hb (e ▸ la0)) (fun e => hb (e ▸ (x0 x hx).1)) (fun e => hb (e ▸ (x0 ca hca).1)) yb'.1 yb'.2
    exact ⟨b, ⟨hq0, nS h n1, fun _ => nS b hb⟩, rowA, ⟨g1, Or.inr (Or.inr (Or.inr ⟨e, ⟨g1, g2.trans b2⟩, (g6 0).trans b3, ⟨p1, p2.trans b5, p3.trans b6⟩, (g4 1).trans b7⟩))⟩, head, arr, hE⟩
end S10
/-- the pool that the consumer joins, before it has joined -/
def POk (S M : Mem) (P : MS) (ca pa : Nat) (A1 pt pw : Nat → Nat) (wi : Nat → Nat → Nat) (t : Nat) (on : Int32) (q w z : Nat) : Prop :=
  ((q ∈ mL M ∧ mK M q = 3) ∧ mR M 1 q = some w ∧ (w ∈ mL M ∧ mK M w = 15 ∧ mN M w = 8) ∧ mI M 2 q = nI z ∧ mI M 0 q = on ∧ mJ M 3 q = lN (zt P t)) ∧ maR M pa t = some q ∧ (∀ u, u ≠ t → maR M pa u = maR S pa u) ∧ (∀ i, i < z → maR M w i = some (A1 (wi t i)) ∧ wi t i < nC P ∧ zP P (wi t i) = t + 1) ∧ (∀ j, j < nC P → zP P j = t + 1 → (∃ i, i < z ∧ wi t i = j) ∧ qI P 10 j = on) ∧ z ≤ nC P ∧ w ≠ ca ∧ (∀ u, u < 2 → u ≠ t → maR S pa u = some (pt u) → q ≠ pt u ∧ w ≠ pw u)
section S11
variable {K : Nat} {S M1 M2 : Mem} {P : MS} {x r ca pa v g u : Nat} {A1 hd bb pt pw sz : Nat → Nat} {wi : Nat → Nat → Nat} {t q w z : Nat} {on : Int32}
theorem POk_of (hw : WF K P) (hs : RS S P x r ca pa v g u A1 hd bb pt pw sz wi) (ht : t < 2) (x1 : ex (fun _ => False) S M1) (hj : PJp pa t on M1 q M2) (hp : poA M2 q w z) (hon : maR S pa t = some q → mI S 0 q = on) : POk S M2 P ca pa A1 pt pw wi t on q w z := by
  obtain ⟨h1, -, -, -, h5, h6, h7, h8⟩ := hs
  have lpa := h1.2.2.2.1.1
  have kpa := h1.2.2.2.1.2.1
  have pa1 : maR M1 pa = maR S pa := ((x1 pa lpa).2.2.2 id).2.2.2.2.2.2.2
  have inS : ∀ u, u < 2 → maR S pa u = some (pt u) → pt u ∈ mL S ∧ pw u ∈ mL S := fun u hu e => by
    rcases h7 u hu with ⟨-, b⟩ | b
    · rw [b] at e; cases e
    · exact ⟨b.2.1.1.1, b.2.1.2.2.1.1⟩
  rcases hj with ⟨e1, rfl⟩ | ⟨e1, e2, qw, e3, e4⟩
  · rw [pa1] at e1
    have hL := (h7 t ht).resolve_left (fun b => by rw [b.2] at e1; cases e1)
    obtain ⟨l1, ⟨⟨l2, l3⟩, l4, ⟨l5, l6, l7⟩, l8, l9, -⟩, ⟨w1, w2, w3⟩, ⟨z1, z2⟩, l10, l11⟩ := hL
    obtain rfl : q = pt t := Option.some.inj (e1.symm.trans l1)
    obtain ⟨p1, p2, p3, p4, p5⟩ := hp
    obtain ⟨a1, a2, a3, a4⟩ := x1 (pt t) l2
    obtain ⟨ai, aj, ar, -⟩ := a4 id
    obtain ⟨b1, b2, b3, b4⟩ := x1 (pw t) l5
    obtain ⟨-, -, -, -, -, -, -, bm⟩ := b4 id
    obtain rfl : w = pw t := Option.some.inj (p2.symm.trans ((ar 1).trans l4))
    have hz : z = sz t := (nI_eq (by omega) (by omega)).mp (p4.symm.trans ((ai 2).trans w1))
    subst hz
    refine ⟨⟨p1, p2, p3, p4, (ai 0).trans (hon e1), (aj 3).trans l8⟩, by rw [pa1]; exact e1, fun u _ => by rw [pa1], fun i hi => ⟨by rw [bm]; exact (w3 i hi).1, l10 i hi⟩, fun j hj e => ⟨(l11 j hj e).1, (l11 j hj e).2.symm.trans (hon e1)⟩, z2, h8.1 t ht e1, fun u hu hut e => ?_⟩
    have : (u = 0 ∧ t = 1) ∨ (u = 1 ∧ t = 0) := by omega
    rcases this with ⟨rfl, rfl⟩ | ⟨rfl, rfl⟩
    · exact ⟨(h8.2 e e1).1.symm, (h8.2 e e1).2.symm⟩
    · exact h8.2 e1 e
  · rw [pa1] at e1
    have hno : ∀ j, j < nC P → zP P j ≠ t + 1 := by
      rcases h7 t ht with b | b
      · exact b.1
      · have := b.1; rw [e1] at this; cases this
    have hz0 : zt P t = 0 := (hw.2.2.1 t ht).2.1 hno
    obtain ⟨N1, eN1⟩ : ∃ N1, N1 = nw M1 q 3 0 := ⟨_, rfl⟩
    rw [← eN1] at e3 e4
    obtain ⟨N2, eN2⟩ : ∃ N2, N2 = nw N1 qw 15 8 := ⟨_, rfl⟩
    rw [← eN2] at e4
    have lq : q ∈ mL N1 := by rw [eN1]; exact nw_q
    have iq : ∀ i, mI N1 i q = 0 := fun i => by rw [eN1]; exact if_pos rfl
    have jq : ∀ i, mJ N1 i q = 0 := fun i => by rw [eN1]; exact if_pos rfl
    have hqw : q ≠ qw := fun e => e3 (e ▸ lq)
    have iq2 : ∀ i, mI N2 i q = 0 := fun i => by rw [eN2]; exact (if_neg hqw).trans (iq i)
    have jq2 : ∀ i, mJ N2 i q = 0 := fun i => by rw [eN2]; exact (if_neg hqw).trans (jq i)
    have npq : pa ≠ q := fun e => e2 (e ▸ (x1 pa lpa).1)
    have lpa1 : pa ∈ mL N1 := by rw [eN1]; exact nw_L (S := M1) (q := q) (k := 3) (n := 0) (x1 pa lpa).1
    have npw : pa ≠ qw := fun e => e3 (e ▸ lpa1)
    have paN : maR N2 pa = maR M1 pa := by
      rw [eN2]
      refine (va_up_ne _ _ npw).trans ?_
      rw [eN1]
      exact va_up_ne _ _ npq
    obtain ⟨p1, p2, p3, p4, p5⟩ := hp
    have m1 : mR M2 1 q = some qw := by rw [e4]; exact mR_s (S := N2)
    obtain rfl : w = qw := Option.some.inj (p2.symm.trans m1)
    have m2 : mI M2 2 q = 0 := by
      rw [e4]
      exact (mI_k (S := uR N2 1 q (some w)) (k := 0) (a := q) (i := 2) (b := q) (v := on) (by decide)).trans (iq2 2)
    have hz : z = 0 := (nI_eq (by omega) (by omega)).mp (p4.symm.trans (m2.trans nI_0.symm))
    subst hz
    have notS : ∀ y, y ∈ mL S → y ≠ q ∧ y ≠ w := fun y hy => ⟨fun e => e2 (e ▸ (x1 y hy).1), fun e => e3 (e ▸ (by rw [eN1]; exact nw_L (S := M1) (q := q) (k := 3) (n := 0) (x1 y hy).1))⟩
    refine ⟨⟨p1, p2, p3, p4, ?_, ?_⟩, ?_, fun u hu => ?_, fun i hi => absurd hi (Nat.not_lt_zero _), fun j hj e => absurd e (hno j hj), Nat.zero_le _, fun e => (notS ca h1.2.2.1.1).2 e.symm, fun u hu hut e => ⟨fun e9 => (notS _ (inS u hu e).1).1 e9.symm, fun e9 => (notS _ (inS u hu e).2).2 e9.symm⟩⟩
    · rw [e4]; exact mI_s (S := uR N2 1 q (some w))
    · rw [e4, hz0]; exact jq2 3
    · rw [e4]; exact maR_s
    · rw [e4]
      refine (maR_a (S := uI (uR N2 1 q (some w)) 0 q on) (k := pa) (a := t) (i := pa) (b := u) (v := some q) hu).trans ?_
      show maR N2 pa u = _
      rw [paN, pa1]
end S11
