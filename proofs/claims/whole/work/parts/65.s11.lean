/-! ===== the pools with a consumer more ===== -/
theorem csT {P : MS} {o w : Nat} {k how : Int32} (hn : nC P < 8) (ho : o < 256) (hw : w ≤ 2) : nC (csS P (nC P) k (nI o) how (nI w - 1)) = nC P + 1 ∧ (∀ i, i ≠ nC P → zP (csS P (nC P) k (nI o) how (nI w - 1)) i = zP P i ∧ zh (csS P (nC P) k (nI o) how (nI w - 1)) i = zh P i ∧ qI (csS P (nC P) k (nI o) how (nI w - 1)) 10 i = qI P 10 i) ∧ qI (csS P (nC P) k (nI o) how (nI w - 1)) 21 = qI P 21 ∧ zP (csS P (nC P) k (nI o) how (nI w - 1)) (nC P) = w ∧ zh (csS P (nC P) k (nI o) how (nI w - 1)) (nC P) = 0 ∧ qI (csS P (nC P) k (nI o) how (nI w - 1)) 10 (nC P) = nI o := by
  have J := csS_I (P := P) (n := nC P) (k := k) (on := nI o) (how := how) (q := nI w - 1)
  have S8 : qS (csS P (nC P) k (nI o) how (nI w - 1)) 8 = nI (nC P + 1) := rfl
  generalize csS P (nC P) k (nI o) how (nI w - 1) = T at J S8 ⊢
  have hn1 : ∀ a i, i ≠ nC P → qI T a i = qI P a i := fun a i hi => by rw [J, if_neg hi]
  have t20 : qI T 20 (nC P) = nI 0 - 1 := by rw [J, if_pos rfl, if_pos rfl]; decide
  have t12 : qI T 12 (nC P) = nI w - 1 := by rw [J, if_pos rfl]; rfl
  have t10 : qI T 10 (nC P) = nI o := by rw [J, if_pos rfl]; rfl
  refine ⟨cl0 S8 (by omega), fun i hi => ⟨by unfold zP; rw [hn1 12 i hi], by unfold zh; rw [hn1 20 i hi], hn1 10 i hi⟩, funext fun i => ?_, cl1 t12 (by omega), cl1 t20 (by omega), t10⟩
  rw [J]
  by_cases c : i = nC P
  · rw [if_pos c]; rfl
  · rw [if_neg c]
def cw2 (wi : Nat → Nat → Nat) (t z n : Nat) : Nat → Nat → Nat := fun u => if u = t then (fun i => if i = z then n else wi t i) else wi u
theorem cw2_z {wi : Nat → Nat → Nat} {t z n : Nat} : cw2 wi t z n t z = n := by unfold cw2; rw [if_pos rfl]; exact if_pos rfl
theorem cw2_o {wi : Nat → Nat → Nat} {t z n i : Nat} (h : i ≠ z) : cw2 wi t z n t i = wi t i := by unfold cw2; rw [if_pos rfl]; exact if_neg h
theorem cw2_u {wi : Nat → Nat → Nat} {t z n u : Nat} (h : u ≠ t) : cw2 wi t z n u = wi u := if_neg h
section S12
variable {K : Nat} {S U M2 M3 : Mem} {P T : MS} {x r ca pa v g u : Nat} {A1 hd bb pt pw sz pt2 pw2 sz2 : Nat → Nat} {wi wi2 : Nat → Nat → Nat} {t a h : Nat} {X : Nat → Prop}
theorem RLp_cons (hx : ex X S U) (np : ¬ X (pt t)) (nw : ¬ X (pw t)) (nA : ∀ j, j < nC P → ¬ X (A1 j)) (hpa : maR U pa t = maR S pa t) (en : nC T = nC P + 1) (eT : ∀ i, i ≠ nC P → zP T i = zP P i ∧ zh T i = zh P i ∧ qI T 10 i = qI P 10 i) (e21 : qI T 21 = qI P 21) (nP : zP T (nC P) ≠ t + 1) (a1 : pt2 t = pt t) (a2 : pw2 t = pw t) (a3 : sz2 t = sz t) (a4 : wi2 t = wi t) (hl : RLp S P pa A1 pt pw sz wi t) : RLp U T pa (cu1 A1 (nC P) a) pt2 pw2 sz2 wi2 t := by
  obtain ⟨h1, ⟨⟨l2, l3⟩, l4, ⟨l5, l6, l7⟩, l8, l9, -⟩, ⟨w1, w2, w3⟩, ⟨z1, z2⟩, h5, h6⟩ := hl
  obtain ⟨b1, b2, b3, b4⟩ := hx (pt t) l2
  obtain ⟨bi, bj, br, -⟩ := b4 np
  obtain ⟨c1, c2, c3, c4⟩ := hx (pw t) l5
  obtain ⟨-, -, -, -, -, -, -, cm⟩ := c4 nw
  have et : zt T t = zt P t := by unfold zt; rw [e21]
  unfold RLp
  rw [a1, a2, a3, a4, et, en]
  refine ⟨by rw [hpa]; exact h1, ⟨⟨b1, b2.trans l3⟩, (br 1).trans l4, ⟨c1, c2.trans l6, c3.trans l7⟩, (bj 3).trans l8, by rw [e21]; exact l9, fun _ => rfl⟩, ⟨(bi 2).trans w1, w2, fun i hi => ?_⟩, ⟨z1, by omega⟩, fun i hi => ?_, fun j hj e => ?_⟩
  · obtain ⟨d1, ⟨d2, d3⟩, d4, d5⟩ := w3 i hi
    have hi2 := (h5 i hi).1
    have hne : wi t i ≠ nC P := by omega
    obtain ⟨f1, f2, -, f4⟩ := hx (A1 (wi t i)) d2
    show maR U (pw t) i = some (cu1 A1 (nC P) a (wi t i)) ∧ (cu1 A1 (nC P) a (wi t i) ∈ mL U ∧ mK U (cu1 A1 (nC P) a (wi t i)) = 0) ∧ mJ U 5 (cu1 A1 (nC P) a (wi t i)) = eL (zh T (wi t i)) ∧ zh T (wi t i) ≤ 9000
    rw [cu1_o hne, (eT _ hne).2.1, cm]
    exact ⟨d1, ⟨f1, f2.trans d3⟩, ((f4 (nA _ hi2)).2.1 5).trans d4, d5⟩
  · obtain ⟨g1, g2⟩ := h5 i hi
    exact ⟨by omega, by rw [(eT _ (by omega)).1]; exact g2⟩
  · by_cases c : j = nC P
    · rw [c] at e; exact absurd e nP
    · rw [(eT j c).1] at e
      obtain ⟨g1, g2⟩ := h6 j (by omega) e
      exact ⟨g1, (bi 0).trans (g2.trans (eT j c).2.2.symm)⟩
theorem Rep_cons_n {o : Nat} {k how : Int32} {M0 M1 : Mem} (hw : WF K P) (hs : RS S P x r ca pa v g u A1 hd bb pt pw sz wi) (hn : nC P < 8) (hc : zc P = 0) (hk : k = 0 ∨ k = 1 ∨ k = 2 ∨ k = 3) (ho : o < 2 ^ nC P) (hh : how = 0 ∨ how = 1 ∨ how = 2)
    (hq0 : a ∉ mL S) (e0 : M0 = nw S a 0 0) (hN : NHp k M0 h M1) (e3 : M3 = ciS M1 a h (nI o) how none) (eU : U = uI (uI (uaR M3 ca (nC P) (some a)) 4 x (nI (hgN (zo P) (nC P)) ||| nI o)) 3 x (nI (nC P + 1))) : Rep (K + 1) U (csS P (nC P) k (nI o) how (-1)) x := by
  have h256 : (2 : Nat) ^ nC P ≤ 2 ^ 8 := Nat.pow_le_pow_right (by decide) (by omega)
  have e1 : (-1 : Int32) = nI 0 - 1 := by decide
  rw [e1]
  have hs0 := hs
  obtain ⟨h1, h2, -, -, h5, -, h7, h8⟩ := hs0
  have hxc : x ≠ ca := fun e => by have := h1.1.2; rw [e, h1.2.2.1.2.1] at this; exact absurd this (by decide)
  obtain ⟨b, hck⟩ := CK_of (Y := fun _ => False) (Z := fun _ => False) hq0 e0 hN ex_rf e3 ex_rf eU h1.1.1 h1.2.2.1.1 hxc ⟨id, id⟩ ⟨id, id⟩ ⟨id, id⟩ ⟨id, id⟩ (fun _ _ _ _ => ⟨id, id⟩)
  obtain ⟨c1, c2, c3, c4, c5, c6⟩ := csT (k := k) (how := how) hn (show o < 256 by omega) (show 0 ≤ 2 by decide)
  have hx := hck.2.2.2.2.2
  have lpa := h1.2.2.2.1.1
  have npa : ¬ (pa = x ∨ pa = ca ∨ (False ∨ False)) := fun e => by
    have k1 := h1.2.2.2.1.2.1
    rcases e with e | e | e
    · rw [e, h1.1.2] at k1; exact absurd k1 (by decide)
    · rw [e, h1.2.2.1.2.1] at k1; exact absurd k1 (by decide)
    · exact e.elim id id
  have hpa : maR U pa = maR S pa := ((hx pa lpa).2.2.2 npa).2.2.2.2.2.2.2
  refine ⟨WF_mo (WF_cons (w := 0) hw hn hc hk ho hh (by decide) (fun _ => rfl) (fun _ _ _ q => absurd rfl q)) (by omega), r, ca, pa, v, g, u, _, _, _, pt, pw, sz, wi, RS_cons (pt2 := pt) (pw2 := pw) (sz2 := sz) (wi2 := wi) hw hs hn (by omega) (by decide) (fun z _ e => (e.elim id id).elim) hck rfl (fun _ _ => rfl) (fun t ht => ?_) ?_⟩
  · rcases h7 t ht with ⟨a1, a2⟩ | q
    · refine Or.inl ⟨fun j hj => ?_, by rw [hpa]; exact a2⟩
      by_cases c : j = nC P
      · rw [c, c4]; omega
      · rw [(c2 j c).1]; exact a1 j (by omega)
    · refine Or.inr (RLp_cons hx (fun e => ?_) (fun e => ?_) (fun j hj e => ?_) (by rw [hpa]) c1 c2 c3 (by rw [c4]; omega) rfl rfl rfl rfl q)
      · have k1 := q.2.1.1.2
        rcases e with e | e | e
        · rw [e, h1.1.2] at k1; exact absurd k1 (by decide)
        · rw [e, h1.2.2.1.2.1] at k1; exact absurd k1 (by decide)
        · exact e.elim id id
      · rcases e with e | e | e
        · have k1 := q.2.1.2.2.1.2.1
          rw [e, h1.1.2] at k1; exact absurd k1 (by decide)
        · exact h8.1 t ht q.1 e
        · exact e.elim id id
      · have k1 := (h5 j hj).1.1.2
        rcases e with e | e | e
        · rw [e, h1.1.2] at k1; exact absurd k1 (by decide)
        · rw [e, h1.2.2.1.2.1] at k1; exact absurd k1 (by decide)
        · exact e.elim id id
  · unfold RA; rw [hpa]; exact h8
theorem Rep_cons_p {o t q w z : Nat} {k how : Int32} {M0 M1 : Mem} (hw : WF K P) (hs : RS S P x r ca pa v g u A1 hd bb pt pw sz wi) (hn : nC P < 8) (hc : zc P = 0) (hk : k = 0 ∨ k = 1 ∨ k = 2 ∨ k = 3) (ho : o < 2 ^ nC P) (hh : how = 0 ∨ how = 1 ∨ how = 2) (h2' : ¬ how = 2) (ht : t < 2)
    (hq0 : a ∉ mL S) (e0 : M0 = nw S a 0 0) (hN : NHp k M0 h M1) (hPJ : PJp pa t (nI o) M1 q M2) (hp : poA M2 q w z) (e3 : M3 = ciS M2 a h (nI o) how (some q)) (hon : maR S pa t = some q → mI S 0 q = nI o)
    (hp0 : ∀ y, maR S pa t = some y → ∃ w z, poA S y w z)
    (eU : U = uI (uI (uaR (uI (uaR M3 w z (some a)) 2 q (nI (z + 1))) ca (nC P) (some a)) 4 x (nI (hgN (zo P) (nC P)) ||| nI o)) 3 x (nI (nC P + 1))) : Rep (K + 1) U (csS P (nC P) k (nI o) how (nI t)) x := by
  have h256 : (2 : Nat) ^ nC P ≤ 2 ^ 8 := Nat.pow_le_pow_right (by decide) (by omega)
  rw [← nI_pred t]
  have hs0 := hs
  obtain ⟨h1, h2, -, -, h5, -, h7, h8⟩ := hs0
  have lx := h1.1.1
  have kx := h1.1.2
  have lca := h1.2.2.1.1
  have kca := h1.2.2.1.2.1
  have lpa := h1.2.2.2.1.1
  have kpa := h1.2.2.2.1.2.1
  have hxc : x ≠ ca := fun e => by rw [e, kca] at kx; exact absurd kx (by decide)
  have x0 : ex (fun _ => False) S M0 := by rw [e0]; exact ex_nw hq0
  have x01 : ex (fun _ => False) S M1 := ex_tr x0 hN.2.1
  have PO := POk_of hw hs ht x01 hPJ hp hon
  obtain ⟨⟨⟨o1, o2⟩, o3, ⟨o4, o5, o6⟩, o7, o8, o9⟩, s1, s2, s3, s4, s5, s6, s7⟩ := PO
  have hp1 : ∀ y, maR M1 pa t = some y → ∃ w z, poA M1 y w z := fun y e => by
    rw [((x01 pa lpa).2.2.2 id).2.2.2.2.2.2.2] at e
    obtain ⟨w, z, q⟩ := hp0 y e
    exact ⟨w, z, poA_ex x01 id q⟩
  obtain ⟨x12, -⟩ := PJ_ok hPJ (x01 pa lpa).1 hp1
  have la0 : a ∈ mL M0 := by rw [e0]; exact nw_q
  have ka0 : mK M0 a = 0 := by rw [e0]; exact nw_Kq
  have la1 := (hN.2.1 a la0).1
  have ka1 := (hN.2.1 a la0).2.1.trans ka0
  have npa : a ≠ pa := fun e => hq0 (e ▸ lpa)
  have la2 := (x12 a la1).1
  have ka2 := (x12 a la1).2.1.trans ka1
  have kh1 : mK M1 h = 6 ∨ mK M1 h = 5 ∨ mK M1 h = 2 ∨ mK M1 h = 1 := by
    rcases hN.2.2.2 with ⟨-, m, -⟩ | ⟨-, m, -⟩ | ⟨-, m, -⟩ | ⟨-, b, -, -, hJ⟩
    · exact Or.inl m
    · exact Or.inr (Or.inl m)
    · exact Or.inr (Or.inr (Or.inl m))
    · exact Or.inr (Or.inr (Or.inr hJ.1.2))
  have nhp : h ≠ pa := fun e => hN.1 (e ▸ (x0 pa lpa).1)
  have kh2 := (x12 h hN.2.2.1).2.1
  have nqa : q ≠ a := fun e => by rw [e, ka2] at o2; exact absurd o2 (by decide)
  have nwa : w ≠ a := fun e => by rw [e, ka2] at o5; exact absurd o5 (by decide)
  have nqw : q ≠ w := fun e => by rw [e, o5] at o2; exact absurd o2 (by decide)
  have kS2 : ∀ y, y ∈ mL S → mK M2 y = mK S y := fun y hy => (x12 y (x01 y hy).1).2.1.trans (x01 y hy).2.1
  have nqx : q ≠ x := fun e => by rw [e, kS2 x lx, kx] at o2; exact absurd o2 (by decide)
  have nqc : q ≠ ca := fun e => by rw [e, kS2 ca lca, kca] at o2; exact absurd o2 (by decide)
  have nqp : q ≠ pa := fun e => by rw [e, kS2 pa lpa, kpa] at o2; exact absurd o2 (by decide)
  have nwx : w ≠ x := fun e => by rw [e, kS2 x lx, kx] at o5; exact absurd o5 (by decide)
  have nwp : w ≠ pa := fun e => by rw [e, kS2 pa lpa, kpa] at o5; exact absurd o5 (by decide)
  have nxp : x ≠ pa := fun e => by rw [e, kpa] at kx; exact absurd kx (by decide)
  have ncp : ca ≠ pa := fun e => by rw [e, kpa] at kca; exact absurd kca (by decide)
  have x3 : ex (fun z => z = a) M2 M3 := by rw [e3]; exact ciS_ex
  obtain ⟨M4, e4⟩ : ∃ M4, M4 = uI (uaR M3 w z (some a)) 2 q (nI (z + 1)) := ⟨_, rfl⟩
  rw [← e4] at eU
  have x4 : ex (fun y => y = w ∨ y = q) M3 M4 := by rw [e4]; exact ex_tr (ex_uaR (Or.inl rfl)) (ex_ag (ag_uI (Or.inr rfl)))
  have x5 : ex (fun y => y = ca ∨ y = x) M4 U := by rw [eU]; exact ex_tr (ex_uaR (Or.inl rfl)) (ex_ag (ag_tr (ag_uI (Or.inr rfl)) (ag_uI (Or.inr rfl))))
  obtain ⟨b, hck⟩ := CK_of (Y := fun y => y = pa) (Z := fun y => y = w ∨ y = q) hq0 e0 hN x12 e3 x4 eU lx lca hxc ⟨npa, fun e => e.elim (fun e => nwa e.symm) (fun e => nqa e.symm)⟩ ⟨nhp, fun e => by
    rcases e with e | e
    · rw [← e] at o5; omega
    · rw [← e] at o2; omega⟩ ⟨nxp, fun e => e.elim (fun e => nwx e.symm) (fun e => nqx e.symm)⟩ ⟨ncp, fun e => e.elim (fun e => s6 e.symm) (fun e => nqc e.symm)⟩ (fun b b1 b2 b3 => ⟨fun e => b1 (e ▸ (x0 pa lpa).1), fun e => by
    have k2 := (x12 b b3).2.1
    rcases e with e | e
    · rw [← e] at o5; omega
    · rw [← e] at o2; omega⟩)
  obtain ⟨c1, c2, c3, c4, c5, c6⟩ := csT (k := k) (how := how) hn (show o < 256 by omega) (show t + 1 ≤ 2 by omega)
  have hxU := hck.2.2.2.2.2
  -- what M2 says of pa, q and w, carried to U
  have lq3 := (x3 q o1).1
  have lq4 := (x4 q lq3).1
  have lw3 := (x3 w o4).1
  have lw4 := (x4 w lw3).1
  have lp2 := (x12 pa (x01 pa lpa).1).1
  have lp3 := (x3 pa lp2).1
  have lp4 := (x4 pa lp3).1
  have paU : maR U pa = maR M2 pa := ((x5 pa lp4).2.2.2 (fun e => e.elim (fun e => ncp e.symm) (fun e => nxp e.symm))).2.2.2.2.2.2.2.trans (((x4 pa lp3).2.2.2 (fun e => e.elim (fun e => nwp e.symm) (fun e => nqp e.symm))).2.2.2.2.2.2.2.trans ((x3 pa lp2).2.2.2 (fun e => npa e.symm)).2.2.2.2.2.2.2)
  obtain ⟨q3i, q3j, q3r, -⟩ := (x3 q o1).2.2.2 nqa
  obtain ⟨q5i, q5j, q5r, -⟩ := (x5 q lq4).2.2.2 (fun e => e.elim nqc nqx)
  have w5 : maR U w = maR M4 w := ((x5 w lw4).2.2.2 (fun e => e.elim s6 nwx)).2.2.2.2.2.2.2
  have w3m : maR M3 w = maR M2 w := ((x3 w o4).2.2.2 nwa).2.2.2.2.2.2.2
  have q4R : ∀ i, mR M4 i q = mR M3 i q := fun i => by rw [e4]; rfl
  have q4J : ∀ i, mJ M4 i q = mJ M3 i q := fun i => by rw [e4]; rfl
  have q4I : ∀ i, i ≠ 2 → mI M4 i q = mI M3 i q := fun i hi => by rw [e4]; exact mI_k (S := uaR M3 w z (some a)) (k := 2) (a := q) (i := i) (b := q) (v := nI (z + 1)) hi
  have q42 : mI M4 2 q = nI (z + 1) := by rw [e4]; exact mI_s
  have w4s : maR M4 w z = some a := by rw [e4]; exact maR_s (S := M3)
  have w4o : ∀ i, i ≠ z → maR M4 w i = maR M3 w i := fun i hi => by rw [e4]; exact maR_a (S := M3) (k := w) (a := z) (i := w) (b := i) (v := some a) hi
  have nYZ : ∀ y, y ∈ mL S → ((y = pa) ∨ (y = w ∨ y = q)) → mK S y = 16 ∨ mK S y = 3 ∨ mK S y = 15 := fun y hy e => by
    have k2 := kS2 y hy
    rcases e with e | e | e
    · rw [e]; exact Or.inl kpa
    · rw [e] at k2 ⊢; rw [← k2, o5]; exact Or.inr (Or.inr rfl)
    · rw [e] at k2 ⊢; rw [← k2, o2]; exact Or.inr (Or.inl rfl)
  have old : ∀ j, j < nC P → zP P j = t + 1 → pt t = q := fun j hj e => by
    have hl := (h7 t ht).resolve_left (fun b => b.1 j hj e)
    rcases hPJ with ⟨f1, -⟩ | ⟨f1, -⟩
    · rw [((x01 pa lpa).2.2.2 id).2.2.2.2.2.2.2] at f1
      exact Option.some.inj (hl.1.symm.trans f1)
    · rw [((x01 pa lpa).2.2.2 id).2.2.2.2.2.2.2, hl.1] at f1; cases f1
  have nA : ∀ j, j < nC P → ¬ (A1 j = x ∨ A1 j = ca ∨ (A1 j = pa ∨ (A1 j = w ∨ A1 j = q))) := fun j hj e => by
    have k1 := (h5 j hj).1.1.2
    have l1 := (h5 j hj).1.1.1
    rcases e with e | e | e
    · rw [e, kx] at k1; exact absurd k1 (by decide)
    · rw [e, kca] at k1; exact absurd k1 (by decide)
    · have := nYZ _ l1 e; omega
  refine ⟨WF_mo (WF_cons (w := t + 1) hw hn hc hk ho hh (by omega) (fun e => absurd e h2') (fun i hi e _ => cl0 (s4 i hi e).2 (by omega))) (by omega), r, ca, pa, v, g, u, _, _, _, cu1 pt t q, cu1 pw t w, cu1 sz t (z + 1), cw2 wi t z (nC P), RS_cons (pt2 := cu1 pt t q) (pw2 := cu1 pw t w) (sz2 := cu1 sz t (z + 1)) (wi2 := cw2 wi t z (nC P)) hw hs hn (by omega) (by omega) nYZ hck ?_ (fun j hj => ?_) (fun y hy => ?_) ⟨fun y hy e => ?_, fun e1 e2 => ?_⟩⟩
  · show some q = some (cu1 pt t q t)
    rw [cu1_n]
  · by_cases c : zP P j = 0
    · rw [c]; rfl
    · obtain ⟨y, hy⟩ : ∃ y, zP P j = y + 1 := ⟨zP P j - 1, by omega⟩
      rw [hy]
      show some (cu1 pt t q y) = some (pt y)
      by_cases cy : y = t
      · rw [cy] at hy ⊢; rw [cu1_n, old j hj hy]
      · rw [cu1_o cy]
  · by_cases cy : y = t
    · subst cy
      right
      have et : zt (csS P (nC P) k (nI o) how (nI (y + 1) - 1)) y = zt P y := by unfold zt; rw [c3]
      unfold RLp
      rw [cu1_n, cu1_n, cu1_n, et, c1]
      refine ⟨by rw [paU]; exact s1, ⟨⟨(x5 q lq4).1, (x5 q lq4).2.1.trans ((x4 q lq3).2.1.trans ((x3 q o1).2.1.trans o2))⟩, (q5r 1).trans ((q4R 1).trans ((q3r 1).trans o3)), ⟨(x5 w lw4).1, (x5 w lw4).2.1.trans ((x4 w lw3).2.1.trans ((x3 w o4).2.1.trans o5)), (x5 w lw4).2.2.1.trans ((x4 w lw3).2.2.1.trans ((x3 w o4).2.2.1.trans o6))⟩, (q5j 3).trans ((q4J 3).trans ((q3j 3).trans o9)), by rw [c3]; exact (hw.2.2.1 y hy).1.1, fun _ => rfl⟩, ⟨(q5i 2).trans q42, by omega, fun i hi => ?_⟩, ⟨by omega, by omega⟩, fun i hi => ?_, fun j hj e => ?_⟩
      · show maR U w i = some (cu1 A1 (nC P) a (cw2 wi y z (nC P) y i)) ∧ (cu1 A1 (nC P) a (cw2 wi y z (nC P) y i) ∈ mL U ∧ mK U (cu1 A1 (nC P) a (cw2 wi y z (nC P) y i)) = 0) ∧ mJ U 5 (cu1 A1 (nC P) a (cw2 wi y z (nC P) y i)) = eL (zh (csS P (nC P) k (nI o) how (nI (y + 1) - 1)) (cw2 wi y z (nC P) y i)) ∧ zh (csS P (nC P) k (nI o) how (nI (y + 1) - 1)) (cw2 wi y z (nC P) y i) ≤ 9000
        by_cases ci : i = z
        · rw [ci, cw2_z, cu1_n, c5, w5]
          exact ⟨w4s, hck.2.1.1, hck.2.1.2.2.2.2.2.2.1.trans eL_0.symm, by decide⟩
        · obtain ⟨d1, d2, d3⟩ := s3 i (by omega)
          rw [cw2_o ci, cu1_o (show wi y i ≠ nC P by omega), (c2 _ (show wi y i ≠ nC P by omega)).2.1, w5, w4o i ci, w3m]
          have l1 := (h5 _ d2).1.1
          obtain ⟨f1, f2, -, f4⟩ := hxU (A1 (wi y i)) l1.1
          exact ⟨d1, ⟨f1, f2.trans l1.2⟩, ((f4 (nA _ d2)).2.1 5).trans (h5 _ d2).1.2.2.2.2.2.2.1, (hw.2.1 _ d2).2.2.2.1.2.1⟩
      · by_cases ci : i = z
        · rw [ci, cw2_z]; exact ⟨by omega, c4⟩
        · obtain ⟨d1, d2, d3⟩ := s3 i (by omega)
          rw [cw2_o ci]
          exact ⟨by omega, by rw [(c2 _ (show wi y i ≠ nC P by omega)).1]; exact d3⟩
      · have on : mI U 0 q = nI o := (q5i 0).trans ((q4I 0 (by decide)).trans ((q3i 0).trans o8))
        by_cases cj : j = nC P
        · rw [cj]
          exact ⟨⟨z, by omega, cw2_z⟩, on.trans c6.symm⟩
        · rw [(c2 j cj).1] at e
          obtain ⟨⟨i, hi, ei⟩, eo⟩ := s4 j (by omega) e
          exact ⟨⟨i, by omega, by rw [cw2_o (by omega)]; exact ei⟩, on.trans (eo.symm.trans (c2 j cj).2.2.symm)⟩
    · have hpaU : maR U pa y = maR S pa y := by rw [paU]; exact s2 y cy
      rcases h7 y hy with ⟨a1, a2⟩ | ql
      · refine Or.inl ⟨fun j hj => ?_, by rw [hpaU]; exact a2⟩
        by_cases c : j = nC P
        · rw [c, c4]; omega
        · rw [(c2 j c).1]; exact a1 j (by omega)
      · have s7' := s7 y hy cy ql.1
        refine Or.inr (RLp_cons hxU (fun e => ?_) (fun e => ?_) nA hpaU c1 c2 c3 (by rw [c4]; omega) (cu1_o cy) (cu1_o cy) (cu1_o cy) (cw2_u cy) ql)
        · have k1 := ql.2.1.1.2
          rcases e with e | e | e | e | e
          · rw [e, kx] at k1; exact absurd k1 (by decide)
          · rw [e, kca] at k1; exact absurd k1 (by decide)
          · rw [e, kpa] at k1; exact absurd k1 (by decide)
          · have k2 := kS2 _ ql.2.1.1.1; rw [e, o5, ← e, k1] at k2; exact absurd k2 (by decide)
          · exact s7'.1 e.symm
        · have k1 := ql.2.1.2.2.1.2.1
          rcases e with e | e | e | e | e
          · rw [e, kx] at k1; exact absurd k1 (by decide)
          · exact h8.1 y hy ql.1 e
          · rw [e, kpa] at k1; exact absurd k1 (by decide)
          · exact s7'.2 e.symm
          · have k2 := kS2 _ ql.2.1.2.2.1.1; rw [e, o2, ← e, k1] at k2; exact absurd k2 (by decide)
  · by_cases cy : y = t
    · rw [cy, cu1_n]; exact s6
    · rw [cu1_o cy] at e ⊢
      rw [paU, s2 y cy] at e
      exact h8.1 y hy e
  · rw [paU] at e1 e2
    have : t = 0 ∨ t = 1 := by omega
    rcases this with rfl | rfl
    · rw [cu1_n, cu1_n, cu1_o (by decide), cu1_o (by decide)]
      rw [cu1_o (by decide), s2 1 (by decide)] at e2
      exact s7 1 (by decide) (by decide) e2
    · rw [cu1_n, cu1_n, cu1_o (by decide), cu1_o (by decide)]
      rw [cu1_o (by decide), s2 0 (by decide)] at e1
      have := s7 0 (by decide) (by decide) e1
      exact ⟨this.1.symm, this.2.symm⟩
end S12
