/-! ===== the relation, carried over changes ===== -/
/-- the consumers' and the pools' part -/
def RSc (S : Mem) (P : MS) (ca pa : Nat) (A1 hd bb pt pw sz : Nat → Nat) (wi : Nat → Nat → Nat) : Prop :=
  (∀ j, j < nC P → RC S (A1 j) (hd j) (poZ (zP P j) pt) P j (zp P j) (zh P j) (zp P j) ∧ RH S (hd j) (bb j) P j) ∧ RD P A1 hd bb ∧
  (∀ t, t < 2 → ((∀ j, j < nC P → zP P j ≠ t + 1) ∧ maR S pa t = none) ∨ RLp S P pa A1 pt pw sz wi t) ∧ RA S ca pa pt pw
theorem RC_PP {S : Mem} {a h j pq hq w : Nat} {po : Option Nat} {P T : MS} (e10 : qI T 10 j = qI P 10 j) (e11 : qI T 11 j = qI P 11 j) (e14 : qI T 14 j = qI P 14 j) (e15 : qI T 15 j = qI P 15 j) (e16 : qI T 16 j = qI P 16 j) (e17 : qI T 17 j = qI P 17 j) (e18 : qI T 18 j = qI P 18 j) (e19 : qI T 19 j = qI P 19 j) (c : RC S a h po P j pq hq w) : RC S a h po T j pq hq w := by
  unfold RC RT
  rw [e10, e11, e14, e15, e16, e17, e18, e19]
  exact c
theorem RW_ag {X : Nat → Prop} {S T : Mem} {pt pw sz : Nat} {ca q : Nat → Nat} (hx : ag X S T) (hn : ¬ X pt) (hc : ∀ i, i < sz → ¬ X (ca i)) (h : RW S pt pw sz ca q) : RW T pt pw sz ca q := by
  obtain ⟨h1, h2, h3⟩ := h
  refine ⟨((hx.2.2.2.2.2 pt hn).1 2).trans h1, h2, fun i hi => ?_⟩
  obtain ⟨a1, ⟨a2, a3⟩, a4, a5⟩ := h3 i hi
  exact ⟨by rw [hx.2.2.2.2.1]; exact a1, ⟨by rw [hx.1]; exact a2, by rw [hx.2.1]; exact a3⟩, ((hx.2.2.2.2.2 _ (hc i hi)).2.1 5).trans a4, a5⟩
section S3
variable {S T : Mem} {P Q : MS} {x r ca pa v g u : Nat} {A1 hd bb pt pw sz : Nat → Nat} {wi : Nat → Nat → Nat} {X : Nat → Prop}
theorem RLp_ag {t : Nat} (hx : ag X S T) (hn : ¬ X (pt t)) (hA : ∀ j, j < nC P → ¬ X (A1 j)) (h : RLp S P pa A1 pt pw sz wi t) : RLp T P pa A1 pt pw sz wi t := by
  obtain ⟨h1, h2, h3, h4, h5, h6⟩ := h
  have hI := (hx.2.2.2.2.2 _ hn).1
  refine ⟨by rw [hx.2.2.2.2.1]; exact h1, ?_, RW_ag hx hn (fun i hi => hA _ (h5 i hi).1) h3, h4, h5, fun j hj e => ⟨(h6 j hj e).1, (hI 0).trans (h6 j hj e).2⟩⟩
  obtain ⟨a1, a2, a3, a4, a5, -⟩ := RP_ag (P' := P) hx hn rfl h2
  exact ⟨a1, a2, a3, a4, a5, fun _ => rfl⟩
theorem RH_kind {h b j : Nat} (r : RH S h b P j) : (mK S h = 6 ∨ mK S h = 5 ∨ mK S h = 2 ∨ mK S h = 1) ∧ (qI P 9 j = 3 → mK S b = 9) := by
  rcases r with ⟨k, m, -⟩ | ⟨k, m, -⟩ | ⟨k, m, -⟩ | ⟨k, z, -, hJ, -⟩
  · exact ⟨Or.inl m.2, fun q => by rw [k] at q; exact absurd q (by decide)⟩
  · exact ⟨Or.inr (Or.inl m.2), fun q => by rw [k] at q; exact absurd q (by decide)⟩
  · exact ⟨Or.inr (Or.inr (Or.inl m.2)), fun q => by rw [k] at q; exact absurd q (by decide)⟩
  · exact ⟨Or.inr (Or.inr (Or.inr hJ.1.2)), fun _ => hJ.2.2.1.2.1⟩
theorem RSc_ag (hx : ag X S T) (hk : ∀ q, X q → mK S q = 4 ∨ mK S q = 7 ∨ mK S q = 12 ∨ mK S q = 13) (h : RSc S P ca pa A1 hd bb pt pw sz wi) : RSc T P ca pa A1 hd bb pt pw sz wi := by
  obtain ⟨h1, h2, h3, h4⟩ := h
  have nA : ∀ j, j < nC P → ¬ X (A1 j) := fun j hj q => by
    have := (h1 j hj).1.1.2
    have := hk _ q
    omega
  refine ⟨fun j hj => ⟨RC_ag hx (nA j hj) (h1 j hj).1, RH_ag hx (fun q => ?_) (fun e q => ?_) (h1 j hj).2⟩, h2, fun t ht => ?_, ?_⟩
  · have := (RH_kind (h1 j hj).2).1
    have := hk _ q
    omega
  · have := (RH_kind (h1 j hj).2).2 e
    have := hk _ q
    omega
  · rcases h3 t ht with ⟨a, b⟩ | q
    · exact Or.inl ⟨a, by rw [hx.2.2.2.2.1]; exact b⟩
    · refine Or.inr (RLp_ag hx (fun e => ?_) nA q)
      have := q.2.1.1.2
      have := hk _ e
      omega
  · unfold RA
    rw [hx.2.2.2.2.1]
    exact h4
theorem RSc_PP (e : ∀ k, 8 ≤ k → qI Q k = qI P k) (e22 : qJ Q 22 = qJ P 22) (eF : qF Q = qF P) (eD : qD Q = qD P) (e8 : qS Q 8 = qS P 8) (h : RSc S P ca pa A1 hd bb pt pw sz wi) : RSc S Q ca pa A1 hd bb pt pw sz wi := by
  have en : nC Q = nC P := by unfold nC; rw [e8]
  have eP : zP Q = zP P := funext fun i => by unfold zP; rw [e 12 (by decide)]
  have ep : zp Q = zp P := funext fun i => by unfold zp; rw [e 13 (by decide)]
  have eh : zh Q = zh P := funext fun i => by unfold zh; rw [e 20 (by decide)]
  have et : zt Q = zt P := funext fun i => by unfold zt; rw [e 21 (by decide)]
  obtain ⟨h1, h2, h3, h4⟩ := h
  unfold RSc RD RLp RP
  rw [en, eP, ep, eh, et, e 9 (by decide), e 10 (by decide), e 21 (by decide)]
  refine ⟨fun j hj => ⟨?_, ?_⟩, h2, h3, h4⟩
  · exact RC_PP (by rw [e 10 (by decide)]) (by rw [e 11 (by decide)]) (by rw [e 14 (by decide)]) (by rw [e 15 (by decide)]) (by rw [e 16 (by decide)]) (by rw [e 17 (by decide)]) (by rw [e 18 (by decide)]) (by rw [e 19 (by decide)]) (h1 j hj).1
  · exact RH_P (by rw [e 9 (by decide)]) (by rw [e22]) (by rw [eF]) (by rw [eD]) (by rw [e 15 (by decide)]) (by rw [e 25 (by decide)]) (e 26 (by decide)) (h1 j hj).2
end S3
