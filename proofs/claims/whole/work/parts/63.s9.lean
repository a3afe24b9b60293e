/-! ===== a consumer more, side by side ===== -/
theorem RC_ex {X : Nat → Prop} {S T : Mem} {a h j pq hq w : Nat} {po : Option Nat} {P : MS} (hx : ex X S T) (hn : ¬ X a) (c : RC S a h po P j pq hq w) : RC T a h po P j pq hq w := by
  obtain ⟨⟨c1, c2⟩, c3, c4, c5, c6, c7, c8, c9, d1, d2, d3, ta, tt, e1, e2, e3, e4, e5, e6⟩ := c
  obtain ⟨x1, x2, -, x4⟩ := hx a c1
  obtain ⟨i, jj, rr, -⟩ := x4 hn
  exact ⟨⟨x1, x2.trans c2⟩, (rr 0).trans c3, (i 1).trans c4, (rr 2).trans c5, (i 3).trans c6, (jj 4).trans c7, (jj 5).trans c8, (i 6).trans c9, (i 7).trans d1, (i 8).trans d2, (i 9).trans d3, ta, tt, e1, e2, e3, e4, (jj 10).trans e5, by rw [i 11]; exact e6⟩
theorem RH_ex {X : Nat → Prop} {S T : Mem} {h b j : Nat} {P : MS} (hx : ex X S T) (hn : ¬ X h) (hb : qI P 9 j = 3 → ¬ X b) (r : RH S h b P j) : RH T h b P j := by
  rcases r with ⟨k, m, e⟩ | ⟨k, m, e⟩ | ⟨k, m, e, e2⟩ | ⟨k, z, hz, ⟨m, e1, m2, e2⟩, e3, hR⟩
  · obtain ⟨x1, x2, -, x4⟩ := hx h m.1
    obtain ⟨i, jj, -⟩ := x4 hn
    exact Or.inl ⟨k, ⟨x1, x2.trans m.2⟩, (jj 0).trans e⟩
  · obtain ⟨x1, x2, -, x4⟩ := hx h m.1
    obtain ⟨i, jj, -, ff, -⟩ := x4 hn
    exact Or.inr (Or.inl ⟨k, ⟨x1, x2.trans m.2⟩, (ff 0).trans e⟩)
  · obtain ⟨x1, x2, -, x4⟩ := hx h m.1
    obtain ⟨i, jj, -, -, ee, -⟩ := x4 hn
    exact Or.inr (Or.inr (Or.inl ⟨k, ⟨x1, x2.trans m.2⟩, (ee 0).trans e, (i 1).trans e2⟩))
  · obtain ⟨x1, x2, -, x4⟩ := hx h m.1
    obtain ⟨i, -, rr, -⟩ := x4 hn
    obtain ⟨y1, y2, y3, y4⟩ := hx b m2.1
    obtain ⟨-, -, -, -, -, aa, -⟩ := y4 (hb k)
    exact Or.inr (Or.inr (Or.inr ⟨k, z, hz, ⟨⟨x1, x2.trans m.2⟩, (rr 0).trans e1, ⟨y1, y2.trans m2.2.1, y3.trans m2.2.2⟩, (i 1).trans e2⟩, e3, fun q hq => by unfold byf; rw [aa]; exact hR q hq⟩))
/-- what a new consumer a, with handler h (its bytes b), leaves in U; Y: what else has changed -/
def CK (S U : Mem) (x ca n a h b : Nat) (k on po hu : Int32) (pp : Option Nat) (Y : Nat → Prop) : Prop :=
  (a ∉ mL S ∧ h ∉ mL S ∧ (k = 3 → b ∉ mL S)) ∧
  ((a ∈ mL U ∧ mK U a = 0) ∧ mR U 0 a = some h ∧ mI U 1 a = on ∧ mR U 2 a = pp ∧ mI U 3 a = po ∧ mJ U 4 a = -1 ∧ mJ U 5 a = -1 ∧ mJ U 10 a = -1 ∧ mI U 6 a = 0 ∧ mI U 7 a = 0 ∧ mI U 8 a = 0 ∧ mI U 9 a = 0 ∧ mI U 11 a = 0) ∧
  (h ∈ mL U ∧ ((k = 0 ∧ mK U h = 6 ∧ mJ U 0 h = 0) ∨ (k = 1 ∧ mK U h = 5 ∧ mF U 0 h = 0) ∨ (k = 2 ∧ mK U h = 2 ∧ mE U 0 h = 0 ∧ mI U 1 h = 0) ∨ (k = 3 ∧ jrA U h b 0))) ∧
  ((∀ i, mR U i x = mR S i x) ∧ mI U 3 x = nI (n + 1) ∧ mI U 4 x = hu ||| on ∧ mJ U 5 x = mJ S 5 x) ∧
  (maR U ca n = some a ∧ ∀ i, i ≠ n → maR U ca i = maR S ca i) ∧ ex (fun z => z = x ∨ z = ca ∨ Y z) S U
def cu1 (f : Nat → Nat) (n a : Nat) : Nat → Nat := fun i => if i = n then a else f i
theorem cu1_n {f : Nat → Nat} {n a : Nat} : cu1 f n a n = a := if_pos rfl
theorem cu1_o {f : Nat → Nat} {n a i : Nat} (h : i ≠ n) : cu1 f n a i = f i := if_neg h
theorem hgN_cons {f f2 : Nat → Nat} {n o : Nat} (h : ∀ i, i ≠ n → f2 i = f i) (h0 : f2 n = o) : hgN f2 (n + 1) = hgN f n ||| o := by
  have hh : ∀ m, m ≤ n → hgN f2 m = hgN f m := by
    intro m
    induction m with
    | zero => intro _; rfl
    | succ m ih => intro hm; rw [hgN, hgN, ih (by omega), h m (by omega)]
  rw [hgN, hh n (Nat.le_refl _), h0]
section S9
variable {K : Nat} {S U : Mem} {P : MS} {x r ca pa v g u : Nat} {A1 hd bb pt pw sz : Nat → Nat} {wi : Nat → Nat → Nat} {a h b o w : Nat} {k how : Int32} {pp : Option Nat} {Y : Nat → Prop} {pt2 pw2 sz2 : Nat → Nat} {wi2 : Nat → Nat → Nat}
/-- the whole relation, but for the pools' part -/
theorem RS_cons (hw : WF K P) (hs : RS S P x r ca pa v g u A1 hd bb pt pw sz wi) (hn : nC P < 8) (ho : o < 256) (hw2 : w ≤ 2) (hY : ∀ z, z ∈ mL S → Y z → mK S z = 16 ∨ mK S z = 3 ∨ mK S z = 15)
    (hck : CK S U x ca (nC P) a h b k (nI o) how (nI (hgN (zo P) (nC P))) pp Y) (hpp : pp = poZ w pt2) (hpt : ∀ j, j < nC P → poZ (zP P j) pt2 = poZ (zP P j) pt)
    (hL : ∀ t, t < 2 → ((∀ j, j < nC P + 1 → zP (csS P (nC P) k (nI o) how (nI w - 1)) j ≠ t + 1) ∧ maR U pa t = none) ∨ RLp U (csS P (nC P) k (nI o) how (nI w - 1)) pa (cu1 A1 (nC P) a) pt2 pw2 sz2 wi2 t) (hA : RA U ca pa pt2 pw2) :
    RS U (csS P (nC P) k (nI o) how (nI w - 1)) x r ca pa v g u (cu1 A1 (nC P) a) (cu1 hd (nC P) h) (cu1 bb (nC P) b) pt2 pw2 sz2 wi2 := by
  have J := csS_I (P := P) (n := nC P) (k := k) (on := nI o) (how := how) (q := nI w - 1)
  have S8 : qS (csS P (nC P) k (nI o) how (nI w - 1)) 8 = nI (nC P + 1) := rfl
  have OS : ∀ x, x ≠ 8 → x ≠ 0 → qS (csS P (nC P) k (nI o) how (nI w - 1)) x = qS P x := fun x h8 h0 => by
    show va_up (va_up (qS P) 0 0) 8 _ x = _
    rw [va_up_ne _ _ h8, va_up_ne _ _ h0]
  have OR : qR (csS P (nC P) k (nI o) how (nI w - 1)) = qR P := rfl
  have OF : qF (csS P (nC P) k (nI o) how (nI w - 1)) = qF P := rfl
  have OD : qD (csS P (nC P) k (nI o) how (nI w - 1)) = qD P := rfl
  have OJ : qJ (csS P (nC P) k (nI o) how (nI w - 1)) = qJ P := rfl
  generalize csS P (nC P) k (nI o) how (nI w - 1) = T at J S8 OS OF OD OJ OR hL ⊢
  have hn1 : ∀ a i, i ≠ nC P → qI T a i = qI P a i := fun a i hi => by rw [J, if_neg hi]
  have Ik : ∀ a, a ≠ 9 → a ≠ 10 → a ≠ 11 → a ≠ 12 → a ≠ 13 → a ≠ 18 → a ≠ 20 → qI T a = qI P a := fun a x1 x2 x3 x4 x5 x6 x7 => funext fun i => by
    rw [J]
    by_cases ci : i = nC P
    · rw [if_pos ci, if_neg x7, if_neg x6, if_neg x5, if_neg x4, if_neg x3, if_neg x2, if_neg x1]
    · rw [if_neg ci]
  have t20 : qI T 20 (nC P) = nI 0 - 1 := by rw [J, if_pos rfl, if_pos rfl]; decide
  have t18 : qI T 18 (nC P) = nI 0 - 1 := by rw [J, if_pos rfl, if_neg (by decide), if_pos rfl]; decide
  have t13 : qI T 13 (nC P) = nI 0 - 1 := by rw [J, if_pos rfl, if_neg (by decide), if_neg (by decide), if_pos rfl]; decide
  have t12 : qI T 12 (nC P) = nI w - 1 := by rw [J, if_pos rfl]; rfl
  have t11 : qI T 11 (nC P) = how := by rw [J, if_pos rfl]; rfl
  have t10 : qI T 10 (nC P) = nI o := by rw [J, if_pos rfl]; rfl
  have t9 : qI T 9 (nC P) = k := by rw [J, if_pos rfl]; rfl
  have ec : zc T = zc P := by unfold zc; rw [OS 3 (by decide) (by decide)]
  have ea : za T = za P := by unfold za; rw [OS 4 (by decide) (by decide)]
  have eN : zN T = zN P := by unfold zN; rw [OS 1 (by decide) (by decide)]
  have en : nC T = nC P + 1 := cl0 S8 (by omega)
  have eo : ∀ i, i ≠ nC P → zo T i = zo P i := fun i hi => by unfold zo; rw [hn1 10 i hi]
  have eP : ∀ i, i ≠ nC P → zP T i = zP P i := fun i hi => by unfold zP; rw [hn1 12 i hi]
  have ep : ∀ i, i ≠ nC P → zp T i = zp P i := fun i hi => by unfold zp; rw [hn1 13 i hi]
  have eh : ∀ i, i ≠ nC P → zh T i = zh P i := fun i hi => by unfold zh; rw [hn1 20 i hi]
  have no : zo T (nC P) = o := cl0 t10 (by omega)
  have nP : zP T (nC P) = w := cl1 t12 (by omega)
  have np : zp T (nC P) = 0 := cl1 t13 (by omega)
  have nh : zh T (nC P) = 0 := cl1 t20 (by omega)
  have el : zl T = zl P := funext fun i => by unfold zl; rw [Ik 7 (by decide) (by decide) (by decide) (by decide) (by decide) (by decide) (by decide)]
  have em : zm T = zm P := funext fun i => by unfold zm; rw [Ik 2 (by decide) (by decide) (by decide) (by decide) (by decide) (by decide) (by decide)]
  obtain ⟨n14, n15, n16, n17, n19, n25, n22, nF, nD⟩ := hw.2.2.2.2.2.2.2 (nC P) (Nat.le_refl _) hn
  obtain ⟨h1, h2, ⟨h3, h3'⟩, ⟨⟨g1, g2⟩, g3, g4⟩, ⟨h5, h6, -, -⟩⟩ := hs
  obtain ⟨⟨ka, kh, kb⟩, ⟨q1, q2, q3, q4, q5, q6, q7, q8, q9, qa, qb, qc, qd⟩, ⟨r1, r2⟩, ⟨x1, x2, x3, x4⟩, ⟨y1, y2⟩, hx⟩ := hck
  have nX : ∀ z, z ∈ mL S → (z = x ∨ z = ca ∨ Y z) → mK S z = 7 ∨ mK S z = 15 ∨ mK S z = 16 ∨ mK S z = 3 := fun z hz e => by
    rcases e with rfl | rfl | e
    · exact Or.inl h1.1.2
    · exact Or.inr (Or.inl h1.2.2.1.2.1)
    · have := hY z hz e; omega
  have nr : ¬ (r = x ∨ r = ca ∨ Y r) := fun e => by have := nX r h2.1.1 e; have := h2.1.2; omega
  have nv : ¬ (v = x ∨ v = ca ∨ Y v) := fun e => by have := nX v h2.2.2.1.1 e; have := h2.2.2.1.2.1; omega
  have ng : ¬ (g = x ∨ g = ca ∨ Y g) := fun e => by have := nX g h2.2.2.2.1.1 e; have := h2.2.2.2.1.2.1; omega
  have nu : ¬ (u = x ∨ u = ca ∨ Y u) := fun e => by have := nX u h2.2.2.2.2.1.1 e; have := h2.2.2.2.2.1.2.1; omega
  have nA : ∀ j, j < nC P → ¬ (A1 j = x ∨ A1 j = ca ∨ Y (A1 j)) := fun j hj e => by have := nX _ (h5 j hj).1.1.1 e; have := (h5 j hj).1.1.2; omega
  have hL2 : ∀ j, j < nC P → hd j ∈ mL S ∧ (qI P 9 j = 3 → bb j ∈ mL S) := fun j hj => by
    rcases (h5 j hj).2 with ⟨e, m, -⟩ | ⟨e, m, -⟩ | ⟨e, m, -⟩ | ⟨e, z, -, hJ, -⟩
    · exact ⟨m.1, fun q => by rw [e] at q; exact absurd q (by decide)⟩
    · exact ⟨m.1, fun q => by rw [e] at q; exact absurd q (by decide)⟩
    · exact ⟨m.1, fun q => by rw [e] at q; exact absurd q (by decide)⟩
    · exact ⟨hJ.1.1, fun _ => hJ.2.2.1.1⟩
  refine ⟨?_, ?_, ⟨?_, ?_⟩, ⟨⟨?_, ?_⟩, ?_, ?_⟩, ?_, ?_, ?_, hA⟩
  · obtain ⟨⟨s01, s02⟩, ⟨s1, s2, s3⟩, ⟨s4, s5, s6⟩, ⟨s7, s8, s9⟩, s10, s11, s12⟩ := h1
    obtain ⟨xx1, xx2, -, -⟩ := hx x s01
    obtain ⟨yy1, yy2, yy3, -⟩ := hx ca s4
    obtain ⟨zz1, zz2, zz3, -⟩ := hx pa s7
    rw [en]
    refine ⟨⟨xx1, xx2.trans s02⟩, ⟨(x1 0).trans s1, (x1 1).trans s2, (x1 2).trans s3⟩, ⟨yy1, yy2.trans s5, yy3.trans s6⟩, ⟨zz1, zz2.trans s8, zz3.trans s9⟩, x2, by omega, fun j hj => ?_⟩
    by_cases c : j = nC P
    · rw [c, cu1_n]; exact ⟨y1, q1⟩
    · rw [cu1_o c, y2 j c]
      obtain ⟨i1, i2, i3⟩ := s12 j (by omega)
      exact ⟨i1, (hx _ i2).1, (hx _ i2).2.1.trans i3⟩
  · rw [eN]; exact rgA_ex hx nr h2
  · rw [en, hgN_cons (f := zo P) (f2 := zo T) (n := nC P) eo no, ← nI_or]
    exact x3
  · rw [OR]; exact x4.trans h3'
  · rw [ec]; exact (((hx r h2.1.1).2.2.2 nr).2.1 3).trans g1
  · rw [ea]; exact (((hx r h2.1.1).2.2.2 nr).2.1 4).trans g2
  · intro i hi
    rw [eN] at hi
    rw [OJ, el, ((hx v h2.2.2.1.1).2.2.2 nv).2.2.2.2.2.2.1, ((hx u h2.2.2.2.2.1.1).2.2.2 nu).2.2.2.2.2.2.1]
    exact g3 i hi
  · intro s hs1 hs2
    rw [ec] at hs1
    rw [ec, eN] at hs2
    rw [em, eN, ((hx g h2.2.2.2.1.1).2.2.2 ng).2.2.2.2.2.1]
    exact g4 s hs1 hs2
  · intro j hj
    rw [en] at hj
    by_cases c : j = nC P
    · rw [c, cu1_n, cu1_n, cu1_n, nP, np, nh]
      have i14 : qI T 14 (nC P) = 0 := by rw [Ik 14 (by decide) (by decide) (by decide) (by decide) (by decide) (by decide) (by decide)]; exact n14
      have i15 : qI T 15 (nC P) = 0 := by rw [Ik 15 (by decide) (by decide) (by decide) (by decide) (by decide) (by decide) (by decide)]; exact n15
      have i16 : qI T 16 (nC P) = 0 := by rw [Ik 16 (by decide) (by decide) (by decide) (by decide) (by decide) (by decide) (by decide)]; exact n16
      have i17 : qI T 17 (nC P) = 0 := by rw [Ik 17 (by decide) (by decide) (by decide) (by decide) (by decide) (by decide) (by decide)]; exact n17
      have i19 : qI T 19 (nC P) = 0 := by rw [Ik 19 (by decide) (by decide) (by decide) (by decide) (by decide) (by decide) (by decide)]; exact n19
      have i25 : qI T 25 (nC P) = 0 := by rw [Ik 25 (by decide) (by decide) (by decide) (by decide) (by decide) (by decide) (by decide)]; exact n25
      refine ⟨⟨q1, q2, q3.trans t10.symm, q4.trans hpp, q5.trans t11.symm, q6.trans eL_0.symm, q7.trans eL_0.symm, q9.trans i15.symm, qa.trans i16.symm, qb.trans i17.symm, qc.trans i14.symm, 0, 0, by decide, by decide, t18, i19, q8.trans eL_0.symm, Or.inl qd⟩, ?_⟩
      rcases r2 with ⟨e, m, z⟩ | ⟨e, m, z⟩ | ⟨e, m, z, z2⟩ | ⟨e, m⟩
      · exact Or.inl ⟨t9.trans e, ⟨r1, m⟩, by rw [OJ, n22]; exact z⟩
      · exact Or.inr (Or.inl ⟨t9.trans e, ⟨r1, m⟩, by rw [OF, nF]; exact z⟩)
      · exact Or.inr (Or.inr (Or.inl ⟨t9.trans e, ⟨r1, m⟩, by rw [OD, nD]; exact z, z2.trans i15.symm⟩))
      · exact Or.inr (Or.inr (Or.inr ⟨t9.trans e, 0, by decide, m, i25, fun i hi => absurd hi (Nat.not_lt_zero _)⟩))
    · rw [cu1_o c, cu1_o c, cu1_o c, eP j c, ep j c, eh j c, hpt j (by omega)]
      have gI := fun k => hn1 k j c
      refine ⟨RC_PP (gI 10) (gI 11) (gI 14) (gI 15) (gI 16) (gI 17) (gI 18) (gI 19) (RC_ex hx (nA j (by omega)) (h5 j (by omega)).1), ?_⟩
      have kk := RH_kind (h5 j (by omega)).2
      refine RH_PP (gI 9) (by rw [OJ]) (by rw [OF]) (by rw [OD]) (gI 15) (gI 25) (fun q _ _ => by rw [Ik 26 (by decide) (by decide) (by decide) (by decide) (by decide) (by decide) (by decide)]) (RH_ex hx (fun e => ?_) (fun e3 e => ?_) (h5 j (by omega)).2)
      · have := nX _ (hL2 j (by omega)).1 e; omega
      · have := nX _ ((hL2 j (by omega)).2 e3) e; have := kk.2 e3; omega
  · intro i j hi hj hij
    rw [en] at hi hj
    by_cases ci : i = nC P
    · have cj : j ≠ nC P := by omega
      rw [ci, cu1_n, cu1_n, cu1_n, cu1_o cj, cu1_o cj, cu1_o cj, t9, hn1 9 j cj]
      refine ⟨fun e => ka (e ▸ (h5 j (by omega)).1.1.1), fun e => kh (e ▸ (hL2 j (by omega)).1), fun e3 e4 e => kb e3 (e ▸ (hL2 j (by omega)).2 e4)⟩
    · by_cases cj : j = nC P
      · rw [cj, cu1_n, cu1_n, cu1_n, cu1_o ci, cu1_o ci, cu1_o ci, t9, hn1 9 i ci]
        refine ⟨fun e => ka (e ▸ (h5 i (by omega)).1.1.1), fun e => kh (e ▸ (hL2 i (by omega)).1), fun e3 e4 e => kb e4 (e ▸ (hL2 i (by omega)).2 e3)⟩
      · rw [cu1_o ci, cu1_o ci, cu1_o ci, cu1_o cj, cu1_o cj, cu1_o cj, hn1 9 i ci, hn1 9 j cj]
        exact h6 i j (by omega) (by omega) hij
  · rw [en]; exact hL
end S9
