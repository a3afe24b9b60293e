/-! ===== the class: a consumer more ===== -/
theorem Ct.mono {l : Launch} {s0 : State} {D : va_G} {y : MethodName} {ws : List Cond} {rm : Room} {av : List Value} {wc : va_W} {post post2 : Option Value → va_W → Prop} (h : Ct l s0 D y ws rm av wc post) (hp : ∀ v w, post v w → post2 v w) : Ct l s0 D y ws rm av wc post2 := fun sz p e h1 h2 h3 s m args below h4 h5 h6 h7 => by
  obtain ⟨n, o, a1, a2, a3, ⟨⟨v, w1, e1, q1, q2, q3⟩, q4⟩, q5⟩ := h sz p e h1 h2 h3 s m args below h4 h5 h6 h7
  exact ⟨n, o, a1, a2, a3, ⟨⟨v, w1, e1, hp _ _ q1, q2, q3⟩, q4⟩, q5⟩
theorem PC.mono {l : Launch} {s0 : State} {D : va_G} {cA : Nat → ClassId} {y : MethodName} {b : ByteArray} {mL : Nat} {rt : Option FieldType} {rm : Room} {As : List Value} {S : Mem} {r : Option Value} {Φ Ψ : Mem → Prop} (h : PC l s0 D cA y b mL rt rm As S r Φ) (hp : ∀ S1, Φ S1 → Ψ S1) : PC l s0 D cA y b mL rt rm As S r Ψ := Ct.mono h fun _ _ ⟨a, S1, e, q⟩ => ⟨a, S1, e, hp S1 q⟩
theorem PE.mono {l : Launch} {s0 : State} {D : va_G} {cA : Nat → ClassId} {y : MethodName} {b : ByteArray} {mL : Nat} {rt : Option FieldType} {rm : Room} {As : List Value} {S : Mem} {Φ Ψ : Nat → Mem → Prop} (h : PE l s0 D cA y b mL rt rm As S Φ) (hp : ∀ q S1, Φ q S1 → Ψ q S1) : PE l s0 D cA y b mL rt rm As S Ψ := Ct.mono h fun _ _ ⟨q, S1, a, e, w⟩ => ⟨q, S1, a, e, hp q S1 w⟩
theorem PE.of {l : Launch} {s0 : State} {D : va_G} {cA : Nat → ClassId} {y : MethodName} {b : ByteArray} {mL : Nat} {rt : Option FieldType} {rm : Room} {As : List Value} {S : Mem} {q : Nat} {Φ : Mem → Prop} {Ψ : Nat → Mem → Prop} (h : PC l s0 D cA y b mL rt rm As S (some (.ref q)) Φ) (hp : ∀ S1, Φ S1 → Ψ q S1) : PE l s0 D cA y b mL rt rm As S Ψ := Ct.mono h fun _ _ ⟨a, S1, e, w⟩ => ⟨q, S1, a, e, hp S1 w⟩
/-- a handler more, of kind k: q; b its bytes, if it is a journal -/
def NHp (k : Int32) (S : Mem) (q : Nat) (S1 : Mem) : Prop := q ∉ mL S ∧ ex (fun _ => False) S S1 ∧ q ∈ mL S1 ∧
  ((k = 0 ∧ mK S1 q = 6 ∧ mJ S1 0 q = 0) ∨ (k = 1 ∧ mK S1 q = 5 ∧ mF S1 0 q = 0) ∨ (k = 2 ∧ mK S1 q = 2 ∧ mE S1 0 q = 0 ∧ mI S1 1 q = 0) ∨ (k = 3 ∧ ∃ b, b ∉ mL S ∧ b ≠ q ∧ jrA S1 q b 0))
theorem c_nh {l : Launch} {s0 : State} {D : va_G} {cA : Nat → ClassId} (hG : cx_G l s0 D cA) {S : Mem} (k : Int32) (hk : k = 0 ∨ k = 1 ∨ k = 2 ∨ k = 3) : PE l s0 D cA yX8_newHandler cX8_newHandler 1 (some (.object "RingPipeline$Handler")) rmX8_newHandler [.int k] S (fun q S1 => NHp k S q S1) := by
  rcases hk with rfl | rfl | rfl | rfl
  · refine (c_nh0 hG).mono fun q S1 ⟨h1, h2⟩ => ?_
    subst h2
    exact ⟨h1, ex_nw h1, nw_q, Or.inl ⟨rfl, nw_Kq, if_pos rfl⟩⟩
  · refine (c_nh1 hG).mono fun q S1 ⟨h1, h2⟩ => ?_
    subst h2
    exact ⟨h1, ex_nw h1, nw_q, Or.inr (Or.inl ⟨rfl, nw_Kq, if_pos rfl⟩)⟩
  · refine (c_nh2 hG).mono fun q S1 ⟨h1, h2⟩ => ?_
    subst h2
    exact ⟨h1, ex_nw h1, nw_q, Or.inr (Or.inr (Or.inl ⟨rfl, nw_Kq, if_pos rfl, if_pos rfl⟩))⟩
  · refine (c_nh3 hG).mono fun q S1 ⟨h1, b, h2, h3⟩ => ?_
    obtain ⟨M, eM⟩ : ∃ M, M = nw S q 1 0 := ⟨_, rfl⟩
    rw [← eM] at h2 h3
    have lq : q ∈ mL M := by rw [eM]; exact nw_q
    have kq : mK M q = 1 := by rw [eM]; exact nw_Kq
    have xM : ex (fun _ => False) S M := by rw [eM]; exact ex_nw h1
    have iq : mI M 1 q = 0 := by rw [eM]; exact if_pos rfl
    have hb : b ≠ q := fun e => h2 (e ▸ lq)
    have hx : ex (fun z => z = q) S S1 := ex_tr (ex_mo xM (fun _ _ => False.elim)) (by rw [h3]; exact ex_tr (ex_nw h2) (ex_uR rfl))
    refine ⟨h1, ex_mo hx (fun z hz e => h1 (e ▸ hz)), ?_, Or.inr (Or.inr (Or.inr ⟨rfl, b, fun hz => h2 (xM b hz).1, hb, ⟨?_, ?_⟩, ?_, ⟨?_, ?_, ?_⟩, ?_⟩))⟩
    · rw [h3]; exact nw_L (S := M) (q := b) (k := 9) (n := 400) lq
    · rw [h3]; exact nw_L (S := M) (q := b) (k := 9) (n := 400) lq
    · rw [h3]; exact (nw_K (S := M) (q := b) (k := 9) (n := 400) lq h2).trans kq
    · rw [h3]; exact mR_s
    · rw [h3]; exact nw_q (S := M) (q := b) (k := 9) (n := 400)
    · rw [h3]; exact nw_Kq (S := M) (q := b) (k := 9) (n := 400)
    · rw [h3]; exact nw_Nq (S := M) (q := b) (k := 9) (n := 400)
    · rw [h3]; exact (if_neg (fun e => hb e.symm)).trans iq
theorem plA_ex {X : Nat → Prop} {S T : Mem} {x r ca pa n : Nat} {A1 : Nat → Nat} (hx : ex X S T) (h1 : ¬ X x) (h2 : ¬ X ca) (h : plA S x r ca pa n A1) : plA T x r ca pa n A1 := by
  obtain ⟨⟨a1, a2⟩, ⟨a3, a4, a5⟩, ⟨a6, a7, a8⟩, ⟨a9, b1, b2⟩, b3, b4, b5⟩ := h
  obtain ⟨c1, c2, c3, c4⟩ := hx x a1
  obtain ⟨d1, d2, d3, d4⟩ := hx ca a6
  obtain ⟨e1, e2, e3, -⟩ := hx pa a9
  obtain ⟨f1, f2, f3, -⟩ := c4 h1
  obtain ⟨-, -, -, -, -, -, -, g1⟩ := d4 h2
  refine ⟨⟨c1, c2.trans a2⟩, ⟨(f3 0).trans a3, (f3 1).trans a4, (f3 2).trans a5⟩, ⟨d1, d2.trans a7, d3.trans a8⟩, ⟨e1, e2.trans b1, e3.trans b2⟩, (f1 3).trans b3, b4, fun j hj => ?_⟩
  obtain ⟨i1, i2, i3⟩ := b5 j hj
  obtain ⟨j1, j2, -, -⟩ := hx (A1 j) i2
  exact ⟨by rw [g1]; exact i1, j1, j2.trans i3⟩
theorem rgA_ex {X : Nat → Prop} {S T : Mem} {r v g u N : Nat} (hx : ex X S T) (h1 : ¬ X r) (h : rgA S r v g u N) : rgA T r v g u N := by
  obtain ⟨⟨a1, a2⟩, ⟨a3, a4, a5⟩, ⟨b1, b2, b3⟩, ⟨b4, b5, b6⟩, ⟨b7, b8, b9⟩, c1, c2⟩ := h
  obtain ⟨d1, d2, d3, d4⟩ := hx r a1
  obtain ⟨-, -, f3, -⟩ := d4 h1
  obtain ⟨e1, e2, e3, -⟩ := hx v b1
  obtain ⟨e4, e5, e6, -⟩ := hx g b4
  obtain ⟨e7, e8, e9, -⟩ := hx u b7
  exact ⟨⟨d1, d2.trans a2⟩, ⟨(f3 0).trans a3, (f3 1).trans a4, (f3 2).trans a5⟩, ⟨e1, e2.trans b2, e3.trans b3⟩, ⟨e4, e5.trans b5, e6.trans b6⟩, ⟨e7, e8.trans b8, e9.trans b9⟩, c1, c2⟩
/-- a pool's object: pt, its array pw, its size sz -/
def poA (S : Mem) (pt pw sz : Nat) : Prop := (pt ∈ mL S ∧ mK S pt = 3) ∧ mR S 1 pt = some pw ∧ (pw ∈ mL S ∧ mK S pw = 15 ∧ mN S pw = 8) ∧ mI S 2 pt = nI sz ∧ sz < 8
theorem poA_ex {X : Nat → Prop} {S T : Mem} {pt pw sz : Nat} (hx : ex X S T) (h1 : ¬ X pt) (h : poA S pt pw sz) : poA T pt pw sz := by
  obtain ⟨⟨a1, a2⟩, a3, ⟨b1, b2, b3⟩, b4, b5⟩ := h
  obtain ⟨d1, d2, d3, d4⟩ := hx pt a1
  obtain ⟨f1, -, f3, -⟩ := d4 h1
  obtain ⟨e1, e2, e3, -⟩ := hx pw b1
  exact ⟨⟨d1, d2.trans a2⟩, (f3 1).trans a3, ⟨e1, e2.trans b2, e3.trans b3⟩, (f1 2).trans b4, b5⟩
/-- the pool to join: there, or made -/
def PJp (pa t : Nat) (on : Int32) (S : Mem) (pt : Nat) (S2 : Mem) : Prop := (maR S pa t = some pt ∧ S2 = S) ∨ (maR S pa t = none ∧ pt ∉ mL S ∧ ∃ qw, qw ∉ mL (nw S pt 3 0) ∧ S2 = uaR (uI (uR (nw (nw S pt 3 0) qw 15 8) 1 pt (some qw)) 0 pt on) pa t (some pt))
theorem PJ_ok {S S2 : Mem} {pa t pt : Nat} {on : Int32} (h : PJp pa t on S pt S2) (hpa : pa ∈ mL S) (h0 : ∀ q, maR S pa t = some q → ∃ pw sz, poA S q pw sz) : ex (fun z => z = pa) S S2 ∧ ∃ pw sz, poA S2 pt pw sz := by
  rcases h with ⟨h1, rfl⟩ | ⟨h1, h2, qw, h3, h4⟩
  · exact ⟨ex_rf, h0 pt h1⟩
  · obtain ⟨M, eM⟩ : ∃ M, M = nw S pt 3 0 := ⟨_, rfl⟩
    rw [← eM] at h3 h4
    obtain ⟨M2, eM2⟩ : ∃ M2, M2 = nw M qw 15 8 := ⟨_, rfl⟩
    rw [← eM2] at h4
    have lq : pt ∈ mL M := by rw [eM]; exact nw_q
    have kq : mK M pt = 3 := by rw [eM]; exact nw_Kq
    have iq : mI M 2 pt = 0 := by rw [eM]; exact if_pos rfl
    have hw : pt ≠ qw := fun e => h3 (e ▸ lq)
    have xM : ex (fun z => z = pt ∨ z = pa) S M := by rw [eM]; exact ex_nw h2
    have xM2 : ex (fun z => z = pt ∨ z = pa) M M2 := by rw [eM2]; exact ex_nw h3
    have x3 : ex (fun z => z = pt ∨ z = pa) M2 S2 := by rw [h4]; exact ex_tr (ex_uR (Or.inl rfl)) (ex_tr (ex_ag (ag_uI (Or.inl rfl))) (ex_uaR (Or.inr rfl)))
    have l2 : pt ∈ mL M2 := (xM2 pt lq).1
    have lw : qw ∈ mL M2 := by rw [eM2]; exact nw_q
    have kw : mK M2 qw = 15 := by rw [eM2]; exact nw_Kq
    have nqw : mN M2 qw = 8 := by rw [eM2]; exact nw_Nq
    refine ⟨ex_mo (ex_tr xM (ex_tr xM2 x3)) (fun b hb e => e.elim (fun e => absurd hb (e ▸ h2)) id), qw, 0, ⟨(x3 pt l2).1, (x3 pt l2).2.1.trans ((xM2 pt lq).2.1.trans kq)⟩, ?_, ⟨(x3 qw lw).1, (x3 qw lw).2.1.trans kw, (x3 qw lw).2.2.1.trans nqw⟩, ?_, by decide⟩
    · rw [h4]; exact mR_s (S := M2)
    · rw [h4]
      exact (mI_k (S := uR M2 1 pt (some qw)) (k := 0) (a := pt) (i := 2) (b := pt) (v := on) (by decide)).trans (show mI M2 2 pt = nI 0 by rw [eM2]; exact (if_neg hw).trans iq)
theorem c_pj {l : Launch} {s0 : State} {D : va_G} {cA : Nat → ClassId} (hG : cx_G l s0 D cA) {S : Mem} {x r ca pa n : Nat} {A1 : Nat → Nat} {t : Nat} (on : Int32) (h : plA S x r ca pa n A1) (ht : t < 2) : PE l s0 D cA yX8_poolToJoin cX8_poolToJoin 3 (some (.object "RingPipeline$Pool")) rmX8_poolToJoin [.ref x, .int (nI t), .int on] S (fun q S1 => PJp pa t on S q S1) := by
  cases hm : maR S pa t with
  | some pt => exact PE.of (c_pj_o hG on h ht hm) (fun S1 e => Or.inl ⟨hm, e⟩)
  | none => exact (c_pj_w hG on h ht hm).mono (fun q S1 e => Or.inr ⟨hm, e.1, e.2⟩)
theorem c_mj {l : Launch} {s0 : State} {D : va_G} {cA : Nat → ClassId} (hG : cx_G l s0 D cA) {S : Mem} {x r ca pa n : Nat} {A1 : Nat → Nat} {t : Nat} (on po : Int32) (h : plA S x r ca pa n A1) (ht : t < 2) (hp : ¬ po = 2) (h0 : ∀ q, maR S pa t = some q → (q ∈ mL S ∧ mK S q = 3) ∧ mI S 0 q = on) : PC l s0 D cA yX8_mayJoin cX8_mayJoin 4 (some .boolean) rmX8_mayJoin [.ref x, .int (nI t), .int on, .int po] S (some (.int 1)) (fun S1 => S1 = S) := by
  cases hm : maR S pa t with
  | some pt => exact c_mj_1 hG on po h ht hp hm (h0 pt hm).1.1 (h0 pt hm).1.2 (h0 pt hm).2 rfl
  | none => exact c_mj_n hG on po h ht hp hm
/-- what Consumer's constructor leaves -/
def ciS (S : Mem) (a h : Nat) (on po : Int32) (pt : Option Nat) : Mem := uR (uI (uI (uR (uJ (uJ (uJ S 4 a (-1)) 5 a (-1)) 10 a (-1)) 0 a (some h)) 1 a on) 3 a po) 2 a pt
theorem ciS_ex {S : Mem} {a h : Nat} {on po : Int32} {pt : Option Nat} : ex (fun z => z = a) S (ciS S a h on po pt) := ex_tr (ex_ag (ag_tr (ag_tr (ag_uJ rfl) (ag_uJ rfl)) (ag_uJ rfl))) (ex_tr (ex_uR rfl) (ex_tr (ex_ag (ag_tr (ag_uI rfl) (ag_uI rfl))) (ex_uR rfl)))
theorem ciS_f {S : Mem} {a h : Nat} {on po : Int32} {pt : Option Nat} : mR (ciS S a h on po pt) 0 a = some h ∧ mR (ciS S a h on po pt) 2 a = pt ∧ mI (ciS S a h on po pt) 1 a = on ∧ mI (ciS S a h on po pt) 3 a = po ∧ mJ (ciS S a h on po pt) 4 a = -1 ∧ mJ (ciS S a h on po pt) 5 a = -1 ∧ mJ (ciS S a h on po pt) 10 a = -1 ∧ ∀ k, k ≠ 1 → k ≠ 3 → mI (ciS S a h on po pt) k a = mI S k a := by
  unfold ciS
  simp only [mR_uR, mR_uI, mR_uJ, mI_uR, mI_uI, mI_uJ, mJ_uR, mJ_uI, mJ_uJ, up2]
  simp (config := { contextual := true })
abbrev rmX8_consumer : Room := { frames := 8, cells := 8, slots := 512, locals := 200 }
set_option maxRecDepth 100000 in
theorem c_cons_n {l : Launch} {s0 : State} {D : va_G} {cA : Nat → ClassId} (hG : cx_G l s0 D cA) {S : Mem} {x r ca pa n v g u N : Nat} {A1 : Nat → Nat} {hu : Int32} {cq : Int64} (k on po : Int32)  (h : plA S x r ca pa n A1) (hg : rgA S r v g u N) (hk : (0 : Int32) ≤ k ∧ k ≤ 3) (hpo : (0 : Int32) ≤ po ∧ po ≤ 2) (hon : (on.toUInt32 >>> ((nI n).toUInt32 &&& Int32.toUInt32 31)).toInt32 = 0) (hn8 : n < 8) (hcu : mJ S 3 r = cq) (hc0 : cq < 0) (hhu : mI S 4 x = hu) : PC l s0 D cA yX8_consumer cX8_consumer 5 (some .int) rmX8_consumer [.ref x, .int k, .int on, .int po, .int (-1)] S (some (.int (nI n))) (fun S1 => ∃ q0 M0 q1 M1 M3, q0 ∉ mL S ∧ M0 = nw S q0 0 0 ∧ NHp k M0 q1 M1 ∧ M3 = ciS M1 q0 q1 on po none ∧ S1 = uI (uI (uaR M3 ca n (some q0)) 4 x (hu ||| on)) 3 x (nI (n + 1))) := by
  have hk4 : k = 0 ∨ k = 1 ∨ k = 2 ∨ k = 3 := by
    obtain ⟨j, hj, rfl⟩ := wi_of (n := 4) (by decide) (cn := k) (by rw [show nI 4 - 1 = (3 : Int32) by decide]; exact hk)
    have : j = 0 ∨ j = 1 ∨ j = 2 ∨ j = 3 := by omega
    rcases this with rfl | rfl | rfl | rfl
    · exact Or.inl rfl
    · exact Or.inr (Or.inl rfl)
    · exact Or.inr (Or.inr (Or.inl rfl))
    · exact Or.inr (Or.inr (Or.inr rfl))
  have hx00 := h.1.1
  have hca00 := h.2.2.1.1
  refine Ct.of (cA := cA) hG (by decide +kernel) (Nat.le_of_ble_eq_true rfl) ?_
  intro p e s m below meth c A C hnm hP hD hS ls hl
  have hx := cx_x C
  have hb := cx_b C
  have hl : lv_has ls 5 [(0, .ref x), (1, .int k), (2, .int on), (3, .int po), (4, .int (-1))] := hl
  refine lv_iload_n hx hb dX8_consumer_0 rfl (lv_at hl 1 rfl) ?_
  refine lv_iconst (v := 0) hx hb dX8_consumer_1 (by decide) ?_
  refine lv_iconst (v := 3) hx hb dX8_consumer_2 (by decide) ?_
  refine ct_S0 (As := [.int k, .int 0, .int 3]) (rest := []) (r := some (.int 1)) C (w8_1 hG _ _ _ (hk)) tm_93 tm_94 tm_1 tm_95 hdX8_isWithin.2 ⟨Nat.le_of_ble_eq_true rfl, Nat.le_of_ble_eq_true rfl⟩ hl.1 rfl (Nat.le_of_ble_eq_true rfl) dX8_consumer_3 ⟨Nat.le_of_ble_eq_true rfl, Nat.le_of_ble_eq_true rfl⟩ hP hD hS (fun H locs hP hD hS => ?_)
  refine lv_if_eq (tgt := 18) hx hb dX8_consumer_6 (by decide) (fun h9 => absurd h9 (by decide)) (fun _ => ?_)
  refine lv_iload_n hx hb dX8_consumer_9 rfl (lv_at hl 3 rfl) ?_
  refine lv_iconst (v := 0) hx hb dX8_consumer_10 (by decide) ?_
  refine lv_iconst (v := 2) hx hb dX8_consumer_11 (by decide) ?_
  refine ct_S0 (As := [.int po, .int 0, .int 2]) (rest := []) (r := some (.int 1)) C (w8_1 hG _ _ _ (hpo)) tm_93 tm_94 tm_1 tm_95 hdX8_isWithin.2 ⟨Nat.le_of_ble_eq_true rfl, Nat.le_of_ble_eq_true rfl⟩ hl.1 rfl (Nat.le_of_ble_eq_true rfl) dX8_consumer_12 ⟨Nat.le_of_ble_eq_true rfl, Nat.le_of_ble_eq_true rfl⟩ hP hD hS (fun H locs hP hD hS => ?_)
  refine lv_if_ne (tgt := 28) hx hb dX8_consumer_15 (by decide) (fun _ => ?_) (fun h9 => absurd h9 (by decide))
  refine lv_iload_n hx hb dX8_consumer_28 rfl (lv_at hl 2 rfl) ?_
  refine lv_aload_n hx hb dX8_consumer_29 rfl (lv_at hl 0 rfl) ?_
  refine gv_8_3 (v := nI n) C hP h.1.1 h.1.2 (h.2.2.2.2.1) tm_61 dX8_consumer_30 ?_
  refine lv_iushr (v := (on.toUInt32 >>> ((nI n).toUInt32 &&& Int32.toUInt32 31)).toInt32) hx hb dX8_consumer_33 rfl ?_
  refine lv_if_eq (tgt := 47) hx hb dX8_consumer_34 (by decide) (fun _ => ?_) (fun h9 => absurd (hon) h9)
  refine lv_iload hx hb dX8_consumer_47 (lv_at hl 4 rfl) ?_
  refine lv_iconst (v := (-1)) hx hb dX8_consumer_49 (by decide) ?_
  refine lv_icmp_eq (tgt := 74) hx hb dX8_consumer_50 (by decide) (fun _ => ?_) (fun h9 => absurd (by decide) h9)
  refine lv_aload_n hx hb dX8_consumer_74 rfl (lv_at hl 0 rfl) ?_
  refine gv_8_3 (v := nI n) C hP h.1.1 h.1.2 (h.2.2.2.2.1) tm_61 dX8_consumer_75 ?_
  refine lv_bipush (v := 8) hx hb dX8_consumer_78 (by decide) ?_
  refine lv_icmp_ge (tgt := 95) hx hb dX8_consumer_80 (by decide) (fun h9 => absurd h9 (nI_ge hn8 (by decide))) (fun _ => ?_)
  refine lv_aload_n hx hb dX8_consumer_83 rfl (lv_at hl 0 rfl) ?_
  refine gf_8_0s (b := r) C hP h.1.1 h.1.2 (h.2.1.1) tm_58 dX8_consumer_84 ?_
  refine gv_5_3 (v := cq) C hP hg.1.1 hg.1.2 (hcu) tm_42 dX8_consumer_87 ?_
  refine lv_lconst (v := 0) hx hb dX8_consumer_90 (by decide) ?_
  refine W.lcmp hx hb dX8_consumer_91 ?_
  refine lv_if_lt (tgt := 105) hx hb dX8_consumer_92 (by decide) (fun _ => ?_) (fun h9 => absurd (by rw [lg_cmp_lt]; exact hc0) h9)
  refine lv_aload_n hx hb dX8_consumer_105 rfl (lv_at hl 0 rfl) ?_
  refine nwo_0 C hP hD hS tm_27 (Nat.le_of_ble_eq_true rfl) (Nat.le_of_ble_eq_true rfl) dX8_consumer_106 (fun q0 H hq0 hP hD hS => ?_)
  obtain ⟨M0, eM0⟩ : ∃ M9, M9 = nw S q0 0 0 := ⟨_, rfl⟩
  rw [← eM0] at hP hD
  have lM0_0 : x ∈ mL M0 := by rw [eM0]; exact nw_L (S := S) (q := q0) (k := 0) (n := 0) (a := x) h.1.1
  have kM0_0 := (show mK M0 x = mK S x by rw [eM0]; exact nw_K (S := S) (q := q0) (k := 0) (n := 0) (a := x) h.1.1 hq0).trans h.1.2
  have lM0_1 : ca ∈ mL M0 := by rw [eM0]; exact nw_L (S := S) (q := q0) (k := 0) (n := 0) (a := ca) h.2.2.1.1
  have kM0_1 := (show mK M0 ca = mK S ca by rw [eM0]; exact nw_K (S := S) (q := q0) (k := 0) (n := 0) (a := ca) h.2.2.1.1 hq0).trans h.2.2.1.2.1
  have nM0_1 := (show mN M0 ca = mN S ca by rw [eM0]; exact nw_N (S := S) (q := q0) (k := 0) (n := 0) (a := ca) h.2.2.1.1 hq0).trans h.2.2.1.2.2
  have lM0_2 : pa ∈ mL M0 := by rw [eM0]; exact nw_L (S := S) (q := q0) (k := 0) (n := 0) (a := pa) h.2.2.2.1.1
  have kM0_2 := (show mK M0 pa = mK S pa by rw [eM0]; exact nw_K (S := S) (q := q0) (k := 0) (n := 0) (a := pa) h.2.2.2.1.1 hq0).trans h.2.2.2.1.2.1
  have nM0_2 := (show mN M0 pa = mN S pa by rw [eM0]; exact nw_N (S := S) (q := q0) (k := 0) (n := 0) (a := pa) h.2.2.2.1.1 hq0).trans h.2.2.2.1.2.2
  have lM0_3 : r ∈ mL M0 := by rw [eM0]; exact nw_L (S := S) (q := q0) (k := 0) (n := 0) (a := r) hg.1.1
  have kM0_3 := (show mK M0 r = mK S r by rw [eM0]; exact nw_K (S := S) (q := q0) (k := 0) (n := 0) (a := r) hg.1.1 hq0).trans hg.1.2
  have lM0q : q0 ∈ mL M0 := by rw [eM0]; exact nw_q (S := S) (q := q0) (k := 0) (n := 0)
  have kM0q : mK M0 q0 = 0 := by rw [eM0]; exact nw_Kq (S := S) (q := q0) (k := 0) (n := 0)
  have hM0 := (show ex (fun _ => False) S M0 by rw [eM0]; exact ex_nw hq0) x hx00
  have h : plA M0 x r ca pa n A1 := by rw [eM0]; exact plA_ex (X := fun _ => False) (ex_nw hq0) id id h
  refine lv_dup hx hb dX8_consumer_109 rfl ?_
  refine lv_iload_n hx hb dX8_consumer_110 rfl (lv_at hl 1 rfl) ?_
  refine pe_S (As := [.int k]) (rest := [.ref q0, .ref q0, .ref x]) C (c_nh (S := M0) hG k hk4) tm_188 tm_189 tm_1 tm_190 hdX8_newHandler.2 ⟨Nat.le_of_ble_eq_true rfl, Nat.le_of_ble_eq_true rfl⟩ hl.1 rfl (Nat.le_of_ble_eq_true rfl) dX8_consumer_111 ⟨Nat.le_of_ble_eq_true rfl, Nat.le_of_ble_eq_true rfl⟩ hP hD hS (fun q1 S1 H locs hQ1 hP hD hS => ?_)
  have hx1 := hQ1.2.1
  have h : plA S1 x r ca pa n A1 := plA_ex hx1 id id h
  refine lv_iload_n hx hb dX8_consumer_114 rfl (lv_at hl 2 rfl) ?_
  refine lv_iload_n hx hb dX8_consumer_115 rfl (lv_at hl 3 rfl) ?_
  refine lv_aload_n hx hb dX8_consumer_116 rfl (lv_at hl 0 rfl) ?_
  refine lv_iload hx hb dX8_consumer_117 (lv_at hl 4 rfl) ?_
  refine lv_iload_n hx hb dX8_consumer_119 rfl (lv_at hl 2 rfl) ?_
  refine pc_V (As := [.int (-1), .int on]) (rest := [.int po, .int on, .ref q1, .ref q0, .ref q0, .ref x]) (r := some (.null)) C (c_pj_n (S := S1) hG (-1) on h (by decide)) tm_258 tm_260 tm_878 tm_1 tm_261 hdX8_poolToJoin ⟨Nat.le_of_ble_eq_true rfl, Nat.le_of_ble_eq_true rfl⟩ (rcv_8 C hP h.1.1 h.1.2) hl.1 rfl (Nat.le_of_ble_eq_true rfl) dX8_consumer_120 ⟨Nat.le_of_ble_eq_true rfl, Nat.le_of_ble_eq_true rfl⟩ hP hD hS (fun S2 H locs hQ hP hD hS => ?_)
  rw [hQ] at hP hD
  refine pc_I (As := [.ref q1, .int on, .int po, .null]) (rest := [.ref q0, .ref x]) C (c_cini_n (S := S1) (b := 0) hG on po (hx1 q0 lM0q).1 ((hx1 q0 lM0q).2.1.trans kM0q)) tm_282 tm_283 tm_9 tm_284 rfl hdX0_init.2 ⟨Nat.le_of_ble_eq_true rfl, Nat.le_of_ble_eq_true rfl⟩ hl.1 rfl (Nat.le_of_ble_eq_true rfl) dX8_consumer_123 ⟨Nat.le_of_ble_eq_true rfl, Nat.le_of_ble_eq_true rfl⟩ hP hD hS (fun S3 H locs hQ hP hD hS => ?_)
  have eS3 : S3 = ciS S1 q0 q1 on po none := hQ
  have hx3 : ex (fun z => z = q0) S1 S3 := by rw [eS3]; exact ciS_ex
  have f3 := ciS_f (S := S1) (a := q0) (h := q1) (on := on) (po := po) (pt := none)
  rw [← eS3] at f3
  have nx : x ≠ q0 := nw_ne hx00 hq0
  have nca : ca ≠ q0 := nw_ne hca00 hq0
  have h : plA S3 x r ca pa n A1 := plA_ex hx3 nx nca h
  have l3 : q0 ∈ mL S3 ∧ mK S3 q0 = 0 := ⟨(hx3 q0 (hx1 q0 lM0q).1).1, (hx3 q0 (hx1 q0 lM0q).1).2.1.trans ((hx1 q0 lM0q).2.1.trans kM0q)⟩
  have hu3 : mI S3 4 x = hu := ((hx3 x (hx1 x (hM0.1)).1).2.2.2 nx).1 4 |>.trans (((hx1 x hM0.1).2.2.2 id).1 4 |>.trans ((hM0.2.2.2 id).1 4 |>.trans hhu))
  refine pc_V (As := [.ref q0]) (rest := []) (r := some (.int (nI n))) C (c_add_n (S := S3) hG h hn8 l3.1 l3.2 (hu := hu) (on := on) hu3 f3.2.2.1 nx f3.2.1) tm_341 tm_343 tm_879 tm_1 tm_344 hdX8_add ⟨Nat.le_of_ble_eq_true rfl, Nat.le_of_ble_eq_true rfl⟩ (rcv_8 C hP h.1.1 h.1.2) hl.1 rfl (Nat.le_of_ble_eq_true rfl) dX8_consumer_126 ⟨Nat.le_of_ble_eq_true rfl, Nat.le_of_ble_eq_true rfl⟩ hP hD hS (fun S4 H locs hQ hP hD hS => ?_)
  exact ct_iret C hS hP hD (⟨rfl, _, rfl, q0, M0, q1, S1, S3, hq0, eM0, hQ1, eS3, hQ⟩) (Nat.le_of_ble_eq_true rfl) (Nat.le_of_ble_eq_true rfl) dX8_consumer_129
set_option maxRecDepth 100000 in
theorem c_cons_p {l : Launch} {s0 : State} {D : va_G} {cA : Nat → ClassId} (hG : cx_G l s0 D cA) {S : Mem} {x r ca pa n v g u N : Nat} {A1 : Nat → Nat} {hu : Int32} {cq : Int64} {t : Nat} (k on po : Int32)  (h : plA S x r ca pa n A1) (hg : rgA S r v g u N) (hk : (0 : Int32) ≤ k ∧ k ≤ 3) (hpo : (0 : Int32) ≤ po ∧ po ≤ 2) (hon : (on.toUInt32 >>> ((nI n).toUInt32 &&& Int32.toUInt32 31)).toInt32 = 0) (hn8 : n < 8) (hcu : mJ S 3 r = cq) (hc0 : cq < 0) (hhu : mI S 4 x = hu) (ht : t < 2) (hp2 : ¬ po = 2) (hp1 : ∀ q, maR S pa t = some q → (q ∈ mL S ∧ mK S q = 3) ∧ mI S 0 q = on) (hp0 : ∀ q, maR S pa t = some q → ∃ pw sz, poA S q pw sz) : PC l s0 D cA yX8_consumer cX8_consumer 5 (some .int) rmX8_consumer [.ref x, .int k, .int on, .int po, .int (nI t)] S (some (.int (nI n))) (fun S1 => ∃ q0 M0 q1 M1 pt M2 pw sz M3, q0 ∉ mL S ∧ M0 = nw S q0 0 0 ∧ NHp k M0 q1 M1 ∧ PJp pa t on M1 pt M2 ∧ poA M2 pt pw sz ∧ M3 = ciS M2 q0 q1 on po (some pt) ∧ S1 = uI (uI (uaR (uI (uaR M3 pw sz (some q0)) 2 pt (nI (sz + 1))) ca n (some q0)) 4 x (hu ||| on)) 3 x (nI (n + 1))) := by
  have hk4 : k = 0 ∨ k = 1 ∨ k = 2 ∨ k = 3 := by
    obtain ⟨j, hj, rfl⟩ := wi_of (n := 4) (by decide) (cn := k) (by rw [show nI 4 - 1 = (3 : Int32) by decide]; exact hk)
    have : j = 0 ∨ j = 1 ∨ j = 2 ∨ j = 3 := by omega
    rcases this with rfl | rfl | rfl | rfl
    · exact Or.inl rfl
    · exact Or.inr (Or.inl rfl)
    · exact Or.inr (Or.inr (Or.inl rfl))
    · exact Or.inr (Or.inr (Or.inr rfl))
  have hx00 := h.1.1
  have hca00 := h.2.2.1.1
  have h00 := h
  refine Ct.of (cA := cA) hG (by decide +kernel) (Nat.le_of_ble_eq_true rfl) ?_
  intro p e s m below meth c A C hnm hP hD hS ls hl
  have hx := cx_x C
  have hb := cx_b C
  have hl : lv_has ls 5 [(0, .ref x), (1, .int k), (2, .int on), (3, .int po), (4, .int (nI t))] := hl
  refine lv_iload_n hx hb dX8_consumer_0 rfl (lv_at hl 1 rfl) ?_
  refine lv_iconst (v := 0) hx hb dX8_consumer_1 (by decide) ?_
  refine lv_iconst (v := 3) hx hb dX8_consumer_2 (by decide) ?_
  refine ct_S0 (As := [.int k, .int 0, .int 3]) (rest := []) (r := some (.int 1)) C (w8_1 hG _ _ _ (hk)) tm_93 tm_94 tm_1 tm_95 hdX8_isWithin.2 ⟨Nat.le_of_ble_eq_true rfl, Nat.le_of_ble_eq_true rfl⟩ hl.1 rfl (Nat.le_of_ble_eq_true rfl) dX8_consumer_3 ⟨Nat.le_of_ble_eq_true rfl, Nat.le_of_ble_eq_true rfl⟩ hP hD hS (fun H locs hP hD hS => ?_)
  refine lv_if_eq (tgt := 18) hx hb dX8_consumer_6 (by decide) (fun h9 => absurd h9 (by decide)) (fun _ => ?_)
  refine lv_iload_n hx hb dX8_consumer_9 rfl (lv_at hl 3 rfl) ?_
  refine lv_iconst (v := 0) hx hb dX8_consumer_10 (by decide) ?_
  refine lv_iconst (v := 2) hx hb dX8_consumer_11 (by decide) ?_
  refine ct_S0 (As := [.int po, .int 0, .int 2]) (rest := []) (r := some (.int 1)) C (w8_1 hG _ _ _ (hpo)) tm_93 tm_94 tm_1 tm_95 hdX8_isWithin.2 ⟨Nat.le_of_ble_eq_true rfl, Nat.le_of_ble_eq_true rfl⟩ hl.1 rfl (Nat.le_of_ble_eq_true rfl) dX8_consumer_12 ⟨Nat.le_of_ble_eq_true rfl, Nat.le_of_ble_eq_true rfl⟩ hP hD hS (fun H locs hP hD hS => ?_)
  refine lv_if_ne (tgt := 28) hx hb dX8_consumer_15 (by decide) (fun _ => ?_) (fun h9 => absurd h9 (by decide))
  refine lv_iload_n hx hb dX8_consumer_28 rfl (lv_at hl 2 rfl) ?_
  refine lv_aload_n hx hb dX8_consumer_29 rfl (lv_at hl 0 rfl) ?_
  refine gv_8_3 (v := nI n) C hP h.1.1 h.1.2 (h.2.2.2.2.1) tm_61 dX8_consumer_30 ?_
  refine lv_iushr (v := (on.toUInt32 >>> ((nI n).toUInt32 &&& Int32.toUInt32 31)).toInt32) hx hb dX8_consumer_33 rfl ?_
  refine lv_if_eq (tgt := 47) hx hb dX8_consumer_34 (by decide) (fun _ => ?_) (fun h9 => absurd (hon) h9)
  refine lv_iload hx hb dX8_consumer_47 (lv_at hl 4 rfl) ?_
  refine lv_iconst (v := (-1)) hx hb dX8_consumer_49 (by decide) ?_
  refine lv_icmp_eq (tgt := 74) hx hb dX8_consumer_50 (by decide) (fun h9 => absurd h9 (fun e => absurd (nI_pos (n := t) (by omega)) (by rw [e]; decide))) (fun _ => ?_)
  refine lv_aload_n hx hb dX8_consumer_53 rfl (lv_at hl 0 rfl) ?_
  refine lv_iload hx hb dX8_consumer_54 (lv_at hl 4 rfl) ?_
  refine lv_iload_n hx hb dX8_consumer_56 rfl (lv_at hl 2 rfl) ?_
  refine lv_iload_n hx hb dX8_consumer_57 rfl (lv_at hl 3 rfl) ?_
  refine pc_V (As := [.int (nI t), .int on, .int po]) (rest := []) (r := some (.int 1)) C (c_mj (S := S) hG on po h ht hp2 hp1) tm_166 tm_168 tm_877 tm_1 tm_169 hdX8_mayJoin ⟨Nat.le_of_ble_eq_true rfl, Nat.le_of_ble_eq_true rfl⟩ (rcv_8 C hP h.1.1 h.1.2) hl.1 rfl (Nat.le_of_ble_eq_true rfl) dX8_consumer_58 ⟨Nat.le_of_ble_eq_true rfl, Nat.le_of_ble_eq_true rfl⟩ hP hD hS (fun S1 H locs hQ hP hD hS => ?_)
  rw [hQ] at hP hD
  refine lv_if_ne (tgt := 74) hx hb dX8_consumer_61 (by decide) (fun _ => ?_) (fun h9 => absurd h9 (by decide))
  refine lv_aload_n hx hb dX8_consumer_74 rfl (lv_at hl 0 rfl) ?_
  refine gv_8_3 (v := nI n) C hP h.1.1 h.1.2 (h.2.2.2.2.1) tm_61 dX8_consumer_75 ?_
  refine lv_bipush (v := 8) hx hb dX8_consumer_78 (by decide) ?_
  refine lv_icmp_ge (tgt := 95) hx hb dX8_consumer_80 (by decide) (fun h9 => absurd h9 (nI_ge hn8 (by decide))) (fun _ => ?_)
  refine lv_aload_n hx hb dX8_consumer_83 rfl (lv_at hl 0 rfl) ?_
  refine gf_8_0s (b := r) C hP h.1.1 h.1.2 (h.2.1.1) tm_58 dX8_consumer_84 ?_
  refine gv_5_3 (v := cq) C hP hg.1.1 hg.1.2 (hcu) tm_42 dX8_consumer_87 ?_
  refine lv_lconst (v := 0) hx hb dX8_consumer_90 (by decide) ?_
  refine W.lcmp hx hb dX8_consumer_91 ?_
  refine lv_if_lt (tgt := 105) hx hb dX8_consumer_92 (by decide) (fun _ => ?_) (fun h9 => absurd (by rw [lg_cmp_lt]; exact hc0) h9)
  refine lv_aload_n hx hb dX8_consumer_105 rfl (lv_at hl 0 rfl) ?_
  refine nwo_0 C hP hD hS tm_27 (Nat.le_of_ble_eq_true rfl) (Nat.le_of_ble_eq_true rfl) dX8_consumer_106 (fun q0 H hq0 hP hD hS => ?_)
  obtain ⟨M0, eM0⟩ : ∃ M9, M9 = nw S q0 0 0 := ⟨_, rfl⟩
  rw [← eM0] at hP hD
  have lM0_0 : x ∈ mL M0 := by rw [eM0]; exact nw_L (S := S) (q := q0) (k := 0) (n := 0) (a := x) h.1.1
  have kM0_0 := (show mK M0 x = mK S x by rw [eM0]; exact nw_K (S := S) (q := q0) (k := 0) (n := 0) (a := x) h.1.1 hq0).trans h.1.2
  have lM0_1 : ca ∈ mL M0 := by rw [eM0]; exact nw_L (S := S) (q := q0) (k := 0) (n := 0) (a := ca) h.2.2.1.1
  have kM0_1 := (show mK M0 ca = mK S ca by rw [eM0]; exact nw_K (S := S) (q := q0) (k := 0) (n := 0) (a := ca) h.2.2.1.1 hq0).trans h.2.2.1.2.1
  have nM0_1 := (show mN M0 ca = mN S ca by rw [eM0]; exact nw_N (S := S) (q := q0) (k := 0) (n := 0) (a := ca) h.2.2.1.1 hq0).trans h.2.2.1.2.2
  have lM0_2 : pa ∈ mL M0 := by rw [eM0]; exact nw_L (S := S) (q := q0) (k := 0) (n := 0) (a := pa) h.2.2.2.1.1
  have kM0_2 := (show mK M0 pa = mK S pa by rw [eM0]; exact nw_K (S := S) (q := q0) (k := 0) (n := 0) (a := pa) h.2.2.2.1.1 hq0).trans h.2.2.2.1.2.1
  have nM0_2 := (show mN M0 pa = mN S pa by rw [eM0]; exact nw_N (S := S) (q := q0) (k := 0) (n := 0) (a := pa) h.2.2.2.1.1 hq0).trans h.2.2.2.1.2.2
  have lM0_3 : r ∈ mL M0 := by rw [eM0]; exact nw_L (S := S) (q := q0) (k := 0) (n := 0) (a := r) hg.1.1
  have kM0_3 := (show mK M0 r = mK S r by rw [eM0]; exact nw_K (S := S) (q := q0) (k := 0) (n := 0) (a := r) hg.1.1 hq0).trans hg.1.2
  have lM0q : q0 ∈ mL M0 := by rw [eM0]; exact nw_q (S := S) (q := q0) (k := 0) (n := 0)
  have kM0q : mK M0 q0 = 0 := by rw [eM0]; exact nw_Kq (S := S) (q := q0) (k := 0) (n := 0)
  have exM : ex (fun _ => False) S M0 := by rw [eM0]; exact ex_nw hq0
  have hM0 := exM x hx00
  have hM0p := exM pa h.2.2.2.1.1
  have h : plA M0 x r ca pa n A1 := by rw [eM0]; exact plA_ex (X := fun _ => False) (ex_nw hq0) id id h
  refine lv_dup hx hb dX8_consumer_109 rfl ?_
  refine lv_iload_n hx hb dX8_consumer_110 rfl (lv_at hl 1 rfl) ?_
  refine pe_S (As := [.int k]) (rest := [.ref q0, .ref q0, .ref x]) C (c_nh (S := M0) hG k hk4) tm_188 tm_189 tm_1 tm_190 hdX8_newHandler.2 ⟨Nat.le_of_ble_eq_true rfl, Nat.le_of_ble_eq_true rfl⟩ hl.1 rfl (Nat.le_of_ble_eq_true rfl) dX8_consumer_111 ⟨Nat.le_of_ble_eq_true rfl, Nat.le_of_ble_eq_true rfl⟩ hP hD hS (fun q1 S1 H locs hQ1 hP hD hS => ?_)
  have hx1 := hQ1.2.1
  have h : plA S1 x r ca pa n A1 := plA_ex hx1 id id h
  refine lv_iload_n hx hb dX8_consumer_114 rfl (lv_at hl 2 rfl) ?_
  refine lv_iload_n hx hb dX8_consumer_115 rfl (lv_at hl 3 rfl) ?_
  refine lv_aload_n hx hb dX8_consumer_116 rfl (lv_at hl 0 rfl) ?_
  refine lv_iload hx hb dX8_consumer_117 (lv_at hl 4 rfl) ?_
  refine lv_iload_n hx hb dX8_consumer_119 rfl (lv_at hl 2 rfl) ?_
  refine pe_V (As := [.int (nI t), .int on]) (rest := [.int po, .int on, .ref q1, .ref q0, .ref q0, .ref x]) C (c_pj (S := S1) hG on h ht) tm_258 tm_260 tm_878 tm_1 tm_261 hdX8_poolToJoin ⟨Nat.le_of_ble_eq_true rfl, Nat.le_of_ble_eq_true rfl⟩ (rcv_8 C hP h.1.1 h.1.2) hl.1 rfl (Nat.le_of_ble_eq_true rfl) dX8_consumer_120 ⟨Nat.le_of_ble_eq_true rfl, Nat.le_of_ble_eq_true rfl⟩ hP hD hS (fun pt S2 H locs hQ2 hP hD hS => ?_)
  have hq1S := hx1 q0 lM0q
  have pa1 := h.2.2.2.1.1
  have hp3 : ∀ q, maR S1 pa t = some q → ∃ pw sz, poA S1 q pw sz := fun q e => by
    have e0 : maR S pa t = some q := by rw [← ((hM0p.2.2.2 id).2.2.2.2.2.2.2), ← (((hx1 pa hM0p.1).2.2.2 id).2.2.2.2.2.2.2)]; exact e
    obtain ⟨pw, sz, z⟩ := hp0 q e0
    exact ⟨pw, sz, poA_ex hx1 id (poA_ex (X := fun _ => False) (by rw [eM0]; exact ex_nw hq0) id z)⟩
  obtain ⟨hx2, pw, sz, po2⟩ := PJ_ok hQ2 pa1 hp3
  have npa0 : q0 ≠ pa := fun e => hq0 (e ▸ h00.2.2.2.1.1)
  have lq2 := (hx2 q0 hq1S.1).1
  have kq2 := (hx2 q0 hq1S.1).2.1.trans (hq1S.2.1.trans kM0q)
  have nxp : x ≠ pa := fun e => by have := h.1.2; rw [e, h.2.2.2.1.2.1] at this; exact absurd this (by decide)
  have ncp : ca ≠ pa := fun e => by have := h.2.2.1.2.1; rw [e, h.2.2.2.1.2.1] at this; exact absurd this (by decide)
  have h : plA S2 x r ca pa n A1 := plA_ex hx2 nxp ncp h
  refine pc_I (As := [.ref q1, .int on, .int po, .ref pt]) (rest := [.ref q0, .ref x]) C (c_cini_s (S := S2) (b := pt) hG on po lq2 kq2) tm_282 tm_283 tm_9 tm_284 rfl hdX0_init.2 ⟨Nat.le_of_ble_eq_true rfl, Nat.le_of_ble_eq_true rfl⟩ hl.1 rfl (Nat.le_of_ble_eq_true rfl) dX8_consumer_123 ⟨Nat.le_of_ble_eq_true rfl, Nat.le_of_ble_eq_true rfl⟩ hP hD hS (fun S3 H locs hQ hP hD hS => ?_)
  have eS3 : S3 = ciS S2 q0 q1 on po (some pt) := hQ
  have hx3 : ex (fun z => z = q0) S2 S3 := by rw [eS3]; exact ciS_ex
  have f3 := ciS_f (S := S2) (a := q0) (h := q1) (on := on) (po := po) (pt := (some pt))
  rw [← eS3] at f3
  have nx : x ≠ q0 := nw_ne hx00 hq0
  have nca : ca ≠ q0 := nw_ne hca00 hq0
  have h : plA S3 x r ca pa n A1 := plA_ex hx3 nx nca h
  have l3 : q0 ∈ mL S3 ∧ mK S3 q0 = 0 := ⟨(hx3 q0 lq2).1, (hx3 q0 lq2).2.1.trans kq2⟩
  have npq : pt ≠ q0 := fun e => by have := po2.1.2; rw [e, kq2] at this; exact absurd this (by decide)
  have po3 : poA S3 pt pw sz := poA_ex hx3 npq po2
  have npx : x ≠ pt := fun e => by have := po3.1.2; rw [← e, h.1.2] at this; exact absurd this (by decide)
  have hu3 : mI S3 4 x = hu := ((hx3 x (hx2 x (hx1 x (hM0.1)).1).1).2.2.2 nx).1 4 |>.trans (((hx2 x (hx1 x hM0.1).1).2.2.2 nxp).1 4 |>.trans (((hx1 x hM0.1).2.2.2 id).1 4 |>.trans ((hM0.2.2.2 id).1 4 |>.trans hhu)))
  refine pc_V (As := [.ref q0]) (rest := []) (r := some (.int (nI n))) C (c_add_p (S := S3) hG h hn8 l3.1 l3.2 (hu := hu) (on := on) hu3 f3.2.2.1 nx f3.2.1 po3.1.1 po3.1.2 po3.2.1 po3.2.2.1 po3.2.2.2.1 po3.2.2.2.2 npx (fun e => npq e.symm)) tm_341 tm_343 tm_879 tm_1 tm_344 hdX8_add ⟨Nat.le_of_ble_eq_true rfl, Nat.le_of_ble_eq_true rfl⟩ (rcv_8 C hP h.1.1 h.1.2) hl.1 rfl (Nat.le_of_ble_eq_true rfl) dX8_consumer_126 ⟨Nat.le_of_ble_eq_true rfl, Nat.le_of_ble_eq_true rfl⟩ hP hD hS (fun S4 H locs hQ hP hD hS => ?_)
  exact ct_iret C hS hP hD (⟨rfl, _, rfl, q0, M0, q1, S1, pt, S2, pw, sz, S3, hq0, eM0, hQ1, hQ2, po2, eS3, hQ⟩) (Nat.le_of_ble_eq_true rfl) (Nat.le_of_ble_eq_true rfl) dX8_consumer_129
