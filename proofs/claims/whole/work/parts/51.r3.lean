/-! ===== a batch and a worker's turn, as far as the relation needs them ===== -/
/-- T is P but for consumer j's entries of the arrays Z, and for what pool t has taken -/
def frJ (Z : Nat → Prop) (j t : Nat) (P T : MS) : Prop := qS T = qS P ∧ qR T = qR P ∧ (∀ k i, (i ≠ j ∨ ¬ Z k) → k ≠ 26 → k ≠ 21 → qI T k i = qI P k i) ∧ (∀ i, i ≠ t → qI T 21 i = qI P 21 i) ∧ (∀ q, (q < 400 * j ∨ 400 * j + 400 ≤ q) → qI T 26 q = qI P 26 q) ∧ qJ T 5 = qJ P 5 ∧ (∀ i, i ≠ j → qJ T 22 i = qJ P 22 i ∧ qF T i = qF P i ∧ qD T i = qD P i)
section FrJ
variable {Z : Nat → Prop} {j t : Nat} {P T U : MS}
theorem frJ_rf : frJ Z j t P P := ⟨rfl, rfl, fun _ _ _ _ _ => rfl, fun _ _ => rfl, fun _ _ => rfl, rfl, fun _ _ => ⟨rfl, rfl, rfl⟩⟩
theorem frJ_tr (h1 : frJ Z j t P T) (h2 : frJ Z j t T U) : frJ Z j t P U := by
  obtain ⟨a1, a2, a3, a4, a5, a6, a7⟩ := h1
  obtain ⟨b1, b2, b3, b4, b5, b6, b7⟩ := h2
  exact ⟨b1.trans a1, b2.trans a2, fun k i h c d => (b3 k i h c d).trans (a3 k i h c d), fun i h => (b4 i h).trans (a4 i h), fun q h => (b5 q h).trans (a5 q h), b6.trans a6, fun i h => ⟨(b7 i h).1.trans (a7 i h).1, (b7 i h).2.1.trans (a7 i h).2.1, (b7 i h).2.2.trans (a7 i h).2.2⟩⟩
theorem frJ_sI {k : Nat} {v : Int32} (hk : Z k) (h6 : k ≠ 26) (h1 : k ≠ 21) : frJ Z j t P (sI P k j v) :=
  ⟨rfl, rfl, fun a i h _ _ => by rw [qI_if, if_neg]; rintro ⟨rfl, rfl⟩; exact h.elim (fun q => q rfl) (fun q => q hk), fun i _ => by rw [qI_if, if_neg (fun q => h1 q.1.symm)], fun q _ => by rw [qI_if, if_neg (fun q => h6 q.1.symm)], rfl, fun _ _ => ⟨rfl, rfl, rfl⟩⟩
theorem frJ_21 {v : Int32} : frJ Z j t P (sI P 21 t v) :=
  ⟨rfl, rfl, fun a i _ _ h1 => by rw [qI_if, if_neg (fun q => h1 q.1)], fun i h => by rw [qI_if, if_neg (fun q => h q.2)], fun q _ => by rw [qI_if, if_neg (fun q => absurd q.1 (by decide))], rfl, fun _ _ => ⟨rfl, rfl, rfl⟩⟩
theorem frJ_26 {q : Nat} {v : Int32} (hq : 400 * j ≤ q ∧ q < 400 * j + 400) : frJ Z j t P (sI P 26 q v) :=
  ⟨rfl, rfl, fun a i _ h6 _ => by rw [qI_if, if_neg (fun q => h6 q.1)], fun i _ => by rw [qI_if, if_neg (fun q => absurd q.1 (by decide))], fun z hz => by rw [qI_if, if_neg (fun e => by have := e.2; omega)], rfl, fun _ _ => ⟨rfl, rfl, rfl⟩⟩
theorem frJ_22 {v : Int64} : frJ Z j t P (sJ P 22 j v) :=
  ⟨rfl, rfl, fun _ _ _ _ _ => rfl, fun _ _ => rfl, fun _ _ => rfl, funext fun i => by rw [qJ_if, if_neg (fun q => absurd q.1 (by decide))], fun i h => ⟨by rw [qJ_if, if_neg (fun q => h q.2)], rfl, rfl⟩⟩
theorem frJ_F {v : UInt32} : frJ Z j t P (sF P j v) :=
  ⟨rfl, rfl, fun _ _ _ _ _ => rfl, fun _ _ => rfl, fun _ _ => rfl, rfl, fun i h => ⟨rfl, by simp [qF, sF, vf_upd, h], rfl⟩⟩
theorem frJ_D {v : UInt64} : frJ Z j t P (sD P j v) :=
  ⟨rfl, rfl, fun _ _ _ _ _ => rfl, fun _ _ => rfl, fun _ _ => rfl, rfl, fun i h => ⟨rfl, rfl, by simp [qD, sD, vf_upd, h]⟩⟩
theorem frJ_pt {z : Nat} {v : Int32} (h5 : Z 25) (hz : z < 400) : frJ Z j t P (ptS P j z v) := frJ_tr (frJ_26 ⟨by omega, by omega⟩) (frJ_sI h5 (by decide) (by decide))
theorem frJ_pb {v : Int64} (h5 : Z 25) : ∀ (k z : Nat) (P : MS), z + k ≤ 400 → frJ Z j t P (pbL j v k z P)
  | 0, _, _, _ => frJ_rf
  | k + 1, z, P, h => frJ_tr (frJ_pt h5 (by omega)) (frJ_pb h5 k (z + 1) _ (by omega))
theorem frJ_rec {s z : Nat} {v : Int64} {g : Int32} (h5 : Z 25) (hz : z + 13 ≤ 400) : frJ Z j t P (recS P j s z v g) := by
  unfold recS recA
  exact frJ_tr (frJ_tr (frJ_tr (frJ_tr (frJ_tr (frJ_pt h5 (by omega)) (frJ_pt h5 (by omega))) (frJ_pt h5 (by omega))) (frJ_pb h5 8 (z + 3) _ (by omega))) (frJ_pt h5 (by omega))) (frJ_pt h5 (by omega)) |> id
theorem frJ_h {ev sl b : Nat} (h5 : Z 25) (h15 : Z 15) (hI : bInv P j sl b) (ho : hB P j ev sl = true) : frJ Z j t P (hSf P j ev sl) := by
  have f15 : frJ Z j t P (sI P 15 j (qI P 15 j + 1)) := frJ_sI h15 (by decide) (by decide)
  rcases hI.2.1 with h | h | h | h
  · rw [hSf_0 h]; exact frJ_tr f15 frJ_22
  · rw [hSf_1 h]; exact frJ_tr f15 frJ_F
  · rw [hSf_2 h]; exact frJ_tr f15 frJ_D
  · obtain ⟨z, hz, ez⟩ := hI.2.2.2.2.2.2
    have h13 := (hOk_t ho).2.2 h
    rw [ez] at h13
    rw [hSf_3 h ez hz]
    exact frJ_tr f15 (frJ_rec h5 (nI_le13 hz h13))
end FrJ
def Zb (k : Nat) : Prop := (13 ≤ k ∧ k ≤ 19) ∨ k = 25
def Zw (k : Nat) : Prop := k = 14 ∨ k = 15 ∨ k = 16 ∨ k = 20 ∨ k = 25
theorem frJ_stq {j t : Nat} {P : MS} {b a c : Int32} : frJ Zb j t P (stq P j b a c) := by
  unfold stq
  exact frJ_tr (frJ_tr (frJ_sI (Or.inl (by decide)) (by decide) (by decide)) (frJ_sI (Or.inl (by decide)) (by decide) (by decide))) (frJ_sI (Or.inl (by decide)) (by decide) (by decide))
theorem frJ_an {j t : Nat} {P : MS} {s9 : Int32} : frJ Zb j t P (anS P j s9) := by
  unfold anS
  exact frJ_tr (frJ_sI (Or.inl (by decide)) (by decide) (by decide)) (frJ_sI (Or.inl (by decide)) (by decide) (by decide))
theorem frJ_rw {j t : Nat} {B P : MS} : frJ Zb j t P (rwS B P j) := by
  unfold rwS
  exact frJ_tr (frJ_tr (frJ_tr (frJ_tr (frJ_tr (frJ_tr (frJ_tr (frJ_sI (Or.inl (by decide)) (by decide) (by decide)) frJ_22) frJ_F) frJ_D) (frJ_sI (Or.inr rfl) (by decide) (by decide))) (frJ_sI (Or.inl (by decide)) (by decide) (by decide))) (frJ_sI (Or.inl (by decide)) (by decide) (by decide))) (frJ_sI (Or.inl (by decide)) (by decide) (by decide))
theorem frJ_wst {j t : Nat} {P : MS} {b a c : Int32} : frJ Zw j t P (wst P j b a c) := by
  unfold wst
  exact frJ_tr (frJ_tr (frJ_sI (Or.inl rfl) (by decide) (by decide)) (frJ_sI (Or.inr (Or.inr (Or.inl rfl))) (by decide) (by decide))) (frJ_sI (Or.inr (Or.inr (Or.inr (Or.inl rfl)))) (by decide) (by decide))
theorem frJ_wP {j t : Nat} {P : MS} : frJ Zw j t P (wP P j t) := by
  unfold wP
  split
  · unfold tkS
    exact frJ_tr (frJ_sI (Or.inr (Or.inr (Or.inr (Or.inl rfl)))) (by decide) (by decide)) frJ_21
  · exact frJ_rf
theorem bInv_mo {P : MS} {j sl b b' : Nat} (h : bInv P j sl b) (hb : b ≤ b') : bInv P j sl b' := by
  obtain ⟨h1, h2, h3, h4, h5, ⟨q, hq, e⟩, h7⟩ := h
  exact ⟨h1, h2, h3, h4, h5, ⟨q, by omega, e⟩, h7⟩
theorem bt_ok {fr j sl pB b0 : Nat} {B : MS} (hfr : fr ≤ 8208) (hpB : pB ≤ 8208) (hB13 : qI B 13 j = nI pB - 1) (hBI : bInv B j sl b0) : ∀ (d i : Nat) (P : MS) (pq b : Nat), qI P 13 j = nI pq - 1 → pB ≤ pq → (pq = pB ∨ pq ≤ fr) → bInv P j sl b → b0 ≤ b → b + d < 2 ^ 30 →
    frJ Zb j 2 P (bt (nI fr - 1) j sl B d i P).1 ∧ bInv (bt (nI fr - 1) j sl B d i P).1 j sl (b + d) ∧ ∃ pn, qI (bt (nI fr - 1) j sl B d i P).1 13 j = nI pn - 1 ∧ pB ≤ pn ∧ (pn = pB ∨ pn ≤ fr)
  | 0, i, P, pq, b, h13, h1, h2, hI, _, _ => ⟨frJ_rf, hI, pq, h13, h1, h2⟩
  | d + 1, i, P, pq, b, h13, h1, h2, hI, hb0, hb => by
    have hpq : pq ≤ 8208 := by omega
    have hev : evO P j = pq := by unfold evO; rw [h13, nIm_1, nI_clamp (by omega)]
    have hnx : qI P 13 j + 1 = nI pq := by rw [h13, nIm_1]
    rw [bt, hev]
    by_cases c1 : qI P 13 j < nI fr - 1 ∧ qI P 14 j = 0
    · rw [if_pos c1]
      have hlt : pq < fr := by have := c1.1; rw [h13] at this; exact (nIm_lm (by omega) (by omega)).mp this
      by_cases c2 : hB P j pq sl = true
      · rw [if_pos c2]
        obtain ⟨f, g, w⟩ := bt_ok hfr hpB hB13 hBI d (i + 1) (stq (hSf P j pq sl) j 0 0 1) (pq + 1) (b + 1) (stq_13 (congrFun (hS_k (by decide) (by decide) (by decide)) j) hnx) (by omega) (Or.inr (by omega)) (bInv_stq (bInv_h hI (by omega) c2)) (by omega) (by omega)
        exact ⟨frJ_tr (frJ_tr (frJ_h (Or.inr rfl) (Or.inl (by decide)) hI c2) frJ_stq) f, bInv_mo g (by omega), w⟩
      · rw [if_neg c2]
        by_cases c3 : qI P 11 j = 1
        · rw [if_pos c3]
          exact ⟨frJ_stq, bInv_mo (bInv_stq hI) (by omega), pq, stq_13h h13, h1, h2⟩
        · rw [if_neg c3]
          by_cases c4 : qI P 11 j = 2
          · rw [if_pos c4]
            by_cases c5 : tmS P j (nI pq) < 3
            · rw [if_pos c5]
              refine ⟨frJ_tr frJ_an frJ_rw, ?_, pB, (rw_13 _ _ _).trans hB13, Nat.le_refl _, Or.inl rfl⟩
              obtain ⟨k1, k2, k3, -⟩ := hI
              obtain ⟨-, -, -, k4, k5, ⟨q, hq, k6⟩, k7⟩ := hBI
              have F := frJ_tr (frJ_an (j := j) (t := 2) (P := P) (s9 := nI pq)) (frJ_rw (B := B))
              have e9 := F.2.2.1 9 j (Or.inr (by unfold Zb; omega)) (by decide) (by decide)
              have e11 := F.2.2.1 11 j (Or.inr (by unfold Zb; omega)) (by decide) (by decide)
              refine ⟨by rw [F.1]; exact k1, by rw [e9]; exact k2, by rw [e11]; exact k3, by rw [qF_rw]; exact k4, by rw [qD_rw]; exact k5, ⟨q, by omega, by rw [rw_15]; exact k6⟩, ?_⟩
              obtain ⟨z, hz, ez⟩ := k7
              exact ⟨z, hz, by rw [rw_25]; exact ez⟩
            · rw [if_neg c5]
              obtain ⟨f, g, w⟩ := bt_ok hfr hpB hB13 hBI d (i + 1) (stq (sI (anS P j (nI pq)) 19 j 0) j 0 1 1) (pq + 1) b (stq_13 rfl hnx) (by omega) (Or.inr (by omega)) (bInv_stq (bInv_an hI)) (by omega) (by omega)
              exact ⟨frJ_tr (frJ_tr (frJ_tr frJ_an (frJ_sI (Or.inl (by decide)) (by decide) (by decide))) frJ_stq) f, bInv_mo g (by omega), w⟩
          · rw [if_neg c4]
            obtain ⟨f, g, w⟩ := bt_ok hfr hpB hB13 hBI d (i + 1) (stq P j 0 1 1) (pq + 1) b (stq_13 rfl hnx) (by omega) (Or.inr (by omega)) (bInv_stq hI) (by omega) (by omega)
            exact ⟨frJ_tr frJ_stq f, bInv_mo g (by omega), w⟩
    · rw [if_neg c1]
      exact ⟨frJ_rf, bInv_mo hI (by omega), pq, h13, h1, h2⟩
theorem wP_f {j t hq tk : Nat} {P : MS} (h20 : qI P 20 j = nI hq - 1) (h21 : qI P 21 t = nI tk) (h9 : hq ≤ 9000) : ∃ h1 t1, qI (wP P j t) 20 j = nI h1 - 1 ∧ qI (wP P j t) 21 t = nI t1 ∧ ((hq = 0 ∧ h1 = tk + 1 ∧ t1 = tk + 1) ∨ (0 < hq ∧ h1 = hq ∧ t1 = tk)) := by
  unfold wP
  by_cases c : hq = 0
  · rw [if_pos (by rw [h20, c]; decide)]
    refine ⟨tk + 1, tk + 1, ?_, ?_, Or.inl ⟨c, rfl, rfl⟩⟩
    · rw [tkS, sI_k (by decide), qI_s, h21, nI_pred]
    · rw [tkS, qI_s, h21, nI_1]
  · rw [if_neg (by rw [h20]; exact Int32.not_lt.mpr ((nIm_pos (by omega)).mpr (by omega)))]
    exact ⟨hq, tk, h20, h21, Or.inr ⟨by omega, rfl, rfl⟩⟩
theorem wk_ok {fr j t sl : Nat} (hfr : fr ≤ 8208) : ∀ (d i : Nat) (P : MS) (hq tk b : Nat), qI P 20 j = nI hq - 1 → qI P 21 t = nI tk → hq ≤ tk → tk + d ≤ 9000 → bInv P j sl b → b + d < 2 ^ 30 →
    frJ Zw j t P (wk (nI fr - 1) j t sl d i P).1 ∧ bInv (wk (nI fr - 1) j t sl d i P).1 j sl (b + d) ∧ ∃ hn tn, qI (wk (nI fr - 1) j t sl d i P).1 20 j = nI hn - 1 ∧ qI (wk (nI fr - 1) j t sl d i P).1 21 t = nI tn ∧ hn ≤ tn ∧ tk ≤ tn ∧ tn ≤ tk + d ∧ (hn = 0 ∨ hn = hq ∨ tk < hn) ∧ ∀ e, e < tn → (e < tk ∧ e + 1 ≠ hq) ∨ e + 1 = hn ∨ e < fr
  | 0, i, P, hq, tk, b, h20, h21, h1, _, hI, _ => ⟨frJ_rf, hI, hq, tk, h20, h21, h1, Nat.le_refl _, Nat.le_refl _, Or.inr (Or.inl rfl), fun e he => by
      by_cases c : e + 1 = hq
      · exact Or.inr (Or.inl c)
      · exact Or.inl ⟨he, c⟩⟩
  | d + 1, i, P, hq, tk, b, h20, h21, h1, h9, hI, hb => by
    obtain ⟨a1, t1, e20, e21, hc⟩ := wP_f (j := j) (t := t) h20 h21 (by omega)
    have ha1 : 0 < a1 ∧ a1 ≤ t1 ∧ t1 ≤ tk + 1 ∧ tk ≤ t1 ∧ t1 ≤ 9000 := by omega
    have hIw := bInv_wP (t := t) hI
    have hev : evW (wP P j t) j = a1 - 1 := by unfold evW; rw [e20, nIm_S ha1.1, nI_clamp (by omega)]
    rw [wk, hev]
    by_cases c1 : nI fr - 1 < qI (wP P j t) 20 j
    · rw [if_pos c1]
      refine ⟨frJ_wP, bInv_mo hIw (by omega), a1, t1, e20, e21, by omega, by omega, by omega, by omega, fun e he => ?_⟩
      rcases hc with ⟨q1, q2, q3⟩ | ⟨q1, q2, q3⟩ <;> omega
    · rw [if_neg c1]
      have hlt : a1 ≤ fr := by
        rw [e20] at c1
        exact Nat.le_of_not_lt (fun q => c1 ((nIm_lm (a := fr) (b := a1) (by omega) (by omega)).mpr q))
      have fin : ∀ X : MS, frJ Zw j t (wP P j t) X → bInv X j sl (b + 1) → qI X 20 j = nI 0 - 1 → qI X 21 t = nI t1 → frJ Zw j t P (wk (nI fr - 1) j t sl d (i + 1) X).1 ∧ bInv (wk (nI fr - 1) j t sl d (i + 1) X).1 j sl (b + (d + 1)) ∧ ∃ hn tn, qI (wk (nI fr - 1) j t sl d (i + 1) X).1 20 j = nI hn - 1 ∧ qI (wk (nI fr - 1) j t sl d (i + 1) X).1 21 t = nI tn ∧ hn ≤ tn ∧ tk ≤ tn ∧ tn ≤ tk + (d + 1) ∧ (hn = 0 ∨ hn = hq ∨ tk < hn) ∧ ∀ e, e < tn → (e < tk ∧ e + 1 ≠ hq) ∨ e + 1 = hn ∨ e < fr := by
        intro X fX bX x20 x21
        obtain ⟨f, g, hn, tn, r1, r2, r3, r4, r5, r6, r7⟩ := wk_ok hfr d (i + 1) X 0 t1 (b + 1) x20 x21 (by omega) (by omega) bX (by omega)
        refine ⟨frJ_tr (frJ_tr frJ_wP fX) f, bInv_mo g (by omega), hn, tn, r1, r2, r3, by omega, by omega, by omega, fun e he => ?_⟩
        rcases r7 e he with q | q | q
        · rcases hc with ⟨q1, q2, q3⟩ | ⟨q1, q2, q3⟩ <;> omega
        · exact Or.inr (Or.inl q)
        · exact Or.inr (Or.inr q)
      by_cases c2 : hB (wP P j t) j (a1 - 1) sl = true
      · rw [if_pos c2]
        exact fin _ (frJ_tr (frJ_h (Or.inr (Or.inr (Or.inr (Or.inr rfl)))) (Or.inr (Or.inl rfl)) hIw c2) frJ_wst) (bInv_wst (bInv_h hIw (by omega) c2)) (by rw [wst, qI_s]; decide) (by rw [wst_k (by decide) (by decide) (by decide), hS_k (by decide) (by decide) (by decide)]; exact e21)
      · rw [if_neg c2]
        by_cases c3 : qI P 11 j = 1
        · rw [if_pos c3]
          refine ⟨frJ_tr frJ_wP frJ_wst, bInv_mo (bInv_wst hIw) (by omega), a1, t1, by rw [wst, qI_s]; exact e20, by rw [wst_k (by decide) (by decide) (by decide)]; exact e21, by omega, by omega, by omega, by omega, fun e he => ?_⟩
          rcases hc with ⟨q1, q2, q3⟩ | ⟨q1, q2, q3⟩ <;> omega
        · rw [if_neg c3]
          exact fin _ frJ_wst (bInv_mo (bInv_wst hIw) (by omega)) (by rw [wst, qI_s]; decide) (by rw [wst_k (by decide) (by decide) (by decide)]; exact e21)
