/-! ===== the class's memory and the reference, side by side ===== -/
def poZ (w : Nat) (pt : Nat → Nat) : Option Nat := if w = 0 then none else some (pt (w - 1))
/-- pool t: its object, its workers wi t -/
def RLp (S : Mem) (P : MS) (pa : Nat) (A1 pt pw sz : Nat → Nat) (wi : Nat → Nat → Nat) (t : Nat) : Prop := maR S pa t = some (pt t) ∧ RP S (pt t) (pw t) (fun k => mI S k (pt t)) t P (zt P t) ∧ RW S (pt t) (pw t) (sz t) (fun i => A1 (wi t i)) (fun i => zh P (wi t i)) ∧ (0 < sz t ∧ sz t ≤ nC P) ∧ (∀ i, i < sz t → wi t i < nC P ∧ zP P (wi t i) = t + 1) ∧ ∀ j, j < nC P → zP P j = t + 1 → (∃ i, i < sz t ∧ wi t i = j) ∧ mI S 0 (pt t) = qI P 10 j
/-- the pools' objects are apart -/
def RA (S : Mem) (ca pa : Nat) (pt pw : Nat → Nat) : Prop := (∀ t, t < 2 → maR S pa t = some (pt t) → pw t ≠ ca) ∧ (maR S pa 0 = some (pt 0) → maR S pa 1 = some (pt 1) → pt 0 ≠ pt 1 ∧ pw 0 ≠ pw 1)
/-- the consumers' objects are apart -/
def RD (P : MS) (A1 hd bb : Nat → Nat) : Prop := ∀ i j, i < nC P → j < nC P → i ≠ j → A1 i ≠ A1 j ∧ hd i ≠ hd j ∧ (qI P 9 i = 3 → qI P 9 j = 3 → bb i ≠ bb j)
/-- the ring's contents -/
def RG (S : Mem) (P : MS) (r v g u : Nat) : Prop := (mJ S 3 r = eL (zc P) ∧ mJ S 4 r = eL (za P)) ∧ (∀ i, i < zN P → maJ S v i = qJ P 5 i ∧ maJ S u i = eL (zl P i)) ∧ (∀ s, s < zc P → zc P ≤ s + zN P → maI S g (s % zN P) = nI ((zm P s - 1) % 8))
def RS (S : Mem) (P : MS) (x r ca pa v g u : Nat) (A1 hd bb pt pw sz : Nat → Nat) (wi : Nat → Nat → Nat) : Prop :=
  plA S x r ca pa (nC P) A1 ∧ rgA S r v g u (zN P) ∧ (mI S 4 x = nI (hgN (zo P) (nC P)) ∧ mJ S 5 x = qR P) ∧ RG S P r v g u ∧
  (∀ j, j < nC P → RC S (A1 j) (hd j) (poZ (zP P j) pt) P j (zp P j) (zh P j) (zp P j) ∧ RH S (hd j) (bb j) P j) ∧ RD P A1 hd bb ∧
  (∀ t, t < 2 → ((∀ j, j < nC P → zP P j ≠ t + 1) ∧ maR S pa t = none) ∨ RLp S P pa A1 pt pw sz wi t) ∧ RA S ca pa pt pw
def Rep (K : Nat) (S : Mem) (P : MS) (x : Nat) : Prop := WF K P ∧ ∃ (r ca pa v g u : Nat) (A1 hd bb pt pw sz : Nat → Nat) (wi : Nat → Nat → Nat), RS S P x r ca pa v g u A1 hd bb pt pw sz wi
section S1
variable {l : Launch} {s0 : State} {D : va_G} {cA : Nat → ClassId} {ad : Nat → Nat} {K : Nat} {S : Mem} {P : MS} {x r ca pa v g u : Nat} {A1 hd bb pt pw sz : Nat → Nat} {wi : Nat → Nat → Nat}
theorem RLp_min {t : Nat} (h : RLp S P pa A1 pt pw sz wi t) : rcN (zt P t) (fun i => zh P (wi t i)) (sz t) = mh (zP P) (zh P) (t + 1) (zt P t) (nC P) := by
  obtain ⟨-, -, -, -, h1, h2⟩ := h
  refine le_all fun y => ?_
  rw [rcN_iff, mh_iff]
  constructor
  · rintro ⟨a, b⟩
    refine ⟨a, fun j hj e1 e2 => ?_⟩
    obtain ⟨⟨i, hi, e⟩, -⟩ := h2 j hj e1
    have := b i hi
    rw [e] at this
    exact this e2
  · rintro ⟨a, b⟩
    exact ⟨a, fun i hi e => b _ (h1 i hi).1 (h1 i hi).2 e⟩
theorem rs_re (hG : cx_G l s0 D cA) (hw : WF K P) (hK : K ≤ 512) (h : RS S P x r ca pa v g u A1 hd bb pt pw sz wi) : ∀ j, j < nC P → RE l s0 D cA S (A1 j) (zw P j) ∧ zw P j ≤ 9000 := fun j hj => by
  have hc := wf_c hw hK
  have h9 := (zw_a hw hj).1
  refine ⟨?_, by omega⟩
  obtain ⟨-, -, -, -, hC, -, hL, -⟩ := h
  obtain ⟨c, -⟩ := hC j hj
  by_cases c0 : zP P j = 0
  · rw [c0] at c
    have e : zw P j = zp P j := by unfold zw; rw [if_pos c0]
    rw [e]
    exact c_reach_n hG c
  · obtain ⟨t, ht⟩ : ∃ t, zP P j = t + 1 := ⟨zP P j - 1, by omega⟩
    have h2 := (hw.2.1 j hj).2.1.2
    rcases hL t (by omega) with ⟨q, -⟩ | q
    · exact absurd ht (q j hj)
    · have e : zw P j = mh (zP P) (zh P) (t + 1) (zt P t) (nC P) := by unfold zw; rw [if_neg c0, ht]; rfl
      rw [ht] at c
      rw [e, ← RLp_min q]
      exact c_reach_p hG c q.2.1 q.2.2.1 (hw.2.2.1 t (by omega)).1.2
/-- what a call must give: both answer v, or the class throws E and the reference says k -/
def St {α : Type} (K : Nat) (S : Mem) (x : Nat) (cd : String → Int32 → Prop) (mk : α → Value) (C : Value → (Mem → Prop) → Prop) (X : String → Prop) (M : Value → MS → Prop) : Prop :=
  (∃ v P1, C (mk v) (fun S1 => Rep (K + 1) S1 P1 x) ∧ M (mk v) P1 ∧ qS P1 0 = 0) ∨ (∃ E k v P1, cd E k ∧ X E ∧ M (mk v) P1 ∧ qS P1 0 = k ∧ Rep (K + 1) S P1 x)
theorem Rep_0 {w : Int32} (h : Rep K S P x) : Rep (K + 1) S (sS P 0 w) x := ⟨WF_mo (WF_0 h.1) (by omega), h.2⟩
theorem Rep_1 {w : Int32} (h : Rep K S P x) : Rep (K + 1) S (sS (sS P 0 0) 0 w) x := ⟨WF_mo (WF_0 (WF_0 h.1)) (by omega), h.2⟩
end S1
