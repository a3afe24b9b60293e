/-! ===== the memory of the class's objects: addresses, kinds, a function for each slot; arrays by address and place ===== -/
abbrev Mem : Type := List Nat × (Nat → Nat) × (Nat → Nat → Int32) × (Nat → Nat → Int64) × (Nat → Nat → Option Nat) × (Nat → Nat → UInt32) × (Nat → Nat → UInt64) × (Nat → Nat) × (Nat → Nat → Int32) × (Nat → Nat → Int64) × (Nat → Nat → Option Nat)
def mL (S : Mem) : List Nat := S.1
def mK (S : Mem) : Nat → Nat := S.2.1
def mI (S : Mem) : Nat → Nat → Int32 := S.2.2.1
def mJ (S : Mem) : Nat → Nat → Int64 := S.2.2.2.1
def mR (S : Mem) : Nat → Nat → Option Nat := S.2.2.2.2.1
def mF (S : Mem) : Nat → Nat → UInt32 := S.2.2.2.2.2.1
def mE (S : Mem) : Nat → Nat → UInt64 := S.2.2.2.2.2.2.1
def mN (S : Mem) : Nat → Nat := S.2.2.2.2.2.2.2.1
def maI (S : Mem) : Nat → Nat → Int32 := S.2.2.2.2.2.2.2.2.1
def maJ (S : Mem) : Nat → Nat → Int64 := S.2.2.2.2.2.2.2.2.2.1
def maR (S : Mem) : Nat → Nat → Option Nat := S.2.2.2.2.2.2.2.2.2.2
def up2 {α : Type} (f : Nat → Nat → α) (k a : Nat) (v : α) : Nat → Nat → α := fun i b => if i = k ∧ b = a then v else f i b
theorem up2_s {α : Type} {f : Nat → Nat → α} {k a : Nat} {v : α} : up2 f k a v k a = v := if_pos ⟨rfl, rfl⟩
theorem up2_a {α : Type} {f : Nat → Nat → α} {k a i b : Nat} {v : α} (h : b ≠ a) : up2 f k a v i b = f i b := if_neg fun q => h q.2
theorem up2_k {α : Type} {f : Nat → Nat → α} {k a i b : Nat} {v : α} (h : i ≠ k) : up2 f k a v i b = f i b := if_neg fun q => h q.1
def uI (S : Mem) (k a : Nat) (v : Int32) : Mem := (mL S, mK S, up2 (mI S) k a v, mJ S, mR S, mF S, mE S, mN S, maI S, maJ S, maR S)
def uJ (S : Mem) (k a : Nat) (v : Int64) : Mem := (mL S, mK S, mI S, up2 (mJ S) k a v, mR S, mF S, mE S, mN S, maI S, maJ S, maR S)
def uR (S : Mem) (k a : Nat) (v : Option Nat) : Mem := (mL S, mK S, mI S, mJ S, up2 (mR S) k a v, mF S, mE S, mN S, maI S, maJ S, maR S)
def uF (S : Mem) (k a : Nat) (v : UInt32) : Mem := (mL S, mK S, mI S, mJ S, mR S, up2 (mF S) k a v, mE S, mN S, maI S, maJ S, maR S)
def uE (S : Mem) (k a : Nat) (v : UInt64) : Mem := (mL S, mK S, mI S, mJ S, mR S, mF S, up2 (mE S) k a v, mN S, maI S, maJ S, maR S)
def uaI (S : Mem) (a j : Nat) (v : Int32) : Mem := (mL S, mK S, mI S, mJ S, mR S, mF S, mE S, mN S, up2 (maI S) a j v, maJ S, maR S)
def uaJ (S : Mem) (a j : Nat) (v : Int64) : Mem := (mL S, mK S, mI S, mJ S, mR S, mF S, mE S, mN S, maI S, up2 (maJ S) a j v, maR S)
def uaR (S : Mem) (a j : Nat) (v : Option Nat) : Mem := (mL S, mK S, mI S, mJ S, mR S, mF S, mE S, mN S, maI S, maJ S, up2 (maR S) a j v)
def nw (S : Mem) (q k n : Nat) : Mem := (mL S ++ [q], va_up (mK S) q k, fun i b => if b = q then 0 else mI S i b, fun i b => if b = q then 0 else mJ S i b, fun i b => if b = q then none else mR S i b, fun i b => if b = q then 0 else mF S i b, fun i b => if b = q then 0 else mE S i b, va_up (mN S) q n, va_up (maI S) q (fun _ => 0), va_up (maJ S) q (fun _ => 0), va_up (maR S) q (fun _ => none))
theorem mL_uI {S : Mem} {k a : Nat} {v : Int32} : mL (uI S k a v) = mL S := rfl
theorem mK_uI {S : Mem} {k a : Nat} {v : Int32} : mK (uI S k a v) = mK S := rfl
theorem mI_uI {S : Mem} {k a : Nat} {v : Int32} : mI (uI S k a v) = up2 (mI S) k a v := rfl
theorem mJ_uI {S : Mem} {k a : Nat} {v : Int32} : mJ (uI S k a v) = mJ S := rfl
theorem mR_uI {S : Mem} {k a : Nat} {v : Int32} : mR (uI S k a v) = mR S := rfl
theorem mF_uI {S : Mem} {k a : Nat} {v : Int32} : mF (uI S k a v) = mF S := rfl
theorem mE_uI {S : Mem} {k a : Nat} {v : Int32} : mE (uI S k a v) = mE S := rfl
theorem mN_uI {S : Mem} {k a : Nat} {v : Int32} : mN (uI S k a v) = mN S := rfl
theorem maI_uI {S : Mem} {k a : Nat} {v : Int32} : maI (uI S k a v) = maI S := rfl
theorem maJ_uI {S : Mem} {k a : Nat} {v : Int32} : maJ (uI S k a v) = maJ S := rfl
theorem maR_uI {S : Mem} {k a : Nat} {v : Int32} : maR (uI S k a v) = maR S := rfl
theorem mL_uJ {S : Mem} {k a : Nat} {v : Int64} : mL (uJ S k a v) = mL S := rfl
theorem mK_uJ {S : Mem} {k a : Nat} {v : Int64} : mK (uJ S k a v) = mK S := rfl
theorem mI_uJ {S : Mem} {k a : Nat} {v : Int64} : mI (uJ S k a v) = mI S := rfl
theorem mJ_uJ {S : Mem} {k a : Nat} {v : Int64} : mJ (uJ S k a v) = up2 (mJ S) k a v := rfl
theorem mR_uJ {S : Mem} {k a : Nat} {v : Int64} : mR (uJ S k a v) = mR S := rfl
theorem mF_uJ {S : Mem} {k a : Nat} {v : Int64} : mF (uJ S k a v) = mF S := rfl
theorem mE_uJ {S : Mem} {k a : Nat} {v : Int64} : mE (uJ S k a v) = mE S := rfl
theorem mN_uJ {S : Mem} {k a : Nat} {v : Int64} : mN (uJ S k a v) = mN S := rfl
theorem maI_uJ {S : Mem} {k a : Nat} {v : Int64} : maI (uJ S k a v) = maI S := rfl
theorem maJ_uJ {S : Mem} {k a : Nat} {v : Int64} : maJ (uJ S k a v) = maJ S := rfl
theorem maR_uJ {S : Mem} {k a : Nat} {v : Int64} : maR (uJ S k a v) = maR S := rfl
theorem mL_uR {S : Mem} {k a : Nat} {v : Option Nat} : mL (uR S k a v) = mL S := rfl
theorem mK_uR {S : Mem} {k a : Nat} {v : Option Nat} : mK (uR S k a v) = mK S := rfl
theorem mI_uR {S : Mem} {k a : Nat} {v : Option Nat} : mI (uR S k a v) = mI S := rfl
theorem mJ_uR {S : Mem} {k a : Nat} {v : Option Nat} : mJ (uR S k a v) = mJ S := rfl
theorem mR_uR {S : Mem} {k a : Nat} {v : Option Nat} : mR (uR S k a v) = up2 (mR S) k a v := rfl
theorem mF_uR {S : Mem} {k a : Nat} {v : Option Nat} : mF (uR S k a v) = mF S := rfl
theorem mE_uR {S : Mem} {k a : Nat} {v : Option Nat} : mE (uR S k a v) = mE S := rfl
theorem mN_uR {S : Mem} {k a : Nat} {v : Option Nat} : mN (uR S k a v) = mN S := rfl
theorem maI_uR {S : Mem} {k a : Nat} {v : Option Nat} : maI (uR S k a v) = maI S := rfl
theorem maJ_uR {S : Mem} {k a : Nat} {v : Option Nat} : maJ (uR S k a v) = maJ S := rfl
theorem maR_uR {S : Mem} {k a : Nat} {v : Option Nat} : maR (uR S k a v) = maR S := rfl
theorem mL_uF {S : Mem} {k a : Nat} {v : UInt32} : mL (uF S k a v) = mL S := rfl
theorem mK_uF {S : Mem} {k a : Nat} {v : UInt32} : mK (uF S k a v) = mK S := rfl
theorem mI_uF {S : Mem} {k a : Nat} {v : UInt32} : mI (uF S k a v) = mI S := rfl
theorem mJ_uF {S : Mem} {k a : Nat} {v : UInt32} : mJ (uF S k a v) = mJ S := rfl
theorem mR_uF {S : Mem} {k a : Nat} {v : UInt32} : mR (uF S k a v) = mR S := rfl
theorem mF_uF {S : Mem} {k a : Nat} {v : UInt32} : mF (uF S k a v) = up2 (mF S) k a v := rfl
theorem mE_uF {S : Mem} {k a : Nat} {v : UInt32} : mE (uF S k a v) = mE S := rfl
theorem mN_uF {S : Mem} {k a : Nat} {v : UInt32} : mN (uF S k a v) = mN S := rfl
theorem maI_uF {S : Mem} {k a : Nat} {v : UInt32} : maI (uF S k a v) = maI S := rfl
theorem maJ_uF {S : Mem} {k a : Nat} {v : UInt32} : maJ (uF S k a v) = maJ S := rfl
theorem maR_uF {S : Mem} {k a : Nat} {v : UInt32} : maR (uF S k a v) = maR S := rfl
theorem mL_uE {S : Mem} {k a : Nat} {v : UInt64} : mL (uE S k a v) = mL S := rfl
theorem mK_uE {S : Mem} {k a : Nat} {v : UInt64} : mK (uE S k a v) = mK S := rfl
theorem mI_uE {S : Mem} {k a : Nat} {v : UInt64} : mI (uE S k a v) = mI S := rfl
theorem mJ_uE {S : Mem} {k a : Nat} {v : UInt64} : mJ (uE S k a v) = mJ S := rfl
theorem mR_uE {S : Mem} {k a : Nat} {v : UInt64} : mR (uE S k a v) = mR S := rfl
theorem mF_uE {S : Mem} {k a : Nat} {v : UInt64} : mF (uE S k a v) = mF S := rfl
theorem mE_uE {S : Mem} {k a : Nat} {v : UInt64} : mE (uE S k a v) = up2 (mE S) k a v := rfl
theorem mN_uE {S : Mem} {k a : Nat} {v : UInt64} : mN (uE S k a v) = mN S := rfl
theorem maI_uE {S : Mem} {k a : Nat} {v : UInt64} : maI (uE S k a v) = maI S := rfl
theorem maJ_uE {S : Mem} {k a : Nat} {v : UInt64} : maJ (uE S k a v) = maJ S := rfl
theorem maR_uE {S : Mem} {k a : Nat} {v : UInt64} : maR (uE S k a v) = maR S := rfl
theorem mL_uaI {S : Mem} {k a : Nat} {v : Int32} : mL (uaI S k a v) = mL S := rfl
theorem mK_uaI {S : Mem} {k a : Nat} {v : Int32} : mK (uaI S k a v) = mK S := rfl
theorem mI_uaI {S : Mem} {k a : Nat} {v : Int32} : mI (uaI S k a v) = mI S := rfl
theorem mJ_uaI {S : Mem} {k a : Nat} {v : Int32} : mJ (uaI S k a v) = mJ S := rfl
theorem mR_uaI {S : Mem} {k a : Nat} {v : Int32} : mR (uaI S k a v) = mR S := rfl
theorem mF_uaI {S : Mem} {k a : Nat} {v : Int32} : mF (uaI S k a v) = mF S := rfl
theorem mE_uaI {S : Mem} {k a : Nat} {v : Int32} : mE (uaI S k a v) = mE S := rfl
theorem mN_uaI {S : Mem} {k a : Nat} {v : Int32} : mN (uaI S k a v) = mN S := rfl
theorem maI_uaI {S : Mem} {k a : Nat} {v : Int32} : maI (uaI S k a v) = up2 (maI S) k a v := rfl
theorem maJ_uaI {S : Mem} {k a : Nat} {v : Int32} : maJ (uaI S k a v) = maJ S := rfl
theorem maR_uaI {S : Mem} {k a : Nat} {v : Int32} : maR (uaI S k a v) = maR S := rfl
theorem mL_uaJ {S : Mem} {k a : Nat} {v : Int64} : mL (uaJ S k a v) = mL S := rfl
theorem mK_uaJ {S : Mem} {k a : Nat} {v : Int64} : mK (uaJ S k a v) = mK S := rfl
theorem mI_uaJ {S : Mem} {k a : Nat} {v : Int64} : mI (uaJ S k a v) = mI S := rfl
theorem mJ_uaJ {S : Mem} {k a : Nat} {v : Int64} : mJ (uaJ S k a v) = mJ S := rfl
theorem mR_uaJ {S : Mem} {k a : Nat} {v : Int64} : mR (uaJ S k a v) = mR S := rfl
theorem mF_uaJ {S : Mem} {k a : Nat} {v : Int64} : mF (uaJ S k a v) = mF S := rfl
theorem mE_uaJ {S : Mem} {k a : Nat} {v : Int64} : mE (uaJ S k a v) = mE S := rfl
theorem mN_uaJ {S : Mem} {k a : Nat} {v : Int64} : mN (uaJ S k a v) = mN S := rfl
theorem maI_uaJ {S : Mem} {k a : Nat} {v : Int64} : maI (uaJ S k a v) = maI S := rfl
theorem maJ_uaJ {S : Mem} {k a : Nat} {v : Int64} : maJ (uaJ S k a v) = up2 (maJ S) k a v := rfl
theorem maR_uaJ {S : Mem} {k a : Nat} {v : Int64} : maR (uaJ S k a v) = maR S := rfl
theorem mL_uaR {S : Mem} {k a : Nat} {v : Option Nat} : mL (uaR S k a v) = mL S := rfl
theorem mK_uaR {S : Mem} {k a : Nat} {v : Option Nat} : mK (uaR S k a v) = mK S := rfl
theorem mI_uaR {S : Mem} {k a : Nat} {v : Option Nat} : mI (uaR S k a v) = mI S := rfl
theorem mJ_uaR {S : Mem} {k a : Nat} {v : Option Nat} : mJ (uaR S k a v) = mJ S := rfl
theorem mR_uaR {S : Mem} {k a : Nat} {v : Option Nat} : mR (uaR S k a v) = mR S := rfl
theorem mF_uaR {S : Mem} {k a : Nat} {v : Option Nat} : mF (uaR S k a v) = mF S := rfl
theorem mE_uaR {S : Mem} {k a : Nat} {v : Option Nat} : mE (uaR S k a v) = mE S := rfl
theorem mN_uaR {S : Mem} {k a : Nat} {v : Option Nat} : mN (uaR S k a v) = mN S := rfl
theorem maI_uaR {S : Mem} {k a : Nat} {v : Option Nat} : maI (uaR S k a v) = maI S := rfl
theorem maJ_uaR {S : Mem} {k a : Nat} {v : Option Nat} : maJ (uaR S k a v) = maJ S := rfl
theorem maR_uaR {S : Mem} {k a : Nat} {v : Option Nat} : maR (uaR S k a v) = up2 (maR S) k a v := rfl
def pF (cA : Nat → ClassId) (S : Mem) (a : Nat) : va_E := if mK S a = 0 then .inr (0, [va_rf (mR S 0 a), .int (mI S 1 a), va_rf (mR S 2 a), .int (mI S 3 a), .long (mJ S 4 a), .long (mJ S 5 a), .int (mI S 6 a), .int (mI S 7 a), .int (mI S 8 a), .int (mI S 9 a), .long (mJ S 10 a), .int (mI S 11 a), .long (mJ S 12 a), .int (mI S 13 a), .int (mI S 14 a)]) else if mK S a = 1 then .inr (1, [va_rf (mR S 0 a), .int (mI S 1 a), .int (mI S 2 a)]) else if mK S a = 2 then .inr (2, [.double (mE S 0 a), .int (mI S 1 a), .double (mE S 2 a), .int (mI S 3 a)]) else if mK S a = 3 then .inr (3, [.int (mI S 0 a), va_rf (mR S 1 a), .int (mI S 2 a), .long (mJ S 3 a)]) else if mK S a = 4 then .inr (4, [va_rf (mR S 0 a), va_rf (mR S 1 a), va_rf (mR S 2 a), .long (mJ S 3 a), .long (mJ S 4 a)]) else if mK S a = 5 then .inr (5, [.float (mF S 0 a), .float (mF S 1 a)]) else if mK S a = 6 then .inr (6, [.long (mJ S 0 a), .long (mJ S 1 a)]) else if mK S a = 7 then .inr (7, [va_rf (mR S 0 a), va_rf (mR S 1 a), va_rf (mR S 2 a), .int (mI S 3 a), .int (mI S 4 a), .long (mJ S 5 a)]) else if mK S a = 9 then .inl (cA 0, mN S a, .inl (maI S a)) else if mK S a = 12 then .inl (cA 3, mN S a, .inl (maI S a)) else if mK S a = 13 then .inl (cA 4, mN S a, .inr (.inl (maJ S a))) else if mK S a = 15 then .inl (cA 6, mN S a, .inr (.inr (.inr (.inr (maR S a))))) else .inl (cA 7, mN S a, .inr (.inr (.inr (.inr (maR S a)))))
def pW (cA : Nat → ClassId) (S : Mem) : va_W := va_pl (mL S) (pF cA S)
theorem pF_eq {cA : Nat → ClassId} {S T : Mem} {b : Nat} (h1 : mK S b = mK T b) (h2 : ∀ k, mI S k b = mI T k b) (h3 : ∀ k, mJ S k b = mJ T k b) (h4 : ∀ k, mR S k b = mR T k b) (h5 : ∀ k, mF S k b = mF T k b) (h6 : ∀ k, mE S k b = mE T k b) (h7 : mN S b = mN T b) (h8 : maI S b = maI T b) (h9 : maJ S b = maJ T b) (h10 : maR S b = maR T b) : pF cA S b = pF cA T b := by
  unfold pF
  simp only [h1, h2, h3, h4, h5, h6, h7, h8, h9, h10]
theorem pW_get {cA : Nat → ClassId} {S : Mem} {a : Nat} (h : a ∈ mL S) : ∃ k : Nat, (pW cA S)[k]? = some (a, pF cA S a) := by
  obtain ⟨k, hk⟩ := va_pl_get (X := []) (f := pF cA S) h
  exact ⟨k, hk⟩
theorem pW_set {cA : Nat → ClassId} {S T : Mem} {A : Nat → Prop} {a k : Nat} {e : va_E} (hD : va_D A (pW cA S)) (h : a ∈ mL S) (hk : (pW cA S)[k]? = some (a, pF cA S a)) (hL : mL T = mL S) (ha : e = pF cA T a) (ho : ∀ b, b ≠ a → pF cA S b = pF cA T b) : (pW cA S).set k (a, e) = pW cA T := by
  have h1 := va_pl_set (X := []) (f := pF cA S) (e := e) hD h hk
  show ([] ++ va_pl (mL S) (pF cA S)).set k (a, e) = _
  rw [h1, List.nil_append]
  unfold pW
  rw [hL]
  refine va_pl_congr fun b => ?_
  by_cases hb : b = a
  · subst hb; rw [va_up_self]; exact ha
  · rw [va_up_ne _ _ hb]; exact ho b hb
theorem pW_new {cA : Nat → ClassId} {S : Mem} {A : Nat → Prop} {q k n : Nat} {e : va_E} (hD : va_D A (pW cA S ++ [(q, e)])) (he : e = pF cA (nw S q k n) q) : pW cA S ++ [(q, e)] = pW cA (nw S q k n) ∧ q ∉ mL S := by
  have hq : q ∉ mL S := fun h => by
    have hn := (va_D_iff.mp hD).1
    rw [List.map_append, List.nodup_append] at hn
    exact hn.2.2 q (List.mem_map.mpr ⟨(q, pF cA S q), List.mem_map.mpr ⟨q, h, rfl⟩, rfl⟩) q (by simp) rfl
  refine ⟨?_, hq⟩
  show va_pl (mL S) (pF cA S) ++ [(q, e)] = va_pl (mL S ++ [q]) (pF cA (nw S q k n))
  rw [va_pl_push hq]
  refine va_pl_congr fun b => ?_
  by_cases hb : b = q
  · subst hb; rw [va_up_self]; exact he
  · rw [va_up_ne _ _ hb]
    exact pF_eq (by simp [nw, mK, va_up, hb]) (by simp [nw, mI, hb]) (by simp [nw, mJ, hb]) (by simp [nw, mR, hb]) (by simp [nw, mF, hb]) (by simp [nw, mE, hb]) (by simp [nw, mN, va_up, hb]) (by simp [nw, maI, va_up, hb]) (by simp [nw, maJ, va_up, hb]) (by simp [nw, maR, va_up, hb])
/-- an index: in range, and its number -/
def ix (i : Int32) (n j : Nat) : Prop := vp_in i n ∧ i.toNatClampNeg = j
theorem ix_nI {j n : Nat} (h : j < n) (hn : n < 2 ^ 31) : ix (nI j) n j := ⟨vp_in_nI h hn, nI_clamp (Nat.lt_trans h hn)⟩
theorem ix_eq {i : Int32} {j n : Nat} (h : i = nI j) (h1 : j < n) (hn : n < 2 ^ 31) : ix i n j := by subst h; exact ix_nI h1 hn
theorem pF_0 {cA : Nat → ClassId} {S : Mem} {a : Nat} (h : mK S a = 0) : pF cA S a = .inr (0, [va_rf (mR S 0 a), .int (mI S 1 a), va_rf (mR S 2 a), .int (mI S 3 a), .long (mJ S 4 a), .long (mJ S 5 a), .int (mI S 6 a), .int (mI S 7 a), .int (mI S 8 a), .int (mI S 9 a), .long (mJ S 10 a), .int (mI S 11 a), .long (mJ S 12 a), .int (mI S 13 a), .int (mI S 14 a)]) := by simp [pF, h]
theorem pF_1 {cA : Nat → ClassId} {S : Mem} {a : Nat} (h : mK S a = 1) : pF cA S a = .inr (1, [va_rf (mR S 0 a), .int (mI S 1 a), .int (mI S 2 a)]) := by simp [pF, h]
theorem pF_2 {cA : Nat → ClassId} {S : Mem} {a : Nat} (h : mK S a = 2) : pF cA S a = .inr (2, [.double (mE S 0 a), .int (mI S 1 a), .double (mE S 2 a), .int (mI S 3 a)]) := by simp [pF, h]
theorem pF_3 {cA : Nat → ClassId} {S : Mem} {a : Nat} (h : mK S a = 3) : pF cA S a = .inr (3, [.int (mI S 0 a), va_rf (mR S 1 a), .int (mI S 2 a), .long (mJ S 3 a)]) := by simp [pF, h]
theorem pF_4 {cA : Nat → ClassId} {S : Mem} {a : Nat} (h : mK S a = 4) : pF cA S a = .inr (4, [va_rf (mR S 0 a), va_rf (mR S 1 a), va_rf (mR S 2 a), .long (mJ S 3 a), .long (mJ S 4 a)]) := by simp [pF, h]
theorem pF_5 {cA : Nat → ClassId} {S : Mem} {a : Nat} (h : mK S a = 5) : pF cA S a = .inr (5, [.float (mF S 0 a), .float (mF S 1 a)]) := by simp [pF, h]
theorem pF_6 {cA : Nat → ClassId} {S : Mem} {a : Nat} (h : mK S a = 6) : pF cA S a = .inr (6, [.long (mJ S 0 a), .long (mJ S 1 a)]) := by simp [pF, h]
theorem pF_7 {cA : Nat → ClassId} {S : Mem} {a : Nat} (h : mK S a = 7) : pF cA S a = .inr (7, [va_rf (mR S 0 a), va_rf (mR S 1 a), va_rf (mR S 2 a), .int (mI S 3 a), .int (mI S 4 a), .long (mJ S 5 a)]) := by simp [pF, h]
theorem pF_9 {cA : Nat → ClassId} {S : Mem} {a : Nat} (h : mK S a = 9) : pF cA S a = .inl (cA 0, mN S a, .inl (maI S a)) := by simp [pF, h]
theorem pF_12 {cA : Nat → ClassId} {S : Mem} {a : Nat} (h : mK S a = 12) : pF cA S a = .inl (cA 3, mN S a, .inl (maI S a)) := by simp [pF, h]
theorem pF_13 {cA : Nat → ClassId} {S : Mem} {a : Nat} (h : mK S a = 13) : pF cA S a = .inl (cA 4, mN S a, .inr (.inl (maJ S a))) := by simp [pF, h]
theorem pF_15 {cA : Nat → ClassId} {S : Mem} {a : Nat} (h : mK S a = 15) : pF cA S a = .inl (cA 6, mN S a, .inr (.inr (.inr (.inr (maR S a))))) := by simp [pF, h]
theorem pF_16 {cA : Nat → ClassId} {S : Mem} {a : Nat} (h : mK S a = 16) : pF cA S a = .inl (cA 7, mN S a, .inr (.inr (.inr (.inr (maR S a))))) := by simp [pF, h]
theorem inT_0 : ∀ w ∈ wsX00, w ∈ TB := by
  have h : wsX00 = [(Cond.laysFinal "RingPipeline$Consumer" "RingPipeline$Consumer" "handler" "LRingPipeline$Handler;"), (Cond.laysFinal "RingPipeline$Consumer" "RingPipeline$Consumer" "on" "I"), (Cond.laysFinal "RingPipeline$Consumer" "RingPipeline$Consumer" "pool" "LRingPipeline$Pool;"), (Cond.laysFinal "RingPipeline$Consumer" "RingPipeline$Consumer" "policy" "I"), (Cond.lays "RingPipeline$Consumer" "RingPipeline$Consumer" "place" "J"), (Cond.lays "RingPipeline$Consumer" "RingPipeline$Consumer" "event" "J"), (Cond.lays "RingPipeline$Consumer" "RingPipeline$Consumer" "handled" "I"), (Cond.lays "RingPipeline$Consumer" "RingPipeline$Consumer" "ignored" "I"), (Cond.lays "RingPipeline$Consumer" "RingPipeline$Consumer" "rewound" "I"), (Cond.lays "RingPipeline$Consumer" "RingPipeline$Consumer" "halted" "Z"), (Cond.lays "RingPipeline$Consumer" "RingPipeline$Consumer" "threwAt" "J"), (Cond.lays "RingPipeline$Consumer" "RingPipeline$Consumer" "threwThere" "I"), (Cond.lays "RingPipeline$Consumer" "RingPipeline$Consumer" "placeAtStart" "J"), (Cond.lays "RingPipeline$Consumer" "RingPipeline$Consumer" "handledAtStart" "I"), (Cond.lays "RingPipeline$Consumer" "RingPipeline$Consumer" "ignoredAtStart" "I")] := by decide +kernel
  rw [h]
  exact List.forall_mem_cons.mpr ⟨tm_310, List.forall_mem_cons.mpr ⟨tm_312, List.forall_mem_cons.mpr ⟨tm_314, List.forall_mem_cons.mpr ⟨tm_316, List.forall_mem_cons.mpr ⟨tm_318, List.forall_mem_cons.mpr ⟨tm_320, List.forall_mem_cons.mpr ⟨tm_322, List.forall_mem_cons.mpr ⟨tm_324, List.forall_mem_cons.mpr ⟨tm_326, List.forall_mem_cons.mpr ⟨tm_328, List.forall_mem_cons.mpr ⟨tm_330, List.forall_mem_cons.mpr ⟨tm_332, List.forall_mem_cons.mpr ⟨tm_334, List.forall_mem_cons.mpr ⟨tm_336, List.forall_mem_cons.mpr ⟨tm_338, fun _ h => nomatch h⟩⟩⟩⟩⟩⟩⟩⟩⟩⟩⟩⟩⟩⟩⟩
theorem inT_2 : ∀ w ∈ wsX20, w ∈ TB := by
  have h : wsX20 = [(Cond.laysFinal "RingPipeline$Journal" "RingPipeline$Journal" "bytes" "[B"), (Cond.lays "RingPipeline$Journal" "RingPipeline$Journal" "length" "I"), (Cond.lays "RingPipeline$Journal" "RingPipeline$Journal" "keptLength" "I")] := by decide +kernel
  rw [h]
  exact List.forall_mem_cons.mpr ⟨tm_251, List.forall_mem_cons.mpr ⟨tm_253, List.forall_mem_cons.mpr ⟨tm_255, fun _ h => nomatch h⟩⟩⟩
theorem inT_3 : ∀ w ∈ wsX30, w ∈ TB := by
  have h : wsX30 = [(Cond.lays "RingPipeline$Mean" "RingPipeline$Mean" "mean" "D"), (Cond.lays "RingPipeline$Mean" "RingPipeline$Mean" "events" "I"), (Cond.lays "RingPipeline$Mean" "RingPipeline$Mean" "keptMean" "D"), (Cond.lays "RingPipeline$Mean" "RingPipeline$Mean" "keptEvents" "I")] := by decide +kernel
  rw [h]
  exact List.forall_mem_cons.mpr ⟨tm_232, List.forall_mem_cons.mpr ⟨tm_234, List.forall_mem_cons.mpr ⟨tm_236, List.forall_mem_cons.mpr ⟨tm_238, fun _ h => nomatch h⟩⟩⟩⟩
theorem inT_4 : ∀ w ∈ wsX40, w ∈ TB := by
  have h : wsX40 = [(Cond.laysFinal "RingPipeline$Pool" "RingPipeline$Pool" "on" "I"), (Cond.laysFinal "RingPipeline$Pool" "RingPipeline$Pool" "workers" "[LRingPipeline$Consumer;"), (Cond.lays "RingPipeline$Pool" "RingPipeline$Pool" "size" "I"), (Cond.lays "RingPipeline$Pool" "RingPipeline$Pool" "next" "J")] := by decide +kernel
  rw [h]
  exact List.forall_mem_cons.mpr ⟨tm_273, List.forall_mem_cons.mpr ⟨tm_275, List.forall_mem_cons.mpr ⟨tm_277, List.forall_mem_cons.mpr ⟨tm_279, fun _ h => nomatch h⟩⟩⟩⟩
theorem inT_5 : ∀ w ∈ wsX50, w ∈ TB := by
  have h : wsX50 = [(Cond.laysFinal "RingPipeline$Ring" "RingPipeline$Ring" "values" "[J"), (Cond.laysFinal "RingPipeline$Ring" "RingPipeline$Ring" "producers" "[I"), (Cond.laysFinal "RingPipeline$Ring" "RingPipeline$Ring" "published" "[J"), (Cond.lays "RingPipeline$Ring" "RingPipeline$Ring" "cursor" "J"), (Cond.lays "RingPipeline$Ring" "RingPipeline$Ring" "available" "J")] := by decide +kernel
  rw [h]
  exact List.forall_mem_cons.mpr ⟨tm_45, List.forall_mem_cons.mpr ⟨tm_47, List.forall_mem_cons.mpr ⟨tm_49, List.forall_mem_cons.mpr ⟨tm_51, List.forall_mem_cons.mpr ⟨tm_53, fun _ h => nomatch h⟩⟩⟩⟩⟩
theorem inT_6 : ∀ w ∈ wsX60, w ∈ TB := by
  have h : wsX60 = [(Cond.lays "RingPipeline$Smooth" "RingPipeline$Smooth" "level" "F"), (Cond.lays "RingPipeline$Smooth" "RingPipeline$Smooth" "kept" "F")] := by decide +kernel
  rw [h]
  exact List.forall_mem_cons.mpr ⟨tm_216, List.forall_mem_cons.mpr ⟨tm_218, fun _ h => nomatch h⟩⟩
theorem inT_7 : ∀ w ∈ wsX70, w ∈ TB := by
  have h : wsX70 = [(Cond.lays "RingPipeline$Sum" "RingPipeline$Sum" "total" "J"), (Cond.lays "RingPipeline$Sum" "RingPipeline$Sum" "kept" "J")] := by decide +kernel
  rw [h]
  exact List.forall_mem_cons.mpr ⟨tm_202, List.forall_mem_cons.mpr ⟨tm_204, fun _ h => nomatch h⟩⟩
theorem inT_8 : ∀ w ∈ wsX80, w ∈ TB := by
  have h : wsX80 = [(Cond.laysFinal "RingPipeline" "RingPipeline" "ring" "LRingPipeline$Ring;"), (Cond.laysFinal "RingPipeline" "RingPipeline" "consumers" "[LRingPipeline$Consumer;"), (Cond.laysFinal "RingPipeline" "RingPipeline" "pools" "[LRingPipeline$Pool;"), (Cond.lays "RingPipeline" "RingPipeline" "made" "I"), (Cond.lays "RingPipeline" "RingPipeline" "hungOn" "I"), (Cond.lays "RingPipeline" "RingPipeline" "replayedSum" "J")] := by decide +kernel
  rw [h]
  exact List.forall_mem_cons.mpr ⟨tm_64, List.forall_mem_cons.mpr ⟨tm_66, List.forall_mem_cons.mpr ⟨tm_68, List.forall_mem_cons.mpr ⟨tm_70, List.forall_mem_cons.mpr ⟨tm_72, List.forall_mem_cons.mpr ⟨tm_74, fun _ h => nomatch h⟩⟩⟩⟩⟩⟩
section MemRows
variable {p : Program} {l : Launch} {e : Env} {R : Room} {s : State} {m : MethodId} {args : Array Value} {below : List Frame} {meth : Method} {c : Code} {H : Heap} {locs : List Loc} {cells slots : Nat} {Q : State → Prop}
variable {s0 : State} {D : va_G} {cA : Nat → ClassId} {cc : ByteArray} {nL : Nat} {ret : Option FieldType} {own : String} {A : Nat → Prop}
variable {pc : Nat} {ls : Array Slot} {rest : List Value} {S : Mem} {a idx : Nat}
theorem rcv_0 (C : cx_C p l s m args meth c s0 D cA cc nL ret own A) (hP : va_P D vwCl (pW cA S) H) (hL : a ∈ mL S) (hK : mK S a = 0) : ∃ cell : Cell, H[a]? = some cell ∧ cell.vm.isStatics = false ∧ s.vm.findClass RX0 = some cell.cls := by
  obtain ⟨k, hk⟩ := pW_get (cA := cA) hL
  rw [pF_0 hK] at hk
  exact va_recv (cx_k C) hP (ci := 0) (q := (RX0, TX0, 15)) rfl hk
theorem gf_0_0 (C : cx_C p l s m args meth c s0 D cA cc nL ret own A) (hP : va_P D vwCl (pW cA S) H) (hL : a ∈ mL S) (hK : mK S a = 0) (hw : Cond.fieldLink own idx "RingPipeline$Consumer" "handler" "LRingPipeline$Handler;" ∈ TB) (d : decode cc pc = .ok (.getfield idx, 3)) (kk : W p l e R s m args below meth c H locs cells slots Q (F0 m (pc + 3) ls (va_rf (mR S 0 a) :: rest))) : W p l e R s m args below meth c H locs cells slots Q (F0 m pc ls (.ref a :: rest)) := by
  obtain ⟨k, hk⟩ := pW_get (cA := cA) hL
  rw [pF_0 hK] at hk
  exact va_get (D := D) (ci := 0) (C := RX0) (T := TX0) (N := 15) (cx_x C) (cx_b C) (cx_t C) inT_0 (cx_own C) (cx_k C) hP k hk rfl 0 (by decide) (cx_t C _ hw) (fun _ h => h) rfl d kk
theorem gf_0_0s {b : Nat} (C : cx_C p l s m args meth c s0 D cA cc nL ret own A) (hP : va_P D vwCl (pW cA S) H) (hL : a ∈ mL S) (hK : mK S a = 0) (hv : mR S 0 a = some b) (hw : Cond.fieldLink own idx "RingPipeline$Consumer" "handler" "LRingPipeline$Handler;" ∈ TB) (d : decode cc pc = .ok (.getfield idx, 3)) (kk : W p l e R s m args below meth c H locs cells slots Q (F0 m (pc + 3) ls (.ref b :: rest))) : W p l e R s m args below meth c H locs cells slots Q (F0 m pc ls (.ref a :: rest)) := gf_0_0 C hP hL hK hw d (by rw [hv]; exact kk)
theorem pf_0_0 {v : Option Nat} (C : cx_C p l s m args meth c s0 D cA cc nL ret RX0 A) (hin : meth.name = "<init>") (hP : va_P D vwCl (pW cA S) H) (hD : va_D A (pW cA S)) (hS : va_S A s.heap H locs) (hL : a ∈ mL S) (hK : mK S a = 0) (hw : Cond.fieldLink RX0 idx "RingPipeline$Consumer" "handler" "LRingPipeline$Handler;" ∈ TB) (d : decode cc pc = .ok (.putfield idx, 3)) (kk : ∀ (H1 : Heap) (locs1 : List Loc), va_P D vwCl (pW cA (uR S 0 a v)) H1 → va_D A (pW cA (uR S 0 a v)) → va_S A s.heap H1 locs1 → W p l e R s m args below meth c H1 locs1 cells slots Q (F0 m (pc + 3) ls rest)) : W p l e R s m args below meth c H locs cells slots Q (F0 m pc ls (va_rf v :: .ref a :: rest)) := by
  obtain ⟨k, hk⟩ := pW_get (cA := cA) hL
  have hk2 := hk
  rw [pF_0 hK] at hk2
  have he : (pW cA S).set k (a, .inr (0, [va_rf v, .int (mI S 1 a), va_rf (mR S 2 a), .int (mI S 3 a), .long (mJ S 4 a), .long (mJ S 5 a), .int (mI S 6 a), .int (mI S 7 a), .int (mI S 8 a), .int (mI S 9 a), .long (mJ S 10 a), .int (mI S 11 a), .long (mJ S 12 a), .int (mI S 13 a), .int (mI S 14 a)])) = pW cA (uR S 0 a v) := by
    refine pW_set hD hL hk rfl ?_ (fun b hb => pF_eq rfl (fun _ => rfl) (fun _ => rfl) (fun _ => (up2_a hb).symm) (fun _ => rfl) (fun _ => rfl) rfl rfl rfl rfl)
    rw [pF_0 (S := uR S 0 a v) hK]
    simp [uR, mR, up2, mI, mJ, mF, mE]
  exact va_putF (D := D) (ci := 0) (v := va_rf v) (ty := .object "RingPipeline$Handler") (C := RX0) (T := TX0) (N := 15) (cx_x C) (cx_b C) (cx_t C) inT_0 tyX0 tyX0_ok nmX0 (cx_own C) (cx_k C) hP hD hS k hk2 rfl 0 (by decide) (cx_t C _ hw) (fun _ h => h) rfl hin rfl (by decide +kernel) (by cases v <;> rfl) (by cases v <;> rfl) (Nat.le_of_ble_eq_true rfl) d (fun H1 locs1 h1 h2 h3 => kk H1 locs1 (by rw [← he]; exact h1) (by rw [← he]; exact h2) h3)
theorem gf_0_1 (C : cx_C p l s m args meth c s0 D cA cc nL ret own A) (hP : va_P D vwCl (pW cA S) H) (hL : a ∈ mL S) (hK : mK S a = 0) (hw : Cond.fieldLink own idx "RingPipeline$Consumer" "on" "I" ∈ TB) (d : decode cc pc = .ok (.getfield idx, 3)) (kk : W p l e R s m args below meth c H locs cells slots Q (F0 m (pc + 3) ls (.int (mI S 1 a) :: rest))) : W p l e R s m args below meth c H locs cells slots Q (F0 m pc ls (.ref a :: rest)) := by
  obtain ⟨k, hk⟩ := pW_get (cA := cA) hL
  rw [pF_0 hK] at hk
  exact va_get (D := D) (ci := 0) (C := RX0) (T := TX0) (N := 15) (cx_x C) (cx_b C) (cx_t C) inT_0 (cx_own C) (cx_k C) hP k hk rfl 1 (by decide) (cx_t C _ hw) (fun _ h => h) rfl d kk
theorem pf_0_1 {v : Int32} (C : cx_C p l s m args meth c s0 D cA cc nL ret RX0 A) (hin : meth.name = "<init>") (hP : va_P D vwCl (pW cA S) H) (hD : va_D A (pW cA S)) (hS : va_S A s.heap H locs) (hL : a ∈ mL S) (hK : mK S a = 0) (hw : Cond.fieldLink RX0 idx "RingPipeline$Consumer" "on" "I" ∈ TB) (d : decode cc pc = .ok (.putfield idx, 3)) (kk : ∀ (H1 : Heap) (locs1 : List Loc), va_P D vwCl (pW cA (uI S 1 a v)) H1 → va_D A (pW cA (uI S 1 a v)) → va_S A s.heap H1 locs1 → W p l e R s m args below meth c H1 locs1 cells slots Q (F0 m (pc + 3) ls rest)) : W p l e R s m args below meth c H locs cells slots Q (F0 m pc ls (.int v :: .ref a :: rest)) := by
  obtain ⟨k, hk⟩ := pW_get (cA := cA) hL
  have hk2 := hk
  rw [pF_0 hK] at hk2
  have he : (pW cA S).set k (a, .inr (0, [va_rf (mR S 0 a), .int v, va_rf (mR S 2 a), .int (mI S 3 a), .long (mJ S 4 a), .long (mJ S 5 a), .int (mI S 6 a), .int (mI S 7 a), .int (mI S 8 a), .int (mI S 9 a), .long (mJ S 10 a), .int (mI S 11 a), .long (mJ S 12 a), .int (mI S 13 a), .int (mI S 14 a)])) = pW cA (uI S 1 a v) := by
    refine pW_set hD hL hk rfl ?_ (fun b hb => pF_eq rfl (fun _ => (up2_a hb).symm) (fun _ => rfl) (fun _ => rfl) (fun _ => rfl) (fun _ => rfl) rfl rfl rfl rfl)
    rw [pF_0 (S := uI S 1 a v) hK]
    simp [uI, mI, up2, mJ, mR, mF, mE]
  exact va_putF (D := D) (ci := 0) (v := .int v) (ty := .int) (C := RX0) (T := TX0) (N := 15) (cx_x C) (cx_b C) (cx_t C) inT_0 tyX0 tyX0_ok nmX0 (cx_own C) (cx_k C) hP hD hS k hk2 rfl 1 (by decide) (cx_t C _ hw) (fun _ h => h) rfl hin rfl (by decide +kernel) rfl rfl (Nat.le_of_ble_eq_true rfl) d (fun H1 locs1 h1 h2 h3 => kk H1 locs1 (by rw [← he]; exact h1) (by rw [← he]; exact h2) h3)
theorem gf_0_2 (C : cx_C p l s m args meth c s0 D cA cc nL ret own A) (hP : va_P D vwCl (pW cA S) H) (hL : a ∈ mL S) (hK : mK S a = 0) (hw : Cond.fieldLink own idx "RingPipeline$Consumer" "pool" "LRingPipeline$Pool;" ∈ TB) (d : decode cc pc = .ok (.getfield idx, 3)) (kk : W p l e R s m args below meth c H locs cells slots Q (F0 m (pc + 3) ls (va_rf (mR S 2 a) :: rest))) : W p l e R s m args below meth c H locs cells slots Q (F0 m pc ls (.ref a :: rest)) := by
  obtain ⟨k, hk⟩ := pW_get (cA := cA) hL
  rw [pF_0 hK] at hk
  exact va_get (D := D) (ci := 0) (C := RX0) (T := TX0) (N := 15) (cx_x C) (cx_b C) (cx_t C) inT_0 (cx_own C) (cx_k C) hP k hk rfl 2 (by decide) (cx_t C _ hw) (fun _ h => h) rfl d kk
theorem gf_0_2s {b : Nat} (C : cx_C p l s m args meth c s0 D cA cc nL ret own A) (hP : va_P D vwCl (pW cA S) H) (hL : a ∈ mL S) (hK : mK S a = 0) (hv : mR S 2 a = some b) (hw : Cond.fieldLink own idx "RingPipeline$Consumer" "pool" "LRingPipeline$Pool;" ∈ TB) (d : decode cc pc = .ok (.getfield idx, 3)) (kk : W p l e R s m args below meth c H locs cells slots Q (F0 m (pc + 3) ls (.ref b :: rest))) : W p l e R s m args below meth c H locs cells slots Q (F0 m pc ls (.ref a :: rest)) := gf_0_2 C hP hL hK hw d (by rw [hv]; exact kk)
theorem pf_0_2 {v : Option Nat} (C : cx_C p l s m args meth c s0 D cA cc nL ret RX0 A) (hin : meth.name = "<init>") (hP : va_P D vwCl (pW cA S) H) (hD : va_D A (pW cA S)) (hS : va_S A s.heap H locs) (hL : a ∈ mL S) (hK : mK S a = 0) (hw : Cond.fieldLink RX0 idx "RingPipeline$Consumer" "pool" "LRingPipeline$Pool;" ∈ TB) (d : decode cc pc = .ok (.putfield idx, 3)) (kk : ∀ (H1 : Heap) (locs1 : List Loc), va_P D vwCl (pW cA (uR S 2 a v)) H1 → va_D A (pW cA (uR S 2 a v)) → va_S A s.heap H1 locs1 → W p l e R s m args below meth c H1 locs1 cells slots Q (F0 m (pc + 3) ls rest)) : W p l e R s m args below meth c H locs cells slots Q (F0 m pc ls (va_rf v :: .ref a :: rest)) := by
  obtain ⟨k, hk⟩ := pW_get (cA := cA) hL
  have hk2 := hk
  rw [pF_0 hK] at hk2
  have he : (pW cA S).set k (a, .inr (0, [va_rf (mR S 0 a), .int (mI S 1 a), va_rf v, .int (mI S 3 a), .long (mJ S 4 a), .long (mJ S 5 a), .int (mI S 6 a), .int (mI S 7 a), .int (mI S 8 a), .int (mI S 9 a), .long (mJ S 10 a), .int (mI S 11 a), .long (mJ S 12 a), .int (mI S 13 a), .int (mI S 14 a)])) = pW cA (uR S 2 a v) := by
    refine pW_set hD hL hk rfl ?_ (fun b hb => pF_eq rfl (fun _ => rfl) (fun _ => rfl) (fun _ => (up2_a hb).symm) (fun _ => rfl) (fun _ => rfl) rfl rfl rfl rfl)
    rw [pF_0 (S := uR S 2 a v) hK]
    simp [uR, mR, up2, mI, mJ, mF, mE]
  exact va_putF (D := D) (ci := 0) (v := va_rf v) (ty := .object "RingPipeline$Pool") (C := RX0) (T := TX0) (N := 15) (cx_x C) (cx_b C) (cx_t C) inT_0 tyX0 tyX0_ok nmX0 (cx_own C) (cx_k C) hP hD hS k hk2 rfl 2 (by decide) (cx_t C _ hw) (fun _ h => h) rfl hin rfl (by decide +kernel) (by cases v <;> rfl) (by cases v <;> rfl) (Nat.le_of_ble_eq_true rfl) d (fun H1 locs1 h1 h2 h3 => kk H1 locs1 (by rw [← he]; exact h1) (by rw [← he]; exact h2) h3)
theorem gf_0_3 (C : cx_C p l s m args meth c s0 D cA cc nL ret own A) (hP : va_P D vwCl (pW cA S) H) (hL : a ∈ mL S) (hK : mK S a = 0) (hw : Cond.fieldLink own idx "RingPipeline$Consumer" "policy" "I" ∈ TB) (d : decode cc pc = .ok (.getfield idx, 3)) (kk : W p l e R s m args below meth c H locs cells slots Q (F0 m (pc + 3) ls (.int (mI S 3 a) :: rest))) : W p l e R s m args below meth c H locs cells slots Q (F0 m pc ls (.ref a :: rest)) := by
  obtain ⟨k, hk⟩ := pW_get (cA := cA) hL
  rw [pF_0 hK] at hk
  exact va_get (D := D) (ci := 0) (C := RX0) (T := TX0) (N := 15) (cx_x C) (cx_b C) (cx_t C) inT_0 (cx_own C) (cx_k C) hP k hk rfl 3 (by decide) (cx_t C _ hw) (fun _ h => h) rfl d kk
theorem pf_0_3 {v : Int32} (C : cx_C p l s m args meth c s0 D cA cc nL ret RX0 A) (hin : meth.name = "<init>") (hP : va_P D vwCl (pW cA S) H) (hD : va_D A (pW cA S)) (hS : va_S A s.heap H locs) (hL : a ∈ mL S) (hK : mK S a = 0) (hw : Cond.fieldLink RX0 idx "RingPipeline$Consumer" "policy" "I" ∈ TB) (d : decode cc pc = .ok (.putfield idx, 3)) (kk : ∀ (H1 : Heap) (locs1 : List Loc), va_P D vwCl (pW cA (uI S 3 a v)) H1 → va_D A (pW cA (uI S 3 a v)) → va_S A s.heap H1 locs1 → W p l e R s m args below meth c H1 locs1 cells slots Q (F0 m (pc + 3) ls rest)) : W p l e R s m args below meth c H locs cells slots Q (F0 m pc ls (.int v :: .ref a :: rest)) := by
  obtain ⟨k, hk⟩ := pW_get (cA := cA) hL
  have hk2 := hk
  rw [pF_0 hK] at hk2
  have he : (pW cA S).set k (a, .inr (0, [va_rf (mR S 0 a), .int (mI S 1 a), va_rf (mR S 2 a), .int v, .long (mJ S 4 a), .long (mJ S 5 a), .int (mI S 6 a), .int (mI S 7 a), .int (mI S 8 a), .int (mI S 9 a), .long (mJ S 10 a), .int (mI S 11 a), .long (mJ S 12 a), .int (mI S 13 a), .int (mI S 14 a)])) = pW cA (uI S 3 a v) := by
    refine pW_set hD hL hk rfl ?_ (fun b hb => pF_eq rfl (fun _ => (up2_a hb).symm) (fun _ => rfl) (fun _ => rfl) (fun _ => rfl) (fun _ => rfl) rfl rfl rfl rfl)
    rw [pF_0 (S := uI S 3 a v) hK]
    simp [uI, mI, up2, mJ, mR, mF, mE]
  exact va_putF (D := D) (ci := 0) (v := .int v) (ty := .int) (C := RX0) (T := TX0) (N := 15) (cx_x C) (cx_b C) (cx_t C) inT_0 tyX0 tyX0_ok nmX0 (cx_own C) (cx_k C) hP hD hS k hk2 rfl 3 (by decide) (cx_t C _ hw) (fun _ h => h) rfl hin rfl (by decide +kernel) rfl rfl (Nat.le_of_ble_eq_true rfl) d (fun H1 locs1 h1 h2 h3 => kk H1 locs1 (by rw [← he]; exact h1) (by rw [← he]; exact h2) h3)
theorem gf_0_4 (C : cx_C p l s m args meth c s0 D cA cc nL ret own A) (hP : va_P D vwCl (pW cA S) H) (hL : a ∈ mL S) (hK : mK S a = 0) (hw : Cond.fieldLink own idx "RingPipeline$Consumer" "place" "J" ∈ TB) (d : decode cc pc = .ok (.getfield idx, 3)) (kk : W p l e R s m args below meth c H locs cells slots Q (F0 m (pc + 3) ls (.long (mJ S 4 a) :: rest))) : W p l e R s m args below meth c H locs cells slots Q (F0 m pc ls (.ref a :: rest)) := by
  obtain ⟨k, hk⟩ := pW_get (cA := cA) hL
  rw [pF_0 hK] at hk
  exact va_get (D := D) (ci := 0) (C := RX0) (T := TX0) (N := 15) (cx_x C) (cx_b C) (cx_t C) inT_0 (cx_own C) (cx_k C) hP k hk rfl 4 (by decide) (cx_t C _ hw) (fun _ h => h) rfl d kk
theorem pf_0_4 {v : Int64} (C : cx_C p l s m args meth c s0 D cA cc nL ret own A) (hP : va_P D vwCl (pW cA S) H) (hD : va_D A (pW cA S)) (hS : va_S A s.heap H locs) (hL : a ∈ mL S) (hK : mK S a = 0) (hw : Cond.fieldLink own idx "RingPipeline$Consumer" "place" "J" ∈ TB) (d : decode cc pc = .ok (.putfield idx, 3)) (kk : ∀ (H1 : Heap) (locs1 : List Loc), va_P D vwCl (pW cA (uJ S 4 a v)) H1 → va_D A (pW cA (uJ S 4 a v)) → va_S A s.heap H1 locs1 → W p l e R s m args below meth c H1 locs1 cells slots Q (F0 m (pc + 3) ls rest)) : W p l e R s m args below meth c H locs cells slots Q (F0 m pc ls (.long v :: .ref a :: rest)) := by
  obtain ⟨k, hk⟩ := pW_get (cA := cA) hL
  have hk2 := hk
  rw [pF_0 hK] at hk2
  have he : (pW cA S).set k (a, .inr (0, [va_rf (mR S 0 a), .int (mI S 1 a), va_rf (mR S 2 a), .int (mI S 3 a), .long v, .long (mJ S 5 a), .int (mI S 6 a), .int (mI S 7 a), .int (mI S 8 a), .int (mI S 9 a), .long (mJ S 10 a), .int (mI S 11 a), .long (mJ S 12 a), .int (mI S 13 a), .int (mI S 14 a)])) = pW cA (uJ S 4 a v) := by
    refine pW_set hD hL hk rfl ?_ (fun b hb => pF_eq rfl (fun _ => rfl) (fun _ => (up2_a hb).symm) (fun _ => rfl) (fun _ => rfl) (fun _ => rfl) rfl rfl rfl rfl)
    rw [pF_0 (S := uJ S 4 a v) hK]
    simp [uJ, mJ, up2, mI, mR, mF, mE]
  exact va_put (D := D) (ci := 0) (v := .long v) (ty := .long) (C := RX0) (T := TX0) (N := 15) (cx_x C) (cx_b C) (cx_t C) inT_0 tyX0 tyX0_ok nmX0 (cx_own C) (cx_k C) hP hD hS k hk2 rfl 4 (by decide) (cx_t C _ hw) (fun _ h => h) rfl (by decide +kernel) rfl rfl (Nat.le_of_ble_eq_true rfl) d (fun H1 locs1 h1 h2 h3 => kk H1 locs1 (by rw [← he]; exact h1) (by rw [← he]; exact h2) h3)
theorem gf_0_5 (C : cx_C p l s m args meth c s0 D cA cc nL ret own A) (hP : va_P D vwCl (pW cA S) H) (hL : a ∈ mL S) (hK : mK S a = 0) (hw : Cond.fieldLink own idx "RingPipeline$Consumer" "event" "J" ∈ TB) (d : decode cc pc = .ok (.getfield idx, 3)) (kk : W p l e R s m args below meth c H locs cells slots Q (F0 m (pc + 3) ls (.long (mJ S 5 a) :: rest))) : W p l e R s m args below meth c H locs cells slots Q (F0 m pc ls (.ref a :: rest)) := by
  obtain ⟨k, hk⟩ := pW_get (cA := cA) hL
  rw [pF_0 hK] at hk
  exact va_get (D := D) (ci := 0) (C := RX0) (T := TX0) (N := 15) (cx_x C) (cx_b C) (cx_t C) inT_0 (cx_own C) (cx_k C) hP k hk rfl 5 (by decide) (cx_t C _ hw) (fun _ h => h) rfl d kk
theorem pf_0_5 {v : Int64} (C : cx_C p l s m args meth c s0 D cA cc nL ret own A) (hP : va_P D vwCl (pW cA S) H) (hD : va_D A (pW cA S)) (hS : va_S A s.heap H locs) (hL : a ∈ mL S) (hK : mK S a = 0) (hw : Cond.fieldLink own idx "RingPipeline$Consumer" "event" "J" ∈ TB) (d : decode cc pc = .ok (.putfield idx, 3)) (kk : ∀ (H1 : Heap) (locs1 : List Loc), va_P D vwCl (pW cA (uJ S 5 a v)) H1 → va_D A (pW cA (uJ S 5 a v)) → va_S A s.heap H1 locs1 → W p l e R s m args below meth c H1 locs1 cells slots Q (F0 m (pc + 3) ls rest)) : W p l e R s m args below meth c H locs cells slots Q (F0 m pc ls (.long v :: .ref a :: rest)) := by
  obtain ⟨k, hk⟩ := pW_get (cA := cA) hL
  have hk2 := hk
  rw [pF_0 hK] at hk2
  have he : (pW cA S).set k (a, .inr (0, [va_rf (mR S 0 a), .int (mI S 1 a), va_rf (mR S 2 a), .int (mI S 3 a), .long (mJ S 4 a), .long v, .int (mI S 6 a), .int (mI S 7 a), .int (mI S 8 a), .int (mI S 9 a), .long (mJ S 10 a), .int (mI S 11 a), .long (mJ S 12 a), .int (mI S 13 a), .int (mI S 14 a)])) = pW cA (uJ S 5 a v) := by
    refine pW_set hD hL hk rfl ?_ (fun b hb => pF_eq rfl (fun _ => rfl) (fun _ => (up2_a hb).symm) (fun _ => rfl) (fun _ => rfl) (fun _ => rfl) rfl rfl rfl rfl)
    rw [pF_0 (S := uJ S 5 a v) hK]
    simp [uJ, mJ, up2, mI, mR, mF, mE]
  exact va_put (D := D) (ci := 0) (v := .long v) (ty := .long) (C := RX0) (T := TX0) (N := 15) (cx_x C) (cx_b C) (cx_t C) inT_0 tyX0 tyX0_ok nmX0 (cx_own C) (cx_k C) hP hD hS k hk2 rfl 5 (by decide) (cx_t C _ hw) (fun _ h => h) rfl (by decide +kernel) rfl rfl (Nat.le_of_ble_eq_true rfl) d (fun H1 locs1 h1 h2 h3 => kk H1 locs1 (by rw [← he]; exact h1) (by rw [← he]; exact h2) h3)
theorem gf_0_6 (C : cx_C p l s m args meth c s0 D cA cc nL ret own A) (hP : va_P D vwCl (pW cA S) H) (hL : a ∈ mL S) (hK : mK S a = 0) (hw : Cond.fieldLink own idx "RingPipeline$Consumer" "handled" "I" ∈ TB) (d : decode cc pc = .ok (.getfield idx, 3)) (kk : W p l e R s m args below meth c H locs cells slots Q (F0 m (pc + 3) ls (.int (mI S 6 a) :: rest))) : W p l e R s m args below meth c H locs cells slots Q (F0 m pc ls (.ref a :: rest)) := by
  obtain ⟨k, hk⟩ := pW_get (cA := cA) hL
  rw [pF_0 hK] at hk
  exact va_get (D := D) (ci := 0) (C := RX0) (T := TX0) (N := 15) (cx_x C) (cx_b C) (cx_t C) inT_0 (cx_own C) (cx_k C) hP k hk rfl 6 (by decide) (cx_t C _ hw) (fun _ h => h) rfl d kk
theorem pf_0_6 {v : Int32} (C : cx_C p l s m args meth c s0 D cA cc nL ret own A) (hP : va_P D vwCl (pW cA S) H) (hD : va_D A (pW cA S)) (hS : va_S A s.heap H locs) (hL : a ∈ mL S) (hK : mK S a = 0) (hw : Cond.fieldLink own idx "RingPipeline$Consumer" "handled" "I" ∈ TB) (d : decode cc pc = .ok (.putfield idx, 3)) (kk : ∀ (H1 : Heap) (locs1 : List Loc), va_P D vwCl (pW cA (uI S 6 a v)) H1 → va_D A (pW cA (uI S 6 a v)) → va_S A s.heap H1 locs1 → W p l e R s m args below meth c H1 locs1 cells slots Q (F0 m (pc + 3) ls rest)) : W p l e R s m args below meth c H locs cells slots Q (F0 m pc ls (.int v :: .ref a :: rest)) := by
  obtain ⟨k, hk⟩ := pW_get (cA := cA) hL
  have hk2 := hk
  rw [pF_0 hK] at hk2
  have he : (pW cA S).set k (a, .inr (0, [va_rf (mR S 0 a), .int (mI S 1 a), va_rf (mR S 2 a), .int (mI S 3 a), .long (mJ S 4 a), .long (mJ S 5 a), .int v, .int (mI S 7 a), .int (mI S 8 a), .int (mI S 9 a), .long (mJ S 10 a), .int (mI S 11 a), .long (mJ S 12 a), .int (mI S 13 a), .int (mI S 14 a)])) = pW cA (uI S 6 a v) := by
    refine pW_set hD hL hk rfl ?_ (fun b hb => pF_eq rfl (fun _ => (up2_a hb).symm) (fun _ => rfl) (fun _ => rfl) (fun _ => rfl) (fun _ => rfl) rfl rfl rfl rfl)
    rw [pF_0 (S := uI S 6 a v) hK]
    simp [uI, mI, up2, mJ, mR, mF, mE]
  exact va_put (D := D) (ci := 0) (v := .int v) (ty := .int) (C := RX0) (T := TX0) (N := 15) (cx_x C) (cx_b C) (cx_t C) inT_0 tyX0 tyX0_ok nmX0 (cx_own C) (cx_k C) hP hD hS k hk2 rfl 6 (by decide) (cx_t C _ hw) (fun _ h => h) rfl (by decide +kernel) rfl rfl (Nat.le_of_ble_eq_true rfl) d (fun H1 locs1 h1 h2 h3 => kk H1 locs1 (by rw [← he]; exact h1) (by rw [← he]; exact h2) h3)
theorem gf_0_7 (C : cx_C p l s m args meth c s0 D cA cc nL ret own A) (hP : va_P D vwCl (pW cA S) H) (hL : a ∈ mL S) (hK : mK S a = 0) (hw : Cond.fieldLink own idx "RingPipeline$Consumer" "ignored" "I" ∈ TB) (d : decode cc pc = .ok (.getfield idx, 3)) (kk : W p l e R s m args below meth c H locs cells slots Q (F0 m (pc + 3) ls (.int (mI S 7 a) :: rest))) : W p l e R s m args below meth c H locs cells slots Q (F0 m pc ls (.ref a :: rest)) := by
  obtain ⟨k, hk⟩ := pW_get (cA := cA) hL
  rw [pF_0 hK] at hk
  exact va_get (D := D) (ci := 0) (C := RX0) (T := TX0) (N := 15) (cx_x C) (cx_b C) (cx_t C) inT_0 (cx_own C) (cx_k C) hP k hk rfl 7 (by decide) (cx_t C _ hw) (fun _ h => h) rfl d kk
theorem pf_0_7 {v : Int32} (C : cx_C p l s m args meth c s0 D cA cc nL ret own A) (hP : va_P D vwCl (pW cA S) H) (hD : va_D A (pW cA S)) (hS : va_S A s.heap H locs) (hL : a ∈ mL S) (hK : mK S a = 0) (hw : Cond.fieldLink own idx "RingPipeline$Consumer" "ignored" "I" ∈ TB) (d : decode cc pc = .ok (.putfield idx, 3)) (kk : ∀ (H1 : Heap) (locs1 : List Loc), va_P D vwCl (pW cA (uI S 7 a v)) H1 → va_D A (pW cA (uI S 7 a v)) → va_S A s.heap H1 locs1 → W p l e R s m args below meth c H1 locs1 cells slots Q (F0 m (pc + 3) ls rest)) : W p l e R s m args below meth c H locs cells slots Q (F0 m pc ls (.int v :: .ref a :: rest)) := by
  obtain ⟨k, hk⟩ := pW_get (cA := cA) hL
  have hk2 := hk
  rw [pF_0 hK] at hk2
  have he : (pW cA S).set k (a, .inr (0, [va_rf (mR S 0 a), .int (mI S 1 a), va_rf (mR S 2 a), .int (mI S 3 a), .long (mJ S 4 a), .long (mJ S 5 a), .int (mI S 6 a), .int v, .int (mI S 8 a), .int (mI S 9 a), .long (mJ S 10 a), .int (mI S 11 a), .long (mJ S 12 a), .int (mI S 13 a), .int (mI S 14 a)])) = pW cA (uI S 7 a v) := by
    refine pW_set hD hL hk rfl ?_ (fun b hb => pF_eq rfl (fun _ => (up2_a hb).symm) (fun _ => rfl) (fun _ => rfl) (fun _ => rfl) (fun _ => rfl) rfl rfl rfl rfl)
    rw [pF_0 (S := uI S 7 a v) hK]
    simp [uI, mI, up2, mJ, mR, mF, mE]
  exact va_put (D := D) (ci := 0) (v := .int v) (ty := .int) (C := RX0) (T := TX0) (N := 15) (cx_x C) (cx_b C) (cx_t C) inT_0 tyX0 tyX0_ok nmX0 (cx_own C) (cx_k C) hP hD hS k hk2 rfl 7 (by decide) (cx_t C _ hw) (fun _ h => h) rfl (by decide +kernel) rfl rfl (Nat.le_of_ble_eq_true rfl) d (fun H1 locs1 h1 h2 h3 => kk H1 locs1 (by rw [← he]; exact h1) (by rw [← he]; exact h2) h3)
theorem gf_0_8 (C : cx_C p l s m args meth c s0 D cA cc nL ret own A) (hP : va_P D vwCl (pW cA S) H) (hL : a ∈ mL S) (hK : mK S a = 0) (hw : Cond.fieldLink own idx "RingPipeline$Consumer" "rewound" "I" ∈ TB) (d : decode cc pc = .ok (.getfield idx, 3)) (kk : W p l e R s m args below meth c H locs cells slots Q (F0 m (pc + 3) ls (.int (mI S 8 a) :: rest))) : W p l e R s m args below meth c H locs cells slots Q (F0 m pc ls (.ref a :: rest)) := by
  obtain ⟨k, hk⟩ := pW_get (cA := cA) hL
  rw [pF_0 hK] at hk
  exact va_get (D := D) (ci := 0) (C := RX0) (T := TX0) (N := 15) (cx_x C) (cx_b C) (cx_t C) inT_0 (cx_own C) (cx_k C) hP k hk rfl 8 (by decide) (cx_t C _ hw) (fun _ h => h) rfl d kk
theorem pf_0_8 {v : Int32} (C : cx_C p l s m args meth c s0 D cA cc nL ret own A) (hP : va_P D vwCl (pW cA S) H) (hD : va_D A (pW cA S)) (hS : va_S A s.heap H locs) (hL : a ∈ mL S) (hK : mK S a = 0) (hw : Cond.fieldLink own idx "RingPipeline$Consumer" "rewound" "I" ∈ TB) (d : decode cc pc = .ok (.putfield idx, 3)) (kk : ∀ (H1 : Heap) (locs1 : List Loc), va_P D vwCl (pW cA (uI S 8 a v)) H1 → va_D A (pW cA (uI S 8 a v)) → va_S A s.heap H1 locs1 → W p l e R s m args below meth c H1 locs1 cells slots Q (F0 m (pc + 3) ls rest)) : W p l e R s m args below meth c H locs cells slots Q (F0 m pc ls (.int v :: .ref a :: rest)) := by
  obtain ⟨k, hk⟩ := pW_get (cA := cA) hL
  have hk2 := hk
  rw [pF_0 hK] at hk2
  have he : (pW cA S).set k (a, .inr (0, [va_rf (mR S 0 a), .int (mI S 1 a), va_rf (mR S 2 a), .int (mI S 3 a), .long (mJ S 4 a), .long (mJ S 5 a), .int (mI S 6 a), .int (mI S 7 a), .int v, .int (mI S 9 a), .long (mJ S 10 a), .int (mI S 11 a), .long (mJ S 12 a), .int (mI S 13 a), .int (mI S 14 a)])) = pW cA (uI S 8 a v) := by
    refine pW_set hD hL hk rfl ?_ (fun b hb => pF_eq rfl (fun _ => (up2_a hb).symm) (fun _ => rfl) (fun _ => rfl) (fun _ => rfl) (fun _ => rfl) rfl rfl rfl rfl)
    rw [pF_0 (S := uI S 8 a v) hK]
    simp [uI, mI, up2, mJ, mR, mF, mE]
  exact va_put (D := D) (ci := 0) (v := .int v) (ty := .int) (C := RX0) (T := TX0) (N := 15) (cx_x C) (cx_b C) (cx_t C) inT_0 tyX0 tyX0_ok nmX0 (cx_own C) (cx_k C) hP hD hS k hk2 rfl 8 (by decide) (cx_t C _ hw) (fun _ h => h) rfl (by decide +kernel) rfl rfl (Nat.le_of_ble_eq_true rfl) d (fun H1 locs1 h1 h2 h3 => kk H1 locs1 (by rw [← he]; exact h1) (by rw [← he]; exact h2) h3)
theorem gf_0_9 (C : cx_C p l s m args meth c s0 D cA cc nL ret own A) (hP : va_P D vwCl (pW cA S) H) (hL : a ∈ mL S) (hK : mK S a = 0) (hw : Cond.fieldLink own idx "RingPipeline$Consumer" "halted" "Z" ∈ TB) (d : decode cc pc = .ok (.getfield idx, 3)) (kk : W p l e R s m args below meth c H locs cells slots Q (F0 m (pc + 3) ls (.int (mI S 9 a) :: rest))) : W p l e R s m args below meth c H locs cells slots Q (F0 m pc ls (.ref a :: rest)) := by
  obtain ⟨k, hk⟩ := pW_get (cA := cA) hL
  rw [pF_0 hK] at hk
  exact va_get (D := D) (ci := 0) (C := RX0) (T := TX0) (N := 15) (cx_x C) (cx_b C) (cx_t C) inT_0 (cx_own C) (cx_k C) hP k hk rfl 9 (by decide) (cx_t C _ hw) (fun _ h => h) rfl d kk
theorem pf_0_9 {v : Int32} (C : cx_C p l s m args meth c s0 D cA cc nL ret own A) (hz : narrow .boolean (.int v) = .int v) (hfit : fits .boolean (.int v) = true) (hP : va_P D vwCl (pW cA S) H) (hD : va_D A (pW cA S)) (hS : va_S A s.heap H locs) (hL : a ∈ mL S) (hK : mK S a = 0) (hw : Cond.fieldLink own idx "RingPipeline$Consumer" "halted" "Z" ∈ TB) (d : decode cc pc = .ok (.putfield idx, 3)) (kk : ∀ (H1 : Heap) (locs1 : List Loc), va_P D vwCl (pW cA (uI S 9 a v)) H1 → va_D A (pW cA (uI S 9 a v)) → va_S A s.heap H1 locs1 → W p l e R s m args below meth c H1 locs1 cells slots Q (F0 m (pc + 3) ls rest)) : W p l e R s m args below meth c H locs cells slots Q (F0 m pc ls (.int v :: .ref a :: rest)) := by
  obtain ⟨k, hk⟩ := pW_get (cA := cA) hL
  have hk2 := hk
  rw [pF_0 hK] at hk2
  have he : (pW cA S).set k (a, .inr (0, [va_rf (mR S 0 a), .int (mI S 1 a), va_rf (mR S 2 a), .int (mI S 3 a), .long (mJ S 4 a), .long (mJ S 5 a), .int (mI S 6 a), .int (mI S 7 a), .int (mI S 8 a), .int v, .long (mJ S 10 a), .int (mI S 11 a), .long (mJ S 12 a), .int (mI S 13 a), .int (mI S 14 a)])) = pW cA (uI S 9 a v) := by
    refine pW_set hD hL hk rfl ?_ (fun b hb => pF_eq rfl (fun _ => (up2_a hb).symm) (fun _ => rfl) (fun _ => rfl) (fun _ => rfl) (fun _ => rfl) rfl rfl rfl rfl)
    rw [pF_0 (S := uI S 9 a v) hK]
    simp [uI, mI, up2, mJ, mR, mF, mE]
  exact va_put (D := D) (ci := 0) (v := .int v) (ty := .boolean) (C := RX0) (T := TX0) (N := 15) (cx_x C) (cx_b C) (cx_t C) inT_0 tyX0 tyX0_ok nmX0 (cx_own C) (cx_k C) hP hD hS k hk2 rfl 9 (by decide) (cx_t C _ hw) (fun _ h => h) rfl (by decide +kernel) hz hfit (Nat.le_of_ble_eq_true rfl) d (fun H1 locs1 h1 h2 h3 => kk H1 locs1 (by rw [← he]; exact h1) (by rw [← he]; exact h2) h3)
theorem gf_0_10 (C : cx_C p l s m args meth c s0 D cA cc nL ret own A) (hP : va_P D vwCl (pW cA S) H) (hL : a ∈ mL S) (hK : mK S a = 0) (hw : Cond.fieldLink own idx "RingPipeline$Consumer" "threwAt" "J" ∈ TB) (d : decode cc pc = .ok (.getfield idx, 3)) (kk : W p l e R s m args below meth c H locs cells slots Q (F0 m (pc + 3) ls (.long (mJ S 10 a) :: rest))) : W p l e R s m args below meth c H locs cells slots Q (F0 m pc ls (.ref a :: rest)) := by
  obtain ⟨k, hk⟩ := pW_get (cA := cA) hL
  rw [pF_0 hK] at hk
  exact va_get (D := D) (ci := 0) (C := RX0) (T := TX0) (N := 15) (cx_x C) (cx_b C) (cx_t C) inT_0 (cx_own C) (cx_k C) hP k hk rfl 10 (by decide) (cx_t C _ hw) (fun _ h => h) rfl d kk
theorem pf_0_10 {v : Int64} (C : cx_C p l s m args meth c s0 D cA cc nL ret own A) (hP : va_P D vwCl (pW cA S) H) (hD : va_D A (pW cA S)) (hS : va_S A s.heap H locs) (hL : a ∈ mL S) (hK : mK S a = 0) (hw : Cond.fieldLink own idx "RingPipeline$Consumer" "threwAt" "J" ∈ TB) (d : decode cc pc = .ok (.putfield idx, 3)) (kk : ∀ (H1 : Heap) (locs1 : List Loc), va_P D vwCl (pW cA (uJ S 10 a v)) H1 → va_D A (pW cA (uJ S 10 a v)) → va_S A s.heap H1 locs1 → W p l e R s m args below meth c H1 locs1 cells slots Q (F0 m (pc + 3) ls rest)) : W p l e R s m args below meth c H locs cells slots Q (F0 m pc ls (.long v :: .ref a :: rest)) := by
  obtain ⟨k, hk⟩ := pW_get (cA := cA) hL
  have hk2 := hk
  rw [pF_0 hK] at hk2
  have he : (pW cA S).set k (a, .inr (0, [va_rf (mR S 0 a), .int (mI S 1 a), va_rf (mR S 2 a), .int (mI S 3 a), .long (mJ S 4 a), .long (mJ S 5 a), .int (mI S 6 a), .int (mI S 7 a), .int (mI S 8 a), .int (mI S 9 a), .long v, .int (mI S 11 a), .long (mJ S 12 a), .int (mI S 13 a), .int (mI S 14 a)])) = pW cA (uJ S 10 a v) := by
    refine pW_set hD hL hk rfl ?_ (fun b hb => pF_eq rfl (fun _ => rfl) (fun _ => (up2_a hb).symm) (fun _ => rfl) (fun _ => rfl) (fun _ => rfl) rfl rfl rfl rfl)
    rw [pF_0 (S := uJ S 10 a v) hK]
    simp [uJ, mJ, up2, mI, mR, mF, mE]
  exact va_put (D := D) (ci := 0) (v := .long v) (ty := .long) (C := RX0) (T := TX0) (N := 15) (cx_x C) (cx_b C) (cx_t C) inT_0 tyX0 tyX0_ok nmX0 (cx_own C) (cx_k C) hP hD hS k hk2 rfl 10 (by decide) (cx_t C _ hw) (fun _ h => h) rfl (by decide +kernel) rfl rfl (Nat.le_of_ble_eq_true rfl) d (fun H1 locs1 h1 h2 h3 => kk H1 locs1 (by rw [← he]; exact h1) (by rw [← he]; exact h2) h3)
theorem gf_0_11 (C : cx_C p l s m args meth c s0 D cA cc nL ret own A) (hP : va_P D vwCl (pW cA S) H) (hL : a ∈ mL S) (hK : mK S a = 0) (hw : Cond.fieldLink own idx "RingPipeline$Consumer" "threwThere" "I" ∈ TB) (d : decode cc pc = .ok (.getfield idx, 3)) (kk : W p l e R s m args below meth c H locs cells slots Q (F0 m (pc + 3) ls (.int (mI S 11 a) :: rest))) : W p l e R s m args below meth c H locs cells slots Q (F0 m pc ls (.ref a :: rest)) := by
  obtain ⟨k, hk⟩ := pW_get (cA := cA) hL
  rw [pF_0 hK] at hk
  exact va_get (D := D) (ci := 0) (C := RX0) (T := TX0) (N := 15) (cx_x C) (cx_b C) (cx_t C) inT_0 (cx_own C) (cx_k C) hP k hk rfl 11 (by decide) (cx_t C _ hw) (fun _ h => h) rfl d kk
theorem pf_0_11 {v : Int32} (C : cx_C p l s m args meth c s0 D cA cc nL ret own A) (hP : va_P D vwCl (pW cA S) H) (hD : va_D A (pW cA S)) (hS : va_S A s.heap H locs) (hL : a ∈ mL S) (hK : mK S a = 0) (hw : Cond.fieldLink own idx "RingPipeline$Consumer" "threwThere" "I" ∈ TB) (d : decode cc pc = .ok (.putfield idx, 3)) (kk : ∀ (H1 : Heap) (locs1 : List Loc), va_P D vwCl (pW cA (uI S 11 a v)) H1 → va_D A (pW cA (uI S 11 a v)) → va_S A s.heap H1 locs1 → W p l e R s m args below meth c H1 locs1 cells slots Q (F0 m (pc + 3) ls rest)) : W p l e R s m args below meth c H locs cells slots Q (F0 m pc ls (.int v :: .ref a :: rest)) := by
  obtain ⟨k, hk⟩ := pW_get (cA := cA) hL
  have hk2 := hk
  rw [pF_0 hK] at hk2
  have he : (pW cA S).set k (a, .inr (0, [va_rf (mR S 0 a), .int (mI S 1 a), va_rf (mR S 2 a), .int (mI S 3 a), .long (mJ S 4 a), .long (mJ S 5 a), .int (mI S 6 a), .int (mI S 7 a), .int (mI S 8 a), .int (mI S 9 a), .long (mJ S 10 a), .int v, .long (mJ S 12 a), .int (mI S 13 a), .int (mI S 14 a)])) = pW cA (uI S 11 a v) := by
    refine pW_set hD hL hk rfl ?_ (fun b hb => pF_eq rfl (fun _ => (up2_a hb).symm) (fun _ => rfl) (fun _ => rfl) (fun _ => rfl) (fun _ => rfl) rfl rfl rfl rfl)
    rw [pF_0 (S := uI S 11 a v) hK]
    simp [uI, mI, up2, mJ, mR, mF, mE]
  exact va_put (D := D) (ci := 0) (v := .int v) (ty := .int) (C := RX0) (T := TX0) (N := 15) (cx_x C) (cx_b C) (cx_t C) inT_0 tyX0 tyX0_ok nmX0 (cx_own C) (cx_k C) hP hD hS k hk2 rfl 11 (by decide) (cx_t C _ hw) (fun _ h => h) rfl (by decide +kernel) rfl rfl (Nat.le_of_ble_eq_true rfl) d (fun H1 locs1 h1 h2 h3 => kk H1 locs1 (by rw [← he]; exact h1) (by rw [← he]; exact h2) h3)
theorem gf_0_12 (C : cx_C p l s m args meth c s0 D cA cc nL ret own A) (hP : va_P D vwCl (pW cA S) H) (hL : a ∈ mL S) (hK : mK S a = 0) (hw : Cond.fieldLink own idx "RingPipeline$Consumer" "placeAtStart" "J" ∈ TB) (d : decode cc pc = .ok (.getfield idx, 3)) (kk : W p l e R s m args below meth c H locs cells slots Q (F0 m (pc + 3) ls (.long (mJ S 12 a) :: rest))) : W p l e R s m args below meth c H locs cells slots Q (F0 m pc ls (.ref a :: rest)) := by
  obtain ⟨k, hk⟩ := pW_get (cA := cA) hL
  rw [pF_0 hK] at hk
  exact va_get (D := D) (ci := 0) (C := RX0) (T := TX0) (N := 15) (cx_x C) (cx_b C) (cx_t C) inT_0 (cx_own C) (cx_k C) hP k hk rfl 12 (by decide) (cx_t C _ hw) (fun _ h => h) rfl d kk
theorem pf_0_12 {v : Int64} (C : cx_C p l s m args meth c s0 D cA cc nL ret own A) (hP : va_P D vwCl (pW cA S) H) (hD : va_D A (pW cA S)) (hS : va_S A s.heap H locs) (hL : a ∈ mL S) (hK : mK S a = 0) (hw : Cond.fieldLink own idx "RingPipeline$Consumer" "placeAtStart" "J" ∈ TB) (d : decode cc pc = .ok (.putfield idx, 3)) (kk : ∀ (H1 : Heap) (locs1 : List Loc), va_P D vwCl (pW cA (uJ S 12 a v)) H1 → va_D A (pW cA (uJ S 12 a v)) → va_S A s.heap H1 locs1 → W p l e R s m args below meth c H1 locs1 cells slots Q (F0 m (pc + 3) ls rest)) : W p l e R s m args below meth c H locs cells slots Q (F0 m pc ls (.long v :: .ref a :: rest)) := by
  obtain ⟨k, hk⟩ := pW_get (cA := cA) hL
  have hk2 := hk
  rw [pF_0 hK] at hk2
  have he : (pW cA S).set k (a, .inr (0, [va_rf (mR S 0 a), .int (mI S 1 a), va_rf (mR S 2 a), .int (mI S 3 a), .long (mJ S 4 a), .long (mJ S 5 a), .int (mI S 6 a), .int (mI S 7 a), .int (mI S 8 a), .int (mI S 9 a), .long (mJ S 10 a), .int (mI S 11 a), .long v, .int (mI S 13 a), .int (mI S 14 a)])) = pW cA (uJ S 12 a v) := by
    refine pW_set hD hL hk rfl ?_ (fun b hb => pF_eq rfl (fun _ => rfl) (fun _ => (up2_a hb).symm) (fun _ => rfl) (fun _ => rfl) (fun _ => rfl) rfl rfl rfl rfl)
    rw [pF_0 (S := uJ S 12 a v) hK]
    simp [uJ, mJ, up2, mI, mR, mF, mE]
  exact va_put (D := D) (ci := 0) (v := .long v) (ty := .long) (C := RX0) (T := TX0) (N := 15) (cx_x C) (cx_b C) (cx_t C) inT_0 tyX0 tyX0_ok nmX0 (cx_own C) (cx_k C) hP hD hS k hk2 rfl 12 (by decide) (cx_t C _ hw) (fun _ h => h) rfl (by decide +kernel) rfl rfl (Nat.le_of_ble_eq_true rfl) d (fun H1 locs1 h1 h2 h3 => kk H1 locs1 (by rw [← he]; exact h1) (by rw [← he]; exact h2) h3)
theorem gf_0_13 (C : cx_C p l s m args meth c s0 D cA cc nL ret own A) (hP : va_P D vwCl (pW cA S) H) (hL : a ∈ mL S) (hK : mK S a = 0) (hw : Cond.fieldLink own idx "RingPipeline$Consumer" "handledAtStart" "I" ∈ TB) (d : decode cc pc = .ok (.getfield idx, 3)) (kk : W p l e R s m args below meth c H locs cells slots Q (F0 m (pc + 3) ls (.int (mI S 13 a) :: rest))) : W p l e R s m args below meth c H locs cells slots Q (F0 m pc ls (.ref a :: rest)) := by
  obtain ⟨k, hk⟩ := pW_get (cA := cA) hL
  rw [pF_0 hK] at hk
  exact va_get (D := D) (ci := 0) (C := RX0) (T := TX0) (N := 15) (cx_x C) (cx_b C) (cx_t C) inT_0 (cx_own C) (cx_k C) hP k hk rfl 13 (by decide) (cx_t C _ hw) (fun _ h => h) rfl d kk
theorem pf_0_13 {v : Int32} (C : cx_C p l s m args meth c s0 D cA cc nL ret own A) (hP : va_P D vwCl (pW cA S) H) (hD : va_D A (pW cA S)) (hS : va_S A s.heap H locs) (hL : a ∈ mL S) (hK : mK S a = 0) (hw : Cond.fieldLink own idx "RingPipeline$Consumer" "handledAtStart" "I" ∈ TB) (d : decode cc pc = .ok (.putfield idx, 3)) (kk : ∀ (H1 : Heap) (locs1 : List Loc), va_P D vwCl (pW cA (uI S 13 a v)) H1 → va_D A (pW cA (uI S 13 a v)) → va_S A s.heap H1 locs1 → W p l e R s m args below meth c H1 locs1 cells slots Q (F0 m (pc + 3) ls rest)) : W p l e R s m args below meth c H locs cells slots Q (F0 m pc ls (.int v :: .ref a :: rest)) := by
  obtain ⟨k, hk⟩ := pW_get (cA := cA) hL
  have hk2 := hk
  rw [pF_0 hK] at hk2
  have he : (pW cA S).set k (a, .inr (0, [va_rf (mR S 0 a), .int (mI S 1 a), va_rf (mR S 2 a), .int (mI S 3 a), .long (mJ S 4 a), .long (mJ S 5 a), .int (mI S 6 a), .int (mI S 7 a), .int (mI S 8 a), .int (mI S 9 a), .long (mJ S 10 a), .int (mI S 11 a), .long (mJ S 12 a), .int v, .int (mI S 14 a)])) = pW cA (uI S 13 a v) := by
    refine pW_set hD hL hk rfl ?_ (fun b hb => pF_eq rfl (fun _ => (up2_a hb).symm) (fun _ => rfl) (fun _ => rfl) (fun _ => rfl) (fun _ => rfl) rfl rfl rfl rfl)
    rw [pF_0 (S := uI S 13 a v) hK]
    simp [uI, mI, up2, mJ, mR, mF, mE]
  exact va_put (D := D) (ci := 0) (v := .int v) (ty := .int) (C := RX0) (T := TX0) (N := 15) (cx_x C) (cx_b C) (cx_t C) inT_0 tyX0 tyX0_ok nmX0 (cx_own C) (cx_k C) hP hD hS k hk2 rfl 13 (by decide) (cx_t C _ hw) (fun _ h => h) rfl (by decide +kernel) rfl rfl (Nat.le_of_ble_eq_true rfl) d (fun H1 locs1 h1 h2 h3 => kk H1 locs1 (by rw [← he]; exact h1) (by rw [← he]; exact h2) h3)
theorem gf_0_14 (C : cx_C p l s m args meth c s0 D cA cc nL ret own A) (hP : va_P D vwCl (pW cA S) H) (hL : a ∈ mL S) (hK : mK S a = 0) (hw : Cond.fieldLink own idx "RingPipeline$Consumer" "ignoredAtStart" "I" ∈ TB) (d : decode cc pc = .ok (.getfield idx, 3)) (kk : W p l e R s m args below meth c H locs cells slots Q (F0 m (pc + 3) ls (.int (mI S 14 a) :: rest))) : W p l e R s m args below meth c H locs cells slots Q (F0 m pc ls (.ref a :: rest)) := by
  obtain ⟨k, hk⟩ := pW_get (cA := cA) hL
  rw [pF_0 hK] at hk
  exact va_get (D := D) (ci := 0) (C := RX0) (T := TX0) (N := 15) (cx_x C) (cx_b C) (cx_t C) inT_0 (cx_own C) (cx_k C) hP k hk rfl 14 (by decide) (cx_t C _ hw) (fun _ h => h) rfl d kk
theorem pf_0_14 {v : Int32} (C : cx_C p l s m args meth c s0 D cA cc nL ret own A) (hP : va_P D vwCl (pW cA S) H) (hD : va_D A (pW cA S)) (hS : va_S A s.heap H locs) (hL : a ∈ mL S) (hK : mK S a = 0) (hw : Cond.fieldLink own idx "RingPipeline$Consumer" "ignoredAtStart" "I" ∈ TB) (d : decode cc pc = .ok (.putfield idx, 3)) (kk : ∀ (H1 : Heap) (locs1 : List Loc), va_P D vwCl (pW cA (uI S 14 a v)) H1 → va_D A (pW cA (uI S 14 a v)) → va_S A s.heap H1 locs1 → W p l e R s m args below meth c H1 locs1 cells slots Q (F0 m (pc + 3) ls rest)) : W p l e R s m args below meth c H locs cells slots Q (F0 m pc ls (.int v :: .ref a :: rest)) := by
  obtain ⟨k, hk⟩ := pW_get (cA := cA) hL
  have hk2 := hk
  rw [pF_0 hK] at hk2
  have he : (pW cA S).set k (a, .inr (0, [va_rf (mR S 0 a), .int (mI S 1 a), va_rf (mR S 2 a), .int (mI S 3 a), .long (mJ S 4 a), .long (mJ S 5 a), .int (mI S 6 a), .int (mI S 7 a), .int (mI S 8 a), .int (mI S 9 a), .long (mJ S 10 a), .int (mI S 11 a), .long (mJ S 12 a), .int (mI S 13 a), .int v])) = pW cA (uI S 14 a v) := by
    refine pW_set hD hL hk rfl ?_ (fun b hb => pF_eq rfl (fun _ => (up2_a hb).symm) (fun _ => rfl) (fun _ => rfl) (fun _ => rfl) (fun _ => rfl) rfl rfl rfl rfl)
    rw [pF_0 (S := uI S 14 a v) hK]
    simp [uI, mI, up2, mJ, mR, mF, mE]
  exact va_put (D := D) (ci := 0) (v := .int v) (ty := .int) (C := RX0) (T := TX0) (N := 15) (cx_x C) (cx_b C) (cx_t C) inT_0 tyX0 tyX0_ok nmX0 (cx_own C) (cx_k C) hP hD hS k hk2 rfl 14 (by decide) (cx_t C _ hw) (fun _ h => h) rfl (by decide +kernel) rfl rfl (Nat.le_of_ble_eq_true rfl) d (fun H1 locs1 h1 h2 h3 => kk H1 locs1 (by rw [← he]; exact h1) (by rw [← he]; exact h2) h3)
theorem nwo_0 (C : cx_C p l s m args meth c s0 D cA cc nL ret own A) (hP : va_P D vwCl (pW cA S) H) (hD : va_D A (pW cA S)) (hS : va_S A s.heap H locs) (hw : Cond.classLink own idx "RingPipeline$Consumer" ∈ TB) (hc : cells + 1 ≤ R.cells) (hs : slots + 15 ≤ R.slots) (d : decode cc pc = .ok (.new idx, 3)) (kk : ∀ (q : Nat) (H1 : Heap), q ∉ mL S → va_P D vwCl (pW cA (nw S q 0 0)) H1 → va_D A (pW cA (nw S q 0 0)) → va_S A s.heap H1 locs → W p l e R s m args below meth c H1 locs (cells + 1) (slots + 15) Q (F0 m (pc + 3) ls (.ref q :: rest))) : W p l e R s m args below meth c H locs cells slots Q (F0 m pc ls rest) := by
  refine va_new (D := D) (ci := 0) (fs := [.null, .int 0, .null, .int 0, .long 0, .long 0, .int 0, .int 0, .int 0, .int 0, .long 0, .int 0, .long 0, .int 0, .int 0]) (C := RX0) (T := TX0) (N := 15) (cx_x C) (cx_b C) (cx_t C) inT_0 tyX0 tyX0_ok (cx_own C) (cx_t C _ hw) (cx_t C _ tm_187) (cx_t C _ tm_9) (cx_k C) hP hD hS (cx_a C) rfl (fun j hj => by rcases (show j = 0 ∨ j = 1 ∨ j = 2 ∨ j = 3 ∨ j = 4 ∨ j = 5 ∨ j = 6 ∨ j = 7 ∨ j = 8 ∨ j = 9 ∨ j = 10 ∨ j = 11 ∨ j = 12 ∨ j = 13 ∨ j = 14 by omega) with rfl | rfl | rfl | rfl | rfl | rfl | rfl | rfl | rfl | rfl | rfl | rfl | rfl | rfl | rfl <;> rfl) hc hs d (fun q H1 h1 h2 h3 => ?_)
  have hq := pW_new (k := 0) (n := 0) h2 (by rw [pF_0 (by simp [nw, mK, va_up])]; simp [nw, mI, mJ, mR, mF, mE, va_rf])
  exact kk q H1 hq.2 (by rw [← hq.1]; exact h1) (by rw [← hq.1]; exact h2) h3
theorem rcv_2 (C : cx_C p l s m args meth c s0 D cA cc nL ret own A) (hP : va_P D vwCl (pW cA S) H) (hL : a ∈ mL S) (hK : mK S a = 1) : ∃ cell : Cell, H[a]? = some cell ∧ cell.vm.isStatics = false ∧ s.vm.findClass RX2 = some cell.cls := by
  obtain ⟨k, hk⟩ := pW_get (cA := cA) hL
  rw [pF_1 hK] at hk
  exact va_recv (cx_k C) hP (ci := 1) (q := (RX2, TX2, 3)) rfl hk
theorem gf_2_0 (C : cx_C p l s m args meth c s0 D cA cc nL ret own A) (hP : va_P D vwCl (pW cA S) H) (hL : a ∈ mL S) (hK : mK S a = 1) (hw : Cond.fieldLink own idx "RingPipeline$Journal" "bytes" "[B" ∈ TB) (d : decode cc pc = .ok (.getfield idx, 3)) (kk : W p l e R s m args below meth c H locs cells slots Q (F0 m (pc + 3) ls (va_rf (mR S 0 a) :: rest))) : W p l e R s m args below meth c H locs cells slots Q (F0 m pc ls (.ref a :: rest)) := by
  obtain ⟨k, hk⟩ := pW_get (cA := cA) hL
  rw [pF_1 hK] at hk
  exact va_get (D := D) (ci := 1) (C := RX2) (T := TX2) (N := 3) (cx_x C) (cx_b C) (cx_t C) inT_2 (cx_own C) (cx_k C) hP k hk rfl 0 (by decide) (cx_t C _ hw) (fun _ h => h) rfl d kk
theorem gf_2_0s {b : Nat} (C : cx_C p l s m args meth c s0 D cA cc nL ret own A) (hP : va_P D vwCl (pW cA S) H) (hL : a ∈ mL S) (hK : mK S a = 1) (hv : mR S 0 a = some b) (hw : Cond.fieldLink own idx "RingPipeline$Journal" "bytes" "[B" ∈ TB) (d : decode cc pc = .ok (.getfield idx, 3)) (kk : W p l e R s m args below meth c H locs cells slots Q (F0 m (pc + 3) ls (.ref b :: rest))) : W p l e R s m args below meth c H locs cells slots Q (F0 m pc ls (.ref a :: rest)) := gf_2_0 C hP hL hK hw d (by rw [hv]; exact kk)
theorem pf_2_0 {v : Option Nat} (C : cx_C p l s m args meth c s0 D cA cc nL ret RX2 A) (hin : meth.name = "<init>") (hP : va_P D vwCl (pW cA S) H) (hD : va_D A (pW cA S)) (hS : va_S A s.heap H locs) (hL : a ∈ mL S) (hK : mK S a = 1) (hw : Cond.fieldLink RX2 idx "RingPipeline$Journal" "bytes" "[B" ∈ TB) (d : decode cc pc = .ok (.putfield idx, 3)) (kk : ∀ (H1 : Heap) (locs1 : List Loc), va_P D vwCl (pW cA (uR S 0 a v)) H1 → va_D A (pW cA (uR S 0 a v)) → va_S A s.heap H1 locs1 → W p l e R s m args below meth c H1 locs1 cells slots Q (F0 m (pc + 3) ls rest)) : W p l e R s m args below meth c H locs cells slots Q (F0 m pc ls (va_rf v :: .ref a :: rest)) := by
  obtain ⟨k, hk⟩ := pW_get (cA := cA) hL
  have hk2 := hk
  rw [pF_1 hK] at hk2
  have he : (pW cA S).set k (a, .inr (1, [va_rf v, .int (mI S 1 a), .int (mI S 2 a)])) = pW cA (uR S 0 a v) := by
    refine pW_set hD hL hk rfl ?_ (fun b hb => pF_eq rfl (fun _ => rfl) (fun _ => rfl) (fun _ => (up2_a hb).symm) (fun _ => rfl) (fun _ => rfl) rfl rfl rfl rfl)
    rw [pF_1 (S := uR S 0 a v) hK]
    simp [uR, mR, up2, mI, mJ, mF, mE]
  exact va_putF (D := D) (ci := 1) (v := va_rf v) (ty := .array .byte) (C := RX2) (T := TX2) (N := 3) (cx_x C) (cx_b C) (cx_t C) inT_2 tyX2 tyX2_ok nmX2 (cx_own C) (cx_k C) hP hD hS k hk2 rfl 0 (by decide) (cx_t C _ hw) (fun _ h => h) rfl hin rfl (by decide +kernel) (by cases v <;> rfl) (by cases v <;> rfl) (Nat.le_of_ble_eq_true rfl) d (fun H1 locs1 h1 h2 h3 => kk H1 locs1 (by rw [← he]; exact h1) (by rw [← he]; exact h2) h3)
theorem gf_2_1 (C : cx_C p l s m args meth c s0 D cA cc nL ret own A) (hP : va_P D vwCl (pW cA S) H) (hL : a ∈ mL S) (hK : mK S a = 1) (hw : Cond.fieldLink own idx "RingPipeline$Journal" "length" "I" ∈ TB) (d : decode cc pc = .ok (.getfield idx, 3)) (kk : W p l e R s m args below meth c H locs cells slots Q (F0 m (pc + 3) ls (.int (mI S 1 a) :: rest))) : W p l e R s m args below meth c H locs cells slots Q (F0 m pc ls (.ref a :: rest)) := by
  obtain ⟨k, hk⟩ := pW_get (cA := cA) hL
  rw [pF_1 hK] at hk
  exact va_get (D := D) (ci := 1) (C := RX2) (T := TX2) (N := 3) (cx_x C) (cx_b C) (cx_t C) inT_2 (cx_own C) (cx_k C) hP k hk rfl 1 (by decide) (cx_t C _ hw) (fun _ h => h) rfl d kk
theorem pf_2_1 {v : Int32} (C : cx_C p l s m args meth c s0 D cA cc nL ret own A) (hP : va_P D vwCl (pW cA S) H) (hD : va_D A (pW cA S)) (hS : va_S A s.heap H locs) (hL : a ∈ mL S) (hK : mK S a = 1) (hw : Cond.fieldLink own idx "RingPipeline$Journal" "length" "I" ∈ TB) (d : decode cc pc = .ok (.putfield idx, 3)) (kk : ∀ (H1 : Heap) (locs1 : List Loc), va_P D vwCl (pW cA (uI S 1 a v)) H1 → va_D A (pW cA (uI S 1 a v)) → va_S A s.heap H1 locs1 → W p l e R s m args below meth c H1 locs1 cells slots Q (F0 m (pc + 3) ls rest)) : W p l e R s m args below meth c H locs cells slots Q (F0 m pc ls (.int v :: .ref a :: rest)) := by
  obtain ⟨k, hk⟩ := pW_get (cA := cA) hL
  have hk2 := hk
  rw [pF_1 hK] at hk2
  have he : (pW cA S).set k (a, .inr (1, [va_rf (mR S 0 a), .int v, .int (mI S 2 a)])) = pW cA (uI S 1 a v) := by
    refine pW_set hD hL hk rfl ?_ (fun b hb => pF_eq rfl (fun _ => (up2_a hb).symm) (fun _ => rfl) (fun _ => rfl) (fun _ => rfl) (fun _ => rfl) rfl rfl rfl rfl)
    rw [pF_1 (S := uI S 1 a v) hK]
    simp [uI, mI, up2, mJ, mR, mF, mE]
  exact va_put (D := D) (ci := 1) (v := .int v) (ty := .int) (C := RX2) (T := TX2) (N := 3) (cx_x C) (cx_b C) (cx_t C) inT_2 tyX2 tyX2_ok nmX2 (cx_own C) (cx_k C) hP hD hS k hk2 rfl 1 (by decide) (cx_t C _ hw) (fun _ h => h) rfl (by decide +kernel) rfl rfl (Nat.le_of_ble_eq_true rfl) d (fun H1 locs1 h1 h2 h3 => kk H1 locs1 (by rw [← he]; exact h1) (by rw [← he]; exact h2) h3)
theorem gf_2_2 (C : cx_C p l s m args meth c s0 D cA cc nL ret own A) (hP : va_P D vwCl (pW cA S) H) (hL : a ∈ mL S) (hK : mK S a = 1) (hw : Cond.fieldLink own idx "RingPipeline$Journal" "keptLength" "I" ∈ TB) (d : decode cc pc = .ok (.getfield idx, 3)) (kk : W p l e R s m args below meth c H locs cells slots Q (F0 m (pc + 3) ls (.int (mI S 2 a) :: rest))) : W p l e R s m args below meth c H locs cells slots Q (F0 m pc ls (.ref a :: rest)) := by
  obtain ⟨k, hk⟩ := pW_get (cA := cA) hL
  rw [pF_1 hK] at hk
  exact va_get (D := D) (ci := 1) (C := RX2) (T := TX2) (N := 3) (cx_x C) (cx_b C) (cx_t C) inT_2 (cx_own C) (cx_k C) hP k hk rfl 2 (by decide) (cx_t C _ hw) (fun _ h => h) rfl d kk
theorem pf_2_2 {v : Int32} (C : cx_C p l s m args meth c s0 D cA cc nL ret own A) (hP : va_P D vwCl (pW cA S) H) (hD : va_D A (pW cA S)) (hS : va_S A s.heap H locs) (hL : a ∈ mL S) (hK : mK S a = 1) (hw : Cond.fieldLink own idx "RingPipeline$Journal" "keptLength" "I" ∈ TB) (d : decode cc pc = .ok (.putfield idx, 3)) (kk : ∀ (H1 : Heap) (locs1 : List Loc), va_P D vwCl (pW cA (uI S 2 a v)) H1 → va_D A (pW cA (uI S 2 a v)) → va_S A s.heap H1 locs1 → W p l e R s m args below meth c H1 locs1 cells slots Q (F0 m (pc + 3) ls rest)) : W p l e R s m args below meth c H locs cells slots Q (F0 m pc ls (.int v :: .ref a :: rest)) := by
  obtain ⟨k, hk⟩ := pW_get (cA := cA) hL
  have hk2 := hk
  rw [pF_1 hK] at hk2
  have he : (pW cA S).set k (a, .inr (1, [va_rf (mR S 0 a), .int (mI S 1 a), .int v])) = pW cA (uI S 2 a v) := by
    refine pW_set hD hL hk rfl ?_ (fun b hb => pF_eq rfl (fun _ => (up2_a hb).symm) (fun _ => rfl) (fun _ => rfl) (fun _ => rfl) (fun _ => rfl) rfl rfl rfl rfl)
    rw [pF_1 (S := uI S 2 a v) hK]
    simp [uI, mI, up2, mJ, mR, mF, mE]
  exact va_put (D := D) (ci := 1) (v := .int v) (ty := .int) (C := RX2) (T := TX2) (N := 3) (cx_x C) (cx_b C) (cx_t C) inT_2 tyX2 tyX2_ok nmX2 (cx_own C) (cx_k C) hP hD hS k hk2 rfl 2 (by decide) (cx_t C _ hw) (fun _ h => h) rfl (by decide +kernel) rfl rfl (Nat.le_of_ble_eq_true rfl) d (fun H1 locs1 h1 h2 h3 => kk H1 locs1 (by rw [← he]; exact h1) (by rw [← he]; exact h2) h3)
theorem nwo_2 (C : cx_C p l s m args meth c s0 D cA cc nL ret own A) (hP : va_P D vwCl (pW cA S) H) (hD : va_D A (pW cA S)) (hS : va_S A s.heap H locs) (hw : Cond.classLink own idx "RingPipeline$Journal" ∈ TB) (hc : cells + 1 ≤ R.cells) (hs : slots + 3 ≤ R.slots) (d : decode cc pc = .ok (.new idx, 3)) (kk : ∀ (q : Nat) (H1 : Heap), q ∉ mL S → va_P D vwCl (pW cA (nw S q 1 0)) H1 → va_D A (pW cA (nw S q 1 0)) → va_S A s.heap H1 locs → W p l e R s m args below meth c H1 locs (cells + 1) (slots + 3) Q (F0 m (pc + 3) ls (.ref q :: rest))) : W p l e R s m args below meth c H locs cells slots Q (F0 m pc ls rest) := by
  refine va_new (D := D) (ci := 1) (fs := [.null, .int 0, .int 0]) (C := RX2) (T := TX2) (N := 3) (cx_x C) (cx_b C) (cx_t C) inT_2 tyX2 tyX2_ok (cx_own C) (cx_t C _ hw) (cx_t C _ tm_242) (cx_t C _ tm_14) (cx_k C) hP hD hS (cx_a C) rfl (fun j hj => by rcases (show j = 0 ∨ j = 1 ∨ j = 2 by omega) with rfl | rfl | rfl <;> rfl) hc hs d (fun q H1 h1 h2 h3 => ?_)
  have hq := pW_new (k := 1) (n := 0) h2 (by rw [pF_1 (by simp [nw, mK, va_up])]; simp [nw, mI, mJ, mR, mF, mE, va_rf])
  exact kk q H1 hq.2 (by rw [← hq.1]; exact h1) (by rw [← hq.1]; exact h2) h3
theorem rcv_3 (C : cx_C p l s m args meth c s0 D cA cc nL ret own A) (hP : va_P D vwCl (pW cA S) H) (hL : a ∈ mL S) (hK : mK S a = 2) : ∃ cell : Cell, H[a]? = some cell ∧ cell.vm.isStatics = false ∧ s.vm.findClass RX3 = some cell.cls := by
  obtain ⟨k, hk⟩ := pW_get (cA := cA) hL
  rw [pF_2 hK] at hk
  exact va_recv (cx_k C) hP (ci := 2) (q := (RX3, TX3, 4)) rfl hk
theorem gf_3_0 (C : cx_C p l s m args meth c s0 D cA cc nL ret own A) (hP : va_P D vwCl (pW cA S) H) (hL : a ∈ mL S) (hK : mK S a = 2) (hw : Cond.fieldLink own idx "RingPipeline$Mean" "mean" "D" ∈ TB) (d : decode cc pc = .ok (.getfield idx, 3)) (kk : W p l e R s m args below meth c H locs cells slots Q (F0 m (pc + 3) ls (.double (mE S 0 a) :: rest))) : W p l e R s m args below meth c H locs cells slots Q (F0 m pc ls (.ref a :: rest)) := by
  obtain ⟨k, hk⟩ := pW_get (cA := cA) hL
  rw [pF_2 hK] at hk
  exact va_get (D := D) (ci := 2) (C := RX3) (T := TX3) (N := 4) (cx_x C) (cx_b C) (cx_t C) inT_3 (cx_own C) (cx_k C) hP k hk rfl 0 (by decide) (cx_t C _ hw) (fun _ h => h) rfl d kk
theorem pf_3_0 {v : UInt64} (C : cx_C p l s m args meth c s0 D cA cc nL ret own A) (hP : va_P D vwCl (pW cA S) H) (hD : va_D A (pW cA S)) (hS : va_S A s.heap H locs) (hL : a ∈ mL S) (hK : mK S a = 2) (hw : Cond.fieldLink own idx "RingPipeline$Mean" "mean" "D" ∈ TB) (d : decode cc pc = .ok (.putfield idx, 3)) (kk : ∀ (H1 : Heap) (locs1 : List Loc), va_P D vwCl (pW cA (uE S 0 a v)) H1 → va_D A (pW cA (uE S 0 a v)) → va_S A s.heap H1 locs1 → W p l e R s m args below meth c H1 locs1 cells slots Q (F0 m (pc + 3) ls rest)) : W p l e R s m args below meth c H locs cells slots Q (F0 m pc ls (.double v :: .ref a :: rest)) := by
  obtain ⟨k, hk⟩ := pW_get (cA := cA) hL
  have hk2 := hk
  rw [pF_2 hK] at hk2
  have he : (pW cA S).set k (a, .inr (2, [.double v, .int (mI S 1 a), .double (mE S 2 a), .int (mI S 3 a)])) = pW cA (uE S 0 a v) := by
    refine pW_set hD hL hk rfl ?_ (fun b hb => pF_eq rfl (fun _ => rfl) (fun _ => rfl) (fun _ => rfl) (fun _ => rfl) (fun _ => (up2_a hb).symm) rfl rfl rfl rfl)
    rw [pF_2 (S := uE S 0 a v) hK]
    simp [uE, mE, up2, mI, mJ, mR, mF]
  exact va_put (D := D) (ci := 2) (v := .double v) (ty := .double) (C := RX3) (T := TX3) (N := 4) (cx_x C) (cx_b C) (cx_t C) inT_3 tyX3 tyX3_ok nmX3 (cx_own C) (cx_k C) hP hD hS k hk2 rfl 0 (by decide) (cx_t C _ hw) (fun _ h => h) rfl (by decide +kernel) rfl rfl (Nat.le_of_ble_eq_true rfl) d (fun H1 locs1 h1 h2 h3 => kk H1 locs1 (by rw [← he]; exact h1) (by rw [← he]; exact h2) h3)
theorem gf_3_1 (C : cx_C p l s m args meth c s0 D cA cc nL ret own A) (hP : va_P D vwCl (pW cA S) H) (hL : a ∈ mL S) (hK : mK S a = 2) (hw : Cond.fieldLink own idx "RingPipeline$Mean" "events" "I" ∈ TB) (d : decode cc pc = .ok (.getfield idx, 3)) (kk : W p l e R s m args below meth c H locs cells slots Q (F0 m (pc + 3) ls (.int (mI S 1 a) :: rest))) : W p l e R s m args below meth c H locs cells slots Q (F0 m pc ls (.ref a :: rest)) := by
  obtain ⟨k, hk⟩ := pW_get (cA := cA) hL
  rw [pF_2 hK] at hk
  exact va_get (D := D) (ci := 2) (C := RX3) (T := TX3) (N := 4) (cx_x C) (cx_b C) (cx_t C) inT_3 (cx_own C) (cx_k C) hP k hk rfl 1 (by decide) (cx_t C _ hw) (fun _ h => h) rfl d kk
theorem pf_3_1 {v : Int32} (C : cx_C p l s m args meth c s0 D cA cc nL ret own A) (hP : va_P D vwCl (pW cA S) H) (hD : va_D A (pW cA S)) (hS : va_S A s.heap H locs) (hL : a ∈ mL S) (hK : mK S a = 2) (hw : Cond.fieldLink own idx "RingPipeline$Mean" "events" "I" ∈ TB) (d : decode cc pc = .ok (.putfield idx, 3)) (kk : ∀ (H1 : Heap) (locs1 : List Loc), va_P D vwCl (pW cA (uI S 1 a v)) H1 → va_D A (pW cA (uI S 1 a v)) → va_S A s.heap H1 locs1 → W p l e R s m args below meth c H1 locs1 cells slots Q (F0 m (pc + 3) ls rest)) : W p l e R s m args below meth c H locs cells slots Q (F0 m pc ls (.int v :: .ref a :: rest)) := by
  obtain ⟨k, hk⟩ := pW_get (cA := cA) hL
  have hk2 := hk
  rw [pF_2 hK] at hk2
  have he : (pW cA S).set k (a, .inr (2, [.double (mE S 0 a), .int v, .double (mE S 2 a), .int (mI S 3 a)])) = pW cA (uI S 1 a v) := by
    refine pW_set hD hL hk rfl ?_ (fun b hb => pF_eq rfl (fun _ => (up2_a hb).symm) (fun _ => rfl) (fun _ => rfl) (fun _ => rfl) (fun _ => rfl) rfl rfl rfl rfl)
    rw [pF_2 (S := uI S 1 a v) hK]
    simp [uI, mI, up2, mJ, mR, mF, mE]
  exact va_put (D := D) (ci := 2) (v := .int v) (ty := .int) (C := RX3) (T := TX3) (N := 4) (cx_x C) (cx_b C) (cx_t C) inT_3 tyX3 tyX3_ok nmX3 (cx_own C) (cx_k C) hP hD hS k hk2 rfl 1 (by decide) (cx_t C _ hw) (fun _ h => h) rfl (by decide +kernel) rfl rfl (Nat.le_of_ble_eq_true rfl) d (fun H1 locs1 h1 h2 h3 => kk H1 locs1 (by rw [← he]; exact h1) (by rw [← he]; exact h2) h3)
theorem gf_3_2 (C : cx_C p l s m args meth c s0 D cA cc nL ret own A) (hP : va_P D vwCl (pW cA S) H) (hL : a ∈ mL S) (hK : mK S a = 2) (hw : Cond.fieldLink own idx "RingPipeline$Mean" "keptMean" "D" ∈ TB) (d : decode cc pc = .ok (.getfield idx, 3)) (kk : W p l e R s m args below meth c H locs cells slots Q (F0 m (pc + 3) ls (.double (mE S 2 a) :: rest))) : W p l e R s m args below meth c H locs cells slots Q (F0 m pc ls (.ref a :: rest)) := by
  obtain ⟨k, hk⟩ := pW_get (cA := cA) hL
  rw [pF_2 hK] at hk
  exact va_get (D := D) (ci := 2) (C := RX3) (T := TX3) (N := 4) (cx_x C) (cx_b C) (cx_t C) inT_3 (cx_own C) (cx_k C) hP k hk rfl 2 (by decide) (cx_t C _ hw) (fun _ h => h) rfl d kk
theorem pf_3_2 {v : UInt64} (C : cx_C p l s m args meth c s0 D cA cc nL ret own A) (hP : va_P D vwCl (pW cA S) H) (hD : va_D A (pW cA S)) (hS : va_S A s.heap H locs) (hL : a ∈ mL S) (hK : mK S a = 2) (hw : Cond.fieldLink own idx "RingPipeline$Mean" "keptMean" "D" ∈ TB) (d : decode cc pc = .ok (.putfield idx, 3)) (kk : ∀ (H1 : Heap) (locs1 : List Loc), va_P D vwCl (pW cA (uE S 2 a v)) H1 → va_D A (pW cA (uE S 2 a v)) → va_S A s.heap H1 locs1 → W p l e R s m args below meth c H1 locs1 cells slots Q (F0 m (pc + 3) ls rest)) : W p l e R s m args below meth c H locs cells slots Q (F0 m pc ls (.double v :: .ref a :: rest)) := by
  obtain ⟨k, hk⟩ := pW_get (cA := cA) hL
  have hk2 := hk
  rw [pF_2 hK] at hk2
  have he : (pW cA S).set k (a, .inr (2, [.double (mE S 0 a), .int (mI S 1 a), .double v, .int (mI S 3 a)])) = pW cA (uE S 2 a v) := by
    refine pW_set hD hL hk rfl ?_ (fun b hb => pF_eq rfl (fun _ => rfl) (fun _ => rfl) (fun _ => rfl) (fun _ => rfl) (fun _ => (up2_a hb).symm) rfl rfl rfl rfl)
    rw [pF_2 (S := uE S 2 a v) hK]
    simp [uE, mE, up2, mI, mJ, mR, mF]
  exact va_put (D := D) (ci := 2) (v := .double v) (ty := .double) (C := RX3) (T := TX3) (N := 4) (cx_x C) (cx_b C) (cx_t C) inT_3 tyX3 tyX3_ok nmX3 (cx_own C) (cx_k C) hP hD hS k hk2 rfl 2 (by decide) (cx_t C _ hw) (fun _ h => h) rfl (by decide +kernel) rfl rfl (Nat.le_of_ble_eq_true rfl) d (fun H1 locs1 h1 h2 h3 => kk H1 locs1 (by rw [← he]; exact h1) (by rw [← he]; exact h2) h3)
theorem gf_3_3 (C : cx_C p l s m args meth c s0 D cA cc nL ret own A) (hP : va_P D vwCl (pW cA S) H) (hL : a ∈ mL S) (hK : mK S a = 2) (hw : Cond.fieldLink own idx "RingPipeline$Mean" "keptEvents" "I" ∈ TB) (d : decode cc pc = .ok (.getfield idx, 3)) (kk : W p l e R s m args below meth c H locs cells slots Q (F0 m (pc + 3) ls (.int (mI S 3 a) :: rest))) : W p l e R s m args below meth c H locs cells slots Q (F0 m pc ls (.ref a :: rest)) := by
  obtain ⟨k, hk⟩ := pW_get (cA := cA) hL
  rw [pF_2 hK] at hk
  exact va_get (D := D) (ci := 2) (C := RX3) (T := TX3) (N := 4) (cx_x C) (cx_b C) (cx_t C) inT_3 (cx_own C) (cx_k C) hP k hk rfl 3 (by decide) (cx_t C _ hw) (fun _ h => h) rfl d kk
theorem pf_3_3 {v : Int32} (C : cx_C p l s m args meth c s0 D cA cc nL ret own A) (hP : va_P D vwCl (pW cA S) H) (hD : va_D A (pW cA S)) (hS : va_S A s.heap H locs) (hL : a ∈ mL S) (hK : mK S a = 2) (hw : Cond.fieldLink own idx "RingPipeline$Mean" "keptEvents" "I" ∈ TB) (d : decode cc pc = .ok (.putfield idx, 3)) (kk : ∀ (H1 : Heap) (locs1 : List Loc), va_P D vwCl (pW cA (uI S 3 a v)) H1 → va_D A (pW cA (uI S 3 a v)) → va_S A s.heap H1 locs1 → W p l e R s m args below meth c H1 locs1 cells slots Q (F0 m (pc + 3) ls rest)) : W p l e R s m args below meth c H locs cells slots Q (F0 m pc ls (.int v :: .ref a :: rest)) := by
  obtain ⟨k, hk⟩ := pW_get (cA := cA) hL
  have hk2 := hk
  rw [pF_2 hK] at hk2
  have he : (pW cA S).set k (a, .inr (2, [.double (mE S 0 a), .int (mI S 1 a), .double (mE S 2 a), .int v])) = pW cA (uI S 3 a v) := by
    refine pW_set hD hL hk rfl ?_ (fun b hb => pF_eq rfl (fun _ => (up2_a hb).symm) (fun _ => rfl) (fun _ => rfl) (fun _ => rfl) (fun _ => rfl) rfl rfl rfl rfl)
    rw [pF_2 (S := uI S 3 a v) hK]
    simp [uI, mI, up2, mJ, mR, mF, mE]
  exact va_put (D := D) (ci := 2) (v := .int v) (ty := .int) (C := RX3) (T := TX3) (N := 4) (cx_x C) (cx_b C) (cx_t C) inT_3 tyX3 tyX3_ok nmX3 (cx_own C) (cx_k C) hP hD hS k hk2 rfl 3 (by decide) (cx_t C _ hw) (fun _ h => h) rfl (by decide +kernel) rfl rfl (Nat.le_of_ble_eq_true rfl) d (fun H1 locs1 h1 h2 h3 => kk H1 locs1 (by rw [← he]; exact h1) (by rw [← he]; exact h2) h3)
theorem nwo_3 (C : cx_C p l s m args meth c s0 D cA cc nL ret own A) (hP : va_P D vwCl (pW cA S) H) (hD : va_D A (pW cA S)) (hS : va_S A s.heap H locs) (hw : Cond.classLink own idx "RingPipeline$Mean" ∈ TB) (hc : cells + 1 ≤ R.cells) (hs : slots + 4 ≤ R.slots) (d : decode cc pc = .ok (.new idx, 3)) (kk : ∀ (q : Nat) (H1 : Heap), q ∉ mL S → va_P D vwCl (pW cA (nw S q 2 0)) H1 → va_D A (pW cA (nw S q 2 0)) → va_S A s.heap H1 locs → W p l e R s m args below meth c H1 locs (cells + 1) (slots + 4) Q (F0 m (pc + 3) ls (.ref q :: rest))) : W p l e R s m args below meth c H locs cells slots Q (F0 m pc ls rest) := by
  refine va_new (D := D) (ci := 2) (fs := [.double 0, .int 0, .double 0, .int 0]) (C := RX3) (T := TX3) (N := 4) (cx_x C) (cx_b C) (cx_t C) inT_3 tyX3 tyX3_ok (cx_own C) (cx_t C _ hw) (cx_t C _ tm_222) (cx_t C _ tm_13) (cx_k C) hP hD hS (cx_a C) rfl (fun j hj => by rcases (show j = 0 ∨ j = 1 ∨ j = 2 ∨ j = 3 by omega) with rfl | rfl | rfl | rfl <;> rfl) hc hs d (fun q H1 h1 h2 h3 => ?_)
  have hq := pW_new (k := 2) (n := 0) h2 (by rw [pF_2 (by simp [nw, mK, va_up])]; simp [nw, mI, mJ, mR, mF, mE, va_rf])
  exact kk q H1 hq.2 (by rw [← hq.1]; exact h1) (by rw [← hq.1]; exact h2) h3
theorem rcv_4 (C : cx_C p l s m args meth c s0 D cA cc nL ret own A) (hP : va_P D vwCl (pW cA S) H) (hL : a ∈ mL S) (hK : mK S a = 3) : ∃ cell : Cell, H[a]? = some cell ∧ cell.vm.isStatics = false ∧ s.vm.findClass RX4 = some cell.cls := by
  obtain ⟨k, hk⟩ := pW_get (cA := cA) hL
  rw [pF_3 hK] at hk
  exact va_recv (cx_k C) hP (ci := 3) (q := (RX4, TX4, 4)) rfl hk
theorem gf_4_0 (C : cx_C p l s m args meth c s0 D cA cc nL ret own A) (hP : va_P D vwCl (pW cA S) H) (hL : a ∈ mL S) (hK : mK S a = 3) (hw : Cond.fieldLink own idx "RingPipeline$Pool" "on" "I" ∈ TB) (d : decode cc pc = .ok (.getfield idx, 3)) (kk : W p l e R s m args below meth c H locs cells slots Q (F0 m (pc + 3) ls (.int (mI S 0 a) :: rest))) : W p l e R s m args below meth c H locs cells slots Q (F0 m pc ls (.ref a :: rest)) := by
  obtain ⟨k, hk⟩ := pW_get (cA := cA) hL
  rw [pF_3 hK] at hk
  exact va_get (D := D) (ci := 3) (C := RX4) (T := TX4) (N := 4) (cx_x C) (cx_b C) (cx_t C) inT_4 (cx_own C) (cx_k C) hP k hk rfl 0 (by decide) (cx_t C _ hw) (fun _ h => h) rfl d kk
theorem pf_4_0 {v : Int32} (C : cx_C p l s m args meth c s0 D cA cc nL ret RX4 A) (hin : meth.name = "<init>") (hP : va_P D vwCl (pW cA S) H) (hD : va_D A (pW cA S)) (hS : va_S A s.heap H locs) (hL : a ∈ mL S) (hK : mK S a = 3) (hw : Cond.fieldLink RX4 idx "RingPipeline$Pool" "on" "I" ∈ TB) (d : decode cc pc = .ok (.putfield idx, 3)) (kk : ∀ (H1 : Heap) (locs1 : List Loc), va_P D vwCl (pW cA (uI S 0 a v)) H1 → va_D A (pW cA (uI S 0 a v)) → va_S A s.heap H1 locs1 → W p l e R s m args below meth c H1 locs1 cells slots Q (F0 m (pc + 3) ls rest)) : W p l e R s m args below meth c H locs cells slots Q (F0 m pc ls (.int v :: .ref a :: rest)) := by
  obtain ⟨k, hk⟩ := pW_get (cA := cA) hL
  have hk2 := hk
  rw [pF_3 hK] at hk2
  have he : (pW cA S).set k (a, .inr (3, [.int v, va_rf (mR S 1 a), .int (mI S 2 a), .long (mJ S 3 a)])) = pW cA (uI S 0 a v) := by
    refine pW_set hD hL hk rfl ?_ (fun b hb => pF_eq rfl (fun _ => (up2_a hb).symm) (fun _ => rfl) (fun _ => rfl) (fun _ => rfl) (fun _ => rfl) rfl rfl rfl rfl)
    rw [pF_3 (S := uI S 0 a v) hK]
    simp [uI, mI, up2, mJ, mR, mF, mE]
  exact va_putF (D := D) (ci := 3) (v := .int v) (ty := .int) (C := RX4) (T := TX4) (N := 4) (cx_x C) (cx_b C) (cx_t C) inT_4 tyX4 tyX4_ok nmX4 (cx_own C) (cx_k C) hP hD hS k hk2 rfl 0 (by decide) (cx_t C _ hw) (fun _ h => h) rfl hin rfl (by decide +kernel) rfl rfl (Nat.le_of_ble_eq_true rfl) d (fun H1 locs1 h1 h2 h3 => kk H1 locs1 (by rw [← he]; exact h1) (by rw [← he]; exact h2) h3)
theorem gf_4_1 (C : cx_C p l s m args meth c s0 D cA cc nL ret own A) (hP : va_P D vwCl (pW cA S) H) (hL : a ∈ mL S) (hK : mK S a = 3) (hw : Cond.fieldLink own idx "RingPipeline$Pool" "workers" "[LRingPipeline$Consumer;" ∈ TB) (d : decode cc pc = .ok (.getfield idx, 3)) (kk : W p l e R s m args below meth c H locs cells slots Q (F0 m (pc + 3) ls (va_rf (mR S 1 a) :: rest))) : W p l e R s m args below meth c H locs cells slots Q (F0 m pc ls (.ref a :: rest)) := by
  obtain ⟨k, hk⟩ := pW_get (cA := cA) hL
  rw [pF_3 hK] at hk
  exact va_get (D := D) (ci := 3) (C := RX4) (T := TX4) (N := 4) (cx_x C) (cx_b C) (cx_t C) inT_4 (cx_own C) (cx_k C) hP k hk rfl 1 (by decide) (cx_t C _ hw) (fun _ h => h) rfl d kk
theorem gf_4_1s {b : Nat} (C : cx_C p l s m args meth c s0 D cA cc nL ret own A) (hP : va_P D vwCl (pW cA S) H) (hL : a ∈ mL S) (hK : mK S a = 3) (hv : mR S 1 a = some b) (hw : Cond.fieldLink own idx "RingPipeline$Pool" "workers" "[LRingPipeline$Consumer;" ∈ TB) (d : decode cc pc = .ok (.getfield idx, 3)) (kk : W p l e R s m args below meth c H locs cells slots Q (F0 m (pc + 3) ls (.ref b :: rest))) : W p l e R s m args below meth c H locs cells slots Q (F0 m pc ls (.ref a :: rest)) := gf_4_1 C hP hL hK hw d (by rw [hv]; exact kk)
theorem pf_4_1 {v : Option Nat} (C : cx_C p l s m args meth c s0 D cA cc nL ret RX4 A) (hin : meth.name = "<init>") (hP : va_P D vwCl (pW cA S) H) (hD : va_D A (pW cA S)) (hS : va_S A s.heap H locs) (hL : a ∈ mL S) (hK : mK S a = 3) (hw : Cond.fieldLink RX4 idx "RingPipeline$Pool" "workers" "[LRingPipeline$Consumer;" ∈ TB) (d : decode cc pc = .ok (.putfield idx, 3)) (kk : ∀ (H1 : Heap) (locs1 : List Loc), va_P D vwCl (pW cA (uR S 1 a v)) H1 → va_D A (pW cA (uR S 1 a v)) → va_S A s.heap H1 locs1 → W p l e R s m args below meth c H1 locs1 cells slots Q (F0 m (pc + 3) ls rest)) : W p l e R s m args below meth c H locs cells slots Q (F0 m pc ls (va_rf v :: .ref a :: rest)) := by
  obtain ⟨k, hk⟩ := pW_get (cA := cA) hL
  have hk2 := hk
  rw [pF_3 hK] at hk2
  have he : (pW cA S).set k (a, .inr (3, [.int (mI S 0 a), va_rf v, .int (mI S 2 a), .long (mJ S 3 a)])) = pW cA (uR S 1 a v) := by
    refine pW_set hD hL hk rfl ?_ (fun b hb => pF_eq rfl (fun _ => rfl) (fun _ => rfl) (fun _ => (up2_a hb).symm) (fun _ => rfl) (fun _ => rfl) rfl rfl rfl rfl)
    rw [pF_3 (S := uR S 1 a v) hK]
    simp [uR, mR, up2, mI, mJ, mF, mE]
  exact va_putF (D := D) (ci := 3) (v := va_rf v) (ty := .array (.object "RingPipeline$Consumer")) (C := RX4) (T := TX4) (N := 4) (cx_x C) (cx_b C) (cx_t C) inT_4 tyX4 tyX4_ok nmX4 (cx_own C) (cx_k C) hP hD hS k hk2 rfl 1 (by decide) (cx_t C _ hw) (fun _ h => h) rfl hin rfl (by decide +kernel) (by cases v <;> rfl) (by cases v <;> rfl) (Nat.le_of_ble_eq_true rfl) d (fun H1 locs1 h1 h2 h3 => kk H1 locs1 (by rw [← he]; exact h1) (by rw [← he]; exact h2) h3)
theorem gf_4_2 (C : cx_C p l s m args meth c s0 D cA cc nL ret own A) (hP : va_P D vwCl (pW cA S) H) (hL : a ∈ mL S) (hK : mK S a = 3) (hw : Cond.fieldLink own idx "RingPipeline$Pool" "size" "I" ∈ TB) (d : decode cc pc = .ok (.getfield idx, 3)) (kk : W p l e R s m args below meth c H locs cells slots Q (F0 m (pc + 3) ls (.int (mI S 2 a) :: rest))) : W p l e R s m args below meth c H locs cells slots Q (F0 m pc ls (.ref a :: rest)) := by
  obtain ⟨k, hk⟩ := pW_get (cA := cA) hL
  rw [pF_3 hK] at hk
  exact va_get (D := D) (ci := 3) (C := RX4) (T := TX4) (N := 4) (cx_x C) (cx_b C) (cx_t C) inT_4 (cx_own C) (cx_k C) hP k hk rfl 2 (by decide) (cx_t C _ hw) (fun _ h => h) rfl d kk
theorem pf_4_2 {v : Int32} (C : cx_C p l s m args meth c s0 D cA cc nL ret own A) (hP : va_P D vwCl (pW cA S) H) (hD : va_D A (pW cA S)) (hS : va_S A s.heap H locs) (hL : a ∈ mL S) (hK : mK S a = 3) (hw : Cond.fieldLink own idx "RingPipeline$Pool" "size" "I" ∈ TB) (d : decode cc pc = .ok (.putfield idx, 3)) (kk : ∀ (H1 : Heap) (locs1 : List Loc), va_P D vwCl (pW cA (uI S 2 a v)) H1 → va_D A (pW cA (uI S 2 a v)) → va_S A s.heap H1 locs1 → W p l e R s m args below meth c H1 locs1 cells slots Q (F0 m (pc + 3) ls rest)) : W p l e R s m args below meth c H locs cells slots Q (F0 m pc ls (.int v :: .ref a :: rest)) := by
  obtain ⟨k, hk⟩ := pW_get (cA := cA) hL
  have hk2 := hk
  rw [pF_3 hK] at hk2
  have he : (pW cA S).set k (a, .inr (3, [.int (mI S 0 a), va_rf (mR S 1 a), .int v, .long (mJ S 3 a)])) = pW cA (uI S 2 a v) := by
    refine pW_set hD hL hk rfl ?_ (fun b hb => pF_eq rfl (fun _ => (up2_a hb).symm) (fun _ => rfl) (fun _ => rfl) (fun _ => rfl) (fun _ => rfl) rfl rfl rfl rfl)
    rw [pF_3 (S := uI S 2 a v) hK]
    simp [uI, mI, up2, mJ, mR, mF, mE]
  exact va_put (D := D) (ci := 3) (v := .int v) (ty := .int) (C := RX4) (T := TX4) (N := 4) (cx_x C) (cx_b C) (cx_t C) inT_4 tyX4 tyX4_ok nmX4 (cx_own C) (cx_k C) hP hD hS k hk2 rfl 2 (by decide) (cx_t C _ hw) (fun _ h => h) rfl (by decide +kernel) rfl rfl (Nat.le_of_ble_eq_true rfl) d (fun H1 locs1 h1 h2 h3 => kk H1 locs1 (by rw [← he]; exact h1) (by rw [← he]; exact h2) h3)
theorem gf_4_3 (C : cx_C p l s m args meth c s0 D cA cc nL ret own A) (hP : va_P D vwCl (pW cA S) H) (hL : a ∈ mL S) (hK : mK S a = 3) (hw : Cond.fieldLink own idx "RingPipeline$Pool" "next" "J" ∈ TB) (d : decode cc pc = .ok (.getfield idx, 3)) (kk : W p l e R s m args below meth c H locs cells slots Q (F0 m (pc + 3) ls (.long (mJ S 3 a) :: rest))) : W p l e R s m args below meth c H locs cells slots Q (F0 m pc ls (.ref a :: rest)) := by
  obtain ⟨k, hk⟩ := pW_get (cA := cA) hL
  rw [pF_3 hK] at hk
  exact va_get (D := D) (ci := 3) (C := RX4) (T := TX4) (N := 4) (cx_x C) (cx_b C) (cx_t C) inT_4 (cx_own C) (cx_k C) hP k hk rfl 3 (by decide) (cx_t C _ hw) (fun _ h => h) rfl d kk
theorem pf_4_3 {v : Int64} (C : cx_C p l s m args meth c s0 D cA cc nL ret own A) (hP : va_P D vwCl (pW cA S) H) (hD : va_D A (pW cA S)) (hS : va_S A s.heap H locs) (hL : a ∈ mL S) (hK : mK S a = 3) (hw : Cond.fieldLink own idx "RingPipeline$Pool" "next" "J" ∈ TB) (d : decode cc pc = .ok (.putfield idx, 3)) (kk : ∀ (H1 : Heap) (locs1 : List Loc), va_P D vwCl (pW cA (uJ S 3 a v)) H1 → va_D A (pW cA (uJ S 3 a v)) → va_S A s.heap H1 locs1 → W p l e R s m args below meth c H1 locs1 cells slots Q (F0 m (pc + 3) ls rest)) : W p l e R s m args below meth c H locs cells slots Q (F0 m pc ls (.long v :: .ref a :: rest)) := by
  obtain ⟨k, hk⟩ := pW_get (cA := cA) hL
  have hk2 := hk
  rw [pF_3 hK] at hk2
  have he : (pW cA S).set k (a, .inr (3, [.int (mI S 0 a), va_rf (mR S 1 a), .int (mI S 2 a), .long v])) = pW cA (uJ S 3 a v) := by
    refine pW_set hD hL hk rfl ?_ (fun b hb => pF_eq rfl (fun _ => rfl) (fun _ => (up2_a hb).symm) (fun _ => rfl) (fun _ => rfl) (fun _ => rfl) rfl rfl rfl rfl)
    rw [pF_3 (S := uJ S 3 a v) hK]
    simp [uJ, mJ, up2, mI, mR, mF, mE]
  exact va_put (D := D) (ci := 3) (v := .long v) (ty := .long) (C := RX4) (T := TX4) (N := 4) (cx_x C) (cx_b C) (cx_t C) inT_4 tyX4 tyX4_ok nmX4 (cx_own C) (cx_k C) hP hD hS k hk2 rfl 3 (by decide) (cx_t C _ hw) (fun _ h => h) rfl (by decide +kernel) rfl rfl (Nat.le_of_ble_eq_true rfl) d (fun H1 locs1 h1 h2 h3 => kk H1 locs1 (by rw [← he]; exact h1) (by rw [← he]; exact h2) h3)
theorem nwo_4 (C : cx_C p l s m args meth c s0 D cA cc nL ret own A) (hP : va_P D vwCl (pW cA S) H) (hD : va_D A (pW cA S)) (hS : va_S A s.heap H locs) (hw : Cond.classLink own idx "RingPipeline$Pool" ∈ TB) (hc : cells + 1 ≤ R.cells) (hs : slots + 4 ≤ R.slots) (d : decode cc pc = .ok (.new idx, 3)) (kk : ∀ (q : Nat) (H1 : Heap), q ∉ mL S → va_P D vwCl (pW cA (nw S q 3 0)) H1 → va_D A (pW cA (nw S q 3 0)) → va_S A s.heap H1 locs → W p l e R s m args below meth c H1 locs (cells + 1) (slots + 4) Q (F0 m (pc + 3) ls (.ref q :: rest))) : W p l e R s m args below meth c H locs cells slots Q (F0 m pc ls rest) := by
  refine va_new (D := D) (ci := 3) (fs := [.int 0, .null, .int 0, .long 0]) (C := RX4) (T := TX4) (N := 4) (cx_x C) (cx_b C) (cx_t C) inT_4 tyX4 tyX4_ok (cx_own C) (cx_t C _ hw) (cx_t C _ tm_262) (cx_t C _ tm_15) (cx_k C) hP hD hS (cx_a C) rfl (fun j hj => by rcases (show j = 0 ∨ j = 1 ∨ j = 2 ∨ j = 3 by omega) with rfl | rfl | rfl | rfl <;> rfl) hc hs d (fun q H1 h1 h2 h3 => ?_)
  have hq := pW_new (k := 3) (n := 0) h2 (by rw [pF_3 (by simp [nw, mK, va_up])]; simp [nw, mI, mJ, mR, mF, mE, va_rf])
  exact kk q H1 hq.2 (by rw [← hq.1]; exact h1) (by rw [← hq.1]; exact h2) h3
theorem rcv_5 (C : cx_C p l s m args meth c s0 D cA cc nL ret own A) (hP : va_P D vwCl (pW cA S) H) (hL : a ∈ mL S) (hK : mK S a = 4) : ∃ cell : Cell, H[a]? = some cell ∧ cell.vm.isStatics = false ∧ s.vm.findClass RX5 = some cell.cls := by
  obtain ⟨k, hk⟩ := pW_get (cA := cA) hL
  rw [pF_4 hK] at hk
  exact va_recv (cx_k C) hP (ci := 4) (q := (RX5, TX5, 5)) rfl hk
theorem gf_5_0 (C : cx_C p l s m args meth c s0 D cA cc nL ret own A) (hP : va_P D vwCl (pW cA S) H) (hL : a ∈ mL S) (hK : mK S a = 4) (hw : Cond.fieldLink own idx "RingPipeline$Ring" "values" "[J" ∈ TB) (d : decode cc pc = .ok (.getfield idx, 3)) (kk : W p l e R s m args below meth c H locs cells slots Q (F0 m (pc + 3) ls (va_rf (mR S 0 a) :: rest))) : W p l e R s m args below meth c H locs cells slots Q (F0 m pc ls (.ref a :: rest)) := by
  obtain ⟨k, hk⟩ := pW_get (cA := cA) hL
  rw [pF_4 hK] at hk
  exact va_get (D := D) (ci := 4) (C := RX5) (T := TX5) (N := 5) (cx_x C) (cx_b C) (cx_t C) inT_5 (cx_own C) (cx_k C) hP k hk rfl 0 (by decide) (cx_t C _ hw) (fun _ h => h) rfl d kk
theorem gf_5_0s {b : Nat} (C : cx_C p l s m args meth c s0 D cA cc nL ret own A) (hP : va_P D vwCl (pW cA S) H) (hL : a ∈ mL S) (hK : mK S a = 4) (hv : mR S 0 a = some b) (hw : Cond.fieldLink own idx "RingPipeline$Ring" "values" "[J" ∈ TB) (d : decode cc pc = .ok (.getfield idx, 3)) (kk : W p l e R s m args below meth c H locs cells slots Q (F0 m (pc + 3) ls (.ref b :: rest))) : W p l e R s m args below meth c H locs cells slots Q (F0 m pc ls (.ref a :: rest)) := gf_5_0 C hP hL hK hw d (by rw [hv]; exact kk)
theorem pf_5_0 {v : Option Nat} (C : cx_C p l s m args meth c s0 D cA cc nL ret RX5 A) (hin : meth.name = "<init>") (hP : va_P D vwCl (pW cA S) H) (hD : va_D A (pW cA S)) (hS : va_S A s.heap H locs) (hL : a ∈ mL S) (hK : mK S a = 4) (hw : Cond.fieldLink RX5 idx "RingPipeline$Ring" "values" "[J" ∈ TB) (d : decode cc pc = .ok (.putfield idx, 3)) (kk : ∀ (H1 : Heap) (locs1 : List Loc), va_P D vwCl (pW cA (uR S 0 a v)) H1 → va_D A (pW cA (uR S 0 a v)) → va_S A s.heap H1 locs1 → W p l e R s m args below meth c H1 locs1 cells slots Q (F0 m (pc + 3) ls rest)) : W p l e R s m args below meth c H locs cells slots Q (F0 m pc ls (va_rf v :: .ref a :: rest)) := by
  obtain ⟨k, hk⟩ := pW_get (cA := cA) hL
  have hk2 := hk
  rw [pF_4 hK] at hk2
  have he : (pW cA S).set k (a, .inr (4, [va_rf v, va_rf (mR S 1 a), va_rf (mR S 2 a), .long (mJ S 3 a), .long (mJ S 4 a)])) = pW cA (uR S 0 a v) := by
    refine pW_set hD hL hk rfl ?_ (fun b hb => pF_eq rfl (fun _ => rfl) (fun _ => rfl) (fun _ => (up2_a hb).symm) (fun _ => rfl) (fun _ => rfl) rfl rfl rfl rfl)
    rw [pF_4 (S := uR S 0 a v) hK]
    simp [uR, mR, up2, mI, mJ, mF, mE]
  exact va_putF (D := D) (ci := 4) (v := va_rf v) (ty := .array .long) (C := RX5) (T := TX5) (N := 5) (cx_x C) (cx_b C) (cx_t C) inT_5 tyX5 tyX5_ok nmX5 (cx_own C) (cx_k C) hP hD hS k hk2 rfl 0 (by decide) (cx_t C _ hw) (fun _ h => h) rfl hin rfl (by decide +kernel) (by cases v <;> rfl) (by cases v <;> rfl) (Nat.le_of_ble_eq_true rfl) d (fun H1 locs1 h1 h2 h3 => kk H1 locs1 (by rw [← he]; exact h1) (by rw [← he]; exact h2) h3)
theorem gf_5_1 (C : cx_C p l s m args meth c s0 D cA cc nL ret own A) (hP : va_P D vwCl (pW cA S) H) (hL : a ∈ mL S) (hK : mK S a = 4) (hw : Cond.fieldLink own idx "RingPipeline$Ring" "producers" "[I" ∈ TB) (d : decode cc pc = .ok (.getfield idx, 3)) (kk : W p l e R s m args below meth c H locs cells slots Q (F0 m (pc + 3) ls (va_rf (mR S 1 a) :: rest))) : W p l e R s m args below meth c H locs cells slots Q (F0 m pc ls (.ref a :: rest)) := by
  obtain ⟨k, hk⟩ := pW_get (cA := cA) hL
  rw [pF_4 hK] at hk
  exact va_get (D := D) (ci := 4) (C := RX5) (T := TX5) (N := 5) (cx_x C) (cx_b C) (cx_t C) inT_5 (cx_own C) (cx_k C) hP k hk rfl 1 (by decide) (cx_t C _ hw) (fun _ h => h) rfl d kk
theorem gf_5_1s {b : Nat} (C : cx_C p l s m args meth c s0 D cA cc nL ret own A) (hP : va_P D vwCl (pW cA S) H) (hL : a ∈ mL S) (hK : mK S a = 4) (hv : mR S 1 a = some b) (hw : Cond.fieldLink own idx "RingPipeline$Ring" "producers" "[I" ∈ TB) (d : decode cc pc = .ok (.getfield idx, 3)) (kk : W p l e R s m args below meth c H locs cells slots Q (F0 m (pc + 3) ls (.ref b :: rest))) : W p l e R s m args below meth c H locs cells slots Q (F0 m pc ls (.ref a :: rest)) := gf_5_1 C hP hL hK hw d (by rw [hv]; exact kk)
theorem pf_5_1 {v : Option Nat} (C : cx_C p l s m args meth c s0 D cA cc nL ret RX5 A) (hin : meth.name = "<init>") (hP : va_P D vwCl (pW cA S) H) (hD : va_D A (pW cA S)) (hS : va_S A s.heap H locs) (hL : a ∈ mL S) (hK : mK S a = 4) (hw : Cond.fieldLink RX5 idx "RingPipeline$Ring" "producers" "[I" ∈ TB) (d : decode cc pc = .ok (.putfield idx, 3)) (kk : ∀ (H1 : Heap) (locs1 : List Loc), va_P D vwCl (pW cA (uR S 1 a v)) H1 → va_D A (pW cA (uR S 1 a v)) → va_S A s.heap H1 locs1 → W p l e R s m args below meth c H1 locs1 cells slots Q (F0 m (pc + 3) ls rest)) : W p l e R s m args below meth c H locs cells slots Q (F0 m pc ls (va_rf v :: .ref a :: rest)) := by
  obtain ⟨k, hk⟩ := pW_get (cA := cA) hL
  have hk2 := hk
  rw [pF_4 hK] at hk2
  have he : (pW cA S).set k (a, .inr (4, [va_rf (mR S 0 a), va_rf v, va_rf (mR S 2 a), .long (mJ S 3 a), .long (mJ S 4 a)])) = pW cA (uR S 1 a v) := by
    refine pW_set hD hL hk rfl ?_ (fun b hb => pF_eq rfl (fun _ => rfl) (fun _ => rfl) (fun _ => (up2_a hb).symm) (fun _ => rfl) (fun _ => rfl) rfl rfl rfl rfl)
    rw [pF_4 (S := uR S 1 a v) hK]
    simp [uR, mR, up2, mI, mJ, mF, mE]
  exact va_putF (D := D) (ci := 4) (v := va_rf v) (ty := .array .int) (C := RX5) (T := TX5) (N := 5) (cx_x C) (cx_b C) (cx_t C) inT_5 tyX5 tyX5_ok nmX5 (cx_own C) (cx_k C) hP hD hS k hk2 rfl 1 (by decide) (cx_t C _ hw) (fun _ h => h) rfl hin rfl (by decide +kernel) (by cases v <;> rfl) (by cases v <;> rfl) (Nat.le_of_ble_eq_true rfl) d (fun H1 locs1 h1 h2 h3 => kk H1 locs1 (by rw [← he]; exact h1) (by rw [← he]; exact h2) h3)
theorem gf_5_2 (C : cx_C p l s m args meth c s0 D cA cc nL ret own A) (hP : va_P D vwCl (pW cA S) H) (hL : a ∈ mL S) (hK : mK S a = 4) (hw : Cond.fieldLink own idx "RingPipeline$Ring" "published" "[J" ∈ TB) (d : decode cc pc = .ok (.getfield idx, 3)) (kk : W p l e R s m args below meth c H locs cells slots Q (F0 m (pc + 3) ls (va_rf (mR S 2 a) :: rest))) : W p l e R s m args below meth c H locs cells slots Q (F0 m pc ls (.ref a :: rest)) := by
  obtain ⟨k, hk⟩ := pW_get (cA := cA) hL
  rw [pF_4 hK] at hk
  exact va_get (D := D) (ci := 4) (C := RX5) (T := TX5) (N := 5) (cx_x C) (cx_b C) (cx_t C) inT_5 (cx_own C) (cx_k C) hP k hk rfl 2 (by decide) (cx_t C _ hw) (fun _ h => h) rfl d kk
theorem gf_5_2s {b : Nat} (C : cx_C p l s m args meth c s0 D cA cc nL ret own A) (hP : va_P D vwCl (pW cA S) H) (hL : a ∈ mL S) (hK : mK S a = 4) (hv : mR S 2 a = some b) (hw : Cond.fieldLink own idx "RingPipeline$Ring" "published" "[J" ∈ TB) (d : decode cc pc = .ok (.getfield idx, 3)) (kk : W p l e R s m args below meth c H locs cells slots Q (F0 m (pc + 3) ls (.ref b :: rest))) : W p l e R s m args below meth c H locs cells slots Q (F0 m pc ls (.ref a :: rest)) := gf_5_2 C hP hL hK hw d (by rw [hv]; exact kk)
theorem pf_5_2 {v : Option Nat} (C : cx_C p l s m args meth c s0 D cA cc nL ret RX5 A) (hin : meth.name = "<init>") (hP : va_P D vwCl (pW cA S) H) (hD : va_D A (pW cA S)) (hS : va_S A s.heap H locs) (hL : a ∈ mL S) (hK : mK S a = 4) (hw : Cond.fieldLink RX5 idx "RingPipeline$Ring" "published" "[J" ∈ TB) (d : decode cc pc = .ok (.putfield idx, 3)) (kk : ∀ (H1 : Heap) (locs1 : List Loc), va_P D vwCl (pW cA (uR S 2 a v)) H1 → va_D A (pW cA (uR S 2 a v)) → va_S A s.heap H1 locs1 → W p l e R s m args below meth c H1 locs1 cells slots Q (F0 m (pc + 3) ls rest)) : W p l e R s m args below meth c H locs cells slots Q (F0 m pc ls (va_rf v :: .ref a :: rest)) := by
  obtain ⟨k, hk⟩ := pW_get (cA := cA) hL
  have hk2 := hk
  rw [pF_4 hK] at hk2
  have he : (pW cA S).set k (a, .inr (4, [va_rf (mR S 0 a), va_rf (mR S 1 a), va_rf v, .long (mJ S 3 a), .long (mJ S 4 a)])) = pW cA (uR S 2 a v) := by
    refine pW_set hD hL hk rfl ?_ (fun b hb => pF_eq rfl (fun _ => rfl) (fun _ => rfl) (fun _ => (up2_a hb).symm) (fun _ => rfl) (fun _ => rfl) rfl rfl rfl rfl)
    rw [pF_4 (S := uR S 2 a v) hK]
    simp [uR, mR, up2, mI, mJ, mF, mE]
  exact va_putF (D := D) (ci := 4) (v := va_rf v) (ty := .array .long) (C := RX5) (T := TX5) (N := 5) (cx_x C) (cx_b C) (cx_t C) inT_5 tyX5 tyX5_ok nmX5 (cx_own C) (cx_k C) hP hD hS k hk2 rfl 2 (by decide) (cx_t C _ hw) (fun _ h => h) rfl hin rfl (by decide +kernel) (by cases v <;> rfl) (by cases v <;> rfl) (Nat.le_of_ble_eq_true rfl) d (fun H1 locs1 h1 h2 h3 => kk H1 locs1 (by rw [← he]; exact h1) (by rw [← he]; exact h2) h3)
theorem gf_5_3 (C : cx_C p l s m args meth c s0 D cA cc nL ret own A) (hP : va_P D vwCl (pW cA S) H) (hL : a ∈ mL S) (hK : mK S a = 4) (hw : Cond.fieldLink own idx "RingPipeline$Ring" "cursor" "J" ∈ TB) (d : decode cc pc = .ok (.getfield idx, 3)) (kk : W p l e R s m args below meth c H locs cells slots Q (F0 m (pc + 3) ls (.long (mJ S 3 a) :: rest))) : W p l e R s m args below meth c H locs cells slots Q (F0 m pc ls (.ref a :: rest)) := by
  obtain ⟨k, hk⟩ := pW_get (cA := cA) hL
  rw [pF_4 hK] at hk
  exact va_get (D := D) (ci := 4) (C := RX5) (T := TX5) (N := 5) (cx_x C) (cx_b C) (cx_t C) inT_5 (cx_own C) (cx_k C) hP k hk rfl 3 (by decide) (cx_t C _ hw) (fun _ h => h) rfl d kk
theorem pf_5_3 {v : Int64} (C : cx_C p l s m args meth c s0 D cA cc nL ret own A) (hP : va_P D vwCl (pW cA S) H) (hD : va_D A (pW cA S)) (hS : va_S A s.heap H locs) (hL : a ∈ mL S) (hK : mK S a = 4) (hw : Cond.fieldLink own idx "RingPipeline$Ring" "cursor" "J" ∈ TB) (d : decode cc pc = .ok (.putfield idx, 3)) (kk : ∀ (H1 : Heap) (locs1 : List Loc), va_P D vwCl (pW cA (uJ S 3 a v)) H1 → va_D A (pW cA (uJ S 3 a v)) → va_S A s.heap H1 locs1 → W p l e R s m args below meth c H1 locs1 cells slots Q (F0 m (pc + 3) ls rest)) : W p l e R s m args below meth c H locs cells slots Q (F0 m pc ls (.long v :: .ref a :: rest)) := by
  obtain ⟨k, hk⟩ := pW_get (cA := cA) hL
  have hk2 := hk
  rw [pF_4 hK] at hk2
  have he : (pW cA S).set k (a, .inr (4, [va_rf (mR S 0 a), va_rf (mR S 1 a), va_rf (mR S 2 a), .long v, .long (mJ S 4 a)])) = pW cA (uJ S 3 a v) := by
    refine pW_set hD hL hk rfl ?_ (fun b hb => pF_eq rfl (fun _ => rfl) (fun _ => (up2_a hb).symm) (fun _ => rfl) (fun _ => rfl) (fun _ => rfl) rfl rfl rfl rfl)
    rw [pF_4 (S := uJ S 3 a v) hK]
    simp [uJ, mJ, up2, mI, mR, mF, mE]
  exact va_put (D := D) (ci := 4) (v := .long v) (ty := .long) (C := RX5) (T := TX5) (N := 5) (cx_x C) (cx_b C) (cx_t C) inT_5 tyX5 tyX5_ok nmX5 (cx_own C) (cx_k C) hP hD hS k hk2 rfl 3 (by decide) (cx_t C _ hw) (fun _ h => h) rfl (by decide +kernel) rfl rfl (Nat.le_of_ble_eq_true rfl) d (fun H1 locs1 h1 h2 h3 => kk H1 locs1 (by rw [← he]; exact h1) (by rw [← he]; exact h2) h3)
theorem gf_5_4 (C : cx_C p l s m args meth c s0 D cA cc nL ret own A) (hP : va_P D vwCl (pW cA S) H) (hL : a ∈ mL S) (hK : mK S a = 4) (hw : Cond.fieldLink own idx "RingPipeline$Ring" "available" "J" ∈ TB) (d : decode cc pc = .ok (.getfield idx, 3)) (kk : W p l e R s m args below meth c H locs cells slots Q (F0 m (pc + 3) ls (.long (mJ S 4 a) :: rest))) : W p l e R s m args below meth c H locs cells slots Q (F0 m pc ls (.ref a :: rest)) := by
  obtain ⟨k, hk⟩ := pW_get (cA := cA) hL
  rw [pF_4 hK] at hk
  exact va_get (D := D) (ci := 4) (C := RX5) (T := TX5) (N := 5) (cx_x C) (cx_b C) (cx_t C) inT_5 (cx_own C) (cx_k C) hP k hk rfl 4 (by decide) (cx_t C _ hw) (fun _ h => h) rfl d kk
theorem pf_5_4 {v : Int64} (C : cx_C p l s m args meth c s0 D cA cc nL ret own A) (hP : va_P D vwCl (pW cA S) H) (hD : va_D A (pW cA S)) (hS : va_S A s.heap H locs) (hL : a ∈ mL S) (hK : mK S a = 4) (hw : Cond.fieldLink own idx "RingPipeline$Ring" "available" "J" ∈ TB) (d : decode cc pc = .ok (.putfield idx, 3)) (kk : ∀ (H1 : Heap) (locs1 : List Loc), va_P D vwCl (pW cA (uJ S 4 a v)) H1 → va_D A (pW cA (uJ S 4 a v)) → va_S A s.heap H1 locs1 → W p l e R s m args below meth c H1 locs1 cells slots Q (F0 m (pc + 3) ls rest)) : W p l e R s m args below meth c H locs cells slots Q (F0 m pc ls (.long v :: .ref a :: rest)) := by
  obtain ⟨k, hk⟩ := pW_get (cA := cA) hL
  have hk2 := hk
  rw [pF_4 hK] at hk2
  have he : (pW cA S).set k (a, .inr (4, [va_rf (mR S 0 a), va_rf (mR S 1 a), va_rf (mR S 2 a), .long (mJ S 3 a), .long v])) = pW cA (uJ S 4 a v) := by
    refine pW_set hD hL hk rfl ?_ (fun b hb => pF_eq rfl (fun _ => rfl) (fun _ => (up2_a hb).symm) (fun _ => rfl) (fun _ => rfl) (fun _ => rfl) rfl rfl rfl rfl)
    rw [pF_4 (S := uJ S 4 a v) hK]
    simp [uJ, mJ, up2, mI, mR, mF, mE]
  exact va_put (D := D) (ci := 4) (v := .long v) (ty := .long) (C := RX5) (T := TX5) (N := 5) (cx_x C) (cx_b C) (cx_t C) inT_5 tyX5 tyX5_ok nmX5 (cx_own C) (cx_k C) hP hD hS k hk2 rfl 4 (by decide) (cx_t C _ hw) (fun _ h => h) rfl (by decide +kernel) rfl rfl (Nat.le_of_ble_eq_true rfl) d (fun H1 locs1 h1 h2 h3 => kk H1 locs1 (by rw [← he]; exact h1) (by rw [← he]; exact h2) h3)
theorem nwo_5 (C : cx_C p l s m args meth c s0 D cA cc nL ret own A) (hP : va_P D vwCl (pW cA S) H) (hD : va_D A (pW cA S)) (hS : va_S A s.heap H locs) (hw : Cond.classLink own idx "RingPipeline$Ring" ∈ TB) (hc : cells + 1 ≤ R.cells) (hs : slots + 5 ≤ R.slots) (d : decode cc pc = .ok (.new idx, 3)) (kk : ∀ (q : Nat) (H1 : Heap), q ∉ mL S → va_P D vwCl (pW cA (nw S q 4 0)) H1 → va_D A (pW cA (nw S q 4 0)) → va_S A s.heap H1 locs → W p l e R s m args below meth c H1 locs (cells + 1) (slots + 5) Q (F0 m (pc + 3) ls (.ref q :: rest))) : W p l e R s m args below meth c H locs cells slots Q (F0 m pc ls rest) := by
  refine va_new (D := D) (ci := 4) (fs := [.null, .null, .null, .long 0, .long 0]) (C := RX5) (T := TX5) (N := 5) (cx_x C) (cx_b C) (cx_t C) inT_5 tyX5 tyX5_ok (cx_own C) (cx_t C _ hw) (cx_t C _ tm_32) (cx_t C _ tm_2) (cx_k C) hP hD hS (cx_a C) rfl (fun j hj => by rcases (show j = 0 ∨ j = 1 ∨ j = 2 ∨ j = 3 ∨ j = 4 by omega) with rfl | rfl | rfl | rfl | rfl <;> rfl) hc hs d (fun q H1 h1 h2 h3 => ?_)
  have hq := pW_new (k := 4) (n := 0) h2 (by rw [pF_4 (by simp [nw, mK, va_up])]; simp [nw, mI, mJ, mR, mF, mE, va_rf])
  exact kk q H1 hq.2 (by rw [← hq.1]; exact h1) (by rw [← hq.1]; exact h2) h3
theorem rcv_6 (C : cx_C p l s m args meth c s0 D cA cc nL ret own A) (hP : va_P D vwCl (pW cA S) H) (hL : a ∈ mL S) (hK : mK S a = 5) : ∃ cell : Cell, H[a]? = some cell ∧ cell.vm.isStatics = false ∧ s.vm.findClass RX6 = some cell.cls := by
  obtain ⟨k, hk⟩ := pW_get (cA := cA) hL
  rw [pF_5 hK] at hk
  exact va_recv (cx_k C) hP (ci := 5) (q := (RX6, TX6, 2)) rfl hk
theorem gf_6_0 (C : cx_C p l s m args meth c s0 D cA cc nL ret own A) (hP : va_P D vwCl (pW cA S) H) (hL : a ∈ mL S) (hK : mK S a = 5) (hw : Cond.fieldLink own idx "RingPipeline$Smooth" "level" "F" ∈ TB) (d : decode cc pc = .ok (.getfield idx, 3)) (kk : W p l e R s m args below meth c H locs cells slots Q (F0 m (pc + 3) ls (.float (mF S 0 a) :: rest))) : W p l e R s m args below meth c H locs cells slots Q (F0 m pc ls (.ref a :: rest)) := by
  obtain ⟨k, hk⟩ := pW_get (cA := cA) hL
  rw [pF_5 hK] at hk
  exact va_get (D := D) (ci := 5) (C := RX6) (T := TX6) (N := 2) (cx_x C) (cx_b C) (cx_t C) inT_6 (cx_own C) (cx_k C) hP k hk rfl 0 (by decide) (cx_t C _ hw) (fun _ h => h) rfl d kk
theorem pf_6_0 {v : UInt32} (C : cx_C p l s m args meth c s0 D cA cc nL ret own A) (hP : va_P D vwCl (pW cA S) H) (hD : va_D A (pW cA S)) (hS : va_S A s.heap H locs) (hL : a ∈ mL S) (hK : mK S a = 5) (hw : Cond.fieldLink own idx "RingPipeline$Smooth" "level" "F" ∈ TB) (d : decode cc pc = .ok (.putfield idx, 3)) (kk : ∀ (H1 : Heap) (locs1 : List Loc), va_P D vwCl (pW cA (uF S 0 a v)) H1 → va_D A (pW cA (uF S 0 a v)) → va_S A s.heap H1 locs1 → W p l e R s m args below meth c H1 locs1 cells slots Q (F0 m (pc + 3) ls rest)) : W p l e R s m args below meth c H locs cells slots Q (F0 m pc ls (.float v :: .ref a :: rest)) := by
  obtain ⟨k, hk⟩ := pW_get (cA := cA) hL
  have hk2 := hk
  rw [pF_5 hK] at hk2
  have he : (pW cA S).set k (a, .inr (5, [.float v, .float (mF S 1 a)])) = pW cA (uF S 0 a v) := by
    refine pW_set hD hL hk rfl ?_ (fun b hb => pF_eq rfl (fun _ => rfl) (fun _ => rfl) (fun _ => rfl) (fun _ => (up2_a hb).symm) (fun _ => rfl) rfl rfl rfl rfl)
    rw [pF_5 (S := uF S 0 a v) hK]
    simp [uF, mF, up2, mI, mJ, mR, mE]
  exact va_put (D := D) (ci := 5) (v := .float v) (ty := .float) (C := RX6) (T := TX6) (N := 2) (cx_x C) (cx_b C) (cx_t C) inT_6 tyX6 tyX6_ok nmX6 (cx_own C) (cx_k C) hP hD hS k hk2 rfl 0 (by decide) (cx_t C _ hw) (fun _ h => h) rfl (by decide +kernel) rfl rfl (Nat.le_of_ble_eq_true rfl) d (fun H1 locs1 h1 h2 h3 => kk H1 locs1 (by rw [← he]; exact h1) (by rw [← he]; exact h2) h3)
theorem gf_6_1 (C : cx_C p l s m args meth c s0 D cA cc nL ret own A) (hP : va_P D vwCl (pW cA S) H) (hL : a ∈ mL S) (hK : mK S a = 5) (hw : Cond.fieldLink own idx "RingPipeline$Smooth" "kept" "F" ∈ TB) (d : decode cc pc = .ok (.getfield idx, 3)) (kk : W p l e R s m args below meth c H locs cells slots Q (F0 m (pc + 3) ls (.float (mF S 1 a) :: rest))) : W p l e R s m args below meth c H locs cells slots Q (F0 m pc ls (.ref a :: rest)) := by
  obtain ⟨k, hk⟩ := pW_get (cA := cA) hL
  rw [pF_5 hK] at hk
  exact va_get (D := D) (ci := 5) (C := RX6) (T := TX6) (N := 2) (cx_x C) (cx_b C) (cx_t C) inT_6 (cx_own C) (cx_k C) hP k hk rfl 1 (by decide) (cx_t C _ hw) (fun _ h => h) rfl d kk
theorem pf_6_1 {v : UInt32} (C : cx_C p l s m args meth c s0 D cA cc nL ret own A) (hP : va_P D vwCl (pW cA S) H) (hD : va_D A (pW cA S)) (hS : va_S A s.heap H locs) (hL : a ∈ mL S) (hK : mK S a = 5) (hw : Cond.fieldLink own idx "RingPipeline$Smooth" "kept" "F" ∈ TB) (d : decode cc pc = .ok (.putfield idx, 3)) (kk : ∀ (H1 : Heap) (locs1 : List Loc), va_P D vwCl (pW cA (uF S 1 a v)) H1 → va_D A (pW cA (uF S 1 a v)) → va_S A s.heap H1 locs1 → W p l e R s m args below meth c H1 locs1 cells slots Q (F0 m (pc + 3) ls rest)) : W p l e R s m args below meth c H locs cells slots Q (F0 m pc ls (.float v :: .ref a :: rest)) := by
  obtain ⟨k, hk⟩ := pW_get (cA := cA) hL
  have hk2 := hk
  rw [pF_5 hK] at hk2
  have he : (pW cA S).set k (a, .inr (5, [.float (mF S 0 a), .float v])) = pW cA (uF S 1 a v) := by
    refine pW_set hD hL hk rfl ?_ (fun b hb => pF_eq rfl (fun _ => rfl) (fun _ => rfl) (fun _ => rfl) (fun _ => (up2_a hb).symm) (fun _ => rfl) rfl rfl rfl rfl)
    rw [pF_5 (S := uF S 1 a v) hK]
    simp [uF, mF, up2, mI, mJ, mR, mE]
  exact va_put (D := D) (ci := 5) (v := .float v) (ty := .float) (C := RX6) (T := TX6) (N := 2) (cx_x C) (cx_b C) (cx_t C) inT_6 tyX6 tyX6_ok nmX6 (cx_own C) (cx_k C) hP hD hS k hk2 rfl 1 (by decide) (cx_t C _ hw) (fun _ h => h) rfl (by decide +kernel) rfl rfl (Nat.le_of_ble_eq_true rfl) d (fun H1 locs1 h1 h2 h3 => kk H1 locs1 (by rw [← he]; exact h1) (by rw [← he]; exact h2) h3)
theorem nwo_6 (C : cx_C p l s m args meth c s0 D cA cc nL ret own A) (hP : va_P D vwCl (pW cA S) H) (hD : va_D A (pW cA S)) (hS : va_S A s.heap H locs) (hw : Cond.classLink own idx "RingPipeline$Smooth" ∈ TB) (hc : cells + 1 ≤ R.cells) (hs : slots + 2 ≤ R.slots) (d : decode cc pc = .ok (.new idx, 3)) (kk : ∀ (q : Nat) (H1 : Heap), q ∉ mL S → va_P D vwCl (pW cA (nw S q 5 0)) H1 → va_D A (pW cA (nw S q 5 0)) → va_S A s.heap H1 locs → W p l e R s m args below meth c H1 locs (cells + 1) (slots + 2) Q (F0 m (pc + 3) ls (.ref q :: rest))) : W p l e R s m args below meth c H locs cells slots Q (F0 m pc ls rest) := by
  refine va_new (D := D) (ci := 5) (fs := [.float 0, .float 0]) (C := RX6) (T := TX6) (N := 2) (cx_x C) (cx_b C) (cx_t C) inT_6 tyX6 tyX6_ok (cx_own C) (cx_t C _ hw) (cx_t C _ tm_208) (cx_t C _ tm_12) (cx_k C) hP hD hS (cx_a C) rfl (fun j hj => by rcases (show j = 0 ∨ j = 1 by omega) with rfl | rfl <;> rfl) hc hs d (fun q H1 h1 h2 h3 => ?_)
  have hq := pW_new (k := 5) (n := 0) h2 (by rw [pF_5 (by simp [nw, mK, va_up])]; simp [nw, mI, mJ, mR, mF, mE, va_rf])
  exact kk q H1 hq.2 (by rw [← hq.1]; exact h1) (by rw [← hq.1]; exact h2) h3
theorem rcv_7 (C : cx_C p l s m args meth c s0 D cA cc nL ret own A) (hP : va_P D vwCl (pW cA S) H) (hL : a ∈ mL S) (hK : mK S a = 6) : ∃ cell : Cell, H[a]? = some cell ∧ cell.vm.isStatics = false ∧ s.vm.findClass RX7 = some cell.cls := by
  obtain ⟨k, hk⟩ := pW_get (cA := cA) hL
  rw [pF_6 hK] at hk
  exact va_recv (cx_k C) hP (ci := 6) (q := (RX7, TX7, 2)) rfl hk
theorem gf_7_0 (C : cx_C p l s m args meth c s0 D cA cc nL ret own A) (hP : va_P D vwCl (pW cA S) H) (hL : a ∈ mL S) (hK : mK S a = 6) (hw : Cond.fieldLink own idx "RingPipeline$Sum" "total" "J" ∈ TB) (d : decode cc pc = .ok (.getfield idx, 3)) (kk : W p l e R s m args below meth c H locs cells slots Q (F0 m (pc + 3) ls (.long (mJ S 0 a) :: rest))) : W p l e R s m args below meth c H locs cells slots Q (F0 m pc ls (.ref a :: rest)) := by
  obtain ⟨k, hk⟩ := pW_get (cA := cA) hL
  rw [pF_6 hK] at hk
  exact va_get (D := D) (ci := 6) (C := RX7) (T := TX7) (N := 2) (cx_x C) (cx_b C) (cx_t C) inT_7 (cx_own C) (cx_k C) hP k hk rfl 0 (by decide) (cx_t C _ hw) (fun _ h => h) rfl d kk
theorem pf_7_0 {v : Int64} (C : cx_C p l s m args meth c s0 D cA cc nL ret own A) (hP : va_P D vwCl (pW cA S) H) (hD : va_D A (pW cA S)) (hS : va_S A s.heap H locs) (hL : a ∈ mL S) (hK : mK S a = 6) (hw : Cond.fieldLink own idx "RingPipeline$Sum" "total" "J" ∈ TB) (d : decode cc pc = .ok (.putfield idx, 3)) (kk : ∀ (H1 : Heap) (locs1 : List Loc), va_P D vwCl (pW cA (uJ S 0 a v)) H1 → va_D A (pW cA (uJ S 0 a v)) → va_S A s.heap H1 locs1 → W p l e R s m args below meth c H1 locs1 cells slots Q (F0 m (pc + 3) ls rest)) : W p l e R s m args below meth c H locs cells slots Q (F0 m pc ls (.long v :: .ref a :: rest)) := by
  obtain ⟨k, hk⟩ := pW_get (cA := cA) hL
  have hk2 := hk
  rw [pF_6 hK] at hk2
  have he : (pW cA S).set k (a, .inr (6, [.long v, .long (mJ S 1 a)])) = pW cA (uJ S 0 a v) := by
    refine pW_set hD hL hk rfl ?_ (fun b hb => pF_eq rfl (fun _ => rfl) (fun _ => (up2_a hb).symm) (fun _ => rfl) (fun _ => rfl) (fun _ => rfl) rfl rfl rfl rfl)
    rw [pF_6 (S := uJ S 0 a v) hK]
    simp [uJ, mJ, up2, mI, mR, mF, mE]
  exact va_put (D := D) (ci := 6) (v := .long v) (ty := .long) (C := RX7) (T := TX7) (N := 2) (cx_x C) (cx_b C) (cx_t C) inT_7 tyX7 tyX7_ok nmX7 (cx_own C) (cx_k C) hP hD hS k hk2 rfl 0 (by decide) (cx_t C _ hw) (fun _ h => h) rfl (by decide +kernel) rfl rfl (Nat.le_of_ble_eq_true rfl) d (fun H1 locs1 h1 h2 h3 => kk H1 locs1 (by rw [← he]; exact h1) (by rw [← he]; exact h2) h3)
theorem gf_7_1 (C : cx_C p l s m args meth c s0 D cA cc nL ret own A) (hP : va_P D vwCl (pW cA S) H) (hL : a ∈ mL S) (hK : mK S a = 6) (hw : Cond.fieldLink own idx "RingPipeline$Sum" "kept" "J" ∈ TB) (d : decode cc pc = .ok (.getfield idx, 3)) (kk : W p l e R s m args below meth c H locs cells slots Q (F0 m (pc + 3) ls (.long (mJ S 1 a) :: rest))) : W p l e R s m args below meth c H locs cells slots Q (F0 m pc ls (.ref a :: rest)) := by
  obtain ⟨k, hk⟩ := pW_get (cA := cA) hL
  rw [pF_6 hK] at hk
  exact va_get (D := D) (ci := 6) (C := RX7) (T := TX7) (N := 2) (cx_x C) (cx_b C) (cx_t C) inT_7 (cx_own C) (cx_k C) hP k hk rfl 1 (by decide) (cx_t C _ hw) (fun _ h => h) rfl d kk
theorem pf_7_1 {v : Int64} (C : cx_C p l s m args meth c s0 D cA cc nL ret own A) (hP : va_P D vwCl (pW cA S) H) (hD : va_D A (pW cA S)) (hS : va_S A s.heap H locs) (hL : a ∈ mL S) (hK : mK S a = 6) (hw : Cond.fieldLink own idx "RingPipeline$Sum" "kept" "J" ∈ TB) (d : decode cc pc = .ok (.putfield idx, 3)) (kk : ∀ (H1 : Heap) (locs1 : List Loc), va_P D vwCl (pW cA (uJ S 1 a v)) H1 → va_D A (pW cA (uJ S 1 a v)) → va_S A s.heap H1 locs1 → W p l e R s m args below meth c H1 locs1 cells slots Q (F0 m (pc + 3) ls rest)) : W p l e R s m args below meth c H locs cells slots Q (F0 m pc ls (.long v :: .ref a :: rest)) := by
  obtain ⟨k, hk⟩ := pW_get (cA := cA) hL
  have hk2 := hk
  rw [pF_6 hK] at hk2
  have he : (pW cA S).set k (a, .inr (6, [.long (mJ S 0 a), .long v])) = pW cA (uJ S 1 a v) := by
    refine pW_set hD hL hk rfl ?_ (fun b hb => pF_eq rfl (fun _ => rfl) (fun _ => (up2_a hb).symm) (fun _ => rfl) (fun _ => rfl) (fun _ => rfl) rfl rfl rfl rfl)
    rw [pF_6 (S := uJ S 1 a v) hK]
    simp [uJ, mJ, up2, mI, mR, mF, mE]
  exact va_put (D := D) (ci := 6) (v := .long v) (ty := .long) (C := RX7) (T := TX7) (N := 2) (cx_x C) (cx_b C) (cx_t C) inT_7 tyX7 tyX7_ok nmX7 (cx_own C) (cx_k C) hP hD hS k hk2 rfl 1 (by decide) (cx_t C _ hw) (fun _ h => h) rfl (by decide +kernel) rfl rfl (Nat.le_of_ble_eq_true rfl) d (fun H1 locs1 h1 h2 h3 => kk H1 locs1 (by rw [← he]; exact h1) (by rw [← he]; exact h2) h3)
theorem nwo_7 (C : cx_C p l s m args meth c s0 D cA cc nL ret own A) (hP : va_P D vwCl (pW cA S) H) (hD : va_D A (pW cA S)) (hS : va_S A s.heap H locs) (hw : Cond.classLink own idx "RingPipeline$Sum" ∈ TB) (hc : cells + 1 ≤ R.cells) (hs : slots + 2 ≤ R.slots) (d : decode cc pc = .ok (.new idx, 3)) (kk : ∀ (q : Nat) (H1 : Heap), q ∉ mL S → va_P D vwCl (pW cA (nw S q 6 0)) H1 → va_D A (pW cA (nw S q 6 0)) → va_S A s.heap H1 locs → W p l e R s m args below meth c H1 locs (cells + 1) (slots + 2) Q (F0 m (pc + 3) ls (.ref q :: rest))) : W p l e R s m args below meth c H locs cells slots Q (F0 m pc ls rest) := by
  refine va_new (D := D) (ci := 6) (fs := [.long 0, .long 0]) (C := RX7) (T := TX7) (N := 2) (cx_x C) (cx_b C) (cx_t C) inT_7 tyX7 tyX7_ok (cx_own C) (cx_t C _ hw) (cx_t C _ tm_192) (cx_t C _ tm_11) (cx_k C) hP hD hS (cx_a C) rfl (fun j hj => by rcases (show j = 0 ∨ j = 1 by omega) with rfl | rfl <;> rfl) hc hs d (fun q H1 h1 h2 h3 => ?_)
  have hq := pW_new (k := 6) (n := 0) h2 (by rw [pF_6 (by simp [nw, mK, va_up])]; simp [nw, mI, mJ, mR, mF, mE, va_rf])
  exact kk q H1 hq.2 (by rw [← hq.1]; exact h1) (by rw [← hq.1]; exact h2) h3
theorem rcv_8 (C : cx_C p l s m args meth c s0 D cA cc nL ret own A) (hP : va_P D vwCl (pW cA S) H) (hL : a ∈ mL S) (hK : mK S a = 7) : ∃ cell : Cell, H[a]? = some cell ∧ cell.vm.isStatics = false ∧ s.vm.findClass RX8 = some cell.cls := by
  obtain ⟨k, hk⟩ := pW_get (cA := cA) hL
  rw [pF_7 hK] at hk
  exact va_recv (cx_k C) hP (ci := 7) (q := (RX8, TX8, 6)) rfl hk
theorem gf_8_0 (C : cx_C p l s m args meth c s0 D cA cc nL ret own A) (hP : va_P D vwCl (pW cA S) H) (hL : a ∈ mL S) (hK : mK S a = 7) (hw : Cond.fieldLink own idx "RingPipeline" "ring" "LRingPipeline$Ring;" ∈ TB) (d : decode cc pc = .ok (.getfield idx, 3)) (kk : W p l e R s m args below meth c H locs cells slots Q (F0 m (pc + 3) ls (va_rf (mR S 0 a) :: rest))) : W p l e R s m args below meth c H locs cells slots Q (F0 m pc ls (.ref a :: rest)) := by
  obtain ⟨k, hk⟩ := pW_get (cA := cA) hL
  rw [pF_7 hK] at hk
  exact va_get (D := D) (ci := 7) (C := RX8) (T := TX8) (N := 6) (cx_x C) (cx_b C) (cx_t C) inT_8 (cx_own C) (cx_k C) hP k hk rfl 0 (by decide) (cx_t C _ hw) (fun _ h => h) rfl d kk
theorem gf_8_0s {b : Nat} (C : cx_C p l s m args meth c s0 D cA cc nL ret own A) (hP : va_P D vwCl (pW cA S) H) (hL : a ∈ mL S) (hK : mK S a = 7) (hv : mR S 0 a = some b) (hw : Cond.fieldLink own idx "RingPipeline" "ring" "LRingPipeline$Ring;" ∈ TB) (d : decode cc pc = .ok (.getfield idx, 3)) (kk : W p l e R s m args below meth c H locs cells slots Q (F0 m (pc + 3) ls (.ref b :: rest))) : W p l e R s m args below meth c H locs cells slots Q (F0 m pc ls (.ref a :: rest)) := gf_8_0 C hP hL hK hw d (by rw [hv]; exact kk)
theorem pf_8_0 {v : Option Nat} (C : cx_C p l s m args meth c s0 D cA cc nL ret RX8 A) (hin : meth.name = "<init>") (hP : va_P D vwCl (pW cA S) H) (hD : va_D A (pW cA S)) (hS : va_S A s.heap H locs) (hL : a ∈ mL S) (hK : mK S a = 7) (hw : Cond.fieldLink RX8 idx "RingPipeline" "ring" "LRingPipeline$Ring;" ∈ TB) (d : decode cc pc = .ok (.putfield idx, 3)) (kk : ∀ (H1 : Heap) (locs1 : List Loc), va_P D vwCl (pW cA (uR S 0 a v)) H1 → va_D A (pW cA (uR S 0 a v)) → va_S A s.heap H1 locs1 → W p l e R s m args below meth c H1 locs1 cells slots Q (F0 m (pc + 3) ls rest)) : W p l e R s m args below meth c H locs cells slots Q (F0 m pc ls (va_rf v :: .ref a :: rest)) := by
  obtain ⟨k, hk⟩ := pW_get (cA := cA) hL
  have hk2 := hk
  rw [pF_7 hK] at hk2
  have he : (pW cA S).set k (a, .inr (7, [va_rf v, va_rf (mR S 1 a), va_rf (mR S 2 a), .int (mI S 3 a), .int (mI S 4 a), .long (mJ S 5 a)])) = pW cA (uR S 0 a v) := by
    refine pW_set hD hL hk rfl ?_ (fun b hb => pF_eq rfl (fun _ => rfl) (fun _ => rfl) (fun _ => (up2_a hb).symm) (fun _ => rfl) (fun _ => rfl) rfl rfl rfl rfl)
    rw [pF_7 (S := uR S 0 a v) hK]
    simp [uR, mR, up2, mI, mJ, mF, mE]
  exact va_putF (D := D) (ci := 7) (v := va_rf v) (ty := .object "RingPipeline$Ring") (C := RX8) (T := TX8) (N := 6) (cx_x C) (cx_b C) (cx_t C) inT_8 tyX8 tyX8_ok nmX8 (cx_own C) (cx_k C) hP hD hS k hk2 rfl 0 (by decide) (cx_t C _ hw) (fun _ h => h) rfl hin rfl (by decide +kernel) (by cases v <;> rfl) (by cases v <;> rfl) (Nat.le_of_ble_eq_true rfl) d (fun H1 locs1 h1 h2 h3 => kk H1 locs1 (by rw [← he]; exact h1) (by rw [← he]; exact h2) h3)
theorem gf_8_1 (C : cx_C p l s m args meth c s0 D cA cc nL ret own A) (hP : va_P D vwCl (pW cA S) H) (hL : a ∈ mL S) (hK : mK S a = 7) (hw : Cond.fieldLink own idx "RingPipeline" "consumers" "[LRingPipeline$Consumer;" ∈ TB) (d : decode cc pc = .ok (.getfield idx, 3)) (kk : W p l e R s m args below meth c H locs cells slots Q (F0 m (pc + 3) ls (va_rf (mR S 1 a) :: rest))) : W p l e R s m args below meth c H locs cells slots Q (F0 m pc ls (.ref a :: rest)) := by
  obtain ⟨k, hk⟩ := pW_get (cA := cA) hL
  rw [pF_7 hK] at hk
  exact va_get (D := D) (ci := 7) (C := RX8) (T := TX8) (N := 6) (cx_x C) (cx_b C) (cx_t C) inT_8 (cx_own C) (cx_k C) hP k hk rfl 1 (by decide) (cx_t C _ hw) (fun _ h => h) rfl d kk
theorem gf_8_1s {b : Nat} (C : cx_C p l s m args meth c s0 D cA cc nL ret own A) (hP : va_P D vwCl (pW cA S) H) (hL : a ∈ mL S) (hK : mK S a = 7) (hv : mR S 1 a = some b) (hw : Cond.fieldLink own idx "RingPipeline" "consumers" "[LRingPipeline$Consumer;" ∈ TB) (d : decode cc pc = .ok (.getfield idx, 3)) (kk : W p l e R s m args below meth c H locs cells slots Q (F0 m (pc + 3) ls (.ref b :: rest))) : W p l e R s m args below meth c H locs cells slots Q (F0 m pc ls (.ref a :: rest)) := gf_8_1 C hP hL hK hw d (by rw [hv]; exact kk)
theorem pf_8_1 {v : Option Nat} (C : cx_C p l s m args meth c s0 D cA cc nL ret RX8 A) (hin : meth.name = "<init>") (hP : va_P D vwCl (pW cA S) H) (hD : va_D A (pW cA S)) (hS : va_S A s.heap H locs) (hL : a ∈ mL S) (hK : mK S a = 7) (hw : Cond.fieldLink RX8 idx "RingPipeline" "consumers" "[LRingPipeline$Consumer;" ∈ TB) (d : decode cc pc = .ok (.putfield idx, 3)) (kk : ∀ (H1 : Heap) (locs1 : List Loc), va_P D vwCl (pW cA (uR S 1 a v)) H1 → va_D A (pW cA (uR S 1 a v)) → va_S A s.heap H1 locs1 → W p l e R s m args below meth c H1 locs1 cells slots Q (F0 m (pc + 3) ls rest)) : W p l e R s m args below meth c H locs cells slots Q (F0 m pc ls (va_rf v :: .ref a :: rest)) := by
  obtain ⟨k, hk⟩ := pW_get (cA := cA) hL
  have hk2 := hk
  rw [pF_7 hK] at hk2
  have he : (pW cA S).set k (a, .inr (7, [va_rf (mR S 0 a), va_rf v, va_rf (mR S 2 a), .int (mI S 3 a), .int (mI S 4 a), .long (mJ S 5 a)])) = pW cA (uR S 1 a v) := by
    refine pW_set hD hL hk rfl ?_ (fun b hb => pF_eq rfl (fun _ => rfl) (fun _ => rfl) (fun _ => (up2_a hb).symm) (fun _ => rfl) (fun _ => rfl) rfl rfl rfl rfl)
    rw [pF_7 (S := uR S 1 a v) hK]
    simp [uR, mR, up2, mI, mJ, mF, mE]
  exact va_putF (D := D) (ci := 7) (v := va_rf v) (ty := .array (.object "RingPipeline$Consumer")) (C := RX8) (T := TX8) (N := 6) (cx_x C) (cx_b C) (cx_t C) inT_8 tyX8 tyX8_ok nmX8 (cx_own C) (cx_k C) hP hD hS k hk2 rfl 1 (by decide) (cx_t C _ hw) (fun _ h => h) rfl hin rfl (by decide +kernel) (by cases v <;> rfl) (by cases v <;> rfl) (Nat.le_of_ble_eq_true rfl) d (fun H1 locs1 h1 h2 h3 => kk H1 locs1 (by rw [← he]; exact h1) (by rw [← he]; exact h2) h3)
theorem gf_8_2 (C : cx_C p l s m args meth c s0 D cA cc nL ret own A) (hP : va_P D vwCl (pW cA S) H) (hL : a ∈ mL S) (hK : mK S a = 7) (hw : Cond.fieldLink own idx "RingPipeline" "pools" "[LRingPipeline$Pool;" ∈ TB) (d : decode cc pc = .ok (.getfield idx, 3)) (kk : W p l e R s m args below meth c H locs cells slots Q (F0 m (pc + 3) ls (va_rf (mR S 2 a) :: rest))) : W p l e R s m args below meth c H locs cells slots Q (F0 m pc ls (.ref a :: rest)) := by
  obtain ⟨k, hk⟩ := pW_get (cA := cA) hL
  rw [pF_7 hK] at hk
  exact va_get (D := D) (ci := 7) (C := RX8) (T := TX8) (N := 6) (cx_x C) (cx_b C) (cx_t C) inT_8 (cx_own C) (cx_k C) hP k hk rfl 2 (by decide) (cx_t C _ hw) (fun _ h => h) rfl d kk
theorem gf_8_2s {b : Nat} (C : cx_C p l s m args meth c s0 D cA cc nL ret own A) (hP : va_P D vwCl (pW cA S) H) (hL : a ∈ mL S) (hK : mK S a = 7) (hv : mR S 2 a = some b) (hw : Cond.fieldLink own idx "RingPipeline" "pools" "[LRingPipeline$Pool;" ∈ TB) (d : decode cc pc = .ok (.getfield idx, 3)) (kk : W p l e R s m args below meth c H locs cells slots Q (F0 m (pc + 3) ls (.ref b :: rest))) : W p l e R s m args below meth c H locs cells slots Q (F0 m pc ls (.ref a :: rest)) := gf_8_2 C hP hL hK hw d (by rw [hv]; exact kk)
theorem pf_8_2 {v : Option Nat} (C : cx_C p l s m args meth c s0 D cA cc nL ret RX8 A) (hin : meth.name = "<init>") (hP : va_P D vwCl (pW cA S) H) (hD : va_D A (pW cA S)) (hS : va_S A s.heap H locs) (hL : a ∈ mL S) (hK : mK S a = 7) (hw : Cond.fieldLink RX8 idx "RingPipeline" "pools" "[LRingPipeline$Pool;" ∈ TB) (d : decode cc pc = .ok (.putfield idx, 3)) (kk : ∀ (H1 : Heap) (locs1 : List Loc), va_P D vwCl (pW cA (uR S 2 a v)) H1 → va_D A (pW cA (uR S 2 a v)) → va_S A s.heap H1 locs1 → W p l e R s m args below meth c H1 locs1 cells slots Q (F0 m (pc + 3) ls rest)) : W p l e R s m args below meth c H locs cells slots Q (F0 m pc ls (va_rf v :: .ref a :: rest)) := by
  obtain ⟨k, hk⟩ := pW_get (cA := cA) hL
  have hk2 := hk
  rw [pF_7 hK] at hk2
  have he : (pW cA S).set k (a, .inr (7, [va_rf (mR S 0 a), va_rf (mR S 1 a), va_rf v, .int (mI S 3 a), .int (mI S 4 a), .long (mJ S 5 a)])) = pW cA (uR S 2 a v) := by
    refine pW_set hD hL hk rfl ?_ (fun b hb => pF_eq rfl (fun _ => rfl) (fun _ => rfl) (fun _ => (up2_a hb).symm) (fun _ => rfl) (fun _ => rfl) rfl rfl rfl rfl)
    rw [pF_7 (S := uR S 2 a v) hK]
    simp [uR, mR, up2, mI, mJ, mF, mE]
  exact va_putF (D := D) (ci := 7) (v := va_rf v) (ty := .array (.object "RingPipeline$Pool")) (C := RX8) (T := TX8) (N := 6) (cx_x C) (cx_b C) (cx_t C) inT_8 tyX8 tyX8_ok nmX8 (cx_own C) (cx_k C) hP hD hS k hk2 rfl 2 (by decide) (cx_t C _ hw) (fun _ h => h) rfl hin rfl (by decide +kernel) (by cases v <;> rfl) (by cases v <;> rfl) (Nat.le_of_ble_eq_true rfl) d (fun H1 locs1 h1 h2 h3 => kk H1 locs1 (by rw [← he]; exact h1) (by rw [← he]; exact h2) h3)
theorem gf_8_3 (C : cx_C p l s m args meth c s0 D cA cc nL ret own A) (hP : va_P D vwCl (pW cA S) H) (hL : a ∈ mL S) (hK : mK S a = 7) (hw : Cond.fieldLink own idx "RingPipeline" "made" "I" ∈ TB) (d : decode cc pc = .ok (.getfield idx, 3)) (kk : W p l e R s m args below meth c H locs cells slots Q (F0 m (pc + 3) ls (.int (mI S 3 a) :: rest))) : W p l e R s m args below meth c H locs cells slots Q (F0 m pc ls (.ref a :: rest)) := by
  obtain ⟨k, hk⟩ := pW_get (cA := cA) hL
  rw [pF_7 hK] at hk
  exact va_get (D := D) (ci := 7) (C := RX8) (T := TX8) (N := 6) (cx_x C) (cx_b C) (cx_t C) inT_8 (cx_own C) (cx_k C) hP k hk rfl 3 (by decide) (cx_t C _ hw) (fun _ h => h) rfl d kk
theorem pf_8_3 {v : Int32} (C : cx_C p l s m args meth c s0 D cA cc nL ret own A) (hP : va_P D vwCl (pW cA S) H) (hD : va_D A (pW cA S)) (hS : va_S A s.heap H locs) (hL : a ∈ mL S) (hK : mK S a = 7) (hw : Cond.fieldLink own idx "RingPipeline" "made" "I" ∈ TB) (d : decode cc pc = .ok (.putfield idx, 3)) (kk : ∀ (H1 : Heap) (locs1 : List Loc), va_P D vwCl (pW cA (uI S 3 a v)) H1 → va_D A (pW cA (uI S 3 a v)) → va_S A s.heap H1 locs1 → W p l e R s m args below meth c H1 locs1 cells slots Q (F0 m (pc + 3) ls rest)) : W p l e R s m args below meth c H locs cells slots Q (F0 m pc ls (.int v :: .ref a :: rest)) := by
  obtain ⟨k, hk⟩ := pW_get (cA := cA) hL
  have hk2 := hk
  rw [pF_7 hK] at hk2
  have he : (pW cA S).set k (a, .inr (7, [va_rf (mR S 0 a), va_rf (mR S 1 a), va_rf (mR S 2 a), .int v, .int (mI S 4 a), .long (mJ S 5 a)])) = pW cA (uI S 3 a v) := by
    refine pW_set hD hL hk rfl ?_ (fun b hb => pF_eq rfl (fun _ => (up2_a hb).symm) (fun _ => rfl) (fun _ => rfl) (fun _ => rfl) (fun _ => rfl) rfl rfl rfl rfl)
    rw [pF_7 (S := uI S 3 a v) hK]
    simp [uI, mI, up2, mJ, mR, mF, mE]
  exact va_put (D := D) (ci := 7) (v := .int v) (ty := .int) (C := RX8) (T := TX8) (N := 6) (cx_x C) (cx_b C) (cx_t C) inT_8 tyX8 tyX8_ok nmX8 (cx_own C) (cx_k C) hP hD hS k hk2 rfl 3 (by decide) (cx_t C _ hw) (fun _ h => h) rfl (by decide +kernel) rfl rfl (Nat.le_of_ble_eq_true rfl) d (fun H1 locs1 h1 h2 h3 => kk H1 locs1 (by rw [← he]; exact h1) (by rw [← he]; exact h2) h3)
theorem gf_8_4 (C : cx_C p l s m args meth c s0 D cA cc nL ret own A) (hP : va_P D vwCl (pW cA S) H) (hL : a ∈ mL S) (hK : mK S a = 7) (hw : Cond.fieldLink own idx "RingPipeline" "hungOn" "I" ∈ TB) (d : decode cc pc = .ok (.getfield idx, 3)) (kk : W p l e R s m args below meth c H locs cells slots Q (F0 m (pc + 3) ls (.int (mI S 4 a) :: rest))) : W p l e R s m args below meth c H locs cells slots Q (F0 m pc ls (.ref a :: rest)) := by
  obtain ⟨k, hk⟩ := pW_get (cA := cA) hL
  rw [pF_7 hK] at hk
  exact va_get (D := D) (ci := 7) (C := RX8) (T := TX8) (N := 6) (cx_x C) (cx_b C) (cx_t C) inT_8 (cx_own C) (cx_k C) hP k hk rfl 4 (by decide) (cx_t C _ hw) (fun _ h => h) rfl d kk
theorem pf_8_4 {v : Int32} (C : cx_C p l s m args meth c s0 D cA cc nL ret own A) (hP : va_P D vwCl (pW cA S) H) (hD : va_D A (pW cA S)) (hS : va_S A s.heap H locs) (hL : a ∈ mL S) (hK : mK S a = 7) (hw : Cond.fieldLink own idx "RingPipeline" "hungOn" "I" ∈ TB) (d : decode cc pc = .ok (.putfield idx, 3)) (kk : ∀ (H1 : Heap) (locs1 : List Loc), va_P D vwCl (pW cA (uI S 4 a v)) H1 → va_D A (pW cA (uI S 4 a v)) → va_S A s.heap H1 locs1 → W p l e R s m args below meth c H1 locs1 cells slots Q (F0 m (pc + 3) ls rest)) : W p l e R s m args below meth c H locs cells slots Q (F0 m pc ls (.int v :: .ref a :: rest)) := by
  obtain ⟨k, hk⟩ := pW_get (cA := cA) hL
  have hk2 := hk
  rw [pF_7 hK] at hk2
  have he : (pW cA S).set k (a, .inr (7, [va_rf (mR S 0 a), va_rf (mR S 1 a), va_rf (mR S 2 a), .int (mI S 3 a), .int v, .long (mJ S 5 a)])) = pW cA (uI S 4 a v) := by
    refine pW_set hD hL hk rfl ?_ (fun b hb => pF_eq rfl (fun _ => (up2_a hb).symm) (fun _ => rfl) (fun _ => rfl) (fun _ => rfl) (fun _ => rfl) rfl rfl rfl rfl)
    rw [pF_7 (S := uI S 4 a v) hK]
    simp [uI, mI, up2, mJ, mR, mF, mE]
  exact va_put (D := D) (ci := 7) (v := .int v) (ty := .int) (C := RX8) (T := TX8) (N := 6) (cx_x C) (cx_b C) (cx_t C) inT_8 tyX8 tyX8_ok nmX8 (cx_own C) (cx_k C) hP hD hS k hk2 rfl 4 (by decide) (cx_t C _ hw) (fun _ h => h) rfl (by decide +kernel) rfl rfl (Nat.le_of_ble_eq_true rfl) d (fun H1 locs1 h1 h2 h3 => kk H1 locs1 (by rw [← he]; exact h1) (by rw [← he]; exact h2) h3)
theorem gf_8_5 (C : cx_C p l s m args meth c s0 D cA cc nL ret own A) (hP : va_P D vwCl (pW cA S) H) (hL : a ∈ mL S) (hK : mK S a = 7) (hw : Cond.fieldLink own idx "RingPipeline" "replayedSum" "J" ∈ TB) (d : decode cc pc = .ok (.getfield idx, 3)) (kk : W p l e R s m args below meth c H locs cells slots Q (F0 m (pc + 3) ls (.long (mJ S 5 a) :: rest))) : W p l e R s m args below meth c H locs cells slots Q (F0 m pc ls (.ref a :: rest)) := by
  obtain ⟨k, hk⟩ := pW_get (cA := cA) hL
  rw [pF_7 hK] at hk
  exact va_get (D := D) (ci := 7) (C := RX8) (T := TX8) (N := 6) (cx_x C) (cx_b C) (cx_t C) inT_8 (cx_own C) (cx_k C) hP k hk rfl 5 (by decide) (cx_t C _ hw) (fun _ h => h) rfl d kk
theorem pf_8_5 {v : Int64} (C : cx_C p l s m args meth c s0 D cA cc nL ret own A) (hP : va_P D vwCl (pW cA S) H) (hD : va_D A (pW cA S)) (hS : va_S A s.heap H locs) (hL : a ∈ mL S) (hK : mK S a = 7) (hw : Cond.fieldLink own idx "RingPipeline" "replayedSum" "J" ∈ TB) (d : decode cc pc = .ok (.putfield idx, 3)) (kk : ∀ (H1 : Heap) (locs1 : List Loc), va_P D vwCl (pW cA (uJ S 5 a v)) H1 → va_D A (pW cA (uJ S 5 a v)) → va_S A s.heap H1 locs1 → W p l e R s m args below meth c H1 locs1 cells slots Q (F0 m (pc + 3) ls rest)) : W p l e R s m args below meth c H locs cells slots Q (F0 m pc ls (.long v :: .ref a :: rest)) := by
  obtain ⟨k, hk⟩ := pW_get (cA := cA) hL
  have hk2 := hk
  rw [pF_7 hK] at hk2
  have he : (pW cA S).set k (a, .inr (7, [va_rf (mR S 0 a), va_rf (mR S 1 a), va_rf (mR S 2 a), .int (mI S 3 a), .int (mI S 4 a), .long v])) = pW cA (uJ S 5 a v) := by
    refine pW_set hD hL hk rfl ?_ (fun b hb => pF_eq rfl (fun _ => rfl) (fun _ => (up2_a hb).symm) (fun _ => rfl) (fun _ => rfl) (fun _ => rfl) rfl rfl rfl rfl)
    rw [pF_7 (S := uJ S 5 a v) hK]
    simp [uJ, mJ, up2, mI, mR, mF, mE]
  exact va_put (D := D) (ci := 7) (v := .long v) (ty := .long) (C := RX8) (T := TX8) (N := 6) (cx_x C) (cx_b C) (cx_t C) inT_8 tyX8 tyX8_ok nmX8 (cx_own C) (cx_k C) hP hD hS k hk2 rfl 5 (by decide) (cx_t C _ hw) (fun _ h => h) rfl (by decide +kernel) rfl rfl (Nat.le_of_ble_eq_true rfl) d (fun H1 locs1 h1 h2 h3 => kk H1 locs1 (by rw [← he]; exact h1) (by rw [← he]; exact h2) h3)
theorem nwo_8 (C : cx_C p l s m args meth c s0 D cA cc nL ret own A) (hP : va_P D vwCl (pW cA S) H) (hD : va_D A (pW cA S)) (hS : va_S A s.heap H locs) (hw : Cond.classLink own idx "RingPipeline" ∈ TB) (hc : cells + 1 ≤ R.cells) (hs : slots + 6 ≤ R.slots) (d : decode cc pc = .ok (.new idx, 3)) (kk : ∀ (q : Nat) (H1 : Heap), q ∉ mL S → va_P D vwCl (pW cA (nw S q 7 0)) H1 → va_D A (pW cA (nw S q 7 0)) → va_S A s.heap H1 locs → W p l e R s m args below meth c H1 locs (cells + 1) (slots + 6) Q (F0 m (pc + 3) ls (.ref q :: rest))) : W p l e R s m args below meth c H locs cells slots Q (F0 m pc ls rest) := by
  refine va_new (D := D) (ci := 7) (fs := [.null, .null, .null, .int 0, .int 0, .long 0]) (C := RX8) (T := TX8) (N := 6) (cx_x C) (cx_b C) (cx_t C) inT_8 tyX8 tyX8_ok (cx_own C) (cx_t C _ hw) (cx_t C _ tm_20) (cx_t C _ tm_1) (cx_k C) hP hD hS (cx_a C) rfl (fun j hj => by rcases (show j = 0 ∨ j = 1 ∨ j = 2 ∨ j = 3 ∨ j = 4 ∨ j = 5 by omega) with rfl | rfl | rfl | rfl | rfl | rfl <;> rfl) hc hs d (fun q H1 h1 h2 h3 => ?_)
  have hq := pW_new (k := 7) (n := 0) h2 (by rw [pF_7 (by simp [nw, mK, va_up])]; simp [nw, mI, mJ, mR, mF, mE, va_rf])
  exact kk q H1 hq.2 (by rw [← hq.1]; exact h1) (by rw [← hq.1]; exact h2) h3
theorem al_B {i : Int32} {j : Nat} (C : cx_C p l s m args meth c s0 D cA cc nL ret own A) (hP : va_P D vwCl (pW cA S) H) (hL : a ∈ mL S) (hK : mK S a = 9) (hi : ix i (mN S a) j) (d : decode cc pc = .ok (.baload, 1)) (kk : W p l e R s m args below meth c H locs cells slots Q (F0 m (pc + 1) ls (.int (maI S a j) :: rest))) : W p l e R s m args below meth c H locs cells slots Q (F0 m pc ls (.int i :: .ref a :: rest)) := by
  obtain ⟨k, hk⟩ := pW_get (cA := cA) hL
  rw [pF_9 hK] at hk
  obtain ⟨h1, rfl⟩ := hi
  exact va_bald (cx_x C) (cx_b C) (cx_k C) hP k 0 hk rfl h1 d kk
theorem aln_B (C : cx_C p l s m args meth c s0 D cA cc nL ret own A) (hP : va_P D vwCl (pW cA S) H) (hL : a ∈ mL S) (hK : mK S a = 9) (d : decode cc pc = .ok (.arraylength, 1)) (kk : W p l e R s m args below meth c H locs cells slots Q (F0 m (pc + 1) ls (.int (nI (mN S a)) :: rest))) : W p l e R s m args below meth c H locs cells slots Q (F0 m pc ls (.ref a :: rest)) := by
  obtain ⟨k, hk⟩ := pW_get (cA := cA) hL
  rw [pF_9 hK] at hk
  exact va_alen (cx_x C) (cx_b C) (cx_k C) hP k 0 hk rfl rfl d kk
theorem as_B {i : Int32} {j : Nat} {x : Int32} (C : cx_C p l s m args meth c s0 D cA cc nL ret own A) (hP : va_P D vwCl (pW cA S) H) (hD : va_D A (pW cA S)) (hS : va_S A s.heap H locs) (hL : a ∈ mL S) (hK : mK S a = 9) (hi : ix i (mN S a) j) (d : decode cc pc = .ok (.bastore, 1)) (kk : ∀ (H1 : Heap) (locs1 : List Loc), va_P D vwCl (pW cA (uaI S a j (vp_nar .byte x))) H1 → va_D A (pW cA (uaI S a j (vp_nar .byte x))) → va_S A s.heap H1 locs1 → W p l e R s m args below meth c H1 locs1 cells slots Q (F0 m (pc + 1) ls rest)) : W p l e R s m args below meth c H locs cells slots Q (F0 m pc ls (.int x :: .int i :: .ref a :: rest)) := by
  obtain ⟨k, hk⟩ := pW_get (cA := cA) hL
  have hk2 := hk
  rw [pF_9 hK] at hk2
  obtain ⟨g1, rfl⟩ := hi
  have he : (pW cA S).set k (a, .inl (cA 0, mN S a, .inl (upd (maI S a) i.toNatClampNeg (vp_nar .byte x)))) = pW cA (uaI S a i.toNatClampNeg (vp_nar .byte x)) := by
    refine pW_set hD hL hk rfl ?_ (fun b hb => pF_eq rfl (fun _ => rfl) (fun _ => rfl) (fun _ => rfl) (fun _ => rfl) (fun _ => rfl) rfl (funext fun z => (up2_k hb).symm) rfl rfl)
    rw [pF_9 (S := uaI S a i.toNatClampNeg (vp_nar .byte x)) hK]
    have hf : upd (maI S a) i.toNatClampNeg (vp_nar .byte x) = maI (uaI S a i.toNatClampNeg (vp_nar .byte x)) a := by
      funext z
      simp [uaI, maI, up2, upd]
    rw [← hf]
    rfl
  exact va_bast (cx_x C) (cx_b C) (cx_k C) hP hD hS k 0 hk2 rfl g1 d (fun H1 locs1 h1 h2 h3 => kk H1 locs1 (by rw [← he]; exact h1) (by rw [← he]; exact h2) h3)
theorem al_I {i : Int32} {j : Nat} (C : cx_C p l s m args meth c s0 D cA cc nL ret own A) (hP : va_P D vwCl (pW cA S) H) (hL : a ∈ mL S) (hK : mK S a = 12) (hi : ix i (mN S a) j) (d : decode cc pc = .ok (.iaload, 1)) (kk : W p l e R s m args below meth c H locs cells slots Q (F0 m (pc + 1) ls (.int (maI S a j) :: rest))) : W p l e R s m args below meth c H locs cells slots Q (F0 m pc ls (.int i :: .ref a :: rest)) := by
  obtain ⟨k, hk⟩ := pW_get (cA := cA) hL
  rw [pF_12 hK] at hk
  obtain ⟨h1, rfl⟩ := hi
  exact va_iald (cx_x C) (cx_b C) (cx_k C) hP k 3 hk rfl h1 d kk
theorem aln_I (C : cx_C p l s m args meth c s0 D cA cc nL ret own A) (hP : va_P D vwCl (pW cA S) H) (hL : a ∈ mL S) (hK : mK S a = 12) (d : decode cc pc = .ok (.arraylength, 1)) (kk : W p l e R s m args below meth c H locs cells slots Q (F0 m (pc + 1) ls (.int (nI (mN S a)) :: rest))) : W p l e R s m args below meth c H locs cells slots Q (F0 m pc ls (.ref a :: rest)) := by
  obtain ⟨k, hk⟩ := pW_get (cA := cA) hL
  rw [pF_12 hK] at hk
  exact va_alen (cx_x C) (cx_b C) (cx_k C) hP k 3 hk rfl rfl d kk
theorem as_I {i : Int32} {j : Nat} {x : Int32} (C : cx_C p l s m args meth c s0 D cA cc nL ret own A) (hP : va_P D vwCl (pW cA S) H) (hD : va_D A (pW cA S)) (hS : va_S A s.heap H locs) (hL : a ∈ mL S) (hK : mK S a = 12) (hi : ix i (mN S a) j) (d : decode cc pc = .ok (.iastore, 1)) (kk : ∀ (H1 : Heap) (locs1 : List Loc), va_P D vwCl (pW cA (uaI S a j (x))) H1 → va_D A (pW cA (uaI S a j (x))) → va_S A s.heap H1 locs1 → W p l e R s m args below meth c H1 locs1 cells slots Q (F0 m (pc + 1) ls rest)) : W p l e R s m args below meth c H locs cells slots Q (F0 m pc ls (.int x :: .int i :: .ref a :: rest)) := by
  obtain ⟨k, hk⟩ := pW_get (cA := cA) hL
  have hk2 := hk
  rw [pF_12 hK] at hk2
  obtain ⟨g1, rfl⟩ := hi
  have he : (pW cA S).set k (a, .inl (cA 3, mN S a, .inl (upd (maI S a) i.toNatClampNeg (x)))) = pW cA (uaI S a i.toNatClampNeg (x)) := by
    refine pW_set hD hL hk rfl ?_ (fun b hb => pF_eq rfl (fun _ => rfl) (fun _ => rfl) (fun _ => rfl) (fun _ => rfl) (fun _ => rfl) rfl (funext fun z => (up2_k hb).symm) rfl rfl)
    rw [pF_12 (S := uaI S a i.toNatClampNeg (x)) hK]
    have hf : upd (maI S a) i.toNatClampNeg (x) = maI (uaI S a i.toNatClampNeg (x)) a := by
      funext z
      simp [uaI, maI, up2, upd]
    rw [← hf]
    rfl
  exact va_iast (cx_x C) (cx_b C) (cx_k C) hP hD hS k 3 hk2 rfl g1 d (fun H1 locs1 h1 h2 h3 => kk H1 locs1 (by rw [← he]; exact h1) (by rw [← he]; exact h2) h3)
theorem al_J {i : Int32} {j : Nat} (C : cx_C p l s m args meth c s0 D cA cc nL ret own A) (hP : va_P D vwCl (pW cA S) H) (hL : a ∈ mL S) (hK : mK S a = 13) (hi : ix i (mN S a) j) (d : decode cc pc = .ok (.laload, 1)) (kk : W p l e R s m args below meth c H locs cells slots Q (F0 m (pc + 1) ls (.long (maJ S a j) :: rest))) : W p l e R s m args below meth c H locs cells slots Q (F0 m pc ls (.int i :: .ref a :: rest)) := by
  obtain ⟨k, hk⟩ := pW_get (cA := cA) hL
  rw [pF_13 hK] at hk
  obtain ⟨h1, rfl⟩ := hi
  exact va_lald (cx_x C) (cx_b C) (cx_k C) hP k 4 hk rfl h1 d kk
theorem aln_J (C : cx_C p l s m args meth c s0 D cA cc nL ret own A) (hP : va_P D vwCl (pW cA S) H) (hL : a ∈ mL S) (hK : mK S a = 13) (d : decode cc pc = .ok (.arraylength, 1)) (kk : W p l e R s m args below meth c H locs cells slots Q (F0 m (pc + 1) ls (.int (nI (mN S a)) :: rest))) : W p l e R s m args below meth c H locs cells slots Q (F0 m pc ls (.ref a :: rest)) := by
  obtain ⟨k, hk⟩ := pW_get (cA := cA) hL
  rw [pF_13 hK] at hk
  exact va_alen (cx_x C) (cx_b C) (cx_k C) hP k 4 hk rfl rfl d kk
theorem as_J {i : Int32} {j : Nat} {x : Int64} (C : cx_C p l s m args meth c s0 D cA cc nL ret own A) (hP : va_P D vwCl (pW cA S) H) (hD : va_D A (pW cA S)) (hS : va_S A s.heap H locs) (hL : a ∈ mL S) (hK : mK S a = 13) (hi : ix i (mN S a) j) (d : decode cc pc = .ok (.lastore, 1)) (kk : ∀ (H1 : Heap) (locs1 : List Loc), va_P D vwCl (pW cA (uaJ S a j (x))) H1 → va_D A (pW cA (uaJ S a j (x))) → va_S A s.heap H1 locs1 → W p l e R s m args below meth c H1 locs1 cells slots Q (F0 m (pc + 1) ls rest)) : W p l e R s m args below meth c H locs cells slots Q (F0 m pc ls (.long x :: .int i :: .ref a :: rest)) := by
  obtain ⟨k, hk⟩ := pW_get (cA := cA) hL
  have hk2 := hk
  rw [pF_13 hK] at hk2
  obtain ⟨g1, rfl⟩ := hi
  have he : (pW cA S).set k (a, .inl (cA 4, mN S a, .inr (.inl (vp_updL (maJ S a) i.toNatClampNeg (x))))) = pW cA (uaJ S a i.toNatClampNeg (x)) := by
    refine pW_set hD hL hk rfl ?_ (fun b hb => pF_eq rfl (fun _ => rfl) (fun _ => rfl) (fun _ => rfl) (fun _ => rfl) (fun _ => rfl) rfl rfl (funext fun z => (up2_k hb).symm) rfl)
    rw [pF_13 (S := uaJ S a i.toNatClampNeg (x)) hK]
    have hf : vp_updL (maJ S a) i.toNatClampNeg (x) = maJ (uaJ S a i.toNatClampNeg (x)) a := by
      funext z
      simp [uaJ, maJ, up2, vp_updL]
    rw [← hf]
    rfl
  exact va_last (cx_x C) (cx_b C) (cx_k C) hP hD hS k 4 hk2 rfl g1 d (fun H1 locs1 h1 h2 h3 => kk H1 locs1 (by rw [← he]; exact h1) (by rw [← he]; exact h2) h3)
theorem al_C {i : Int32} {j : Nat} (C : cx_C p l s m args meth c s0 D cA cc nL ret own A) (hP : va_P D vwCl (pW cA S) H) (hL : a ∈ mL S) (hK : mK S a = 15) (hi : ix i (mN S a) j) (d : decode cc pc = .ok (.aaload, 1)) (kk : W p l e R s m args below meth c H locs cells slots Q (F0 m (pc + 1) ls (va_rf (maR S a j) :: rest))) : W p l e R s m args below meth c H locs cells slots Q (F0 m pc ls (.int i :: .ref a :: rest)) := by
  obtain ⟨k, hk⟩ := pW_get (cA := cA) hL
  rw [pF_15 hK] at hk
  obtain ⟨h1, rfl⟩ := hi
  exact va_aldq (cx_x C) (cx_b C) (cx_k C) hP k 6 hk rfl h1 d kk
theorem aln_C (C : cx_C p l s m args meth c s0 D cA cc nL ret own A) (hP : va_P D vwCl (pW cA S) H) (hL : a ∈ mL S) (hK : mK S a = 15) (d : decode cc pc = .ok (.arraylength, 1)) (kk : W p l e R s m args below meth c H locs cells slots Q (F0 m (pc + 1) ls (.int (nI (mN S a)) :: rest))) : W p l e R s m args below meth c H locs cells slots Q (F0 m pc ls (.ref a :: rest)) := by
  obtain ⟨k, hk⟩ := pW_get (cA := cA) hL
  rw [pF_15 hK] at hk
  exact va_alen (cx_x C) (cx_b C) (cx_k C) hP k 6 hk rfl rfl d kk
theorem as_C {i : Int32} {j b : Nat} (C : cx_C p l s m args meth c s0 D cA cc nL ret own A) (hP : va_P D vwCl (pW cA S) H) (hD : va_D A (pW cA S)) (hS : va_S A s.heap H locs) (hL : a ∈ mL S) (hK : mK S a = 15) (hLb : b ∈ mL S) (hKb : mK S b = 0) (hi : ix i (mN S a) j) (d : decode cc pc = .ok (.aastore, 1)) (kk : ∀ (H1 : Heap) (locs1 : List Loc), va_P D vwCl (pW cA (uaR S a j (some b))) H1 → va_D A (pW cA (uaR S a j (some b))) → va_S A s.heap H1 locs1 → W p l e R s m args below meth c H1 locs1 cells slots Q (F0 m (pc + 1) ls rest)) : W p l e R s m args below meth c H locs cells slots Q (F0 m pc ls (.ref b :: .int i :: .ref a :: rest)) := by
  obtain ⟨k, hk⟩ := pW_get (cA := cA) hL
  have hk2 := hk
  rw [pF_15 hK] at hk2
  obtain ⟨k9, hk9⟩ := pW_get (cA := cA) hLb
  rw [pF_0 hKb] at hk9
  obtain ⟨g1, rfl⟩ := hi
  have he : (pW cA S).set k (a, .inl (cA 6, mN S a, .inr (.inr (.inr (.inr (va_up (maR S a) i.toNatClampNeg (some b))))))) = pW cA (uaR S a i.toNatClampNeg (some b)) := by
    refine pW_set hD hL hk rfl ?_ (fun b hb => pF_eq rfl (fun _ => rfl) (fun _ => rfl) (fun _ => rfl) (fun _ => rfl) (fun _ => rfl) rfl rfl rfl (funext fun z => (up2_k hb).symm))
    rw [pF_15 (S := uaR S a i.toNatClampNeg (some b)) hK]
    have hf : va_up (maR S a) i.toNatClampNeg (some b) = maR (uaR S a i.toNatClampNeg (some b)) a := by
      funext z
      simp [uaR, maR, up2, va_up]
    rw [← hf]
    rfl
  exact va_astq (cx_x C) (cx_b C) (cx_k C) hP hD hS k 6 k9 0 (r := (RX0, TX0, 15)) hk2 rfl hk9 rfl g1 d (fun H1 locs1 h1 h2 h3 => kk H1 locs1 (by rw [← he]; exact h1) (by rw [← he]; exact h2) h3)
theorem al_P {i : Int32} {j : Nat} (C : cx_C p l s m args meth c s0 D cA cc nL ret own A) (hP : va_P D vwCl (pW cA S) H) (hL : a ∈ mL S) (hK : mK S a = 16) (hi : ix i (mN S a) j) (d : decode cc pc = .ok (.aaload, 1)) (kk : W p l e R s m args below meth c H locs cells slots Q (F0 m (pc + 1) ls (va_rf (maR S a j) :: rest))) : W p l e R s m args below meth c H locs cells slots Q (F0 m pc ls (.int i :: .ref a :: rest)) := by
  obtain ⟨k, hk⟩ := pW_get (cA := cA) hL
  rw [pF_16 hK] at hk
  obtain ⟨h1, rfl⟩ := hi
  exact va_aldq (cx_x C) (cx_b C) (cx_k C) hP k 7 hk rfl h1 d kk
theorem aln_P (C : cx_C p l s m args meth c s0 D cA cc nL ret own A) (hP : va_P D vwCl (pW cA S) H) (hL : a ∈ mL S) (hK : mK S a = 16) (d : decode cc pc = .ok (.arraylength, 1)) (kk : W p l e R s m args below meth c H locs cells slots Q (F0 m (pc + 1) ls (.int (nI (mN S a)) :: rest))) : W p l e R s m args below meth c H locs cells slots Q (F0 m pc ls (.ref a :: rest)) := by
  obtain ⟨k, hk⟩ := pW_get (cA := cA) hL
  rw [pF_16 hK] at hk
  exact va_alen (cx_x C) (cx_b C) (cx_k C) hP k 7 hk rfl rfl d kk
theorem as_P {i : Int32} {j b : Nat} (C : cx_C p l s m args meth c s0 D cA cc nL ret own A) (hP : va_P D vwCl (pW cA S) H) (hD : va_D A (pW cA S)) (hS : va_S A s.heap H locs) (hL : a ∈ mL S) (hK : mK S a = 16) (hLb : b ∈ mL S) (hKb : mK S b = 3) (hi : ix i (mN S a) j) (d : decode cc pc = .ok (.aastore, 1)) (kk : ∀ (H1 : Heap) (locs1 : List Loc), va_P D vwCl (pW cA (uaR S a j (some b))) H1 → va_D A (pW cA (uaR S a j (some b))) → va_S A s.heap H1 locs1 → W p l e R s m args below meth c H1 locs1 cells slots Q (F0 m (pc + 1) ls rest)) : W p l e R s m args below meth c H locs cells slots Q (F0 m pc ls (.ref b :: .int i :: .ref a :: rest)) := by
  obtain ⟨k, hk⟩ := pW_get (cA := cA) hL
  have hk2 := hk
  rw [pF_16 hK] at hk2
  obtain ⟨k9, hk9⟩ := pW_get (cA := cA) hLb
  rw [pF_3 hKb] at hk9
  obtain ⟨g1, rfl⟩ := hi
  have he : (pW cA S).set k (a, .inl (cA 7, mN S a, .inr (.inr (.inr (.inr (va_up (maR S a) i.toNatClampNeg (some b))))))) = pW cA (uaR S a i.toNatClampNeg (some b)) := by
    refine pW_set hD hL hk rfl ?_ (fun b hb => pF_eq rfl (fun _ => rfl) (fun _ => rfl) (fun _ => rfl) (fun _ => rfl) (fun _ => rfl) rfl rfl rfl (funext fun z => (up2_k hb).symm))
    rw [pF_16 (S := uaR S a i.toNatClampNeg (some b)) hK]
    have hf : va_up (maR S a) i.toNatClampNeg (some b) = maR (uaR S a i.toNatClampNeg (some b)) a := by
      funext z
      simp [uaR, maR, up2, va_up]
    rw [← hf]
    rfl
  exact va_astq (cx_x C) (cx_b C) (cx_k C) hP hD hS k 7 k9 3 (r := (RX4, TX4, 4)) hk2 rfl hk9 rfl g1 d (fun H1 locs1 h1 h2 h3 => kk H1 locs1 (by rw [← he]; exact h1) (by rw [← he]; exact h2) h3)
theorem nwa_B {n : Int32} {N : Nat} (C : cx_C p l s m args meth c s0 D cA cc nL ret own A) (hP : va_P D vwCl (pW cA S) H) (hD : va_D A (pW cA S)) (hS : va_S A s.heap H locs) (hn : ¬ n < 0) (hN : n.toNatClampNeg = N) (hb : N ≤ 100000) (hc : cells + 1 ≤ R.cells) (hs : slots + N ≤ R.slots) (d : decode cc pc = .ok (.newarray .byte, 2)) (kk : ∀ (q : Nat) (H1 : Heap), q ∉ mL S → va_P D vwCl (pW cA (nw S q 9 N)) H1 → va_D A (pW cA (nw S q 9 N)) → va_S A s.heap H1 locs → W p l e R s m args below meth c H1 locs (cells + 1) (slots + N) Q (F0 m (pc + 2) ls (.ref q :: rest))) : W p l e R s m args below meth c H locs cells slots Q (F0 m pc ls (.int n :: rest)) := by
  refine va_newa (D := D) (atype := .byte) (a0 := (N, .inl (fun _ => 0))) (cx_x C) (cx_b C) (cx_t C _ tm_164) (ty := .byte) rfl (cx_k C) hP hD hS (cx_a C) (fun _ => rfl) hn hN (by simp only [componentBytes]; omega) hc hs d (fun q cB H1 h0 h1 h2 h3 => ?_)
  have e1 : s.vm.findClass ("[" ++ (.byte : FieldType).toString) = some cB := (h0.2 8 (cB, .byte) rfl).2
  have e2 : s.vm.findClass ("[" ++ (.byte : FieldType).toString) = some (cA 0) := ((cx_k C).2 0 (cA 0, .byte) rfl).2
  cases Option.some.inj (e1.symm.trans e2)
  have hq := pW_new (k := 9) (n := N) h2 (by rw [pF_9 (by simp [nw, mK, va_up])]; simp [nw, mN, maI, va_up])
  exact kk q H1 hq.2 (by rw [← hq.1]; exact h1) (by rw [← hq.1]; exact h2) h3
theorem nwa_I {n : Int32} {N : Nat} (C : cx_C p l s m args meth c s0 D cA cc nL ret own A) (hP : va_P D vwCl (pW cA S) H) (hD : va_D A (pW cA S)) (hS : va_S A s.heap H locs) (hn : ¬ n < 0) (hN : n.toNatClampNeg = N) (hb : N ≤ 100000) (hc : cells + 1 ≤ R.cells) (hs : slots + N ≤ R.slots) (d : decode cc pc = .ok (.newarray .int, 2)) (kk : ∀ (q : Nat) (H1 : Heap), q ∉ mL S → va_P D vwCl (pW cA (nw S q 12 N)) H1 → va_D A (pW cA (nw S q 12 N)) → va_S A s.heap H1 locs → W p l e R s m args below meth c H1 locs (cells + 1) (slots + N) Q (F0 m (pc + 2) ls (.ref q :: rest))) : W p l e R s m args below meth c H locs cells slots Q (F0 m pc ls (.int n :: rest)) := by
  refine va_newa (D := D) (atype := .int) (a0 := (N, .inl (fun _ => 0))) (cx_x C) (cx_b C) (cx_t C _ tm_57) (ty := .int) rfl (cx_k C) hP hD hS (cx_a C) (fun _ => rfl) hn hN (by simp only [componentBytes]; omega) hc hs d (fun q cB H1 h0 h1 h2 h3 => ?_)
  have e1 : s.vm.findClass ("[" ++ (.int : FieldType).toString) = some cB := (h0.2 8 (cB, .int) rfl).2
  have e2 : s.vm.findClass ("[" ++ (.int : FieldType).toString) = some (cA 3) := ((cx_k C).2 3 (cA 3, .int) rfl).2
  cases Option.some.inj (e1.symm.trans e2)
  have hq := pW_new (k := 12) (n := N) h2 (by rw [pF_12 (by simp [nw, mK, va_up])]; simp [nw, mN, maI, va_up])
  exact kk q H1 hq.2 (by rw [← hq.1]; exact h1) (by rw [← hq.1]; exact h2) h3
theorem nwa_J {n : Int32} {N : Nat} (C : cx_C p l s m args meth c s0 D cA cc nL ret own A) (hP : va_P D vwCl (pW cA S) H) (hD : va_D A (pW cA S)) (hS : va_S A s.heap H locs) (hn : ¬ n < 0) (hN : n.toNatClampNeg = N) (hb : N ≤ 100000) (hc : cells + 1 ≤ R.cells) (hs : slots + N ≤ R.slots) (d : decode cc pc = .ok (.newarray .long, 2)) (kk : ∀ (q : Nat) (H1 : Heap), q ∉ mL S → va_P D vwCl (pW cA (nw S q 13 N)) H1 → va_D A (pW cA (nw S q 13 N)) → va_S A s.heap H1 locs → W p l e R s m args below meth c H1 locs (cells + 1) (slots + N) Q (F0 m (pc + 2) ls (.ref q :: rest))) : W p l e R s m args below meth c H locs cells slots Q (F0 m pc ls (.int n :: rest)) := by
  refine va_newa (D := D) (atype := .long) (a0 := (N, .inr (.inl (fun _ => 0)))) (cx_x C) (cx_b C) (cx_t C _ tm_56) (ty := .long) rfl (cx_k C) hP hD hS (cx_a C) (fun _ => rfl) hn hN (by simp only [componentBytes]; omega) hc hs d (fun q cB H1 h0 h1 h2 h3 => ?_)
  have e1 : s.vm.findClass ("[" ++ (.long : FieldType).toString) = some cB := (h0.2 8 (cB, .long) rfl).2
  have e2 : s.vm.findClass ("[" ++ (.long : FieldType).toString) = some (cA 4) := ((cx_k C).2 4 (cA 4, .long) rfl).2
  cases Option.some.inj (e1.symm.trans e2)
  have hq := pW_new (k := 13) (n := N) h2 (by rw [pF_13 (by simp [nw, mK, va_up])]; simp [nw, mN, maJ, va_up])
  exact kk q H1 hq.2 (by rw [← hq.1]; exact h1) (by rw [← hq.1]; exact h2) h3
theorem nwa_C {n : Int32} {N : Nat} (C : cx_C p l s m args meth c s0 D cA cc nL ret own A) (hP : va_P D vwCl (pW cA S) H) (hD : va_D A (pW cA S)) (hS : va_S A s.heap H locs) (hw : Cond.classLink own idx "RingPipeline$Consumer" ∈ TB) (hn : ¬ n < 0) (hN : n.toNatClampNeg = N) (hb : N ≤ 100000) (hc : cells + 1 ≤ R.cells) (hs : slots + N ≤ R.slots) (d : decode cc pc = .ok (.anewarray idx, 3)) (kk : ∀ (q : Nat) (H1 : Heap), q ∉ mL S → va_P D vwCl (pW cA (nw S q 15 N)) H1 → va_D A (pW cA (nw S q 15 N)) → va_S A s.heap H1 locs → W p l e R s m args below meth c H1 locs (cells + 1) (slots + N) Q (F0 m (pc + 3) ls (.ref q :: rest))) : W p l e R s m args below meth c H locs cells slots Q (F0 m pc ls (.int n :: rest)) := by
  refine va_newq (D := D) (cx_x C) (cx_b C) (cx_own C) (cx_t C _ hw) (cx_over C tn_28) (cx_k C) hP hD hS (cx_a C) hn hN (by omega) hc hs d (fun q cB H1 h0 h1 h2 h3 => ?_)
  obtain ⟨_, _, _, _, _, e1⟩ := (h0.2 8 (cB, .object "RingPipeline$Consumer") rfl).2
  obtain ⟨_, _, _, _, _, e2⟩ := ((cx_k C).2 6 (cA 6, .object "RingPipeline$Consumer") rfl).2
  cases Option.some.inj (e1.symm.trans e2)
  have hq := pW_new (k := 15) (n := N) h2 (by rw [pF_15 (by simp [nw, mK, va_up])]; simp [nw, mN, maR, va_up])
  exact kk q H1 hq.2 (by rw [← hq.1]; exact h1) (by rw [← hq.1]; exact h2) h3
theorem nwa_P {n : Int32} {N : Nat} (C : cx_C p l s m args meth c s0 D cA cc nL ret own A) (hP : va_P D vwCl (pW cA S) H) (hD : va_D A (pW cA S)) (hS : va_S A s.heap H locs) (hw : Cond.classLink own idx "RingPipeline$Pool" ∈ TB) (hn : ¬ n < 0) (hN : n.toNatClampNeg = N) (hb : N ≤ 100000) (hc : cells + 1 ≤ R.cells) (hs : slots + N ≤ R.slots) (d : decode cc pc = .ok (.anewarray idx, 3)) (kk : ∀ (q : Nat) (H1 : Heap), q ∉ mL S → va_P D vwCl (pW cA (nw S q 16 N)) H1 → va_D A (pW cA (nw S q 16 N)) → va_S A s.heap H1 locs → W p l e R s m args below meth c H1 locs (cells + 1) (slots + N) Q (F0 m (pc + 3) ls (.ref q :: rest))) : W p l e R s m args below meth c H locs cells slots Q (F0 m pc ls (.int n :: rest)) := by
  refine va_newq (D := D) (cx_x C) (cx_b C) (cx_own C) (cx_t C _ hw) (cx_over C tn_30) (cx_k C) hP hD hS (cx_a C) hn hN (by omega) hc hs d (fun q cB H1 h0 h1 h2 h3 => ?_)
  obtain ⟨_, _, _, _, _, e1⟩ := (h0.2 8 (cB, .object "RingPipeline$Pool") rfl).2
  obtain ⟨_, _, _, _, _, e2⟩ := ((cx_k C).2 7 (cA 7, .object "RingPipeline$Pool") rfl).2
  cases Option.some.inj (e1.symm.trans e2)
  have hq := pW_new (k := 16) (n := N) h2 (by rw [pF_16 (by simp [nw, mK, va_up])]; simp [nw, mN, maR, va_up])
  exact kk q H1 hq.2 (by rw [← hq.1]; exact h1) (by rw [← hq.1]; exact h2) h3
end MemRows
