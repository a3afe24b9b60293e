/-! ===== the reference: claim, publish ===== -/
theorem sS_sS {P : MS} {k : Nat} {x y : Int32} : sS (sS P k x) k y = sS P k y := by
  show (va_up (va_up (qS P) k x) k y, _) = (va_up (qS P) k y, _)
  rw [show va_up (va_up (qS P) k x) k y = va_up (qS P) k y from funext fun j => by unfold va_up; split <;> rfl]
  rfl
theorem sS_self {P : MS} {k : Nat} {x : Int32} (h : qS P k = x) : sS P k x = P := by
  subst h
  show (va_up (qS P) k (qS P k), qR P, qI P, qJ P, qF P, qD P) = P
  rw [show va_up (qS P) k (qS P k) = qS P from funext fun j => by unfold va_up; split <;> simp_all]
  rfl
theorem nIm {a : Nat} (h : a < 2 ^ 30) : (nI a - 1).toInt = (a : Int) - 1 := by
  cases a with
  | zero => decide +kernel
  | succ q => rw [nI_pred, nI_toInt (by omega)]; omega
theorem nIm_lt {a b : Nat} (ha : a < 2 ^ 30) (hb : b < 2 ^ 30) : nI a - 1 < nI b ↔ a ≤ b := by
  rw [Int32.lt_iff_toInt_lt, nIm ha, nI_toInt (by omega)]; omega
theorem nIm_lm {a b : Nat} (ha : a < 2 ^ 30) (hb : b < 2 ^ 30) : nI a - 1 < nI b - 1 ↔ a < b := by
  rw [Int32.lt_iff_toInt_lt, nIm ha, nIm hb]; omega
theorem nIm_1 {a : Nat} : nI a - 1 + 1 = nI a := Int32.sub_add_cancel ..
theorem nIm_2 {a : Nat} : nI a = nI (a + 1) - 1 := (nI_pred a).symm
/-- the consumers on which another hangs -/
def hgR (P : MS) : Nat → Int32
  | 0 => 0
  | k + 1 => hgR P k ||| qI P 10 k
/-- whether there is room, up to consumer k; 0 if not -/
def rmR (P : MS) (n : Nat) (X : Int32) : Nat → Int32
  | 0 => if 0 < qS P 8 then 1 else if qS P 4 < X then 0 else 1
  | k + 1 => if rmR P n X k = 0 then 0 else if ((hgR P n >>> (nI k &&& 31)) &&& 1) = 1 then 1 else if plO P k < X then 0 else 1
/-- the mark of a claimed sequence -/
def gb (g : Int32) : Int32 := vp_nar .byte ((1 + g).toInt8.toInt32)
def sqL (P : MS) (g : Int32) (cu : Nat) : Nat → MS
  | 0 => P
  | k + 1 => sI (sqL P g cu k) 2 (cu + k) (gb g)
theorem sqL_S {P : MS} {g : Int32} {cu : Nat} : ∀ k, qS (sqL P g cu k) = qS P
  | 0 => rfl
  | k + 1 => sqL_S k
/-- how far it is published without a gap, from a on -/
def af (q : Nat → Int32) : Nat → Nat → Nat
  | 0, a => a
  | d + 1, a => if 8 < q a then af q d (a + 1) else a
section Loops5
variable {p : Program} {l : Launch} {e : Env} {R : Room} {s : State} {m : MethodId} {args : Array Value} {below : List Frame} {meth : Method} {c : Code} {H : Heap} {locs : List Loc} {cells slots : Nat} {Q : State → Prop}
variable {s0 : State} {D : va_G} {cA : Nat → ClassId} {A : Nat → Prop} {ad : Nat → Nat}
set_option maxRecDepth 100000 in
theorem lp_hung {g : Int32} (C : cx_C p l s m args meth c s0 D cA cX9_claim 7 (some .long) RX9 A) {P : MS} {n : Nat} {nn : Int32} (hn : qS P 8 = nI n) (hn8 : n ≤ 8) (hP : va_P D vwCl (mW cA ad (sS P 0 0)) H)
    (kk : ∀ ls : Array Slot, lv_has ls 7 [(3, .int (hgR P n)), (0, .ref (ad 0)), (1, .int g), (2, .int nn)] → W p l e R s m args below meth c H locs cells slots Q (F0 m 63 ls [])) :
    ∀ d k : Nat, k + d = n → ∀ x : Int32, x = hgR P k → ∀ ls : Array Slot, lv_has ls 7 [(4, .int (nI k)), (3, .int x), (0, .ref (ad 0)), (1, .int g), (2, .int nn)] → W p l e R s m args below meth c H locs cells slots Q (F0 m 38 ls []) := by
  have hx := cx_x C
  have hb := cx_b C
  intro d
  induction d with
  | zero =>
    intro k hk x hx2 ls hl
    have hk : k = n := hk
    subst hk
    subst hx2
    refine lv_iload hx hb dX9_claim_38 (lv_at hl 0 rfl) ?_
    refine lv_aload_n hx hb dX9_claim_40 rfl (lv_at hl 2 rfl) ?_
    refine gm_8 (v := qS P 8) C hP rfl tm_674 dX9_claim_41 ?_
    refine lv_icmp_ge (tgt := 63) hx hb dX9_claim_44 (by decide) (fun _ => ?_) (fun h9 => absurd (by rw [hn]; exact Int32.le_refl _) h9)
    exact kk ls (lv_sub hl [1, 2, 3, 4] rfl)
  | succ d ih =>
    intro k hk x hx2 ls hl
    refine lv_iload hx hb dX9_claim_38 (lv_at hl 0 rfl) ?_
    refine lv_aload_n hx hb dX9_claim_40 rfl (lv_at hl 2 rfl) ?_
    refine gm_8 (v := qS P 8) C hP rfl tm_674 dX9_claim_41 ?_
    refine lv_icmp_ge (tgt := 63) hx hb dX9_claim_44 (by decide) (fun h9 => absurd h9 (by rw [hn]; exact nI_ge (by omega) (by omega))) (fun _ => ?_)
    refine lv_iload_n hx hb dX9_claim_47 rfl (lv_at hl 1 rfl) ?_
    refine lv_aload_n hx hb dX9_claim_48 rfl (lv_at hl 2 rfl) ?_
    refine gm_10 C hP tm_676 dX9_claim_49 ?_
    refine lv_iload hx hb dX9_claim_52 (lv_at hl 0 rfl) ?_
    refine xl_10 (v := qI P 10 k) (j := k) C hP (ix8 (by omega)) (rfl) dX9_claim_54 ?_
    refine lv_ior hx hb dX9_claim_55 ?_
    refine lv_istore_n (lv' := [(3, .int (x ||| (qI P 10 k))), (4, .int (nI k)), (0, .ref (ad 0)), (1, .int g), (2, .int nn)]) hx hb dX9_claim_56 rfl hl (by decide) rfl (fun ls hl => ?_)
    refine lv_iinc (v := nI k + 1) (lv' := [(4, .int (nI k + 1)), (3, .int (x ||| (qI P 10 k))), (0, .ref (ad 0)), (1, .int g), (2, .int nn)]) hx hb dX9_claim_57 hl (k := 1) rfl (by first | rfl | decide) (by decide) rfl (fun ls hl => ?_)
    refine lv_goto (tgt := 38) hx hb dX9_claim_60 (by decide) ?_
    rw [nI_1] at hl
    exact ih (k + 1) (by omega) _ (by rw [hgR, ← hx2]) ls (lv_sub hl [0, 1, 2, 3, 4] rfl)
set_option maxRecDepth 100000 in
theorem lp_room {g : Int32} (C : cx_C p l s m args meth c s0 D cA cX9_claim 7 (some .long) RX9 A) (hG : cx_G l s0 D cA) {P : MS} {n : Nat} {nn : Int32} (hn : qS P 8 = nI n) (hn8 : n ≤ 8) (hq : ∀ k, k < n → qI P 12 k = -1 ∨ ∃ t, t < 2 ∧ qI P 12 k = nI t) (hR0 : rmX9_placeOf.frames + 1 ≤ R.frames ∧ 8 + (4 + 11) + rmX9_placeOf.locals ≤ R.locals) (hC0 : cells + rmX9_placeOf.cells ≤ R.cells ∧ slots + rmX9_placeOf.slots ≤ R.slots) 
    (kk : ∀ (H : Heap) (locs : List Loc) (ls : Array Slot), va_P D vwCl (mW cA ad (sS P 0 0)) H → va_D A (mW cA ad (sS P 0 0)) → va_S A s.heap H locs → lv_has ls 7 [(4, .int (rmR P n (qS P 3 + nn - qS P 1) n)), (0, .ref (ad 0)), (1, .int g), (2, .int nn)] → W p l e R s m args below meth c H locs cells slots Q (F0 m 155 ls [])) :
    ∀ d k : Nat, k + d = n → ∀ x : Int32, x = rmR P n (qS P 3 + nn - qS P 1) k → ∀ (H : Heap) (locs : List Loc) (ls : Array Slot), va_P D vwCl (mW cA ad (sS P 0 0)) H → va_D A (mW cA ad (sS P 0 0)) → va_S A s.heap H locs → lv_has ls 7 [(5, .int (nI k)), (4, .int x), (3, .int (hgR P n)), (0, .ref (ad 0)), (1, .int g), (2, .int nn)] → W p l e R s m args below meth c H locs cells slots Q (F0 m 98 ls []) := by
  have hx := cx_x C
  have hb := cx_b C
  intro d
  induction d with
  | zero =>
    intro k hk x hx2 H locs ls hP hD hS hl
    have hk : k = n := hk
    subst hk
    subst hx2
    refine lv_iload hx hb dX9_claim_98 (lv_at hl 0 rfl) ?_
    refine lv_aload_n hx hb dX9_claim_100 rfl (lv_at hl 3 rfl) ?_
    refine gm_8 (v := qS P 8) C hP rfl tm_674 dX9_claim_101 ?_
    refine lv_icmp_ge (tgt := 155) hx hb dX9_claim_104 (by decide) (fun _ => ?_) (fun h9 => absurd (by rw [hn]; exact Int32.le_refl _) h9)
    exact kk H locs ls hP hD hS (lv_sub hl [1, 3, 4, 5] rfl)
  | succ d ih =>
    intro k hk x hx2 H locs ls hP hD hS hl
    refine lv_iload hx hb dX9_claim_98 (lv_at hl 0 rfl) ?_
    refine lv_aload_n hx hb dX9_claim_100 rfl (lv_at hl 3 rfl) ?_
    refine gm_8 (v := qS P 8) C hP rfl tm_674 dX9_claim_101 ?_
    refine lv_icmp_ge (tgt := 155) hx hb dX9_claim_104 (by decide) (fun h9 => absurd h9 (by rw [hn]; exact nI_ge (by omega) (by omega))) (fun _ => ?_)
    refine lv_iload hx hb dX9_claim_107 (lv_at hl 1 rfl) ?_
    refine lv_if_eq (tgt := 146) hx hb dX9_claim_109 (by decide) (fun cz => ?_) (fun cz => ?_)
    · refine lv_iconst (v := 0) hx hb dX9_claim_146 (by decide) ?_
      refine lv_istore (lv' := [(4, .int 0), (5, .int (nI k)), (3, .int (hgR P n)), (0, .ref (ad 0)), (1, .int g), (2, .int nn)]) hx hb dX9_claim_147 hl (by decide) rfl (fun ls hl => ?_)
      refine lv_iinc (v := nI k + 1) (lv' := [(5, .int (nI k + 1)), (4, .int 0), (3, .int (hgR P n)), (0, .ref (ad 0)), (1, .int g), (2, .int nn)]) hx hb dX9_claim_149 hl (k := 1) rfl (by first | rfl | decide) (by decide) rfl (fun ls hl => ?_)
      refine lv_goto (tgt := 98) hx hb dX9_claim_152 (by decide) ?_
      rw [nI_1] at hl
      exact ih (k + 1) (by omega) _ (by rw [rmR, ← hx2]; first | rw [if_pos cz] | rw [if_neg cz, if_pos cb] | rw [if_neg cz, if_neg cb, if_pos cp] | rw [if_neg cz, if_neg cb, if_neg cp]) H locs ls hP hD hS (lv_sub hl [0, 1, 2, 3, 4, 5] rfl)
    refine lv_iload_n hx hb dX9_claim_112 rfl (lv_at hl 2 rfl) ?_
    refine lv_iload hx hb dX9_claim_113 (lv_at hl 0 rfl) ?_
    refine lv_ishr hx hb dX9_claim_115 ?_
    refine lv_iconst (v := 1) hx hb dX9_claim_116 (by decide) ?_
    refine lv_iand hx hb dX9_claim_117 ?_
    refine lv_iconst (v := 1) hx hb dX9_claim_118 (by decide) ?_
    refine lv_icmp_eq (tgt := 142) hx hb dX9_claim_119 (by decide) (fun cb => ?_) (fun cb => ?_)
    · refine lv_iconst (v := 1) hx hb dX9_claim_142 (by decide) ?_
      refine lv_goto (tgt := 147) hx hb dX9_claim_143 (by decide) ?_
      refine lv_istore (lv' := [(4, .int 1), (5, .int (nI k)), (3, .int (hgR P n)), (0, .ref (ad 0)), (1, .int g), (2, .int nn)]) hx hb dX9_claim_147 hl (by decide) rfl (fun ls hl => ?_)
      refine lv_iinc (v := nI k + 1) (lv' := [(5, .int (nI k + 1)), (4, .int 1), (3, .int (hgR P n)), (0, .ref (ad 0)), (1, .int g), (2, .int nn)]) hx hb dX9_claim_149 hl (k := 1) rfl (by first | rfl | decide) (by decide) rfl (fun ls hl => ?_)
      refine lv_goto (tgt := 98) hx hb dX9_claim_152 (by decide) ?_
      rw [nI_1] at hl
      exact ih (k + 1) (by omega) _ (by rw [rmR, ← hx2]; first | rw [if_pos cz] | rw [if_neg cz, if_pos cb] | rw [if_neg cz, if_neg cb, if_pos cp] | rw [if_neg cz, if_neg cb, if_neg cp]) H locs ls hP hD hS (lv_sub hl [0, 1, 2, 3, 4, 5] rfl)
    refine lv_aload_n hx hb dX9_claim_122 rfl (lv_at hl 3 rfl) ?_
    refine gm_3 (v := qS P 3) C hP rfl tm_669 dX9_claim_123 ?_
    refine lv_iload_n hx hb dX9_claim_126 rfl (lv_at hl 5 rfl) ?_
    refine lv_iadd hx hb dX9_claim_127 ?_
    refine lv_aload_n hx hb dX9_claim_128 rfl (lv_at hl 3 rfl) ?_
    refine gm_1 (v := qS P 1) C hP rfl tm_667 dX9_claim_129 ?_
    refine lv_isub hx hb dX9_claim_132 ?_
    refine lv_aload_n hx hb dX9_claim_133 rfl (lv_at hl 3 rfl) ?_
    refine lv_iload hx hb dX9_claim_134 (lv_at hl 0 rfl) ?_
    refine mc_V (As := [.int (nI k)]) (rest := [.int (((qS P 3) + nn) - (qS P 1))]) (r := some (.int (plO P k))) (T := sS P 0 0) C (k_placeOf (n := n) hG (sS P 0 0) hn hn8 (by omega) (hq k (by omega))) tm_777 tm_779 tm_896 tm_3 tm_780 rfl hdX9_placeOf hR0 hl.1 rfl (Nat.le_of_ble_eq_true rfl) dX9_claim_136 hC0 hP hD hS (fun H locs hP hD hS => ?_)
    refine lv_icmp_gt (tgt := 146) hx hb dX9_claim_139 (by decide) (fun cp => ?_) (fun cp => ?_)
    · refine lv_iconst (v := 0) hx hb dX9_claim_146 (by decide) ?_
      refine lv_istore (lv' := [(4, .int 0), (5, .int (nI k)), (3, .int (hgR P n)), (0, .ref (ad 0)), (1, .int g), (2, .int nn)]) hx hb dX9_claim_147 hl (by decide) rfl (fun ls hl => ?_)
      refine lv_iinc (v := nI k + 1) (lv' := [(5, .int (nI k + 1)), (4, .int 0), (3, .int (hgR P n)), (0, .ref (ad 0)), (1, .int g), (2, .int nn)]) hx hb dX9_claim_149 hl (k := 1) rfl (by first | rfl | decide) (by decide) rfl (fun ls hl => ?_)
      refine lv_goto (tgt := 98) hx hb dX9_claim_152 (by decide) ?_
      rw [nI_1] at hl
      exact ih (k + 1) (by omega) _ (by rw [rmR, ← hx2]; first | rw [if_pos cz] | rw [if_neg cz, if_pos cb] | rw [if_neg cz, if_neg cb, if_pos cp] | rw [if_neg cz, if_neg cb, if_neg cp]) H locs ls hP hD hS (lv_sub hl [0, 1, 2, 3, 4, 5] rfl)
    refine lv_iconst (v := 1) hx hb dX9_claim_142 (by decide) ?_
    refine lv_goto (tgt := 147) hx hb dX9_claim_143 (by decide) ?_
    refine lv_istore (lv' := [(4, .int 1), (5, .int (nI k)), (3, .int (hgR P n)), (0, .ref (ad 0)), (1, .int g), (2, .int nn)]) hx hb dX9_claim_147 hl (by decide) rfl (fun ls hl => ?_)
    refine lv_iinc (v := nI k + 1) (lv' := [(5, .int (nI k + 1)), (4, .int 1), (3, .int (hgR P n)), (0, .ref (ad 0)), (1, .int g), (2, .int nn)]) hx hb dX9_claim_149 hl (k := 1) rfl (by first | rfl | decide) (by decide) rfl (fun ls hl => ?_)
    refine lv_goto (tgt := 98) hx hb dX9_claim_152 (by decide) ?_
    rw [nI_1] at hl
    exact ih (k + 1) (by omega) _ (by rw [rmR, ← hx2]; first | rw [if_pos cz] | rw [if_neg cz, if_pos cb] | rw [if_neg cz, if_neg cb, if_pos cp] | rw [if_neg cz, if_neg cb, if_neg cp]) H locs ls hP hD hS (lv_sub hl [0, 1, 2, 3, 4, 5] rfl)
set_option maxRecDepth 100000 in
theorem lp_seq {g : Int32} (C : cx_C p l s m args meth c s0 D cA cX9_claim 7 (some .long) RX9 A) {P : MS} {N cu : Nat} (hN : N ≤ 16) (hcN : cu + N ≤ 8208) 
    (kk : ∀ (H : Heap) (locs : List Loc) (ls : Array Slot), va_P D vwCl (mW cA ad (sqL P g cu N)) H → va_D A (mW cA ad (sqL P g cu N)) → va_S A s.heap H locs → lv_has ls 7 [(5, .int (nI cu)), (0, .ref (ad 0)), (1, .int g), (2, .int (nI N))] → W p l e R s m args below meth c H locs cells slots Q (F0 m 204 ls [])) :
    ∀ d k : Nat, k + d = N → ∀ T : MS, T = sqL P g cu k → ∀ (H : Heap) (locs : List Loc) (ls : Array Slot), va_P D vwCl (mW cA ad T) H → va_D A (mW cA ad T) → va_S A s.heap H locs → lv_has ls 7 [(6, .int (nI k)), (5, .int (nI cu)), (0, .ref (ad 0)), (1, .int g), (2, .int (nI N))] → W p l e R s m args below meth c H locs cells slots Q (F0 m 178 ls []) := by
  have hx := cx_x C
  have hb := cx_b C
  intro d
  induction d with
  | zero =>
    intro k hk T hT H locs ls hP hD hS hl
    have hk : k = N := hk
    subst hk
    subst hT
    refine lv_iload hx hb dX9_claim_178 (lv_at hl 0 rfl) ?_
    refine lv_iload_n hx hb dX9_claim_180 rfl (lv_at hl 4 rfl) ?_
    refine lv_icmp_ge (tgt := 204) hx hb dX9_claim_181 (by decide) (fun _ => ?_) (fun h9 => absurd (Int32.le_refl _) h9)
    exact kk H locs ls hP hD hS (lv_sub hl [1, 2, 3, 4] rfl)
  | succ d ih =>
    intro k hk T hT H locs ls hP hD hS hl
    refine lv_iload hx hb dX9_claim_178 (lv_at hl 0 rfl) ?_
    refine lv_iload_n hx hb dX9_claim_180 rfl (lv_at hl 4 rfl) ?_
    refine lv_icmp_ge (tgt := 204) hx hb dX9_claim_181 (by decide) (fun h9 => absurd h9 (nI_ge (by omega) (by omega))) (fun _ => ?_)
    refine lv_aload_n hx hb dX9_claim_184 rfl (lv_at hl 2 rfl) ?_
    refine gm_2 C hP tm_668 dX9_claim_185 ?_
    refine lv_iload hx hb dX9_claim_188 (lv_at hl 1 rfl) ?_
    refine lv_iload hx hb dX9_claim_190 (lv_at hl 0 rfl) ?_
    refine lv_iadd hx hb dX9_claim_192 ?_
    refine lv_iconst (v := 1) hx hb dX9_claim_193 (by decide) ?_
    refine lv_iload_n hx hb dX9_claim_194 rfl (lv_at hl 3 rfl) ?_
    refine lv_iadd hx hb dX9_claim_195 ?_
    refine lv_i2b (v := (1 + g).toInt8.toInt32) hx hb dX9_claim_196 rfl ?_
    refine xs_2 (x := (1 + g).toInt8.toInt32) (j := cu + k) C hP hD hS (ix_eq (nI_add cu k) (by omega) (by decide)) dX9_claim_197 (fun H locs hP hD hS => ?_)
    refine lv_iinc (v := nI k + 1) (lv' := [(6, .int (nI k + 1)), (5, .int (nI cu)), (0, .ref (ad 0)), (1, .int g), (2, .int (nI N))]) hx hb dX9_claim_198 hl (k := 0) rfl (by first | rfl | decide) (by decide) rfl (fun ls hl => ?_)
    refine lv_goto (tgt := 178) hx hb dX9_claim_201 (by decide) ?_
    rw [nI_1] at hl
    exact ih (k + 1) (by omega) _ (by rw [sqL, ← hT]; rfl) H locs ls hP hD hS (lv_sub hl [0, 1, 2, 3, 4] rfl)
set_option maxRecDepth 100000 in
theorem lp_pub {s9 : Int32} {d0 a0 : Nat} (C : cx_C p l s m args meth c s0 D cA cX9_publish 8 (some .boolean) RX9 A) {P : MS} {cu : Nat} (hcu : qS P 3 = nI cu - 1) (hc8 : cu ≤ 8208) 
    (kk : ∀ (H : Heap) (locs : List Loc) (ls : Array Slot), va_P D vwCl (mW cA ad (sS P 4 (nI (af (qI P 2) d0 a0) - 1))) H → va_D A (mW cA ad (sS P 4 (nI (af (qI P 2) d0 a0) - 1))) → va_S A s.heap H locs → lv_has ls 8 [(0, .ref (ad 0)), (6, .int s9)] → W p l e R s m args below meth c H locs cells slots Q (F0 m 163 ls [])) :
    ∀ d a : Nat, a + d = cu → af (qI P 2) d a = af (qI P 2) d0 a0 → ∀ T : MS, T = sS P 4 (nI a - 1) → ∀ (H : Heap) (locs : List Loc) (ls : Array Slot), va_P D vwCl (mW cA ad T) H → va_D A (mW cA ad T) → va_S A s.heap H locs → lv_has ls 8 [(0, .ref (ad 0)), (6, .int s9)] → W p l e R s m args below meth c H locs cells slots Q (F0 m 123 ls []) := by
  have hx := cx_x C
  have hb := cx_b C
  intro d
  induction d with
  | zero =>
    intro a hk ha T hT H locs ls hP hD hS hl
    have hk : a = cu := hk
    rw [← ha] at kk
    have h3 : qS T 3 = nI cu - 1 := by rw [hT]; exact hcu
    have h4 : qS T 4 = nI cu - 1 := by rw [hT, hk]; rfl
    refine lv_aload_n hx hb dX9_publish_123 rfl (lv_at hl 0 rfl) ?_
    refine gm_4 (v := qS T 4) C hP rfl tm_670 dX9_publish_124 ?_
    refine lv_aload_n hx hb dX9_publish_127 rfl (lv_at hl 0 rfl) ?_
    refine gm_3 (v := qS T 3) C hP rfl tm_669 dX9_publish_128 ?_
    refine lv_icmp_ge (tgt := 163) hx hb dX9_publish_131 (by decide) (fun _ => ?_) (fun h9 => absurd (by rw [h3, h4]; exact Int32.le_refl _) h9)
    subst hT
    exact kk H locs ls hP hD hS (lv_sub hl [0, 1] rfl)
  | succ d ih =>
    intro a hk ha T hT H locs ls hP hD hS hl
    have h3 : qS T 3 = nI cu - 1 := by rw [hT]; exact hcu
    have h4 : qS T 4 = nI a - 1 := by rw [hT]; rfl
    have h2 : qI T 2 a = qI P 2 a := by rw [hT]; rfl
    refine lv_aload_n hx hb dX9_publish_123 rfl (lv_at hl 0 rfl) ?_
    refine gm_4 (v := qS T 4) C hP rfl tm_670 dX9_publish_124 ?_
    refine lv_aload_n hx hb dX9_publish_127 rfl (lv_at hl 0 rfl) ?_
    refine gm_3 (v := qS T 3) C hP rfl tm_669 dX9_publish_128 ?_
    refine lv_icmp_ge (tgt := 163) hx hb dX9_publish_131 (by decide) (fun h9 => absurd h9 (by rw [h3, h4]; exact Int32.not_le.mpr ((nIm_lm (by omega) (by omega)).mpr (by omega)))) (fun _ => ?_)
    refine lv_aload_n hx hb dX9_publish_134 rfl (lv_at hl 0 rfl) ?_
    refine gm_2 C hP tm_668 dX9_publish_135 ?_
    refine lv_aload_n hx hb dX9_publish_138 rfl (lv_at hl 0 rfl) ?_
    refine gm_4 (v := qS T 4) C hP rfl tm_670 dX9_publish_139 ?_
    refine lv_iconst (v := 1) hx hb dX9_publish_142 (by decide) ?_
    refine lv_iadd hx hb dX9_publish_143 ?_
    refine xl_2 (v := qI P 2 a) (j := a) C hP (ix_eq (by rw [h4, nIm_1]) (by omega) (by decide)) (h2) dX9_publish_144 ?_
    refine lv_bipush (v := 8) hx hb dX9_publish_145 (by decide) ?_
    refine lv_icmp_le (tgt := 163) hx hb dX9_publish_147 (by decide) (fun c8 => ?_) (fun c8 => ?_)
    · rw [af, if_neg (fun h => absurd h (Int32.not_lt.mpr c8))] at ha
      have ha : a = af (qI P 2) d0 a0 := ha
      rw [← ha] at kk
      subst hT
      exact kk H locs ls hP hD hS (lv_sub hl [0, 1] rfl)
    refine lv_aload_n hx hb dX9_publish_150 rfl (lv_at hl 0 rfl) ?_
    refine lv_dup hx hb dX9_publish_151 rfl ?_
    refine gm_4 (v := qS T 4) C hP rfl tm_670 dX9_publish_152 ?_
    refine lv_iconst (v := 1) hx hb dX9_publish_155 (by decide) ?_
    refine lv_iadd hx hb dX9_publish_156 ?_
    refine pm_4 (v := (qS T 4) + 1) C hP hD hS tm_670 dX9_publish_157 (fun H locs hP hD hS => ?_)
    refine lv_goto (tgt := 123) hx hb dX9_publish_160 (by decide) ?_
    rw [af, if_pos (Int32.not_le.mp c8)] at ha
    exact ih (a + 1) (by omega) ha _ (by rw [hT, sS_sS]; show sS P 4 (nI a - 1 + 1) = _; rw [nIm_1, nI_pred]) H locs ls hP hD hS (lv_sub hl [0, 1] rfl)
end Loops5
abbrev rmX9_claim : Room := { frames := 1, cells := 0, slots := 0, locals := 23 }
set_option maxRecDepth 100000 in
theorem k_claim_p {l : Launch} {s0 : State} {D : va_G} {cA : Nat → ClassId} {ad : Nat → Nat} (hG : cx_G l s0 D cA) (g nn : Int32) (P : MS) (hg : ¬ ((0 : Int32) ≤ g ∧ g ≤ 3)) : MC l s0 D cA ad yX9_claim cX9_claim 7 (some .long) rmX9_claim [.int g, .int nn] P (some (.long ((0 : Int32).toInt64))) (sS (sS P 0 0) 0 1) := by
  refine Ct.of (cA := cA) hG (by decide +kernel) (Nat.le_of_ble_eq_true rfl) ?_
  intro p e s m below meth c A C hnm hP hD hS ls hl
  have hx := cx_x C
  have hb := cx_b C
  have hl : lv_has ls 7 [(0, .ref (ad 0)), (1, .int g), (2, .int nn)] := hl
  refine lv_aload_n hx hb dX9_claim_0 rfl (lv_at hl 0 rfl) ?_
  refine lv_iconst (v := 0) hx hb dX9_claim_1 (by decide) ?_
  refine pm_0 (v := 0) C hP hD hS tm_666 dX9_claim_2 (fun H locs hP hD hS => ?_)
  refine lv_iload_n hx hb dX9_claim_5 rfl (lv_at hl 1 rfl) ?_
  refine lv_iconst (v := 0) hx hb dX9_claim_6 (by decide) ?_
  refine lv_iconst (v := 3) hx hb dX9_claim_7 (by decide) ?_
  refine ct_S0 (As := [.int g, .int 0, .int 3]) (rest := []) (r := some (.int 0)) C (k_within0 hG _ _ _ (hg)) tm_762 tm_763 tm_3 tm_764 hdX9_within.2 ⟨Nat.le_of_ble_eq_true rfl, Nat.le_of_ble_eq_true rfl⟩ hl.1 rfl (Nat.le_of_ble_eq_true rfl) dX9_claim_8 ⟨Nat.le_of_ble_eq_true rfl, Nat.le_of_ble_eq_true rfl⟩ hP hD hS (fun H locs hP hD hS => ?_)
  refine lv_if_eq (tgt := 26) hx hb dX9_claim_11 (by decide) (fun _ => ?_) (fun h9 => absurd (by decide) h9)
  refine lv_aload_n hx hb dX9_claim_26 rfl (lv_at hl 0 rfl) ?_
  refine lv_iconst (v := 1) hx hb dX9_claim_27 (by decide) ?_
  refine mc_V (As := [.int 1]) (rest := []) (r := some (.int 0)) (T := sS (sS P 0 0) 0 1) C (k_fail hG _ _) tm_769 tm_771 tm_895 tm_3 tm_772 rfl hdX9_fail ⟨Nat.le_of_ble_eq_true rfl, Nat.le_of_ble_eq_true rfl⟩ hl.1 rfl (Nat.le_of_ble_eq_true rfl) dX9_claim_28 ⟨Nat.le_of_ble_eq_true rfl, Nat.le_of_ble_eq_true rfl⟩ hP hD hS (fun H locs hP hD hS => ?_)
  refine lv_i2l (v := (0 : Int32).toInt64) hx hb dX9_claim_31 rfl ?_
  exact ct_lret C hS hP hD (⟨rfl, rfl⟩) (Nat.le_of_ble_eq_true rfl) (Nat.le_of_ble_eq_true rfl) dX9_claim_32
set_option maxRecDepth 100000 in
theorem k_claim_n {l : Launch} {s0 : State} {D : va_G} {cA : Nat → ClassId} {ad : Nat → Nat} (hG : cx_G l s0 D cA) (g nn : Int32) (P : MS) (hg : (0 : Int32) ≤ g ∧ g ≤ 3) (hm : ¬ ((1 : Int32) ≤ nn ∧ nn ≤ qS P 1)) : MC l s0 D cA ad yX9_claim cX9_claim 7 (some .long) rmX9_claim [.int g, .int nn] P (some (.long ((0 : Int32).toInt64))) (sS (sS P 0 0) 0 1) := by
  refine Ct.of (cA := cA) hG (by decide +kernel) (Nat.le_of_ble_eq_true rfl) ?_
  intro p e s m below meth c A C hnm hP hD hS ls hl
  have hx := cx_x C
  have hb := cx_b C
  have hl : lv_has ls 7 [(0, .ref (ad 0)), (1, .int g), (2, .int nn)] := hl
  refine lv_aload_n hx hb dX9_claim_0 rfl (lv_at hl 0 rfl) ?_
  refine lv_iconst (v := 0) hx hb dX9_claim_1 (by decide) ?_
  refine pm_0 (v := 0) C hP hD hS tm_666 dX9_claim_2 (fun H locs hP hD hS => ?_)
  refine lv_iload_n hx hb dX9_claim_5 rfl (lv_at hl 1 rfl) ?_
  refine lv_iconst (v := 0) hx hb dX9_claim_6 (by decide) ?_
  refine lv_iconst (v := 3) hx hb dX9_claim_7 (by decide) ?_
  refine ct_S0 (As := [.int g, .int 0, .int 3]) (rest := []) (r := some (.int 1)) C (k_within1 hG _ _ _ (hg)) tm_762 tm_763 tm_3 tm_764 hdX9_within.2 ⟨Nat.le_of_ble_eq_true rfl, Nat.le_of_ble_eq_true rfl⟩ hl.1 rfl (Nat.le_of_ble_eq_true rfl) dX9_claim_8 ⟨Nat.le_of_ble_eq_true rfl, Nat.le_of_ble_eq_true rfl⟩ hP hD hS (fun H locs hP hD hS => ?_)
  refine lv_if_eq (tgt := 26) hx hb dX9_claim_11 (by decide) (fun h9 => absurd h9 (by decide)) (fun _ => ?_)
  refine lv_iload_n hx hb dX9_claim_14 rfl (lv_at hl 2 rfl) ?_
  refine lv_iconst (v := 1) hx hb dX9_claim_15 (by decide) ?_
  refine lv_aload_n hx hb dX9_claim_16 rfl (lv_at hl 0 rfl) ?_
  refine gm_1 (v := qS P 1) C hP rfl tm_667 dX9_claim_17 ?_
  refine ct_S0 (As := [.int nn, .int 1, .int (qS P 1)]) (rest := []) (r := some (.int 0)) C (k_within0 hG _ _ _ (hm)) tm_762 tm_763 tm_3 tm_764 hdX9_within.2 ⟨Nat.le_of_ble_eq_true rfl, Nat.le_of_ble_eq_true rfl⟩ hl.1 rfl (Nat.le_of_ble_eq_true rfl) dX9_claim_20 ⟨Nat.le_of_ble_eq_true rfl, Nat.le_of_ble_eq_true rfl⟩ hP hD hS (fun H locs hP hD hS => ?_)
  refine lv_if_ne (tgt := 33) hx hb dX9_claim_23 (by decide) (fun h9 => absurd rfl h9) (fun _ => ?_)
  refine lv_aload_n hx hb dX9_claim_26 rfl (lv_at hl 0 rfl) ?_
  refine lv_iconst (v := 1) hx hb dX9_claim_27 (by decide) ?_
  refine mc_V (As := [.int 1]) (rest := []) (r := some (.int 0)) (T := sS (sS P 0 0) 0 1) C (k_fail hG _ _) tm_769 tm_771 tm_895 tm_3 tm_772 rfl hdX9_fail ⟨Nat.le_of_ble_eq_true rfl, Nat.le_of_ble_eq_true rfl⟩ hl.1 rfl (Nat.le_of_ble_eq_true rfl) dX9_claim_28 ⟨Nat.le_of_ble_eq_true rfl, Nat.le_of_ble_eq_true rfl⟩ hP hD hS (fun H locs hP hD hS => ?_)
  refine lv_i2l (v := (0 : Int32).toInt64) hx hb dX9_claim_31 rfl ?_
  exact ct_lret C hS hP hD (⟨rfl, rfl⟩) (Nat.le_of_ble_eq_true rfl) (Nat.le_of_ble_eq_true rfl) dX9_claim_32
set_option maxRecDepth 100000 in
theorem k_claim_r {l : Launch} {s0 : State} {D : va_G} {cA : Nat → ClassId} {ad : Nat → Nat} (hG : cx_G l s0 D cA) {n : Nat} (g nn : Int32) (P : MS) (hn : qS P 8 = nI n) (hn8 : n ≤ 8) (hq : ∀ k, k < n → qI P 12 k = -1 ∨ ∃ t, t < 2 ∧ qI P 12 k = nI t) (hg : (0 : Int32) ≤ g ∧ g ≤ 3) (hm : (1 : Int32) ≤ nn ∧ nn ≤ qS P 1) (hr : rmR P n (qS P 3 + nn - qS P 1) n = 0) : MC l s0 D cA ad yX9_claim cX9_claim 7 (some .long) rmX9_claim [.int g, .int nn] P (some (.long ((0 : Int32).toInt64))) (sS (sS P 0 0) 0 2) := by
  refine Ct.of (cA := cA) hG (by decide +kernel) (Nat.le_of_ble_eq_true rfl) ?_
  intro p e s m below meth c A C hnm hP hD hS ls hl
  have hx := cx_x C
  have hb := cx_b C
  have hl : lv_has ls 7 [(0, .ref (ad 0)), (1, .int g), (2, .int nn)] := hl
  refine lv_aload_n hx hb dX9_claim_0 rfl (lv_at hl 0 rfl) ?_
  refine lv_iconst (v := 0) hx hb dX9_claim_1 (by decide) ?_
  refine pm_0 (v := 0) C hP hD hS tm_666 dX9_claim_2 (fun H locs hP hD hS => ?_)
  refine lv_iload_n hx hb dX9_claim_5 rfl (lv_at hl 1 rfl) ?_
  refine lv_iconst (v := 0) hx hb dX9_claim_6 (by decide) ?_
  refine lv_iconst (v := 3) hx hb dX9_claim_7 (by decide) ?_
  refine ct_S0 (As := [.int g, .int 0, .int 3]) (rest := []) (r := some (.int 1)) C (k_within1 hG _ _ _ (hg)) tm_762 tm_763 tm_3 tm_764 hdX9_within.2 ⟨Nat.le_of_ble_eq_true rfl, Nat.le_of_ble_eq_true rfl⟩ hl.1 rfl (Nat.le_of_ble_eq_true rfl) dX9_claim_8 ⟨Nat.le_of_ble_eq_true rfl, Nat.le_of_ble_eq_true rfl⟩ hP hD hS (fun H locs hP hD hS => ?_)
  refine lv_if_eq (tgt := 26) hx hb dX9_claim_11 (by decide) (fun h9 => absurd h9 (by decide)) (fun _ => ?_)
  refine lv_iload_n hx hb dX9_claim_14 rfl (lv_at hl 2 rfl) ?_
  refine lv_iconst (v := 1) hx hb dX9_claim_15 (by decide) ?_
  refine lv_aload_n hx hb dX9_claim_16 rfl (lv_at hl 0 rfl) ?_
  refine gm_1 (v := qS P 1) C hP rfl tm_667 dX9_claim_17 ?_
  refine ct_S0 (As := [.int nn, .int 1, .int (qS P 1)]) (rest := []) (r := some (.int 1)) C (k_within1 hG _ _ _ (hm)) tm_762 tm_763 tm_3 tm_764 hdX9_within.2 ⟨Nat.le_of_ble_eq_true rfl, Nat.le_of_ble_eq_true rfl⟩ hl.1 rfl (Nat.le_of_ble_eq_true rfl) dX9_claim_20 ⟨Nat.le_of_ble_eq_true rfl, Nat.le_of_ble_eq_true rfl⟩ hP hD hS (fun H locs hP hD hS => ?_)
  refine lv_if_ne (tgt := 33) hx hb dX9_claim_23 (by decide) (fun _ => ?_) (fun h9 => absurd h9 (by decide))
  refine lv_iconst (v := 0) hx hb dX9_claim_33 (by decide) ?_
  refine lv_istore_n (lv' := [(3, .int 0), (0, .ref (ad 0)), (1, .int g), (2, .int nn)]) hx hb dX9_claim_34 rfl hl (by decide) rfl (fun ls hl => ?_)
  refine lv_iconst (v := 0) hx hb dX9_claim_35 (by decide) ?_
  refine lv_istore (lv' := [(4, .int 0), (3, .int 0), (0, .ref (ad 0)), (1, .int g), (2, .int nn)]) hx hb dX9_claim_36 hl (by decide) rfl (fun ls hl => ?_)
  refine lp_hung (n := n) C hn hn8 hP (fun ls hl => ?_) n 0 (by omega) _ rfl ls (lv_sub hl [0, 1, 2, 3, 4] rfl)
  refine lv_aload_n hx hb dX9_claim_63 rfl (lv_at hl 1 rfl) ?_
  refine gm_8 (v := qS P 8) C hP rfl tm_674 dX9_claim_64 ?_
  refine lv_if_gt (tgt := 88) hx hb dX9_claim_67 (by decide) (fun c0 => ?_) (fun c0 => ?_)
  · refine lv_iconst (v := 1) hx hb dX9_claim_88 (by decide) ?_
    refine lv_goto (tgt := 93) hx hb dX9_claim_89 (by decide) ?_
    refine lv_istore (lv' := [(4, .int 1), (3, .int (hgR P n)), (0, .ref (ad 0)), (1, .int g), (2, .int nn)]) hx hb dX9_claim_93 hl (by decide) rfl (fun ls hl => ?_)
    refine lv_iconst (v := 0) hx hb dX9_claim_95 (by decide) ?_
    refine lv_istore (lv' := [(5, .int 0), (4, .int 1), (3, .int (hgR P n)), (0, .ref (ad 0)), (1, .int g), (2, .int nn)]) hx hb dX9_claim_96 hl (by decide) rfl (fun ls hl => ?_)
    refine lp_room (n := n) C hG hn hn8 hq ⟨Nat.le_of_ble_eq_true rfl, Nat.le_of_ble_eq_true rfl⟩ ⟨Nat.le_of_ble_eq_true rfl, Nat.le_of_ble_eq_true rfl⟩ (fun H locs ls hP hD hS hl => ?_) n 0 (by omega) _ (by first | (rw [rmR, if_pos c0]) | (rw [rmR, if_neg c0, if_pos c1]) | (rw [rmR, if_neg c0, if_neg c1])) _ _ ls hP hD hS (lv_sub hl [0, 1, 2, 3, 4, 5] rfl)
    refine lv_iload hx hb dX9_claim_155 (lv_at hl 0 rfl) ?_
    refine lv_if_ne (tgt := 167) hx hb dX9_claim_157 (by decide) (fun h9 => absurd (hr) h9) (fun _ => ?_)
    refine lv_aload_n hx hb dX9_claim_160 rfl (lv_at hl 1 rfl) ?_
    refine lv_iconst (v := 2) hx hb dX9_claim_161 (by decide) ?_
    refine mc_V (As := [.int 2]) (rest := []) (r := some (.int 0)) (T := sS (sS P 0 0) 0 2) C (k_fail hG _ _) tm_769 tm_771 tm_895 tm_3 tm_772 rfl hdX9_fail ⟨Nat.le_of_ble_eq_true rfl, Nat.le_of_ble_eq_true rfl⟩ hl.1 rfl (Nat.le_of_ble_eq_true rfl) dX9_claim_162 ⟨Nat.le_of_ble_eq_true rfl, Nat.le_of_ble_eq_true rfl⟩ hP hD hS (fun H locs hP hD hS => ?_)
    refine lv_i2l (v := (0 : Int32).toInt64) hx hb dX9_claim_165 rfl ?_
    exact ct_lret C hS hP hD (⟨rfl, rfl⟩) (Nat.le_of_ble_eq_true rfl) (Nat.le_of_ble_eq_true rfl) dX9_claim_166
  refine lv_aload_n hx hb dX9_claim_70 rfl (lv_at hl 1 rfl) ?_
  refine gm_3 (v := qS P 3) C hP rfl tm_669 dX9_claim_71 ?_
  refine lv_iload_n hx hb dX9_claim_74 rfl (lv_at hl 3 rfl) ?_
  refine lv_iadd hx hb dX9_claim_75 ?_
  refine lv_aload_n hx hb dX9_claim_76 rfl (lv_at hl 1 rfl) ?_
  refine gm_1 (v := qS P 1) C hP rfl tm_667 dX9_claim_77 ?_
  refine lv_isub hx hb dX9_claim_80 ?_
  refine lv_aload_n hx hb dX9_claim_81 rfl (lv_at hl 1 rfl) ?_
  refine gm_4 (v := qS P 4) C hP rfl tm_670 dX9_claim_82 ?_
  refine lv_icmp_gt (tgt := 92) hx hb dX9_claim_85 (by decide) (fun c1 => ?_) (fun c1 => ?_)
  · refine lv_iconst (v := 0) hx hb dX9_claim_92 (by decide) ?_
    refine lv_istore (lv' := [(4, .int 0), (3, .int (hgR P n)), (0, .ref (ad 0)), (1, .int g), (2, .int nn)]) hx hb dX9_claim_93 hl (by decide) rfl (fun ls hl => ?_)
    refine lv_iconst (v := 0) hx hb dX9_claim_95 (by decide) ?_
    refine lv_istore (lv' := [(5, .int 0), (4, .int 0), (3, .int (hgR P n)), (0, .ref (ad 0)), (1, .int g), (2, .int nn)]) hx hb dX9_claim_96 hl (by decide) rfl (fun ls hl => ?_)
    refine lp_room (n := n) C hG hn hn8 hq ⟨Nat.le_of_ble_eq_true rfl, Nat.le_of_ble_eq_true rfl⟩ ⟨Nat.le_of_ble_eq_true rfl, Nat.le_of_ble_eq_true rfl⟩ (fun H locs ls hP hD hS hl => ?_) n 0 (by omega) _ (by first | (rw [rmR, if_pos c0]) | (rw [rmR, if_neg c0, if_pos c1]) | (rw [rmR, if_neg c0, if_neg c1])) _ _ ls hP hD hS (lv_sub hl [0, 1, 2, 3, 4, 5] rfl)
    refine lv_iload hx hb dX9_claim_155 (lv_at hl 0 rfl) ?_
    refine lv_if_ne (tgt := 167) hx hb dX9_claim_157 (by decide) (fun h9 => absurd (hr) h9) (fun _ => ?_)
    refine lv_aload_n hx hb dX9_claim_160 rfl (lv_at hl 1 rfl) ?_
    refine lv_iconst (v := 2) hx hb dX9_claim_161 (by decide) ?_
    refine mc_V (As := [.int 2]) (rest := []) (r := some (.int 0)) (T := sS (sS P 0 0) 0 2) C (k_fail hG _ _) tm_769 tm_771 tm_895 tm_3 tm_772 rfl hdX9_fail ⟨Nat.le_of_ble_eq_true rfl, Nat.le_of_ble_eq_true rfl⟩ hl.1 rfl (Nat.le_of_ble_eq_true rfl) dX9_claim_162 ⟨Nat.le_of_ble_eq_true rfl, Nat.le_of_ble_eq_true rfl⟩ hP hD hS (fun H locs hP hD hS => ?_)
    refine lv_i2l (v := (0 : Int32).toInt64) hx hb dX9_claim_165 rfl ?_
    exact ct_lret C hS hP hD (⟨rfl, rfl⟩) (Nat.le_of_ble_eq_true rfl) (Nat.le_of_ble_eq_true rfl) dX9_claim_166
  refine lv_iconst (v := 1) hx hb dX9_claim_88 (by decide) ?_
  refine lv_goto (tgt := 93) hx hb dX9_claim_89 (by decide) ?_
  refine lv_istore (lv' := [(4, .int 1), (3, .int (hgR P n)), (0, .ref (ad 0)), (1, .int g), (2, .int nn)]) hx hb dX9_claim_93 hl (by decide) rfl (fun ls hl => ?_)
  refine lv_iconst (v := 0) hx hb dX9_claim_95 (by decide) ?_
  refine lv_istore (lv' := [(5, .int 0), (4, .int 1), (3, .int (hgR P n)), (0, .ref (ad 0)), (1, .int g), (2, .int nn)]) hx hb dX9_claim_96 hl (by decide) rfl (fun ls hl => ?_)
  refine lp_room (n := n) C hG hn hn8 hq ⟨Nat.le_of_ble_eq_true rfl, Nat.le_of_ble_eq_true rfl⟩ ⟨Nat.le_of_ble_eq_true rfl, Nat.le_of_ble_eq_true rfl⟩ (fun H locs ls hP hD hS hl => ?_) n 0 (by omega) _ (by first | (rw [rmR, if_pos c0]) | (rw [rmR, if_neg c0, if_pos c1]) | (rw [rmR, if_neg c0, if_neg c1])) _ _ ls hP hD hS (lv_sub hl [0, 1, 2, 3, 4, 5] rfl)
  refine lv_iload hx hb dX9_claim_155 (lv_at hl 0 rfl) ?_
  refine lv_if_ne (tgt := 167) hx hb dX9_claim_157 (by decide) (fun h9 => absurd (hr) h9) (fun _ => ?_)
  refine lv_aload_n hx hb dX9_claim_160 rfl (lv_at hl 1 rfl) ?_
  refine lv_iconst (v := 2) hx hb dX9_claim_161 (by decide) ?_
  refine mc_V (As := [.int 2]) (rest := []) (r := some (.int 0)) (T := sS (sS P 0 0) 0 2) C (k_fail hG _ _) tm_769 tm_771 tm_895 tm_3 tm_772 rfl hdX9_fail ⟨Nat.le_of_ble_eq_true rfl, Nat.le_of_ble_eq_true rfl⟩ hl.1 rfl (Nat.le_of_ble_eq_true rfl) dX9_claim_162 ⟨Nat.le_of_ble_eq_true rfl, Nat.le_of_ble_eq_true rfl⟩ hP hD hS (fun H locs hP hD hS => ?_)
  refine lv_i2l (v := (0 : Int32).toInt64) hx hb dX9_claim_165 rfl ?_
  exact ct_lret C hS hP hD (⟨rfl, rfl⟩) (Nat.le_of_ble_eq_true rfl) (Nat.le_of_ble_eq_true rfl) dX9_claim_166
set_option maxRecDepth 100000 in
theorem k_claim_k {l : Launch} {s0 : State} {D : va_G} {cA : Nat → ClassId} {ad : Nat → Nat} (hG : cx_G l s0 D cA) {n N cu : Nat} (g : Int32) (P : MS) (hn : qS P 8 = nI n) (hn8 : n ≤ 8) (hq : ∀ k, k < n → qI P 12 k = -1 ∨ ∃ t, t < 2 ∧ qI P 12 k = nI t) (hg : (0 : Int32) ≤ g ∧ g ≤ 3) (hm : (1 : Int32) ≤ nI N ∧ nI N ≤ qS P 1) (hN : N ≤ 16) (hcu : qS P 3 = nI cu - 1) (hcN : cu + N ≤ 8208) (hr : ¬ rmR P n (qS P 3 + nI N - qS P 1) n = 0) : MC l s0 D cA ad yX9_claim cX9_claim 7 (some .long) rmX9_claim [.int g, .int (nI N)] P (some (.long (nI cu).toInt64)) (sS (sqL (sS P 0 0) g cu N) 3 (qS P 3 + nI N)) := by
  refine Ct.of (cA := cA) hG (by decide +kernel) (Nat.le_of_ble_eq_true rfl) ?_
  intro p e s m below meth c A C hnm hP hD hS ls hl
  have hx := cx_x C
  have hb := cx_b C
  have hl : lv_has ls 7 [(0, .ref (ad 0)), (1, .int g), (2, .int (nI N))] := hl
  refine lv_aload_n hx hb dX9_claim_0 rfl (lv_at hl 0 rfl) ?_
  refine lv_iconst (v := 0) hx hb dX9_claim_1 (by decide) ?_
  refine pm_0 (v := 0) C hP hD hS tm_666 dX9_claim_2 (fun H locs hP hD hS => ?_)
  refine lv_iload_n hx hb dX9_claim_5 rfl (lv_at hl 1 rfl) ?_
  refine lv_iconst (v := 0) hx hb dX9_claim_6 (by decide) ?_
  refine lv_iconst (v := 3) hx hb dX9_claim_7 (by decide) ?_
  refine ct_S0 (As := [.int g, .int 0, .int 3]) (rest := []) (r := some (.int 1)) C (k_within1 hG _ _ _ (hg)) tm_762 tm_763 tm_3 tm_764 hdX9_within.2 ⟨Nat.le_of_ble_eq_true rfl, Nat.le_of_ble_eq_true rfl⟩ hl.1 rfl (Nat.le_of_ble_eq_true rfl) dX9_claim_8 ⟨Nat.le_of_ble_eq_true rfl, Nat.le_of_ble_eq_true rfl⟩ hP hD hS (fun H locs hP hD hS => ?_)
  refine lv_if_eq (tgt := 26) hx hb dX9_claim_11 (by decide) (fun h9 => absurd h9 (by decide)) (fun _ => ?_)
  refine lv_iload_n hx hb dX9_claim_14 rfl (lv_at hl 2 rfl) ?_
  refine lv_iconst (v := 1) hx hb dX9_claim_15 (by decide) ?_
  refine lv_aload_n hx hb dX9_claim_16 rfl (lv_at hl 0 rfl) ?_
  refine gm_1 (v := qS P 1) C hP rfl tm_667 dX9_claim_17 ?_
  refine ct_S0 (As := [.int (nI N), .int 1, .int (qS P 1)]) (rest := []) (r := some (.int 1)) C (k_within1 hG _ _ _ (hm)) tm_762 tm_763 tm_3 tm_764 hdX9_within.2 ⟨Nat.le_of_ble_eq_true rfl, Nat.le_of_ble_eq_true rfl⟩ hl.1 rfl (Nat.le_of_ble_eq_true rfl) dX9_claim_20 ⟨Nat.le_of_ble_eq_true rfl, Nat.le_of_ble_eq_true rfl⟩ hP hD hS (fun H locs hP hD hS => ?_)
  refine lv_if_ne (tgt := 33) hx hb dX9_claim_23 (by decide) (fun _ => ?_) (fun h9 => absurd h9 (by decide))
  refine lv_iconst (v := 0) hx hb dX9_claim_33 (by decide) ?_
  refine lv_istore_n (lv' := [(3, .int 0), (0, .ref (ad 0)), (1, .int g), (2, .int (nI N))]) hx hb dX9_claim_34 rfl hl (by decide) rfl (fun ls hl => ?_)
  refine lv_iconst (v := 0) hx hb dX9_claim_35 (by decide) ?_
  refine lv_istore (lv' := [(4, .int 0), (3, .int 0), (0, .ref (ad 0)), (1, .int g), (2, .int (nI N))]) hx hb dX9_claim_36 hl (by decide) rfl (fun ls hl => ?_)
  refine lp_hung (n := n) C hn hn8 hP (fun ls hl => ?_) n 0 (by omega) _ rfl ls (lv_sub hl [0, 1, 2, 3, 4] rfl)
  refine lv_aload_n hx hb dX9_claim_63 rfl (lv_at hl 1 rfl) ?_
  refine gm_8 (v := qS P 8) C hP rfl tm_674 dX9_claim_64 ?_
  refine lv_if_gt (tgt := 88) hx hb dX9_claim_67 (by decide) (fun c0 => ?_) (fun c0 => ?_)
  · refine lv_iconst (v := 1) hx hb dX9_claim_88 (by decide) ?_
    refine lv_goto (tgt := 93) hx hb dX9_claim_89 (by decide) ?_
    refine lv_istore (lv' := [(4, .int 1), (3, .int (hgR P n)), (0, .ref (ad 0)), (1, .int g), (2, .int (nI N))]) hx hb dX9_claim_93 hl (by decide) rfl (fun ls hl => ?_)
    refine lv_iconst (v := 0) hx hb dX9_claim_95 (by decide) ?_
    refine lv_istore (lv' := [(5, .int 0), (4, .int 1), (3, .int (hgR P n)), (0, .ref (ad 0)), (1, .int g), (2, .int (nI N))]) hx hb dX9_claim_96 hl (by decide) rfl (fun ls hl => ?_)
    refine lp_room (n := n) C hG hn hn8 hq ⟨Nat.le_of_ble_eq_true rfl, Nat.le_of_ble_eq_true rfl⟩ ⟨Nat.le_of_ble_eq_true rfl, Nat.le_of_ble_eq_true rfl⟩ (fun H locs ls hP hD hS hl => ?_) n 0 (by omega) _ (by first | (rw [rmR, if_pos c0]) | (rw [rmR, if_neg c0, if_pos c1]) | (rw [rmR, if_neg c0, if_neg c1])) _ _ ls hP hD hS (lv_sub hl [0, 1, 2, 3, 4, 5] rfl)
    refine lv_iload hx hb dX9_claim_155 (lv_at hl 0 rfl) ?_
    refine lv_if_ne (tgt := 167) hx hb dX9_claim_157 (by decide) (fun _ => ?_) (fun h9 => absurd h9 (hr))
    refine lv_aload_n hx hb dX9_claim_167 rfl (lv_at hl 1 rfl) ?_
    refine gm_3 (v := qS P 3) C hP rfl tm_669 dX9_claim_168 ?_
    refine lv_iconst (v := 1) hx hb dX9_claim_171 (by decide) ?_
    refine lv_iadd hx hb dX9_claim_172 ?_
    refine lv_istore (lv' := [(5, .int ((qS P 3) + 1)), (4, .int (rmR P n (qS P 3 + (nI N) - qS P 1) n)), (0, .ref (ad 0)), (1, .int g), (2, .int (nI N))]) hx hb dX9_claim_173 hl (by decide) rfl (fun ls hl => ?_)
    refine lv_iconst (v := 0) hx hb dX9_claim_175 (by decide) ?_
    refine lv_istore (lv' := [(6, .int 0), (5, .int ((qS P 3) + 1)), (4, .int (rmR P n (qS P 3 + (nI N) - qS P 1) n)), (0, .ref (ad 0)), (1, .int g), (2, .int (nI N))]) hx hb dX9_claim_176 hl (by decide) rfl (fun ls hl => ?_)
    rw [show qS P 3 + 1 = nI cu by rw [hcu, nIm_1]] at hl
    refine lp_seq (P := sS P 0 0) (N := N) (cu := cu) C hN hcN (fun H locs ls hP hD hS hl => ?_) N 0 (by omega) _ rfl _ _ ls hP hD hS (lv_sub hl [0, 1, 3, 4, 5] rfl)
    have h3 : qS (sqL (sS P 0 0) g cu N) 3 = qS P 3 := by rw [sqL_S]; rfl
    generalize hT : sqL (sS P 0 0) g cu N = T at hP hD h3
    refine lv_aload_n hx hb dX9_claim_204 rfl (lv_at hl 1 rfl) ?_
    refine lv_dup hx hb dX9_claim_205 rfl ?_
    refine gm_3 (v := qS T 3) C hP rfl tm_669 dX9_claim_206 ?_
    refine lv_iload_n hx hb dX9_claim_209 rfl (lv_at hl 3 rfl) ?_
    refine lv_iadd hx hb dX9_claim_210 ?_
    refine pm_3 (v := (qS T 3) + (nI N)) C hP hD hS tm_669 dX9_claim_211 (fun H locs hP hD hS => ?_)
    refine lv_iload hx hb dX9_claim_214 (lv_at hl 0 rfl) ?_
    refine lv_i2l (v := (nI cu).toInt64) hx hb dX9_claim_216 rfl ?_
    exact ct_lret C hS hP hD (⟨rfl, by rw [h3]⟩) (Nat.le_of_ble_eq_true rfl) (Nat.le_of_ble_eq_true rfl) dX9_claim_217
  refine lv_aload_n hx hb dX9_claim_70 rfl (lv_at hl 1 rfl) ?_
  refine gm_3 (v := qS P 3) C hP rfl tm_669 dX9_claim_71 ?_
  refine lv_iload_n hx hb dX9_claim_74 rfl (lv_at hl 3 rfl) ?_
  refine lv_iadd hx hb dX9_claim_75 ?_
  refine lv_aload_n hx hb dX9_claim_76 rfl (lv_at hl 1 rfl) ?_
  refine gm_1 (v := qS P 1) C hP rfl tm_667 dX9_claim_77 ?_
  refine lv_isub hx hb dX9_claim_80 ?_
  refine lv_aload_n hx hb dX9_claim_81 rfl (lv_at hl 1 rfl) ?_
  refine gm_4 (v := qS P 4) C hP rfl tm_670 dX9_claim_82 ?_
  refine lv_icmp_gt (tgt := 92) hx hb dX9_claim_85 (by decide) (fun c1 => ?_) (fun c1 => ?_)
  · refine lv_iconst (v := 0) hx hb dX9_claim_92 (by decide) ?_
    refine lv_istore (lv' := [(4, .int 0), (3, .int (hgR P n)), (0, .ref (ad 0)), (1, .int g), (2, .int (nI N))]) hx hb dX9_claim_93 hl (by decide) rfl (fun ls hl => ?_)
    refine lv_iconst (v := 0) hx hb dX9_claim_95 (by decide) ?_
    refine lv_istore (lv' := [(5, .int 0), (4, .int 0), (3, .int (hgR P n)), (0, .ref (ad 0)), (1, .int g), (2, .int (nI N))]) hx hb dX9_claim_96 hl (by decide) rfl (fun ls hl => ?_)
    refine lp_room (n := n) C hG hn hn8 hq ⟨Nat.le_of_ble_eq_true rfl, Nat.le_of_ble_eq_true rfl⟩ ⟨Nat.le_of_ble_eq_true rfl, Nat.le_of_ble_eq_true rfl⟩ (fun H locs ls hP hD hS hl => ?_) n 0 (by omega) _ (by first | (rw [rmR, if_pos c0]) | (rw [rmR, if_neg c0, if_pos c1]) | (rw [rmR, if_neg c0, if_neg c1])) _ _ ls hP hD hS (lv_sub hl [0, 1, 2, 3, 4, 5] rfl)
    refine lv_iload hx hb dX9_claim_155 (lv_at hl 0 rfl) ?_
    refine lv_if_ne (tgt := 167) hx hb dX9_claim_157 (by decide) (fun _ => ?_) (fun h9 => absurd h9 (hr))
    refine lv_aload_n hx hb dX9_claim_167 rfl (lv_at hl 1 rfl) ?_
    refine gm_3 (v := qS P 3) C hP rfl tm_669 dX9_claim_168 ?_
    refine lv_iconst (v := 1) hx hb dX9_claim_171 (by decide) ?_
    refine lv_iadd hx hb dX9_claim_172 ?_
    refine lv_istore (lv' := [(5, .int ((qS P 3) + 1)), (4, .int (rmR P n (qS P 3 + (nI N) - qS P 1) n)), (0, .ref (ad 0)), (1, .int g), (2, .int (nI N))]) hx hb dX9_claim_173 hl (by decide) rfl (fun ls hl => ?_)
    refine lv_iconst (v := 0) hx hb dX9_claim_175 (by decide) ?_
    refine lv_istore (lv' := [(6, .int 0), (5, .int ((qS P 3) + 1)), (4, .int (rmR P n (qS P 3 + (nI N) - qS P 1) n)), (0, .ref (ad 0)), (1, .int g), (2, .int (nI N))]) hx hb dX9_claim_176 hl (by decide) rfl (fun ls hl => ?_)
    rw [show qS P 3 + 1 = nI cu by rw [hcu, nIm_1]] at hl
    refine lp_seq (P := sS P 0 0) (N := N) (cu := cu) C hN hcN (fun H locs ls hP hD hS hl => ?_) N 0 (by omega) _ rfl _ _ ls hP hD hS (lv_sub hl [0, 1, 3, 4, 5] rfl)
    have h3 : qS (sqL (sS P 0 0) g cu N) 3 = qS P 3 := by rw [sqL_S]; rfl
    generalize hT : sqL (sS P 0 0) g cu N = T at hP hD h3
    refine lv_aload_n hx hb dX9_claim_204 rfl (lv_at hl 1 rfl) ?_
    refine lv_dup hx hb dX9_claim_205 rfl ?_
    refine gm_3 (v := qS T 3) C hP rfl tm_669 dX9_claim_206 ?_
    refine lv_iload_n hx hb dX9_claim_209 rfl (lv_at hl 3 rfl) ?_
    refine lv_iadd hx hb dX9_claim_210 ?_
    refine pm_3 (v := (qS T 3) + (nI N)) C hP hD hS tm_669 dX9_claim_211 (fun H locs hP hD hS => ?_)
    refine lv_iload hx hb dX9_claim_214 (lv_at hl 0 rfl) ?_
    refine lv_i2l (v := (nI cu).toInt64) hx hb dX9_claim_216 rfl ?_
    exact ct_lret C hS hP hD (⟨rfl, by rw [h3]⟩) (Nat.le_of_ble_eq_true rfl) (Nat.le_of_ble_eq_true rfl) dX9_claim_217
  refine lv_iconst (v := 1) hx hb dX9_claim_88 (by decide) ?_
  refine lv_goto (tgt := 93) hx hb dX9_claim_89 (by decide) ?_
  refine lv_istore (lv' := [(4, .int 1), (3, .int (hgR P n)), (0, .ref (ad 0)), (1, .int g), (2, .int (nI N))]) hx hb dX9_claim_93 hl (by decide) rfl (fun ls hl => ?_)
  refine lv_iconst (v := 0) hx hb dX9_claim_95 (by decide) ?_
  refine lv_istore (lv' := [(5, .int 0), (4, .int 1), (3, .int (hgR P n)), (0, .ref (ad 0)), (1, .int g), (2, .int (nI N))]) hx hb dX9_claim_96 hl (by decide) rfl (fun ls hl => ?_)
  refine lp_room (n := n) C hG hn hn8 hq ⟨Nat.le_of_ble_eq_true rfl, Nat.le_of_ble_eq_true rfl⟩ ⟨Nat.le_of_ble_eq_true rfl, Nat.le_of_ble_eq_true rfl⟩ (fun H locs ls hP hD hS hl => ?_) n 0 (by omega) _ (by first | (rw [rmR, if_pos c0]) | (rw [rmR, if_neg c0, if_pos c1]) | (rw [rmR, if_neg c0, if_neg c1])) _ _ ls hP hD hS (lv_sub hl [0, 1, 2, 3, 4, 5] rfl)
  refine lv_iload hx hb dX9_claim_155 (lv_at hl 0 rfl) ?_
  refine lv_if_ne (tgt := 167) hx hb dX9_claim_157 (by decide) (fun _ => ?_) (fun h9 => absurd h9 (hr))
  refine lv_aload_n hx hb dX9_claim_167 rfl (lv_at hl 1 rfl) ?_
  refine gm_3 (v := qS P 3) C hP rfl tm_669 dX9_claim_168 ?_
  refine lv_iconst (v := 1) hx hb dX9_claim_171 (by decide) ?_
  refine lv_iadd hx hb dX9_claim_172 ?_
  refine lv_istore (lv' := [(5, .int ((qS P 3) + 1)), (4, .int (rmR P n (qS P 3 + (nI N) - qS P 1) n)), (0, .ref (ad 0)), (1, .int g), (2, .int (nI N))]) hx hb dX9_claim_173 hl (by decide) rfl (fun ls hl => ?_)
  refine lv_iconst (v := 0) hx hb dX9_claim_175 (by decide) ?_
  refine lv_istore (lv' := [(6, .int 0), (5, .int ((qS P 3) + 1)), (4, .int (rmR P n (qS P 3 + (nI N) - qS P 1) n)), (0, .ref (ad 0)), (1, .int g), (2, .int (nI N))]) hx hb dX9_claim_176 hl (by decide) rfl (fun ls hl => ?_)
  rw [show qS P 3 + 1 = nI cu by rw [hcu, nIm_1]] at hl
  refine lp_seq (P := sS P 0 0) (N := N) (cu := cu) C hN hcN (fun H locs ls hP hD hS hl => ?_) N 0 (by omega) _ rfl _ _ ls hP hD hS (lv_sub hl [0, 1, 3, 4, 5] rfl)
  have h3 : qS (sqL (sS P 0 0) g cu N) 3 = qS P 3 := by rw [sqL_S]; rfl
  generalize hT : sqL (sS P 0 0) g cu N = T at hP hD h3
  refine lv_aload_n hx hb dX9_claim_204 rfl (lv_at hl 1 rfl) ?_
  refine lv_dup hx hb dX9_claim_205 rfl ?_
  refine gm_3 (v := qS T 3) C hP rfl tm_669 dX9_claim_206 ?_
  refine lv_iload_n hx hb dX9_claim_209 rfl (lv_at hl 3 rfl) ?_
  refine lv_iadd hx hb dX9_claim_210 ?_
  refine pm_3 (v := (qS T 3) + (nI N)) C hP hD hS tm_669 dX9_claim_211 (fun H locs hP hD hS => ?_)
  refine lv_iload hx hb dX9_claim_214 (lv_at hl 0 rfl) ?_
  refine lv_i2l (v := (nI cu).toInt64) hx hb dX9_claim_216 rfl ?_
  exact ct_lret C hS hP hD (⟨rfl, by rw [h3]⟩) (Nat.le_of_ble_eq_true rfl) (Nat.le_of_ble_eq_true rfl) dX9_claim_217
abbrev rmX9_publish : Room := { frames := 1, cells := 0, slots := 0, locals := 22 }
set_option maxRecDepth 100000 in
theorem k_pub_p {l : Launch} {s0 : State} {D : va_G} {cA : Nat → ClassId} {ad : Nat → Nat} (hG : cx_G l s0 D cA) (g : Int32) (sq v : Int64) (P : MS) (hg : ¬ ((0 : Int32) ≤ g ∧ g ≤ 3)) : MC l s0 D cA ad yX9_publish cX9_publish 8 (some .boolean) rmX9_publish [.int g, .long sq, .long v] P (some (.int 0)) (sS (sS P 0 0) 0 1) := by
  refine Ct.of (cA := cA) hG (by decide +kernel) (Nat.le_of_ble_eq_true rfl) ?_
  intro p e s m below meth c A C hnm hP hD hS ls hl
  have hx := cx_x C
  have hb := cx_b C
  have hl : lv_has ls 8 [(0, .ref (ad 0)), (1, .int g), (2, .long sq), (4, .long v)] := hl
  refine lv_aload_n hx hb dX9_publish_0 rfl (lv_at hl 0 rfl) ?_
  refine lv_iconst (v := 0) hx hb dX9_publish_1 (by decide) ?_
  refine pm_0 (v := 0) C hP hD hS tm_666 dX9_publish_2 (fun H locs hP hD hS => ?_)
  refine lv_iload_n hx hb dX9_publish_5 rfl (lv_at hl 1 rfl) ?_
  refine lv_iconst (v := 0) hx hb dX9_publish_6 (by decide) ?_
  refine lv_iconst (v := 3) hx hb dX9_publish_7 (by decide) ?_
  refine ct_S0 (As := [.int g, .int 0, .int 3]) (rest := []) (r := some (.int 0)) C (k_within0 hG _ _ _ (hg)) tm_762 tm_763 tm_3 tm_764 hdX9_within.2 ⟨Nat.le_of_ble_eq_true rfl, Nat.le_of_ble_eq_true rfl⟩ hl.1 rfl (Nat.le_of_ble_eq_true rfl) dX9_publish_8 ⟨Nat.le_of_ble_eq_true rfl, Nat.le_of_ble_eq_true rfl⟩ hP hD hS (fun H locs hP hD hS => ?_)
  refine lv_if_eq (tgt := 30) hx hb dX9_publish_11 (by decide) (fun _ => ?_) (fun h9 => absurd (by decide) h9)
  refine lv_aload_n hx hb dX9_publish_30 rfl (lv_at hl 0 rfl) ?_
  refine lv_iconst (v := 1) hx hb dX9_publish_31 (by decide) ?_
  refine mc_V (As := [.int 1]) (rest := []) (r := some (.int 0)) (T := sS (sS P 0 0) 0 1) C (k_fail hG _ _) tm_769 tm_771 tm_895 tm_3 tm_772 rfl hdX9_fail ⟨Nat.le_of_ble_eq_true rfl, Nat.le_of_ble_eq_true rfl⟩ hl.1 rfl (Nat.le_of_ble_eq_true rfl) dX9_publish_32 ⟨Nat.le_of_ble_eq_true rfl, Nat.le_of_ble_eq_true rfl⟩ hP hD hS (fun H locs hP hD hS => ?_)
  refine lv_if_le (tgt := 42) hx hb dX9_publish_35 (by decide) (fun _ => ?_) (fun h9 => absurd (by decide) h9)
  refine lv_iconst (v := 0) hx hb dX9_publish_42 (by decide) ?_
  exact ct_zret C (by first | rfl | decide) hS hP hD (⟨rfl, rfl⟩) (Nat.le_of_ble_eq_true rfl) (Nat.le_of_ble_eq_true rfl) dX9_publish_43
set_option maxRecDepth 100000 in
theorem k_pub_l {l : Launch} {s0 : State} {D : va_G} {cA : Nat → ClassId} {ad : Nat → Nat} (hG : cx_G l s0 D cA) (g : Int32) (sq v : Int64) (P : MS) (hg : (0 : Int32) ≤ g ∧ g ≤ 3) (h0 : sq < 0) : MC l s0 D cA ad yX9_publish cX9_publish 8 (some .boolean) rmX9_publish [.int g, .long sq, .long v] P (some (.int 0)) (sS (sS P 0 0) 0 1) := by
  refine Ct.of (cA := cA) hG (by decide +kernel) (Nat.le_of_ble_eq_true rfl) ?_
  intro p e s m below meth c A C hnm hP hD hS ls hl
  have hx := cx_x C
  have hb := cx_b C
  have hl : lv_has ls 8 [(0, .ref (ad 0)), (1, .int g), (2, .long sq), (4, .long v)] := hl
  refine lv_aload_n hx hb dX9_publish_0 rfl (lv_at hl 0 rfl) ?_
  refine lv_iconst (v := 0) hx hb dX9_publish_1 (by decide) ?_
  refine pm_0 (v := 0) C hP hD hS tm_666 dX9_publish_2 (fun H locs hP hD hS => ?_)
  refine lv_iload_n hx hb dX9_publish_5 rfl (lv_at hl 1 rfl) ?_
  refine lv_iconst (v := 0) hx hb dX9_publish_6 (by decide) ?_
  refine lv_iconst (v := 3) hx hb dX9_publish_7 (by decide) ?_
  refine ct_S0 (As := [.int g, .int 0, .int 3]) (rest := []) (r := some (.int 1)) C (k_within1 hG _ _ _ (hg)) tm_762 tm_763 tm_3 tm_764 hdX9_within.2 ⟨Nat.le_of_ble_eq_true rfl, Nat.le_of_ble_eq_true rfl⟩ hl.1 rfl (Nat.le_of_ble_eq_true rfl) dX9_publish_8 ⟨Nat.le_of_ble_eq_true rfl, Nat.le_of_ble_eq_true rfl⟩ hP hD hS (fun H locs hP hD hS => ?_)
  refine lv_if_eq (tgt := 30) hx hb dX9_publish_11 (by decide) (fun h9 => absurd h9 (by decide)) (fun _ => ?_)
  refine lv_lload_n hx hb dX9_publish_14 rfl (lv_at hl 2 rfl) ?_
  refine lv_lconst (v := 0) hx hb dX9_publish_15 (by decide) ?_
  refine W.lcmp hx hb dX9_publish_16 ?_
  refine lv_if_lt (tgt := 30) hx hb dX9_publish_17 (by decide) (fun _ => ?_) (fun h9 => absurd ((lg_cmp_lt ..).mpr h0) h9)
  refine lv_aload_n hx hb dX9_publish_30 rfl (lv_at hl 0 rfl) ?_
  refine lv_iconst (v := 1) hx hb dX9_publish_31 (by decide) ?_
  refine mc_V (As := [.int 1]) (rest := []) (r := some (.int 0)) (T := sS (sS P 0 0) 0 1) C (k_fail hG _ _) tm_769 tm_771 tm_895 tm_3 tm_772 rfl hdX9_fail ⟨Nat.le_of_ble_eq_true rfl, Nat.le_of_ble_eq_true rfl⟩ hl.1 rfl (Nat.le_of_ble_eq_true rfl) dX9_publish_32 ⟨Nat.le_of_ble_eq_true rfl, Nat.le_of_ble_eq_true rfl⟩ hP hD hS (fun H locs hP hD hS => ?_)
  refine lv_if_le (tgt := 42) hx hb dX9_publish_35 (by decide) (fun _ => ?_) (fun h9 => absurd (by decide) h9)
  refine lv_iconst (v := 0) hx hb dX9_publish_42 (by decide) ?_
  exact ct_zret C (by first | rfl | decide) hS hP hD (⟨rfl, rfl⟩) (Nat.le_of_ble_eq_true rfl) (Nat.le_of_ble_eq_true rfl) dX9_publish_43
set_option maxRecDepth 100000 in
theorem k_pub_h {l : Launch} {s0 : State} {D : va_G} {cA : Nat → ClassId} {ad : Nat → Nat} (hG : cx_G l s0 D cA) (g : Int32) (sq v : Int64) (P : MS) (hg : (0 : Int32) ≤ g ∧ g ≤ 3) (h0 : ¬ sq < 0) (h1 : ¬ sq ≤ (qS P 3).toInt64) : MC l s0 D cA ad yX9_publish cX9_publish 8 (some .boolean) rmX9_publish [.int g, .long sq, .long v] P (some (.int 0)) (sS (sS P 0 0) 0 1) := by
  refine Ct.of (cA := cA) hG (by decide +kernel) (Nat.le_of_ble_eq_true rfl) ?_
  intro p e s m below meth c A C hnm hP hD hS ls hl
  have hx := cx_x C
  have hb := cx_b C
  have hl : lv_has ls 8 [(0, .ref (ad 0)), (1, .int g), (2, .long sq), (4, .long v)] := hl
  refine lv_aload_n hx hb dX9_publish_0 rfl (lv_at hl 0 rfl) ?_
  refine lv_iconst (v := 0) hx hb dX9_publish_1 (by decide) ?_
  refine pm_0 (v := 0) C hP hD hS tm_666 dX9_publish_2 (fun H locs hP hD hS => ?_)
  refine lv_iload_n hx hb dX9_publish_5 rfl (lv_at hl 1 rfl) ?_
  refine lv_iconst (v := 0) hx hb dX9_publish_6 (by decide) ?_
  refine lv_iconst (v := 3) hx hb dX9_publish_7 (by decide) ?_
  refine ct_S0 (As := [.int g, .int 0, .int 3]) (rest := []) (r := some (.int 1)) C (k_within1 hG _ _ _ (hg)) tm_762 tm_763 tm_3 tm_764 hdX9_within.2 ⟨Nat.le_of_ble_eq_true rfl, Nat.le_of_ble_eq_true rfl⟩ hl.1 rfl (Nat.le_of_ble_eq_true rfl) dX9_publish_8 ⟨Nat.le_of_ble_eq_true rfl, Nat.le_of_ble_eq_true rfl⟩ hP hD hS (fun H locs hP hD hS => ?_)
  refine lv_if_eq (tgt := 30) hx hb dX9_publish_11 (by decide) (fun h9 => absurd h9 (by decide)) (fun _ => ?_)
  refine lv_lload_n hx hb dX9_publish_14 rfl (lv_at hl 2 rfl) ?_
  refine lv_lconst (v := 0) hx hb dX9_publish_15 (by decide) ?_
  refine W.lcmp hx hb dX9_publish_16 ?_
  refine lv_if_lt (tgt := 30) hx hb dX9_publish_17 (by decide) (fun h9 => absurd h9 (fun h => h0 ((lg_cmp_lt ..).mp h))) (fun _ => ?_)
  refine lv_lload_n hx hb dX9_publish_20 rfl (lv_at hl 2 rfl) ?_
  refine lv_aload_n hx hb dX9_publish_21 rfl (lv_at hl 0 rfl) ?_
  refine gm_3 (v := qS P 3) C hP rfl tm_669 dX9_publish_22 ?_
  refine lv_i2l (v := (qS P 3).toInt64) hx hb dX9_publish_25 rfl ?_
  refine W.lcmp hx hb dX9_publish_26 ?_
  refine lv_if_le (tgt := 44) hx hb dX9_publish_27 (by decide) (fun h9 => absurd h9 (fun h => h1 ((lg_cmp_le ..).mp h))) (fun _ => ?_)
  refine lv_aload_n hx hb dX9_publish_30 rfl (lv_at hl 0 rfl) ?_
  refine lv_iconst (v := 1) hx hb dX9_publish_31 (by decide) ?_
  refine mc_V (As := [.int 1]) (rest := []) (r := some (.int 0)) (T := sS (sS P 0 0) 0 1) C (k_fail hG _ _) tm_769 tm_771 tm_895 tm_3 tm_772 rfl hdX9_fail ⟨Nat.le_of_ble_eq_true rfl, Nat.le_of_ble_eq_true rfl⟩ hl.1 rfl (Nat.le_of_ble_eq_true rfl) dX9_publish_32 ⟨Nat.le_of_ble_eq_true rfl, Nat.le_of_ble_eq_true rfl⟩ hP hD hS (fun H locs hP hD hS => ?_)
  refine lv_if_le (tgt := 42) hx hb dX9_publish_35 (by decide) (fun _ => ?_) (fun h9 => absurd (by decide) h9)
  refine lv_iconst (v := 0) hx hb dX9_publish_42 (by decide) ?_
  exact ct_zret C (by first | rfl | decide) hS hP hD (⟨rfl, rfl⟩) (Nat.le_of_ble_eq_true rfl) (Nat.le_of_ble_eq_true rfl) dX9_publish_43
theorem ix_rem2 {x : Int32} {s sl : Nat} {y : Int32} (hx : x = nI s) (hy : y = nI sl) (h0 : 0 < sl) (h1 : sl ≤ 16) (hs : s < 2 ^ 31) : ix (x - x / y * y) 16 (s % sl) := by
  subst hx
  exact ix_rem hy h0 h1 hs
set_option maxRecDepth 100000 in
theorem k_pub_x {l : Launch} {s0 : State} {D : va_G} {cA : Nat → ClassId} {ad : Nat → Nat} (hG : cx_G l s0 D cA) {ev : Nat} (g : Int32) (sq v : Int64) (P : MS) (hg : (0 : Int32) ≤ g ∧ g ≤ 3) (h0 : ¬ sq < 0) (h1 : sq ≤ (qS P 3).toInt64) (hsq : sq.toInt32 = nI ev) (he8 : ev < 8208) (h2 : ¬ qI P 2 ev = 1 + g) : MC l s0 D cA ad yX9_publish cX9_publish 8 (some .boolean) rmX9_publish [.int g, .long sq, .long v] P (some (.int 0)) (sS (sS P 0 0) 0 1) := by
  refine Ct.of (cA := cA) hG (by decide +kernel) (Nat.le_of_ble_eq_true rfl) ?_
  intro p e s m below meth c A C hnm hP hD hS ls hl
  have hx := cx_x C
  have hb := cx_b C
  have hl : lv_has ls 8 [(0, .ref (ad 0)), (1, .int g), (2, .long sq), (4, .long v)] := hl
  refine lv_aload_n hx hb dX9_publish_0 rfl (lv_at hl 0 rfl) ?_
  refine lv_iconst (v := 0) hx hb dX9_publish_1 (by decide) ?_
  refine pm_0 (v := 0) C hP hD hS tm_666 dX9_publish_2 (fun H locs hP hD hS => ?_)
  refine lv_iload_n hx hb dX9_publish_5 rfl (lv_at hl 1 rfl) ?_
  refine lv_iconst (v := 0) hx hb dX9_publish_6 (by decide) ?_
  refine lv_iconst (v := 3) hx hb dX9_publish_7 (by decide) ?_
  refine ct_S0 (As := [.int g, .int 0, .int 3]) (rest := []) (r := some (.int 1)) C (k_within1 hG _ _ _ (hg)) tm_762 tm_763 tm_3 tm_764 hdX9_within.2 ⟨Nat.le_of_ble_eq_true rfl, Nat.le_of_ble_eq_true rfl⟩ hl.1 rfl (Nat.le_of_ble_eq_true rfl) dX9_publish_8 ⟨Nat.le_of_ble_eq_true rfl, Nat.le_of_ble_eq_true rfl⟩ hP hD hS (fun H locs hP hD hS => ?_)
  refine lv_if_eq (tgt := 30) hx hb dX9_publish_11 (by decide) (fun h9 => absurd h9 (by decide)) (fun _ => ?_)
  refine lv_lload_n hx hb dX9_publish_14 rfl (lv_at hl 2 rfl) ?_
  refine lv_lconst (v := 0) hx hb dX9_publish_15 (by decide) ?_
  refine W.lcmp hx hb dX9_publish_16 ?_
  refine lv_if_lt (tgt := 30) hx hb dX9_publish_17 (by decide) (fun h9 => absurd h9 (fun h => h0 ((lg_cmp_lt ..).mp h))) (fun _ => ?_)
  refine lv_lload_n hx hb dX9_publish_20 rfl (lv_at hl 2 rfl) ?_
  refine lv_aload_n hx hb dX9_publish_21 rfl (lv_at hl 0 rfl) ?_
  refine gm_3 (v := qS P 3) C hP rfl tm_669 dX9_publish_22 ?_
  refine lv_i2l (v := (qS P 3).toInt64) hx hb dX9_publish_25 rfl ?_
  refine W.lcmp hx hb dX9_publish_26 ?_
  refine lv_if_le (tgt := 44) hx hb dX9_publish_27 (by decide) (fun _ => ?_) (fun h9 => absurd ((lg_cmp_le ..).mpr h1) h9)
  refine lv_lload_n hx hb dX9_publish_44 rfl (lv_at hl 2 rfl) ?_
  refine lv_l2i (v := sq.toInt32) hx hb dX9_publish_45 rfl ?_
  refine lv_istore (lv' := [(6, .int sq.toInt32), (0, .ref (ad 0)), (1, .int g), (2, .long sq), (4, .long v)]) hx hb dX9_publish_46 hl (by decide) rfl (fun ls hl => ?_)
  refine lv_aload_n hx hb dX9_publish_48 rfl (lv_at hl 1 rfl) ?_
  refine gm_2 C hP tm_668 dX9_publish_49 ?_
  refine lv_iload hx hb dX9_publish_52 (lv_at hl 0 rfl) ?_
  refine xl_2 (v := qI P 2 ev) (j := ev) C hP (ix_eq hsq he8 (by decide)) (rfl) dX9_publish_54 ?_
  refine lv_iconst (v := 1) hx hb dX9_publish_55 (by decide) ?_
  refine lv_iload_n hx hb dX9_publish_56 rfl (lv_at hl 2 rfl) ?_
  refine lv_iadd hx hb dX9_publish_57 ?_
  refine lv_icmp_eq (tgt := 75) hx hb dX9_publish_58 (by decide) (fun h9 => absurd h9 (h2)) (fun _ => ?_)
  refine lv_aload_n hx hb dX9_publish_61 rfl (lv_at hl 1 rfl) ?_
  refine lv_iconst (v := 1) hx hb dX9_publish_62 (by decide) ?_
  refine mc_V (As := [.int 1]) (rest := []) (r := some (.int 0)) (T := sS (sS P 0 0) 0 1) C (k_fail hG _ _) tm_769 tm_771 tm_895 tm_3 tm_772 rfl hdX9_fail ⟨Nat.le_of_ble_eq_true rfl, Nat.le_of_ble_eq_true rfl⟩ hl.1 rfl (Nat.le_of_ble_eq_true rfl) dX9_publish_63 ⟨Nat.le_of_ble_eq_true rfl, Nat.le_of_ble_eq_true rfl⟩ hP hD hS (fun H locs hP hD hS => ?_)
  refine lv_if_le (tgt := 73) hx hb dX9_publish_66 (by decide) (fun _ => ?_) (fun h9 => absurd (by decide) h9)
  refine lv_iconst (v := 0) hx hb dX9_publish_73 (by decide) ?_
  exact ct_zret C (by first | rfl | decide) hS hP hD (⟨rfl, rfl⟩) (Nat.le_of_ble_eq_true rfl) (Nat.le_of_ble_eq_true rfl) dX9_publish_74
/-- publish's writes -/
def puS (P : MS) (ev j : Nat) (g : Int32) (v : Int64) : MS := sI (sI (sJ (sI (sS P 0 0) 2 ev (vp_nar .byte ((qI P 2 ev + 8).toInt8.toInt32))) 5 j v) 6 j g) 7 j (nI ev)
theorem af_le {q : Nat → Int32} : ∀ d a, af q d a ≤ a + d
  | 0, a => Nat.le_refl _
  | d + 1, a => by
    rw [af]
    split
    · have := af_le (q := q) d (a + 1); omega
    · omega
set_option maxRecDepth 100000 in
theorem k_pub_k {l : Launch} {s0 : State} {D : va_G} {cA : Nat → ClassId} {ad : Nat → Nat} (hG : cx_G l s0 D cA) {ev cu a sl : Nat} (g : Int32) (sq v : Int64) (P : MS) (hg : (0 : Int32) ≤ g ∧ g ≤ 3) (h0 : ¬ sq < 0) (h1 : sq ≤ (qS P 3).toInt64) (hsq : sq.toInt32 = nI ev) (he8 : ev < 8208) (h2 : qI P 2 ev = 1 + g) (hsl : qS P 1 = nI sl) (h0s : 0 < sl) (h16 : sl ≤ 16) (hcu : qS P 3 = nI cu - 1) (ha : qS P 4 = nI a - 1) (hac : a ≤ cu) (hc8 : cu ≤ 8208) : MC l s0 D cA ad yX9_publish cX9_publish 8 (some .boolean) rmX9_publish [.int g, .long sq, .long v] P (some (.int (if ev < af (qI (puS P ev (ev % sl) g v) 2) (cu - a) a then 1 else 0))) (sS (puS P ev (ev % sl) g v) 4 (nI (af (qI (puS P ev (ev % sl) g v) 2) (cu - a) a) - 1)) := by
  have haf := af_le (q := qI (puS P ev (ev % sl) g v) 2) (cu - a) a
  refine Ct.of (cA := cA) hG (by decide +kernel) (Nat.le_of_ble_eq_true rfl) ?_
  intro p e s m below meth c A C hnm hP hD hS ls hl
  have hx := cx_x C
  have hb := cx_b C
  have hl : lv_has ls 8 [(0, .ref (ad 0)), (1, .int g), (2, .long sq), (4, .long v)] := hl
  refine lv_aload_n hx hb dX9_publish_0 rfl (lv_at hl 0 rfl) ?_
  refine lv_iconst (v := 0) hx hb dX9_publish_1 (by decide) ?_
  refine pm_0 (v := 0) C hP hD hS tm_666 dX9_publish_2 (fun H locs hP hD hS => ?_)
  refine lv_iload_n hx hb dX9_publish_5 rfl (lv_at hl 1 rfl) ?_
  refine lv_iconst (v := 0) hx hb dX9_publish_6 (by decide) ?_
  refine lv_iconst (v := 3) hx hb dX9_publish_7 (by decide) ?_
  refine ct_S0 (As := [.int g, .int 0, .int 3]) (rest := []) (r := some (.int 1)) C (k_within1 hG _ _ _ (hg)) tm_762 tm_763 tm_3 tm_764 hdX9_within.2 ⟨Nat.le_of_ble_eq_true rfl, Nat.le_of_ble_eq_true rfl⟩ hl.1 rfl (Nat.le_of_ble_eq_true rfl) dX9_publish_8 ⟨Nat.le_of_ble_eq_true rfl, Nat.le_of_ble_eq_true rfl⟩ hP hD hS (fun H locs hP hD hS => ?_)
  refine lv_if_eq (tgt := 30) hx hb dX9_publish_11 (by decide) (fun h9 => absurd h9 (by decide)) (fun _ => ?_)
  refine lv_lload_n hx hb dX9_publish_14 rfl (lv_at hl 2 rfl) ?_
  refine lv_lconst (v := 0) hx hb dX9_publish_15 (by decide) ?_
  refine W.lcmp hx hb dX9_publish_16 ?_
  refine lv_if_lt (tgt := 30) hx hb dX9_publish_17 (by decide) (fun h9 => absurd h9 (fun h => h0 ((lg_cmp_lt ..).mp h))) (fun _ => ?_)
  refine lv_lload_n hx hb dX9_publish_20 rfl (lv_at hl 2 rfl) ?_
  refine lv_aload_n hx hb dX9_publish_21 rfl (lv_at hl 0 rfl) ?_
  refine gm_3 (v := qS P 3) C hP rfl tm_669 dX9_publish_22 ?_
  refine lv_i2l (v := (qS P 3).toInt64) hx hb dX9_publish_25 rfl ?_
  refine W.lcmp hx hb dX9_publish_26 ?_
  refine lv_if_le (tgt := 44) hx hb dX9_publish_27 (by decide) (fun _ => ?_) (fun h9 => absurd ((lg_cmp_le ..).mpr h1) h9)
  refine lv_lload_n hx hb dX9_publish_44 rfl (lv_at hl 2 rfl) ?_
  refine lv_l2i (v := sq.toInt32) hx hb dX9_publish_45 rfl ?_
  refine lv_istore (lv' := [(6, .int sq.toInt32), (0, .ref (ad 0)), (1, .int g), (2, .long sq), (4, .long v)]) hx hb dX9_publish_46 hl (by decide) rfl (fun ls hl => ?_)
  refine lv_aload_n hx hb dX9_publish_48 rfl (lv_at hl 1 rfl) ?_
  refine gm_2 C hP tm_668 dX9_publish_49 ?_
  refine lv_iload hx hb dX9_publish_52 (lv_at hl 0 rfl) ?_
  refine xl_2 (v := qI P 2 ev) (j := ev) C hP (ix_eq hsq he8 (by decide)) (rfl) dX9_publish_54 ?_
  refine lv_iconst (v := 1) hx hb dX9_publish_55 (by decide) ?_
  refine lv_iload_n hx hb dX9_publish_56 rfl (lv_at hl 2 rfl) ?_
  refine lv_iadd hx hb dX9_publish_57 ?_
  refine lv_icmp_eq (tgt := 75) hx hb dX9_publish_58 (by decide) (fun _ => ?_) (fun h9 => absurd (h2) h9)
  refine lv_aload_n hx hb dX9_publish_75 rfl (lv_at hl 1 rfl) ?_
  refine gm_2 C hP tm_668 dX9_publish_76 ?_
  refine lv_iload hx hb dX9_publish_79 (lv_at hl 0 rfl) ?_
  refine lv_dup2_11 hx hb dX9_publish_81 rfl rfl ?_
  refine xl_2 (v := qI P 2 ev) (j := ev) C hP (ix_eq hsq he8 (by decide)) (rfl) dX9_publish_82 ?_
  refine lv_bipush (v := 8) hx hb dX9_publish_83 (by decide) ?_
  refine lv_iadd hx hb dX9_publish_85 ?_
  refine lv_i2b (v := ((qI P 2 ev) + 8).toInt8.toInt32) hx hb dX9_publish_86 rfl ?_
  refine xs_2 (x := ((qI P 2 ev) + 8).toInt8.toInt32) (j := ev) C hP hD hS (ix_eq hsq he8 (by decide)) dX9_publish_87 (fun H locs hP hD hS => ?_)
  refine lv_iload hx hb dX9_publish_88 (lv_at hl 0 rfl) ?_
  refine lv_aload_n hx hb dX9_publish_90 rfl (lv_at hl 1 rfl) ?_
  refine gm_1 (v := qS P 1) C hP rfl tm_667 dX9_publish_91 ?_
  refine lv_irem hx hb dX9_publish_94 (ne_sl hsl h0s h16) ?_
  refine lv_istore (lv' := [(7, .int (sq.toInt32 - sq.toInt32 / (qS P 1) * (qS P 1))), (6, .int sq.toInt32), (0, .ref (ad 0)), (1, .int g), (2, .long sq), (4, .long v)]) hx hb dX9_publish_95 hl (by decide) rfl (fun ls hl => ?_)
  refine lv_aload_n hx hb dX9_publish_97 rfl (lv_at hl 2 rfl) ?_
  refine gm_5 C hP tm_671 dX9_publish_98 ?_
  refine lv_iload hx hb dX9_publish_101 (lv_at hl 0 rfl) ?_
  refine lv_lload hx hb dX9_publish_103 (lv_at hl 5 rfl) ?_
  refine xs_5 (x := v) (j := ev % sl) C hP hD hS (ix_rem2 hsq hsl h0s h16 (by omega)) dX9_publish_105 (fun H locs hP hD hS => ?_)
  refine lv_aload_n hx hb dX9_publish_106 rfl (lv_at hl 2 rfl) ?_
  refine gm_6 C hP tm_672 dX9_publish_107 ?_
  refine lv_iload hx hb dX9_publish_110 (lv_at hl 0 rfl) ?_
  refine lv_iload_n hx hb dX9_publish_112 rfl (lv_at hl 3 rfl) ?_
  refine xs_6 (x := g) (j := ev % sl) C hP hD hS (ix_rem2 hsq hsl h0s h16 (by omega)) dX9_publish_113 (fun H locs hP hD hS => ?_)
  refine lv_aload_n hx hb dX9_publish_114 rfl (lv_at hl 2 rfl) ?_
  refine gm_7 C hP tm_673 dX9_publish_115 ?_
  refine lv_iload hx hb dX9_publish_118 (lv_at hl 0 rfl) ?_
  refine lv_iload hx hb dX9_publish_120 (lv_at hl 1 rfl) ?_
  refine xs_7 (x := sq.toInt32) (j := ev % sl) C hP hD hS (ix_rem2 hsq hsl h0s h16 (by omega)) dX9_publish_122 (fun H locs hP hD hS => ?_)
  rw [hsq] at hP hD
  refine lp_pub (P := puS P ev (ev % sl) g v) (cu := cu) (d0 := cu - a) (a0 := a) C hcu hc8 (fun H locs ls hP hD hS hl => ?_) (cu - a) a (by omega) rfl _ (sS_self (P := puS P ev (ev % sl) g v) (k := 4) (x := nI a - 1) ha).symm _ _ ls hP hD hS (lv_sub hl [2, 1] rfl)
  refine lv_iload hx hb dX9_publish_163 (lv_at hl 1 rfl) ?_
  refine lv_aload_n hx hb dX9_publish_165 rfl (lv_at hl 0 rfl) ?_
  refine gm_4 (v := nI (af (qI (puS P ev (ev % sl) g v) 2) (cu - a) a) - 1) C hP rfl tm_670 dX9_publish_166 ?_
  refine lv_icmp_gt (tgt := 176) hx hb dX9_publish_169 (by decide) (fun cr => ?_) (fun cr => ?_)
  · refine lv_iconst (v := 0) hx hb dX9_publish_176 (by decide) ?_
    exact ct_zret C (by first | rfl | decide) hS hP hD (⟨by rw [if_neg (fun h => by rw [hsq] at cr; have := (nIm_lt (by omega) (by omega)).mp cr; omega)], rfl⟩) (Nat.le_of_ble_eq_true rfl) (Nat.le_of_ble_eq_true rfl) dX9_publish_177
  refine lv_iconst (v := 1) hx hb dX9_publish_172 (by decide) ?_
  refine lv_goto (tgt := 177) hx hb dX9_publish_173 (by decide) ?_
  exact ct_zret C (by first | rfl | decide) hS hP hD (⟨by rw [if_pos (Nat.lt_of_not_le fun h => cr (by rw [hsq]; exact (nIm_lt (by omega) (by omega)).mpr h))], rfl⟩) (Nat.le_of_ble_eq_true rfl) (Nat.le_of_ble_eq_true rfl) dX9_publish_177
