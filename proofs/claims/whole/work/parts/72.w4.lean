/-! ===== the law: its loop ===== -/
theorem gt_no {i L : Nat} (hi : i + 6 ≤ L) (hL : L ≤ 3073) : ¬ (nI L - 6 < nI i) := by
  rw [Int32.lt_iff_toInt_lt, show (6 : Int32) = nI 6 by decide, i32_sub (by rw [nI_toInt (by omega), nI_toInt (by omega)]; omega) (by rw [nI_toInt (by omega), nI_toInt (by omega)]; omega), nI_toInt (by omega), nI_toInt (by omega), nI_toInt (by omega)]
  omega
theorem gt_yes {i L : Nat} (hi : ¬ i + 6 ≤ L) (hL : L ≤ 3073) (h9 : i ≤ 4000) : nI L - 6 < nI i := by
  rw [Int32.lt_iff_toInt_lt, show (6 : Int32) = nI 6 by decide, i32_sub (by rw [nI_toInt (by omega), nI_toInt (by omega)]; omega) (by rw [nI_toInt (by omega), nI_toInt (by omega)]; omega), nI_toInt (by omega), nI_toInt (by omega), nI_toInt (by omega)]
  omega
section Law2
variable {p : Program} {l : Launch} {e : Env} {R : Room} {s : State} {m : MethodId} {args : Array Value} {below : List Frame} {meth : Method} {c : Code} {Q : State → Prop}
variable {s0 : State} {D : va_G} {cA : Nat → ClassId} {rt9 : Option FieldType} {A : Nat → Prop} {ad : Nat → Nat} {o oD x b L c1 s1 : Nat} {xs : Nat → Int32}
set_option maxRecDepth 100000 in
theorem lp_law (C : cx_C p l s m args meth c s0 D cA cL_law 9 rt9 RL A) (hG : cx_G l s0 D cA) (hX : va_X b L xs s s.heap) (hbl : b < s.heap.size) (hbA : ¬ A b) (hL : L ≤ 3073) (hf : 11 ≤ R.frames) (hlo : 340 ≤ R.locals) (hce : c1 + 4096 ≤ R.cells) (hsl : s1 + 262144 ≤ R.slots)
    (kk : ∀ (H : Heap) (locs : List Loc) (ls : Array Slot) (cn sn : Nat), cn ≤ c1 + 4096 → sn ≤ s1 + 262144 → va_S A s.heap H locs → W p l e R s m args below meth c H locs cn sn Q (F0 m 1146 ls [])) :
    ∀ (d K : Nat), K + d = 512 → ∀ (S : Mem) (P : MS) (f : Nat → Int64) (g : Nat → UInt64), Rep K S P x → ∀ (H : Heap) (locs : List Loc) (ls : Array Slot), va_P D vwCl (Lw cA ad o oD S P f g) H → va_D A (Lw cA ad o oD S P f g) → va_S A s.heap H locs → lv_has ls 9 [(5, .int (nI (6 * K + 1))), (0, .ref b), (1, .ref x), (2, .ref (ad 0)), (3, .ref o), (4, .ref oD)] → W p l e R s m args below meth c H locs (c1 + 8 * K) (s1 + 512 * K) Q (F0 m 38 ls []) := by
  have hx := cx_x C
  have hb := cx_b C
  intro d
  induction d with
  | zero =>
    intro K hKd S P f g h H locs ls hP hD hS hl
    have hi : ¬ 6 * K + 1 + 6 ≤ L := by omega
    refine lv_iload hx hb dL_law_38 (lv_at hl 0 rfl) ?_
    refine lv_aload_n hx hb dL_law_40 rfl (lv_at hl 1 rfl) ?_
    refine va_slen hx hb hX hbl hbA hS dL_law_41 ?_
    refine lv_bipush (v := 6) hx hb dL_law_42 (by decide) ?_
    refine lv_isub hx hb dL_law_44 ?_
    refine lv_icmp_gt (tgt := 1146) hx hb dL_law_45 (by decide) (fun _ => ?_) (fun h9 => absurd (gt_yes hi hL (by omega)) h9)
    exact kk H locs ls _ _ (by omega) (by omega) hS
  | succ d ih =>
    intro K hKd S P f g h H locs ls hP hD hS hl
    refine lv_iload hx hb dL_law_38 (lv_at hl 0 rfl) ?_
    refine lv_aload_n hx hb dL_law_40 rfl (lv_at hl 1 rfl) ?_
    refine va_slen hx hb hX hbl hbA hS dL_law_41 ?_
    refine lv_bipush (v := 6) hx hb dL_law_42 (by decide) ?_
    refine lv_isub hx hb dL_law_44 ?_
    by_cases hi : 6 * K + 1 + 6 ≤ L
    rotate_left
    · refine lv_icmp_gt (tgt := 1146) hx hb dL_law_45 (by decide) (fun _ => ?_) (fun h9 => absurd (gt_yes hi hL (by omega)) h9)
      exact kk H locs ls _ _ (by omega) (by omega) hS
    have key : ∀ (S1 : Mem) (P1 : MS) (f1 : Nat → Int64) (g1 : Nat → UInt64) (H : Heap) (locs : List Loc) (ls : Array Slot), Rep (K + 1) S1 P1 x → va_P D vwCl (Lw cA ad o oD S1 P1 f1 g1) H → va_D A (Lw cA ad o oD S1 P1 f1 g1) → va_S A s.heap H locs → lv_has ls 9 [(5, .int (nI (6 * K + 1))), (0, .ref b), (1, .ref x), (2, .ref (ad 0)), (3, .ref o), (4, .ref oD)] → W p l e R s m args below meth c H locs (c1 + 8 * K + 8) (s1 + 512 * K + 512) Q (F0 m 1140 ls []) := by
      intro S1 P1 f1 g1 H locs ls hR hP hD hS hl
      refine lv_iinc (v := nI (6 * K + 1) + 6) (lv' := [(5, .int (nI (6 * K + 1) + 6)), (0, .ref b), (1, .ref x), (2, .ref (ad 0)), (3, .ref o), (4, .ref oD)]) hx hb dL_law_1140 hl (k := 0) rfl (by first | rfl | decide) (by decide) rfl (fun ls hl => ?_)
      refine lv_goto (tgt := 38) hx hb dL_law_1143 (by decide) ?_
      rw [show nI (6 * K + 1) + 6 = nI (6 * (K + 1) + 1) from (nI_add (6 * K + 1) 6).trans (congrArg nI (by omega))] at hl
      have w9 := ih (K + 1) (by omega) S1 P1 f1 g1 hR H locs ls hP hD hS hl
      rw [show c1 + 8 * (K + 1) = c1 + 8 * K + 8 by omega, show s1 + 512 * (K + 1) = s1 + 512 * K + 512 by omega] at w9
      exact w9
    refine lv_icmp_gt (tgt := 1146) hx hb dL_law_45 (by decide) (fun h9 => absurd h9 (gt_no hi hL)) (fun _ => ?_)
    refine lv_aload_n hx hb dL_law_48 rfl (lv_at hl 1 rfl) ?_
    refine lv_iload hx hb dL_law_49 (lv_at hl 0 rfl) ?_
    refine sld_0 (i := 6 * K + 1) (L := L) (xs := xs) C hX hbl hbA hS (by omega) hL dL_law_51 ?_
    refine lv_bipush (v := 15) hx hb dL_law_52 (by decide) ?_
    refine lv_iand hx hb dL_law_54 ?_
    obtain ⟨j, hj, ej⟩ := pk_andE (xs (6 * K + 1)) (m := 15) 4 (by decide)
    rw [ej]
    have hjs : j = 0 ∨ j = 1 ∨ j = 2 ∨ j = 3 ∨ j = 4 ∨ j = 5 ∨ j = 6 ∨ j = 7 ∨ j = 8 ∨ j = 9 ∨ j = 10 ∨ j = 11 ∨ j = 12 ∨ j = 13 ∨ j = 14 ∨ j = 15 := by omega
    rcases hjs with rfl | rfl | rfl | rfl | rfl | rfl | rfl | rfl | rfl | rfl | rfl | rfl | rfl | rfl | rfl | rfl
    · refine lv_tableIn (tgt := 124) hx hb dL_law_55 (by decide +kernel) (by decide +kernel) (off := 69) (by decide +kernel) (by decide) ?_
      exact lw_consumer C hG hX hbl hbA hL h (by omega) hi hf hlo (by omega) (by omega) key H locs ls hP hD hS hl
    · refine lv_tableIn (tgt := 216) hx hb dL_law_55 (by decide +kernel) (by decide +kernel) (off := 161) (by decide +kernel) (by decide) ?_
      exact lw_claim C hG hX hbl hbA hL h (by omega) hi hf hlo (by omega) (by omega) key H locs ls hP hD hS hl
    · refine lv_tableIn (tgt := 283) hx hb dL_law_55 (by decide +kernel) (by decide +kernel) (off := 228) (by decide +kernel) (by decide) ?_
      exact lw_publish C hG hX hbl hbA hL h (by omega) hi hf hlo (by omega) (by omega) key H locs ls hP hD hS hl
    · refine lv_tableIn (tgt := 434) hx hb dL_law_55 (by decide +kernel) (by decide +kernel) (off := 379) (by decide +kernel) (by decide) ?_
      exact lw_run C hG hX hbl hbA hL h (by omega) hi hf hlo (by omega) (by omega) key H locs ls hP hD hS hl
    · refine lv_tableIn (tgt := 502) hx hb dL_law_55 (by decide +kernel) (by decide +kernel) (off := 447) (by decide +kernel) (by decide) ?_
      exact lw_place C hG hX hbl hbA hL h (by omega) hi hf hlo (by omega) (by omega) key H locs ls hP hD hS hl
    · refine lv_tableIn (tgt := 557) hx hb dL_law_55 (by decide +kernel) (by decide +kernel) (off := 502) (by decide +kernel) (by decide) ?_
      exact lw_total C hG hX hbl hbA hL h (by omega) hi hf hlo (by omega) (by omega) key H locs ls hP hD hS hl
    · refine lv_tableIn (tgt := 612) hx hb dL_law_55 (by decide +kernel) (by decide +kernel) (off := 557) (by decide +kernel) (by decide) ?_
      exact lw_level C hG hX hbl hbA hL h (by omega) hi hf hlo (by omega) (by omega) key H locs ls hP hD hS hl
    · refine lv_tableIn (tgt := 690) hx hb dL_law_55 (by decide +kernel) (by decide +kernel) (off := 635) (by decide +kernel) (by decide) ?_
      exact lw_mean C hG hX hbl hbA hL h (by omega) hi hf hlo (by omega) (by omega) key H locs ls hP hD hS hl
    · refine lv_tableIn (tgt := 767) hx hb dL_law_55 (by decide +kernel) (by decide +kernel) (off := 712) (by decide +kernel) (by decide) ?_
      exact lw_octet C hG hX hbl hbA hL h (by omega) hi hf hlo (by omega) (by omega) key H locs ls hP hD hS hl
    · refine lv_tableIn (tgt := 835) hx hb dL_law_55 (by decide +kernel) (by decide +kernel) (off := 780) (by decide +kernel) (by decide) ?_
      exact lw_tear C hG hX hbl hbA hL h (by omega) hi hf hlo (by omega) (by omega) key H locs ls hP hD hS hl
    · refine lv_tableIn (tgt := 903) hx hb dL_law_55 (by decide +kernel) (by decide +kernel) (off := 848) (by decide +kernel) (by decide) ?_
      exact lw_replay C hG hX hbl hbA hL h (by omega) hi hf hlo (by omega) (by omega) key H locs ls hP hD hS hl
    · refine lv_tableIn (tgt := 959) hx hb dL_law_55 (by decide +kernel) (by decide +kernel) (off := 904) (by decide +kernel) (by decide) ?_
      exact lw_replayed C hG hX hbl hbA hL h (by omega) hi hf hlo (by omega) (by omega) key H locs ls hP hD hS hl
    · refine lv_tableIn (tgt := 973) hx hb dL_law_55 (by decide +kernel) (by decide +kernel) (off := 918) (by decide +kernel) (by decide) ?_
      exact lw_count C hG hX hbl hbA hL h (by omega) hi hf hlo (by omega) (by omega) key H locs ls hP hD hS hl
    · refine lv_tableIn (tgt := 1041) hx hb dL_law_55 (by decide +kernel) (by decide +kernel) (off := 986) (by decide +kernel) (by decide) ?_
      exact lw_state C hG hX hbl hbA hL h (by omega) hi hf hlo (by omega) (by omega) key H locs ls hP hD hS hl
    · refine lv_tableOut (tgt := 1140) hx hb dL_law_55 (Or.inr (by decide +kernel)) (by decide) ?_
      refine W.widen (k := c1 + 8 * K + 8) (n := s1 + 512 * K + 512) (by omega) (by omega) ?_
      exact key S P f g H locs ls (Rep_mo h) hP hD hS hl
    · refine lv_tableOut (tgt := 1140) hx hb dL_law_55 (Or.inr (by decide +kernel)) (by decide) ?_
      refine W.widen (k := c1 + 8 * K + 8) (n := s1 + 512 * K + 512) (by omega) (by omega) ?_
      exact key S P f g H locs ls (Rep_mo h) hP hD hS hl
end Law2
